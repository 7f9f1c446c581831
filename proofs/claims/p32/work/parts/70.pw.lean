/-! worlds that grow: the cells that are made so far, from bs on -/
def WE (γ : Gm) (E : Nat → va_E) (m : Nat) : va_W := (List.range m).map (fun c => (bs γ + c, E c))
def Wp (γ : Gm) (E : Nat → va_E) (m : Nat) (H : Heap) : Prop := va_P γ.2.2.2.1 classes (WE γ E m) H ∧ H.size = bs γ + m
def upE (E : Nat → va_E) (c : Nat) (e : va_E) : Nat → va_E := fun q => if q = c then e else E q
theorem upE_at (E : Nat → va_E) (c : Nat) (e : va_E) : upE E c e c = e := if_pos rfl
theorem upE_ne (E : Nat → va_E) {c q : Nat} (e : va_E) (h : q ≠ c) : upE E c e q = E q := if_neg h
theorem WE_get (γ : Gm) (E : Nat → va_E) {c m : Nat} (h : c < m) : (WE γ E m)[c]? = some (bs γ + c, E c) := by
  unfold WE
  rw [List.getElem?_map, List.getElem?_range h]
  rfl
theorem WE_set (γ : Gm) (E : Nat → va_E) {c m : Nat} (e : va_E) (h : c < m) : (WE γ E m).set c (bs γ + c, e) = WE γ (upE E c e) m := by
  apply List.ext_getElem?
  intro i
  unfold WE
  by_cases hi : i < m
  · by_cases hc : c = i
    · subst hc
      rw [List.getElem?_set_self (by simpa using hi), List.getElem?_map, List.getElem?_range hi]
      simp [upE_at]
    · rw [List.getElem?_set_ne hc, List.getElem?_map, List.getElem?_map, List.getElem?_range hi]
      simp [upE_ne E e (Ne.symm hc)]
  · rw [List.getElem?_eq_none (by simp; omega), List.getElem?_eq_none (by simp; omega)]
theorem WE_D (γ : Gm) (E : Nat → va_E) (m : Nat) : va_D (Aw γ) (WE γ E m) := by
  have key : ∀ (i : Nat) (p : Nat × va_E), (WE γ E m)[i]? = some p → p.1 = bs γ + i := by
    intro i p h
    have hi : i < m := by
      have := (List.getElem?_eq_some_iff.mp h).1
      simpa [WE] using this
    rw [WE_get γ E hi] at h
    cases h
    rfl
  refine ⟨fun i j p q hi hj h => ?_, fun k q h => ?_⟩
  · have h1 := key i p hi
    have h2 := key j q hj
    omega
  · have h1 := key k q h
    show bs γ ≤ q.1
    omega
theorem Wp.push {γ : Gm} {E : Nat → va_E} {m : Nat} {H H1 : Heap} {e : va_E} (h : Wp γ E m H) (he : va_at γ.2.2.2.1 classes (bs γ + m, e) H1) (z : H1.size = H.size + 1) (o : ∀ q : Nat, q < H.size → H1[q]? = H[q]?) : Wp γ (upE E m e) (m + 1) H1 := by
  refine ⟨fun k q hk => ?_, by rw [z, h.2]; rfl⟩
  have hk1 : k < m + 1 := by
    have := (List.getElem?_eq_some_iff.mp hk).1
    simpa [WE] using this
  rw [WE_get γ _ hk1] at hk
  cases hk
  by_cases e0 : k = m
  · subst e0
    rw [upE_at]
    exact he
  · rw [upE_ne _ _ e0]
    have h9 := h.1 k _ (WE_get γ E (show k < m by omega))
    exact h9.kept (o _ h9.lt)
theorem Wp.set {γ : Gm} {E : Nat → va_E} {m c : Nat} {H H1 : Heap} {e : va_E} (h : Wp γ E m H) (hc : c < m) (he : va_at γ.2.2.2.1 classes (bs γ + c, e) H1) (z : H1.size = H.size) (o : ∀ q : Nat, q ≠ bs γ + c → H1[q]? = H[q]?) : Wp γ (upE E c e) m H1 := by
  have h9 := h.1.set (WE_D γ E m) (WE_get γ E hc) he o
  rw [WE_set γ E e hc] at h9
  exact ⟨h9, z.trans h.2⟩
def Vp (γ : Gm) (φ : Fx) (nL a b : Nat) (Q : State → Prop) (E : Nat → va_E) (m pc : Nat) (lv : List (Nat × Value)) (st : List Value) : Prop :=
  ∀ (H : Heap) (locs : List Loc) (ls : Array Slot), Wp γ E m H → va_S (Aw γ) φ.2.2.2.1.heap H locs → lv_has ls nL lv →
    W φ.1 γ.1 φ.2.1 φ.2.2.1 φ.2.2.2.1 φ.2.2.2.2.1 φ.2.2.2.2.2.1 φ.2.2.2.2.2.2.1 φ.2.2.2.2.2.2.2.1 φ.2.2.2.2.2.2.2.2 H locs a b Q (F0 φ.2.2.2.2.1 pc ls st)
def Qpc (γ : Gm) (m : Nat) (post : (Nat → va_E) → Prop) : Array Value → State → Outcome → State → Prop := fun _ st oc t => oc = .returned none ∧ ∃ E' : Nat → va_E, post E' ∧ Wp γ E' m t.heap ∧ va_F (Aw γ) st t
def Ppc (γ : Gm) (as : List Value) (E : Nat → va_E) (m : Nat) : Array Value → State → Prop := va_Pc as (fun U => Gs γ U ∧ Wp γ E m U.heap)
/-- a constructor's contract: it makes mc cells behind the m that stand -/
def Cn (γ : Gm) (y : MethodName) (cc : ByteArray) (maxL lev mc ms : Nat) (as : List Value) (E : Nat → va_E) (m : Nat) (post : (Nat → va_E) → Prop) : Prop :=
  Met γ.1 y [.code y cc maxL none] (rmL lev mc ms) (Ppc γ as E m) (Qpc γ (m + mc) post) mc ms (Aw γ)
def QP (γ : Gm) (φ : Fx) (m mc ms : Nat) (post : (Nat → va_E) → Prop) : State → Prop := MQ φ.2.2.2.2.2.2.1 (Qpc γ m post) φ.2.2.2.2.2.1 φ.2.2.2.1 mc ms (Aw γ)
theorem Ppc.blind (γ : Gm) (as : List Value) (E : Nat → va_E) (m : Nat) : FrameBlind (Ppc γ as E m) := fun _ _ _ _ q => q
theorem Cn.of {γ : Gm} (G : Glo γ) {y : MethodName} {cc : ByteArray} {maxL lev mc ms m : Nat} {as : List Value} {E : Nat → va_E} {post : (Nat → va_E) → Prop} (hy : plainName y.cls = true) (hL : (lg_sl as).length ≤ maxL)
    (body : ∀ φ : Fx, Cx γ φ y.cls cc maxL lev → (mc ≤ φ.2.2.1.cells ∧ ms ≤ φ.2.2.1.slots) → φ.2.2.2.2.2.2.2.1.name = y.name → φ.2.2.2.2.2.2.2.1.sig.returnType = none → Vp γ φ maxL 0 0 (QP γ φ (m + mc) mc ms post) E m 0 (lv_args 0 as) []) : Cn γ y cc maxL lev mc ms as E m post := by
  refine Met.ofW (cc := cc) (maxL := maxL) (ret := none) hy rfl ?_
  intro p e s mi args below meth c s₁ B hml hv
  obtain ⟨rfl, hG, hWd⟩ := hv
  have hown : s.vm.findClass y.cls = some mi.cls := findClass_of_methodNamed B.named
  have h := body (p, e, rmL lev mc ms, s, mi, as.toArray, below, meth, c) ⟨G, B.exec, B.bytes, hml, hown, hG, B.notSynchronized, Nat.le_refl _, Nat.le_refl _⟩ ⟨Nat.le_refl _, Nat.le_refl _⟩ (name_of_methodNamed B.named B.method).1 B.returns s.heap [] _ hWd va_S.rf (lv_entry as hL)
  rw [lg_entry_eq]
  exact h
section VPR
variable {γ : Gm} {φ : Fx} {own : String} {cc : ByteArray} {nL lev a b m : Nat} {Q : State → Prop} {E : Nat → va_E} {pc : Nat} {lv lv2 : List (Nat × Value)} {st st0 : List Value}
theorem p_iconst (C : Cx γ φ own cc nL lev) {n : Int} (d : decode cc pc = .ok (.iconst n, 1)) (k : Vp γ φ nL a b Q E m (pc + 1) lv (.int (iI n) :: st)) : Vp γ φ nL a b Q E m pc lv st := fun H locs ls hW hS hl => lv_iconst C.2.1 C.2.2.1 d rfl (k H locs ls hW hS hl)
theorem p_bipush (C : Cx γ φ own cc nL lev) {n : Int} (hv : (Int8.ofInt n).toInt32 = iI n) (d : decode cc pc = .ok (.bipush n, 2)) (k : Vp γ φ nL a b Q E m (pc + 2) lv (.int (iI n) :: st)) : Vp γ φ nL a b Q E m pc lv st := fun H locs ls hW hS hl => lv_bipush C.2.1 C.2.2.1 d hv (k H locs ls hW hS hl)
theorem p_sipush (C : Cx γ φ own cc nL lev) {n : Int} (hv : (Int16.ofInt n).toInt32 = iI n) (d : decode cc pc = .ok (.sipush n, 3)) (k : Vp γ φ nL a b Q E m (pc + 3) lv (.int (iI n) :: st)) : Vp γ φ nL a b Q E m pc lv st := fun H locs ls hW hS hl => lv_sipush C.2.1 C.2.2.1 d hv (k H locs ls hW hS hl)
theorem p_aload_n (C : Cx γ φ own cc nL lev) {k3 : Fin 4} {x : Nat} (k0 : Nat) (hk : lv[k0]? = some ((k3 : Nat), .ref x)) (d : decode cc pc = .ok (.aload_n k3, 1)) (k : Vp γ φ nL a b Q E m (pc + 1) lv (.ref x :: st)) : Vp γ φ nL a b Q E m pc lv st := fun H locs ls hW hS hl => lv_aload_n C.2.1 C.2.2.1 d rfl (lv_at hl k0 hk) (k H locs ls hW hS hl)
theorem p_iload_n (C : Cx γ φ own cc nL lev) {k3 : Fin 4} {x : Int} (k0 : Nat) (hk : lv[k0]? = some ((k3 : Nat), .int (iI x))) (d : decode cc pc = .ok (.iload_n k3, 1)) (k : Vp γ φ nL a b Q E m (pc + 1) lv (.int (iI x) :: st)) : Vp γ φ nL a b Q E m pc lv st := fun H locs ls hW hS hl => lv_iload_n C.2.1 C.2.2.1 d rfl (lv_at hl k0 hk) (k H locs ls hW hS hl)
theorem p_istore_n (C : Cx γ φ own cc nL lev) {k3 : Fin 4} {i : Nat} {x : Int} (lv2 : List (Nat × Value)) (d : decode cc pc = .ok (.istore_n k3, 1)) (hi : (k3 : Nat) = i) (hn : i < nL) (hl2 : (i, Value.int (iI x)) :: lv.filter (fun q => !(q.1 == i) && !(q.1 + 1 == i && q.2.category == 2)) = lv2) (k : Vp γ φ nL a b Q E m (pc + 1) lv2 st) : Vp γ φ nL a b Q E m pc lv (.int (iI x) :: st) := fun H locs ls hW hS hl => lv_istore_n C.2.1 C.2.2.1 d hi hl hn hl2 (fun ls2 h2 => k H locs ls2 hW hS h2)
theorem p_astore_n (C : Cx γ φ own cc nL lev) {k3 : Fin 4} {i : Nat} {x : Nat} (lv2 : List (Nat × Value)) (d : decode cc pc = .ok (.astore_n k3, 1)) (hi : (k3 : Nat) = i) (hn : i < nL) (hl2 : (i, Value.ref x) :: lv.filter (fun q => !(q.1 == i) && !(q.1 + 1 == i && q.2.category == 2)) = lv2) (k : Vp γ φ nL a b Q E m (pc + 1) lv2 st) : Vp γ φ nL a b Q E m pc lv (.ref x :: st) := fun H locs ls hW hS hl => lv_astore_n C.2.1 C.2.2.1 d hi hl hn hl2 (fun ls2 h2 => k H locs ls2 hW hS h2)
theorem p_iinc (C : Cx γ φ own cc nL lev) {i : Nat} {n x : Int} (k0 : Nat) (lv2 : List (Nat × Value)) (d : decode cc pc = .ok (.iinc i n, 3)) (hk : lv[k0]? = some (i, .int (iI x))) (hn : i < nL) (hl2 : (i, Value.int (iI (x + n))) :: lv.filter (fun q => !(q.1 == i) && !(q.1 + 1 == i && q.2.category == 2)) = lv2) (k : Vp γ φ nL a b Q E m (pc + 3) lv2 st) : Vp γ φ nL a b Q E m pc lv st := fun H locs ls hW hS hl => lv_iinc C.2.1 C.2.2.1 d hl hk (iI_add x n) hn hl2 (fun ls2 h2 => k H locs ls2 hW hS h2)
theorem p_dup (C : Cx γ φ own cc nL lev) {va : Value} (hva : va.category = 1) (d : decode cc pc = .ok (.dup, 1)) (k : Vp γ φ nL a b Q E m (pc + 1) lv (va :: va :: st)) : Vp γ φ nL a b Q E m pc lv (va :: st) := fun H locs ls hW hS hl => lv_dup C.2.1 C.2.2.1 d hva (k H locs ls hW hS hl)
theorem p_goto (C : Cx γ φ own cc nL lev) {off : Int} (tgt : Nat) (d : decode cc pc = .ok (.goto off, 3)) (ht : (pc : Int) + off = (tgt : Int)) (k : Vp γ φ nL a b Q E m tgt lv st) : Vp γ φ nL a b Q E m pc lv st := fun H locs ls hW hS hl => lv_goto C.2.1 C.2.2.1 d ht (k H locs ls hW hS hl)
theorem p_icmp_ge (C : Cx γ φ own cc nL lev) {x y : Int} {off : Int} (tgt : Nat) (hx : -2147483648 ≤ x ∧ x < 2147483648) (hy : -2147483648 ≤ y ∧ y < 2147483648) (d : decode cc pc = .ok (.if_icmp .ge off, 3)) (ht : (pc : Int) + off = (tgt : Int)) (kt : y ≤ x → Vp γ φ nL a b Q E m tgt lv st) (kf : ¬ y ≤ x → Vp γ φ nL a b Q E m (pc + 3) lv st) : Vp γ φ nL a b Q E m pc lv (.int (iI y) :: .int (iI x) :: st) := fun H locs ls hW hS hl => lv_icmp_ge C.2.1 C.2.2.1 d ht (fun h => kt (by rw [iI_le hy hx] at h; exact h) H locs ls hW hS hl) (fun h => kf (by rw [iI_le hy hx] at h; exact h) H locs ls hW hS hl)
theorem p_lv (lv2 : List (Nat × Value)) (ks : List Nat) (hk : lv_pick lv ks = lv2) (k : Vp γ φ nL a b Q E m pc lv2 st) : Vp γ φ nL a b Q E m pc lv st := fun H locs ls hW hS hl => k H locs ls hW hS (lv_sub hl ks hk)
theorem p_wide {a' b' : Nat} (h1 : a ≤ a') (h2 : b ≤ b') (k : Vp γ φ nL a' b' Q E m pc lv st) : Vp γ φ nL a b Q E m pc lv st := fun H locs ls hW hS hl => W.widen h1 h2 (k H locs ls hW hS hl)
theorem p_m {m' : Nat} (e : m = m') (k : Vp γ φ nL a b Q E m' pc lv st) : Vp γ φ nL a b Q E m pc lv st := e ▸ k
theorem p_vret {mc ms : Nat} {post : (Nat → va_E) → Prop} (C : Cx γ φ own cc nL lev) (hab : a ≤ mc ∧ b ≤ ms) (hr : φ.2.2.2.2.2.2.2.1.sig.returnType = none) (d : decode cc pc = .ok (.return_, 1)) (hp : post E) : Vp γ φ nL a b (QP γ φ m mc ms post) E m pc lv [] := fun H locs ls hW hS hl => W.widen (k := mc) (n := ms) hab.1 hab.2 (W.vret C.2.1 C.2.2.1 hr (fun t ht hWt => ⟨rfl, E, hp, by rw [ht]; exact hW, hS.F ht⟩) hS.2.2 d C.2.2.2.2.2.2.1)
theorem p_obj (C : Cx γ φ own cc nL lev) {ix x : Nat} (h1 : Wrd γ (.methodLink own ix Lib.objectInit)) (h2 : Wrd γ (.instanceMethod Lib.objectInit)) (h3 : Wrd γ (.code Lib.objectInit ⟨#[0xb1]⟩ 1 none)) (d : decode cc pc = .ok (.invokespecial ix, 3)) (hw : (st.map fun v => v.category).sum ≤ 40) (k : Vp γ φ nL a b Q E m (pc + 3) lv st) : Vp γ φ nL a b Q E m pc lv (.ref x :: st) := fun H locs ls hW hS hl => by
  have W0 := C.2.2.2.2.2.1.1
  have hf := C.2.2.2.2.2.2.2.1
  have hlo := C.2.2.2.2.2.2.2.2
  exact W.objInit C.2.1 C.2.2.1 C.2.2.2.2.1 (h1 _ _ W0) (h2 _ _ W0) (h3 _ _ W0) rfl (hl.1.trans C.2.2.2.1.symm) rfl d (by omega) (by show 2 * 0 + _ + 12 ≤ _; omega) (k H locs ls hW hS hl)
theorem p_new (C : Cx γ φ own cc nL lev) {R0 : String} {T : u_T} {N ci ix : Nat} (hin : ∀ w ∈ u_ws R0 T N, w ∈ lw_tbl) (hg : ∀ w ∈ u_ws R0 T N, goodWord w = true) (ty0 : Nat → FieldType) (hty : ∀ k, k < N → parseFieldDescriptor (T k).2.2.1 = some (ty0 k)) (hcl : classes[ci]? = some (R0, T, N)) (h1 : Wrd γ (.classLink own ix R0)) (h2 : Wrd γ (.instantiable R0 N)) (h3 : Wrd γ (.initialized R0)) {fs : List Value} (hfs : ∀ j, j < N → defaultValue (ty0 j) = vp_V fs j) (hab : a + 1 ≤ φ.2.2.1.cells ∧ b + N ≤ φ.2.2.1.slots) (d : decode cc pc = .ok (.new ix, 3))
    (k : ∀ E1 : Nat → va_E, E1 m = .inr (ci, fs) → (∀ q, q ≠ m → E1 q = E q) → Vp γ φ nL (a + 1) (b + N) Q E1 (m + 1) (pc + 3) lv (.ref (bs γ + m) :: st)) : Vp γ φ nL a b Q E m pc lv st := fun H locs ls hW hS hl => by
  have W0 := C.2.2.2.2.2.1.1
  have hKn := C.K.1 ci _ hcl
  have hts : ∀ w ∈ u_ws R0 T N, w.before φ.2.2.2.2.2.1 φ.2.2.2.1 = true := fun w h => word_at W0 (good_of_word (hg w h)) (C.1.2.1 w (hin w h))
  refine W.newcK C.2.1 C.2.2.1 C.2.2.2.2.1 (h1 _ _ W0) (h2 _ _ W0) (h3 _ _ W0) rfl d hab.1 hab.2 hKn.2.1 hW.2 fun H1 kC hkC e1 z1 o1 => ?_
  refine k (upE E m (.inr (ci, fs))) (upE_at _ _ _) (fun q hq => upE_ne _ _ hq) H1 locs ls (hW.push ⟨_, hcl, (u_born ty0 hts (fun _ h => h) hKn hkC e1 hty).to hfs⟩ (by rw [z1, hW.2]) (fun q hq => o1 q (by rw [← hW.2]; exact hq))) ?_ hl
  exact ⟨Nat.le_trans hS.1 (by rw [z1, hW.2]; omega), fun x g1 g2 => (o1 x (by rw [← hW.2]; exact Nat.lt_of_lt_of_le g1 hS.1)).trans (hS.2.1 x g1 g2), hS.2.2⟩
theorem p_newa (C : Cx γ φ own cc nL lev) {atype : ArrayType} {ty : FieldType} (hty : newarray.typeOf atype = ty) (harr : Wrd γ (.arrayClass ty)) (t0 : Nat) (ht : (tys γ)[t0]? = some (γ.2.2.2.2.1 t0, ty)) (hra : ∀ U cA, va_RA U cA ty → U.vm.findClass ("[" ++ ty.toString) = some cA) {n : Int} {N : Nat} {a0 : vp_A} (ha : ∀ cA : ClassId, vp_cell cA a0 = arrV cA N (fun _ => defaultValue ty)) (hn : 0 ≤ n ∧ n < 2147483648 ∧ n.toNat = N) (hbytes : N * componentBytes ty ≤ 536870912) (hab : a + 1 ≤ φ.2.2.1.cells ∧ b + N ≤ φ.2.2.1.slots) (d : decode cc pc = .ok (.newarray atype, 2))
    (k : ∀ E1 : Nat → va_E, E1 m = .inl (γ.2.2.2.2.1 t0, a0) → (∀ q, q ≠ m → E1 q = E q) → Vp γ φ nL (a + 1) (b + N) Q E1 (m + 1) (pc + 2) lv (.ref (bs γ + m) :: st)) : Vp γ φ nL a b Q E m pc lv (.int (iI n) :: st) := fun H locs ls hW hS hl => by
  subst hty
  have W0 := C.2.2.2.2.2.1.1
  refine va_newaK C.2.1 C.2.2.1 (harr _ _ W0) rfl d rfl (by rw [iI_0, iI_lt (by omega) (by omega)]; omega) (by rw [iI_cl (by omega)]; exact hn.2.2) hbytes hab.1 hab.2 hW.2 fun H1 cA e1 z1 o1 hAr hNm => ?_
  have hcA : cA = γ.2.2.2.2.1 t0 := by
    have g := hra _ _ (C.K.2 t0 _ ht).2
    exact Option.some.inj (hNm.symm.trans g)
  subst hcA
  refine k (upE E m (.inl (γ.2.2.2.2.1 t0, a0))) (upE_at _ _ _) (fun q hq => upE_ne _ _ hq) H1 locs ls (hW.push ?_ (by rw [z1, hW.2]) (fun q hq => o1 q (by rw [← hW.2]; exact hq))) ?_ hl
  · show H1[bs γ + m]? = some (vp_cell _ _)
    rw [ha]
    exact e1
  · exact ⟨Nat.le_trans hS.1 (by rw [z1, hW.2]; omega), fun x g1 g2 => (o1 x (by rw [← hW.2]; exact Nat.lt_of_lt_of_le g1 hS.1)).trans (hS.2.1 x g1 g2), hS.2.2⟩
theorem p_anew (C : Cx γ φ own cc nL lev) {ix : Nat} (h1 : Wrd γ (.classLink own ix RX2)) (h2 : Wrd γ (.arrayOver (.object RX2))) {n : Int} {N : Nat} (hn : 0 ≤ n ∧ n < 4000 ∧ n.toNat = N) (hab : a + 1 ≤ φ.2.2.1.cells ∧ b + N ≤ φ.2.2.1.slots) (d : decode cc pc = .ok (.anewarray ix, 3))
    (k : ∀ E1 : Nat → va_E, E1 m = .inl (γ.2.2.2.2.1 4, N, .inr (.inr (.inr (.inr (fun _ => none))))) → (∀ q, q ≠ m → E1 q = E q) → Vp γ φ nL (a + 1) (b + N) Q E1 (m + 1) (pc + 3) lv (.ref (bs γ + m) :: st)) : Vp γ φ nL a b Q E m pc lv (.int (iI n) :: st) := fun H locs ls hW hS hl => by
  have W0 := C.2.2.2.2.2.1.1
  have hcl9 : (iI n).toNatClampNeg = N := by rw [iI_cl (by omega)]; exact hn.2.2
  subst hcl9
  have hN9 : (iI n).toNatClampNeg = n.toNat := iI_cl (by omega)
  refine W.anew C.2.1 C.2.2.1 C.2.2.2.2.1 (h1 _ _ W0) (h2 _ _ W0) rfl d rfl (by rw [iI_0, iI_lt (by omega) (by omega)]; omega) (by omega) hab.1 hab.2 fun cA kA comp f1 f2 f3 f4 => ?_
  have hcA : cA = γ.2.2.2.2.1 4 := by
    obtain ⟨kA9, comp9, g1, g2, g3, g4⟩ := (C.K.2 4 (γ.2.2.2.2.1 4, .object RX2) rfl).2
    exact Option.some.inj (f1.symm.trans g4)
  subst hcA
  generalize hH1 : H.push ({ cls := γ.2.2.2.2.1 4, slots := Array.replicate (iI n).toNatClampNeg .null, vm := .none } : Cell) = H1
  have z1 : H1.size = H.size + 1 := by rw [← hH1, Array.size_push]
  have e1 : H1[H.size]? = some (arrV (γ.2.2.2.2.1 4) (iI n).toNatClampNeg (fun _ => .null)) := by rw [← hH1, Array.getElem?_push_size, ← arrV_new]
  have o1 : ∀ q : Nat, q < H.size → H1[q]? = H[q]? := fun q hq => by rw [← hH1, Array.getElem?_push, if_neg (Nat.ne_of_lt hq)]
  rw [hW.2] at e1 ⊢
  refine k (upE E m (.inl (γ.2.2.2.2.1 4, (iI n).toNatClampNeg, .inr (.inr (.inr (.inr (fun _ => none))))))) (upE_at _ _ _) (fun q hq => upE_ne _ _ hq) H1 locs ls (hW.push ?_ z1 o1) ?_ hl
  · show H1[bs γ + m]? = some (vp_cell _ _)
    rw [vp_cell_q]
    exact e1
  · exact ⟨Nat.le_trans hS.1 (by omega), fun x g1 g2 => (o1 x (Nat.lt_of_lt_of_le g1 hS.1)).trans (hS.2.1 x g1 g2), hS.2.2⟩
theorem p_putF (C : Cx γ φ own cc nL lev) (hin2 : φ.2.2.2.2.2.2.2.1.name = "<init>") {ref R0 : String} {T : u_T} {N ci ix c : Nat} {v : Value} {fs : List Value} (hin : ∀ w ∈ u_ws R0 T N, w ∈ lw_tbl) (hg : ∀ w ∈ u_ws R0 T N, goodWord w = true) (hcl : classes[ci]? = some (R0, T, N)) (k0 : Nat) (hk : k0 < N) (hw : Wrd γ (.fieldLink own ix ref (T k0).2.1 (T k0).2.2.1)) (href : (T k0).1 = ref) (ty0 : Nat → FieldType) (hty : ∀ k, k < N → parseFieldDescriptor (T k).2.2.1 = some (ty0 k)) (hnm : ∀ a, a < N → ∀ b, b < N → a ≠ b → (T a).2.1 ≠ (T b).2.1) (hfin : (T k0).2.2.2 = true) (hdecl : (T k0).1 = own) (hn : narrow (ty0 k0) v = v) (hfit : fits (ty0 k0) v = true) (hc : c < m) (he : E c = .inr (ci, fs)) (hl0 : k0 < fs.length) (d : decode cc pc = .ok (.putfield ix, 3))
    (k : ∀ E1 : Nat → va_E, E1 c = .inr (ci, fs.set k0 v) → (∀ q, q ≠ c → E1 q = E q) → Vp γ φ nL a b Q E1 m (pc + 3) lv st) : Vp γ φ nL a b Q E m pc lv (v :: .ref (bs γ + c) :: st) := fun H locs ls hW hS hl => by
  have W0 := C.2.2.2.2.2.1.1
  have hts : ∀ w ∈ u_ws R0 T N, w.before φ.2.2.2.2.2.1 φ.2.2.2.1 = true := fun w h => word_at W0 (good_of_word (hg w h)) (C.1.2.1 w (hin w h))
  have hown := C.2.2.2.2.1
  have hap := va_apart (own := own) hts (fun _ h => h) ty0 hty hnm C.K hcl
  have hel := WE_get γ E hc
  rw [he] at hel
  obtain ⟨r, h1, cell, q1, q2, q3, q4⟩ := hW.1 c _ hel
  have hr : r = (R0, T, N) := Option.some.inj (h1.symm.trans hcl)
  subst hr
  obtain ⟨hSl, hfc, kC, hkC, hkind⟩ := C.K.1 ci _ hcl
  obtain ⟨cf, kf, fi, f, hi, hsl⟩ := hSl k0 hk
  have hlay := hts _ (u_in_lay hk)
  unfold u_lay at hlay
  rw [if_pos hfin] at hlay
  have hst := (u_facts hfc hkC (u_lays hts (fun _ h => h) hk) hi).1
  have hcf : φ.2.2.2.2.1.cls = cf := by
    obtain ⟨_, _, c', _, _, _, -, -, hf', -, -, -, hown2, -⟩ := Cond.laysFinal_spec hlay
    have e1 : c' = cf := by have := hi.symm.trans hf'; simp at this; exact this.1.symm
    rw [hdecl] at hown2
    rw [← e1]; exact Option.some.inj (hown.symm.trans hown2)
  have h6 := u_fits hfc hkC hkind (Or.inr hlay) hi (hty k0 hk) hn hfit
  refine W.putFinK C.2.1 C.2.2.1 hown (hw _ _ W0) (by rw [← href]; exact hi) hst hcf hin2 (by rw [q2]; exact h6) q1 q3 (by rw [hsl]; exact k2_hasslot (q4 k0 hk)) rfl rfl d fun H' e1 e2 e3 => ?_
  rw [hsl] at e1 ⊢
  exact k (upE E c (.inr (ci, fs.set k0 v))) (upE_at _ _ _) (fun q hq => upE_ne _ _ hq) H' _ ls (hW.set hc ⟨_, hcl, t_OB.to (V := updV (vp_V fs) k0 v) ⟨_, e1, q2, q3, t_set q4 hap hk v⟩ (fun j _ => vp_updV_set hl0 v j)⟩ e2 e3) (hS.put e2 e3 (show bs γ ≤ bs γ + c by omega)) hl
theorem p_iast (C : Cx γ φ own cc nL lev) {c n : Nat} {f : Nat → Int32} {j x : Int} (hc : c < m) (he : E c = .inl (γ.2.2.2.2.1 0, n, .inl f)) (hj : 0 ≤ j ∧ j < n) (hn : n ≤ 4000) (d : decode cc pc = .ok (.iastore, 1))
    (k : ∀ E1 : Nat → va_E, E1 c = .inl (γ.2.2.2.2.1 0, n, .inl (upd f j.toNat (iI x))) → (∀ q, q ≠ c → E1 q = E q) → Vp γ φ nL a b Q E1 m (pc + 1) lv st) : Vp γ φ nL a b Q E m pc lv (.int (iI x) :: .int (iI j) :: .ref (bs γ + c) :: st) := fun H locs ls hW hS hl => by
  have hel := WE_get γ E hc
  rw [he] at hel
  have hin : vp_in (iI j) n := iI_in hj (by omega)
  have ecl : (iI j).toNatClampNeg = j.toNat := iI_cl (by omega)
  refine W.iast C.2.1 C.2.2.1 (hW.1 c _ hel) ((C.K.2 0 (γ.2.2.2.2.1 0, .int) rfl).1 n (fun j => .int (f j))) (fun q => by cases q) (by show ¬ (iI j < 0 ∨ (arrV _ _ _).slots.size ≤ _); rw [arrV_size]; exact hin) rfl rfl d fun H1 e z oq => ?_
  refine k (upE E c (.inl (γ.2.2.2.2.1 0, n, .inl (upd f j.toNat (iI x))))) (upE_at _ _ _) (fun q hq => upE_ne _ _ hq) H1 _ ls (hW.set hc ?_ z oq) (hS.put z oq (show bs γ ≤ bs γ + c by omega)) hl
  show H1[bs γ + c]? = some (vp_cell _ _)
  rw [e, ecl]
  show some ((vp_cell _ _).setSlot _ _) = _
  rw [vp_cell_i, vp_cell_i, arrV_store]
  congr 2
  funext q
  unfold updV upd
  by_cases hq : q = j.toNat
  · rw [if_pos hq, if_pos hq]
  · rw [if_neg hq, if_neg hq]
theorem p_aast (C : Cx γ φ own cc nL lev) {c v n : Nat} {f : Nat → Option Nat} {vs : List Value} {j : Int} (hc : c < m) (he : E c = .inl (γ.2.2.2.2.1 4, n, .inr (.inr (.inr (.inr f))))) (hv : v < m) (hev : E v = .inr (1, vs)) (hj : 0 ≤ j ∧ j < n) (hn : n ≤ 4000) (d : decode cc pc = .ok (.aastore, 1))
    (k : ∀ E1 : Nat → va_E, E1 c = .inl (γ.2.2.2.2.1 4, n, .inr (.inr (.inr (.inr (va_up f j.toNat (some (bs γ + v))))))) → (∀ q, q ≠ c → E1 q = E q) → Vp γ φ nL a b Q E1 m (pc + 1) lv st) : Vp γ φ nL a b Q E m pc lv (.ref (bs γ + v) :: .int (iI j) :: .ref (bs γ + c) :: st) := fun H locs ls hW hS hl => by
  have hel := WE_get γ E hc
  rw [he] at hel
  have hvl := WE_get γ E hv
  rw [hev] at hvl
  have hin : vp_in (iI j) n := iI_in hj (by omega)
  have ecl : (iI j).toNatClampNeg = j.toNat := iI_cl (by omega)
  have hlt : (iI j).toNatClampNeg < n := by omega
  have h0 : ¬ iI j < 0 := fun q => hin (Or.inl q)
  have hcl : classes[1]? = some (RX2, TX2, 16) := rfl
  obtain ⟨r', hr', cellV, g1, g2, g3, -⟩ := hW.1 v _ hvl
  have hcls := (C.K.1 1 _ hcl).2
  obtain ⟨kA, comp, k1, k2, k3, -⟩ := (C.K.2 4 (γ.2.2.2.2.1 4, .object RX2) rfl).2
  have hcomp : comp = γ.2.2.2.1.1 1 := Option.some.inj (k3.symm.trans hcls.1)
  subst hcomp
  obtain ⟨kC, hkC, -⟩ := hcls.2
  refine W.aast C.2.1 C.2.2.1 (hW.1 c _ hel) (fun q h => by cases h) (fun h => by cases h) k1 k2 rfl hkC ⟨h0, by show _ < (arrV _ _ _).slots.size; rw [arrV_size]; exact hlt⟩ g1 (fun q h => by rw [g3] at h; cases h) (by rw [g2]; exact hkC) (by rw [g2]; exact va_assign hcls) rfl rfl d fun H1 e z oq => ?_
  refine k (upE E c (.inl (γ.2.2.2.2.1 4, n, .inr (.inr (.inr (.inr (va_up f j.toNat (some (bs γ + v))))))))) (upE_at _ _ _) (fun q hq => upE_ne _ _ hq) H1 _ ls (hW.set hc ?_ z oq) (hS.put z oq (show bs γ ≤ bs γ + c by omega)) hl
  show H1[bs γ + c]? = some (vp_cell _ _)
  rw [e, ecl]
  show some ((vp_cell _ _).setSlot _ _) = _
  rw [vp_cell_q, vp_cell_q, arrV_store]
  congr 2
  funext q
  unfold updV va_up
  by_cases hq : q = j.toNat
  · rw [if_pos hq, if_pos hq]
    rfl
  · rw [if_neg hq, if_neg hq]
theorem p_getr (C : Cx γ φ own cc nL lev) {ref R0 : String} {T : u_T} {N ci ix c x : Nat} {fs : List Value} (hin : ∀ w ∈ u_ws R0 T N, w ∈ lw_tbl) (hg : ∀ w ∈ u_ws R0 T N, goodWord w = true) (hcl : classes[ci]? = some (R0, T, N)) (k0 : Nat) (hk : k0 < N) (hw : Wrd γ (.fieldLink own ix ref (T k0).2.1 (T k0).2.2.1)) (href : (T k0).1 = ref) (hc : c < m) (he : E c = .inr (ci, fs)) (hv : fs[k0]? = some (.ref x)) (d : decode cc pc = .ok (.getfield ix, 3)) (k : Vp γ φ nL a b Q E m (pc + 3) lv (.ref x :: st)) : Vp γ φ nL a b Q E m pc lv (.ref (bs γ + c) :: st) := fun H locs ls hW hS hl => by
  have hel := WE_get γ E hc
  rw [he] at hel
  exact va_get C.2.1 C.2.2.1 (fun w h => word_at C.2.2.2.2.2.1.1 (good_of_word (hg w h)) (C.1.2.1 w (hin w h))) (fun _ h => h) C.2.2.2.2.1 C.K hW.1 c hel hcl k0 hk (hw _ _ C.2.2.2.2.2.1.1) (fun x hx => by rw [← href]; exact hx) hv d (k H locs ls hW hS hl)
theorem p_go {mc ms m2 : Nat} (arr : Array Value) {post : (Nat → va_E) → Prop}
    (run : ∀ H locs ls, Wp γ E m H → va_S (Aw γ) φ.2.2.2.1.heap H locs → lv_has ls nL lv → va_Run φ.1 γ.1 φ.2.1 φ.2.2.1 φ.2.2.2.1 φ.2.2.2.2.1 φ.2.2.2.2.2.1 φ.2.2.2.2.2.2.1 φ.2.2.2.2.2.2.2.1 φ.2.2.2.2.2.2.2.2 H locs a b mc ms (F0 φ.2.2.2.2.1 pc ls st0) st (Qpc γ m2 post arr) (Aw γ))
    (k : ∀ E' : Nat → va_E, post E' → Vp γ φ nL (a + mc) (b + ms) Q E' m2 (pc + 3) lv st) : Vp γ φ nL a b Q E m pc lv st0 := by
  intro H locs ls hW hS hl T hT X
  obtain ⟨v, st₀, t, T', L, h0, X', hL, e1, e2, ⟨hv, E', hp, hWd, hF⟩, go⟩ := run H locs ls hW hS hl T hT X
  cases hv
  obtain ⟨k1, k2, k3⟩ := vx_keep h0 e1 hS (fun _ _ h => h) (fun _ h => h) hL hF
  obtain ⟨t2, s2, q2⟩ := k E' hp T'.heap (locs ++ L) ls (by rw [e1]; exact hWd) k3 hl T' rfl X'
  exact ⟨t2, go _ s2, q2⟩
theorem p_ciN {y : MethodName} {bytes : ByteArray} {maxL lev2 n ix mc ms c : Nat} {as : List Value} {post : (Nat → va_E) → Prop} {host : String} (C : Cx γ φ own cc nL lev) (hy : Cy γ y bytes maxL none n ∧ Wrd γ (.instanceMethod y)) (hy1 : y.name = "<init>") (hlink : WrdN γ (.methodLinkNest own ix y host)) (hM : Cn γ y bytes maxL lev2 mc ms (.ref (bs γ + c) :: as) E m post) (d : decode cc pc = .ok (.invokespecial ix, 3)) (hn : as.length = n) (hst : st0 = as.reverse ++ .ref (bs γ + c) :: st) (hl : lev2 + 1 ≤ lev) (hm : maxL ≤ 40) (hw : (st.map fun v => v.category).sum ≤ 8) (hab : a + mc ≤ φ.2.2.1.cells ∧ b + ms ≤ φ.2.2.1.slots)
    (k : ∀ E' : Nat → va_E, post E' → Vp γ φ nL (a + mc) (b + ms) Q E' (m + mc) (pc + 3) lv st) : Vp γ φ nL a b Q E m pc lv st0 := by
  refine p_go (Value.ref (bs γ + c) :: as).toArray (fun H locs ls hW hS hl9 => ?_) k
  obtain ⟨⟨h1, h2, h3, h4⟩, h5⟩ := hy
  have W0 := C.2.2.2.2.2.1.1
  have hf := C.2.2.2.2.2.2.2.1
  have hlo := C.2.2.2.2.2.2.2.2
  refine va_runIN (Ts := []) ⟨C.2.1, C.2.2.1, C.2.2.2.1, C.2.2.2.2.1, fun w h => nomatch h⟩ hM ⟨⟨⟨rfl, rfl, ?_, ?_, fun w hw a' U hW9 => ?_, List.mem_cons_self⟩, h3 _ _ W0, h4 _ _ W0, h1, h2, va_Nw.use rfl (hlink _ W0)⟩, hy1, h5 _ _ W0⟩ ⟨Ppc.blind _ _ _ _, fun U hU hWU => ⟨rfl, C.2.2.2.2.2.1.nextA Aw_hi hS hU hWU, by rw [hU]; exact hW⟩⟩ rfl hn hl9.1 hst (lv_room hw) d hab
  · show 10 + lev2 + 1 ≤ _
    omega
  · show 8 + (maxL + 11) + (400 + 60 * lev2) ≤ _
    omega
  · rw [List.mem_singleton] at hw
    subst hw
    exact h3 _ _ (State.WarmedH.trans W0 hW9)
theorem p_ci {y : MethodName} {bytes : ByteArray} {maxL lev2 n ix mc ms c : Nat} {as : List Value} {post : (Nat → va_E) → Prop} (C : Cx γ φ own cc nL lev) (hy : Cy γ y bytes maxL none n ∧ Wrd γ (.instanceMethod y)) (hy1 : y.name = "<init>") (hlink : Wrd γ (.methodLink own ix y)) (hM : Cn γ y bytes maxL lev2 mc ms (.ref (bs γ + c) :: as) E m post) (d : decode cc pc = .ok (.invokespecial ix, 3)) (hn : as.length = n) (hst : st0 = as.reverse ++ .ref (bs γ + c) :: st) (hl : lev2 + 1 ≤ lev) (hm : maxL ≤ 40) (hw : (st.map fun v => v.category).sum ≤ 8) (hab : a + mc ≤ φ.2.2.1.cells ∧ b + ms ≤ φ.2.2.1.slots)
    (k : ∀ E' : Nat → va_E, post E' → Vp γ φ nL (a + mc) (b + ms) Q E' (m + mc) (pc + 3) lv st) : Vp γ φ nL a b Q E m pc lv st0 := by
  refine p_go (Value.ref (bs γ + c) :: as).toArray (fun H locs ls hW hS hl9 => ?_) k
  obtain ⟨⟨h1, h2, h3, h4⟩, h5⟩ := hy
  have W0 := C.2.2.2.2.2.1.1
  have hf := C.2.2.2.2.2.2.2.1
  have hlo := C.2.2.2.2.2.2.2.2
  refine va_runI (Ts := []) ⟨C.2.1, C.2.2.1, C.2.2.2.1, C.2.2.2.2.1, fun w h => nomatch h⟩ hM ⟨⟨rfl, rfl, ?_, ?_, fun w hw a' U hW9 => ?_, List.mem_cons_self, h3 _ _ W0, h4 _ _ W0, h1, h2, hlink _ _ W0⟩, hy1, h5 _ _ W0⟩ ⟨Ppc.blind _ _ _ _, fun U hU hWU => ⟨rfl, C.2.2.2.2.2.1.nextA Aw_hi hS hU hWU, by rw [hU]; exact hW⟩⟩ rfl hn hl9.1 hst (lv_room hw) d hab
  · show 10 + lev2 + 1 ≤ _
    omega
  · show 8 + (maxL + 11) + (400 + 60 * lev2) ≤ _
    omega
  · rw [List.mem_singleton] at hw
    subst hw
    exact h3 _ _ (State.WarmedH.trans W0 hW9)
theorem p_cs {y : MethodName} {bytes : ByteArray} {maxL lev2 n ix mc ms : Nat} {as : List Value} {post : (Nat → va_E) → Prop} (C : Cx γ φ own cc nL lev) (hy : CyS γ y bytes maxL none n) (hlink : Wrd γ (.methodLink own ix y)) (hM : Cn γ y bytes maxL lev2 mc ms as E m post) (d : decode cc pc = .ok (.invokestatic ix, 3)) (hn : as.length = n) (hst : st0 = as.reverse ++ st) (hl : lev2 + 1 ≤ lev) (hm : maxL ≤ 40) (hw : (st.map fun v => v.category).sum ≤ 8) (hab : a + mc ≤ φ.2.2.1.cells ∧ b + ms ≤ φ.2.2.1.slots)
    (k : ∀ E' : Nat → va_E, post E' → Vp γ φ nL (a + mc) (b + ms) Q E' (m + mc) (pc + 3) lv st) : Vp γ φ nL a b Q E m pc lv st0 := by
  refine p_go as.toArray (fun H locs ls hW hS hl9 => ?_) k
  obtain ⟨⟨h1, h2, h3, h4⟩, h5⟩ := hy
  have W0 := C.2.2.2.2.2.1.1
  have hf := C.2.2.2.2.2.2.2.1
  have hlo := C.2.2.2.2.2.2.2.2
  refine va_runS (Ts := []) ⟨C.2.1, C.2.2.1, C.2.2.2.1, C.2.2.2.2.1, fun w h => nomatch h⟩ hM ⟨⟨rfl, rfl, ?_, ?_, fun w hw a' U hW9 => ?_, List.mem_cons_self, h3 _ _ W0, h4 _ _ W0, h1, h2, hlink _ _ W0⟩, h5 _ _ W0⟩ ⟨Ppc.blind _ _ _ _, fun U hU hWU => ⟨rfl, C.2.2.2.2.2.1.nextA Aw_hi hS hU hWU, by rw [hU]; exact hW⟩⟩ rfl hn hl9.1 hst (lv_room hw) d hab
  · show 10 + lev2 + 1 ≤ _
    omega
  · show 8 + (maxL + 11) + (400 + 60 * lev2) ≤ _
    omega
  · rw [List.mem_singleton] at hw
    subst hw
    exact h3 _ _ (State.WarmedH.trans W0 hW9)
end VPR
