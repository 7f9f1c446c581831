/-! two objects: the law's world is what their states are -/
abbrev St2 : Type := Abs × Abs
def gq (γ : Gm) : Gm := (γ.1, γ.2.1, γ.2.2.1, γ.2.2.2.1, γ.2.2.2.2.1, fun k => if k = 6 then γ.2.2.2.2.2 6 + 255 else γ.2.2.2.2.2 k)
def gw (γ : Gm) : Bool → Gm
  | false => γ
  | true => gq γ
def gat (S : St2) : Bool → Abs
  | false => S.1
  | true => S.2
def gup (S : St2) (w : Bool) (A : Abs) : St2 := match w with
  | false => (A, S.2)
  | true => (S.1, A)
theorem gup_at (S : St2) (w : Bool) : gup S w (gat S w) = S := by cases w <;> rfl
theorem gat_up (S : St2) (w : Bool) (A : Abs) : gat (gup S w A) w = A := by cases w <;> rfl
theorem gup_up (S : St2) (w : Bool) (A B : Abs) : gup (gup S w A) w B = gup S w B := by cases w <;> rfl
theorem bs_q (γ : Gm) : bs (gq γ) = bs γ + 255 := by
  show γ.2.1.heap.size + (if (6 : Nat) = 6 then γ.2.2.2.2.2 6 + 255 else γ.2.2.2.2.2 6) = γ.2.1.heap.size + γ.2.2.2.2.2 6 + 255
  rw [if_pos rfl]
  omega
def Aw (γ : Gm) : Nat → Prop := fun q => bs γ ≤ q
theorem Ar_Aw {γ : Gm} (w : Bool) {q : Nat} (h : Ar (gw γ w) q) : Aw γ q := by
  cases w
  · exact h.1
  · have h1 : bs (gq γ) ≤ q ∧ q < bs (gq γ) + 255 := h
    rw [bs_q] at h1
    show bs γ ≤ q
    omega
theorem Ar_apart {γ : Gm} {q : Nat} (h : Ar γ q) (h2 : Ar (gq γ) q) : False := by
  have h1 : bs γ ≤ q ∧ q < bs γ + 255 := h
  have h3 : bs (gq γ) ≤ q ∧ q < bs (gq γ) + 255 := h2
  rw [bs_q] at h3
  omega
def W1 (γ : Gm) (A : Abs) (H : Heap) : Prop := ∃ σ : St, Wd γ σ H ∧ CA σ A ∧ AOkA A
theorem W1.frame {γ : Gm} {A : Abs} {H H1 : Heap} (h : W1 γ A H) (hq : ∀ q : Nat, q < H.size → Ar γ q → H1[q]? = H[q]?) : W1 γ A H1 := by
  obtain ⟨σ, hW, hC⟩ := h
  exact ⟨σ, ⟨hW.1.kept (fun k q hk => hq _ (hW.1 k q hk).lt ((wl_D γ σ).2 k q hk)), hW.2⟩, hC⟩
def Wl (γ : Gm) (S : St2) (H : Heap) : Prop := W1 γ S.1 H ∧ W1 (gq γ) S.2 H
def GL (γ : Gm) : Prop := Glo γ ∧ Glo (gq γ) ∧ GNc γ
theorem GL.w {γ : Gm} (G : GL γ) : ∀ w, Glo (gw γ w)
  | false => G.1
  | true => G.2.1
theorem GL.n {γ : Gm} (G : GL γ) : ∀ w, GNc (gw γ w)
  | false => G.2.2
  | true => G.2.2
theorem Gs.nextA {γ : Gm} {A : Nat → Prop} {s U : State} {H : Heap} {locs : List Loc} (h : Gs γ s) (hA : ∀ q, A q → γ.2.1.heap.size ≤ q) (hS : va_S A s.heap H locs) (hU : U.heap = H) (hW : s.WarmedH U.vm) : Gs γ U := by
  obtain ⟨h1, h2, h3⟩ := h
  refine ⟨State.WarmedH.trans h1 hW, ?_, fun q hq => ?_⟩
  · rw [hU]; exact Nat.le_trans h2 hS.1
  · rw [hU, hS.2.1 q (Nat.lt_of_lt_of_le hq h2) (fun z => absurd (hA q z) (Nat.not_le.mpr hq))]
    exact h3 q hq
theorem Aw_hi {γ : Gm} (q : Nat) (h : Aw γ q) : γ.2.1.heap.size ≤ q := by
  have h1 : γ.2.1.heap.size + γ.2.2.2.2.2 6 ≤ q := h
  omega
def Vl (γ : Gm) (φ : Fx) (nL a : Nat) (Q : State → Prop) (S : St2) (pc : Nat) (lv : List (Nat × Value)) (st : List Value) : Prop :=
  ∀ (H : Heap) (locs : List Loc) (ls : Array Slot), Wl γ S H → va_S (Aw γ) φ.2.2.2.1.heap H locs → lv_has ls nL lv →
    W φ.1 γ.1 φ.2.1 φ.2.2.1 φ.2.2.2.1 φ.2.2.2.2.1 φ.2.2.2.2.2.1 φ.2.2.2.2.2.2.1 φ.2.2.2.2.2.2.2.1 φ.2.2.2.2.2.2.2.2 H locs a (6 * a) Q (F0 φ.2.2.2.2.1 pc ls st)
def Ql (γ : Gm) (z : Int) (S : St2) : Array Value → State → Outcome → State → Prop := fun _ st oc t => oc = .returned (some (.int (iI z))) ∧ Wl γ S t.heap ∧ va_F (Aw γ) st t
def Pl (γ : Gm) (as : List Value) (S : St2) : Array Value → State → Prop := va_Pc as (fun U => Gs γ U ∧ Wl γ S U.heap)
def Xl : String → State → State → Prop := fun _ _ _ => False
/-- a contract of one of the law's methods: at most m exceptions are made -/
def Cl (γ : Gm) (y : MethodName) (wd : Cond) (lev m : Nat) (as : List Value) (S : St2) (z : Int) (S' : St2) : Prop := vx_Met γ.1 y [wd] (rmL lev m (6 * m)) (Pl γ as S) (Ql γ z S') Xl m (6 * m) (Aw γ)
def QL (γ : Gm) (φ : Fx) (m : Nat) (z : Int) (S : St2) : State → Prop := vx_MQ φ.2.2.2.2.2.2.1 (Ql γ z S) Xl φ.2.2.2.2.2.1 φ.2.2.2.1 m (6 * m) (Aw γ)
theorem Pl.blind (γ : Gm) (as : List Value) (S : St2) : FrameBlind (Pl γ as S) := fun _ _ _ _ q => q
theorem Cl.of {γ : Gm} (G : GL γ) {y : MethodName} {cc : ByteArray} {maxL lev m : Nat} {rt : Option FieldType} {as : List Value} {S S' : St2} {z : Int} (hy : plainName y.cls = true) (hL : (lg_sl as).length ≤ maxL)
    (body : ∀ φ : Fx, Cx γ φ y.cls cc maxL lev → (m ≤ φ.2.2.1.cells ∧ 6 * m ≤ φ.2.2.1.slots) → φ.2.2.2.2.2.2.2.1.sig.returnType = rt → Vl γ φ maxL 0 (QL γ φ m z S') S 0 (lv_args 0 as) []) : Cl γ y (.code y cc maxL rt) lev m as S z S' := by
  refine vx_ofW (cc := cc) (maxL := maxL) (ret := rt) hy rfl ?_
  intro p e s m' args below meth c s₁ B hml ht hv
  obtain ⟨rfl, hG, hWd⟩ := hv
  have hown : s.vm.findClass y.cls = some m'.cls := findClass_of_methodNamed B.named
  have h := body (p, e, rmL lev m (6 * m), s, m', as.toArray, below, meth, c) ⟨G.1, B.exec, B.bytes, hml, hown, hG, B.notSynchronized, Nat.le_refl _, Nat.le_refl _⟩ ⟨Nat.le_refl _, Nat.le_refl _⟩ B.returns s.heap [] _ hWd va_S.rf (lv_entry as hL)
  rw [lg_entry_eq]
  exact h
/-- a contract over one object, of a method that never throws -/
theorem Cl.one {γ : Gm} {w : Bool} {y : MethodName} {cc : ByteArray} {maxL : Nat} {rt : Option FieldType} {hh : List (Nat × Nat × Nat × Nat)} {lev : Nat} {as : List Value} {S : St2} {r : Int} {A' : Abs} {post : St → Int → St → Prop}
    (h : ∀ σ, CA σ (gat S w) → AOkA (gat S w) → Cww (gw γ w) y cc maxL rt hh lev as σ (pI (post σ)))
    (hp : ∀ σ z σ2, post σ z σ2 → z = r ∧ CA σ2 A' ∧ AOkA A') : Cl γ y (.codeWith y cc maxL rt hh) lev 1 as S r (gup S w A') := by
  intro p e h1 h2 h3 s m args below h4 h5 h6 h7
  obtain ⟨rfl, hG, hO, hQ⟩ := h6
  cases w
  · obtain ⟨σ, hW, hC, hA⟩ := hO
    obtain ⟨n, o, g1, g2, g3, hq⟩ := h σ hC hA p e h1 h2 h3 s m _ below h4 h5 ⟨rfl, hG, hW⟩ h7
    refine ⟨n, o, g1, g2, g3, ?_⟩
    rcases hq with ⟨⟨v, σ', e1, ⟨z, rfl, hz⟩, e3, hF⟩, L, hL, hf⟩ | ⟨q, -, E, ce, L, ⟨σ', hx, -⟩, -⟩
    · obtain ⟨rfl, hC', hA'⟩ := hp _ _ _ hz
      exact Or.inl ⟨⟨e1, ⟨⟨σ', e3, hC', hA'⟩, hQ.frame (fun q a b => hF.2 q a (fun z => Ar_apart z b))⟩, hF.1, fun q a b => hF.2 q a (fun z => b (Ar_Aw false z))⟩, L, hL, fun q a => Ar_Aw false (hf q a)⟩
    · exact hx.elim
  · obtain ⟨σ, hW, hC, hA⟩ := hQ
    obtain ⟨n, o, g1, g2, g3, hq⟩ := h σ hC hA p e h1 h2 h3 s m _ below h4 h5 ⟨rfl, hG, hW⟩ h7
    refine ⟨n, o, g1, g2, g3, ?_⟩
    rcases hq with ⟨⟨v, σ', e1, ⟨z, rfl, hz⟩, e3, hF⟩, L, hL, hf⟩ | ⟨q, -, E, ce, L, ⟨σ', hx, -⟩, -⟩
    · obtain ⟨rfl, hC', hA'⟩ := hp _ _ _ hz
      exact Or.inl ⟨⟨e1, ⟨hO.frame (fun q a b => hF.2 q a (fun z => Ar_apart b z)), ⟨σ', e3, hC', hA'⟩⟩, hF.1, fun q a b => hF.2 q a (fun z => b (Ar_Aw true z))⟩, L, hL, fun q a => Ar_Aw true (hf q a)⟩
    · exact hx.elim
section XR
variable {γ : Gm} {φ : Fx} {own : String} {cc : ByteArray} {nL lev a m : Nat} {Q : State → Prop} {S S' : St2} {pc : Nat} {lv lv2 : List (Nat × Value)} {st st0 : List Value} {z : Int}
theorem x_iconst (C : Cx γ φ own cc nL lev) {n : Int} (d : decode cc pc = .ok (.iconst n, 1)) (k : Vl γ φ nL a Q S (pc + 1) lv (.int (iI n) :: st)) : Vl γ φ nL a Q S pc lv st := fun H locs ls hW hS hl => lv_iconst C.2.1 C.2.2.1 d rfl (k H locs ls hW hS hl)
theorem x_bipush (C : Cx γ φ own cc nL lev) {n : Int} (hv : (Int8.ofInt n).toInt32 = iI n) (d : decode cc pc = .ok (.bipush n, 2)) (k : Vl γ φ nL a Q S (pc + 2) lv (.int (iI n) :: st)) : Vl γ φ nL a Q S pc lv st := fun H locs ls hW hS hl => lv_bipush C.2.1 C.2.2.1 d hv (k H locs ls hW hS hl)
theorem x_sipush (C : Cx γ φ own cc nL lev) {n : Int} (hv : (Int16.ofInt n).toInt32 = iI n) (d : decode cc pc = .ok (.sipush n, 3)) (k : Vl γ φ nL a Q S (pc + 3) lv (.int (iI n) :: st)) : Vl γ φ nL a Q S pc lv st := fun H locs ls hW hS hl => lv_sipush C.2.1 C.2.2.1 d hv (k H locs ls hW hS hl)
theorem x_lconst (C : Cx γ φ own cc nL lev) {n : Fin 2} {z : Int} (hv : Int64.ofNat (n : Nat) = lI z) (d : decode cc pc = .ok (.lconst n, 1)) (k : Vl γ φ nL a Q S (pc + 1) lv (.long (lI z) :: st)) : Vl γ φ nL a Q S pc lv st := fun H locs ls hW hS hl => lv_lconst C.2.1 C.2.2.1 d hv (k H locs ls hW hS hl)
theorem x_ldc (C : Cx γ φ own cc nL lev) {ix : Nat} {z : Int} (hw : Wrd γ (.constant own ix (iI z))) (d : decode cc pc = .ok (.ldc ix, 2)) (k : Vl γ φ nL a Q S (pc + 2) lv (.int (iI z) :: st)) : Vl γ φ nL a Q S pc lv st := fun H locs ls hW hS hl => lv_ldc C.2.1 C.2.2.1 C.2.2.2.2.1 (hw _ _ C.2.2.2.2.2.1.1) d (k H locs ls hW hS hl)
theorem x_ldc2 (C : Cx γ φ own cc nL lev) {ix : Nat} {z : Int} (hw : Wrd γ (.constantLong own ix (lI z))) (d : decode cc pc = .ok (.ldc2_w ix, 3)) (k : Vl γ φ nL a Q S (pc + 3) lv (.long (lI z) :: st)) : Vl γ φ nL a Q S pc lv st := fun H locs ls hW hS hl => lv_ldc2 C.2.1 C.2.2.1 C.2.2.2.2.1 (hw _ _ C.2.2.2.2.2.1.1) d (k H locs ls hW hS hl)
theorem x_iload_n (C : Cx γ φ own cc nL lev) {k3 : Fin 4} {x : Int} (k0 : Nat) (hk : lv[k0]? = some ((k3 : Nat), .int (iI x))) (d : decode cc pc = .ok (.iload_n k3, 1)) (k : Vl γ φ nL a Q S (pc + 1) lv (.int (iI x) :: st)) : Vl γ φ nL a Q S pc lv st := fun H locs ls hW hS hl => lv_iload_n C.2.1 C.2.2.1 d rfl (lv_at hl k0 hk) (k H locs ls hW hS hl)
theorem x_iload (C : Cx γ φ own cc nL lev) {i : Nat} {x : Int} (k0 : Nat) (hk : lv[k0]? = some (i, .int (iI x))) (d : decode cc pc = .ok (.iload i, 2)) (k : Vl γ φ nL a Q S (pc + 2) lv (.int (iI x) :: st)) : Vl γ φ nL a Q S pc lv st := fun H locs ls hW hS hl => lv_iload C.2.1 C.2.2.1 d (lv_at hl k0 hk) (k H locs ls hW hS hl)
theorem x_lload_n (C : Cx γ φ own cc nL lev) {k3 : Fin 4} {x : Int} (k0 : Nat) (hk : lv[k0]? = some ((k3 : Nat), .long (lI x))) (d : decode cc pc = .ok (.lload_n k3, 1)) (k : Vl γ φ nL a Q S (pc + 1) lv (.long (lI x) :: st)) : Vl γ φ nL a Q S pc lv st := fun H locs ls hW hS hl => lv_lload_n C.2.1 C.2.2.1 d rfl (lv_at hl k0 hk) (k H locs ls hW hS hl)
theorem x_lload (C : Cx γ φ own cc nL lev) {i : Nat} {x : Int} (k0 : Nat) (hk : lv[k0]? = some (i, .long (lI x))) (d : decode cc pc = .ok (.lload i, 2)) (k : Vl γ φ nL a Q S (pc + 2) lv (.long (lI x) :: st)) : Vl γ φ nL a Q S pc lv st := fun H locs ls hW hS hl => lv_lload C.2.1 C.2.2.1 d (lv_at hl k0 hk) (k H locs ls hW hS hl)
theorem x_aload_n (C : Cx γ φ own cc nL lev) {k3 : Fin 4} {x : Nat} (k0 : Nat) (hk : lv[k0]? = some ((k3 : Nat), .ref x)) (d : decode cc pc = .ok (.aload_n k3, 1)) (k : Vl γ φ nL a Q S (pc + 1) lv (.ref x :: st)) : Vl γ φ nL a Q S pc lv st := fun H locs ls hW hS hl => lv_aload_n C.2.1 C.2.2.1 d rfl (lv_at hl k0 hk) (k H locs ls hW hS hl)
theorem x_aload (C : Cx γ φ own cc nL lev) {i : Nat} {x : Nat} (k0 : Nat) (hk : lv[k0]? = some (i, .ref x)) (d : decode cc pc = .ok (.aload i, 2)) (k : Vl γ φ nL a Q S (pc + 2) lv (.ref x :: st)) : Vl γ φ nL a Q S pc lv st := fun H locs ls hW hS hl => lv_aload C.2.1 C.2.2.1 d (lv_at hl k0 hk) (k H locs ls hW hS hl)
theorem x_istore_n (C : Cx γ φ own cc nL lev) {k3 : Fin 4} {i : Nat} {x : Int} (lv2 : List (Nat × Value)) (d : decode cc pc = .ok (.istore_n k3, 1)) (hi : (k3 : Nat) = i) (hn : i < nL) (hl2 : (i, Value.int (iI x)) :: lv.filter (fun q => !(q.1 == i) && !(q.1 + 1 == i && q.2.category == 2)) = lv2) (k : Vl γ φ nL a Q S (pc + 1) lv2 st) : Vl γ φ nL a Q S pc lv (.int (iI x) :: st) := fun H locs ls hW hS hl => lv_istore_n C.2.1 C.2.2.1 d hi hl hn hl2 (fun ls2 h2 => k H locs ls2 hW hS h2)
theorem x_istore (C : Cx γ φ own cc nL lev) {i : Nat} {x : Int} (lv2 : List (Nat × Value)) (d : decode cc pc = .ok (.istore i, 2)) (hn : i < nL) (hl2 : (i, Value.int (iI x)) :: lv.filter (fun q => !(q.1 == i) && !(q.1 + 1 == i && q.2.category == 2)) = lv2) (k : Vl γ φ nL a Q S (pc + 2) lv2 st) : Vl γ φ nL a Q S pc lv (.int (iI x) :: st) := fun H locs ls hW hS hl => lv_istore C.2.1 C.2.2.1 d hl hn hl2 (fun ls2 h2 => k H locs ls2 hW hS h2)
theorem x_astore_n (C : Cx γ φ own cc nL lev) {k3 : Fin 4} {i : Nat} {x : Nat} (lv2 : List (Nat × Value)) (d : decode cc pc = .ok (.astore_n k3, 1)) (hi : (k3 : Nat) = i) (hn : i < nL) (hl2 : (i, Value.ref x) :: lv.filter (fun q => !(q.1 == i) && !(q.1 + 1 == i && q.2.category == 2)) = lv2) (k : Vl γ φ nL a Q S (pc + 1) lv2 st) : Vl γ φ nL a Q S pc lv (.ref x :: st) := fun H locs ls hW hS hl => lv_astore_n C.2.1 C.2.2.1 d hi hl hn hl2 (fun ls2 h2 => k H locs ls2 hW hS h2)
theorem x_astore (C : Cx γ φ own cc nL lev) {i : Nat} {x : Nat} (lv2 : List (Nat × Value)) (d : decode cc pc = .ok (.astore i, 2)) (hn : i < nL) (hl2 : (i, Value.ref x) :: lv.filter (fun q => !(q.1 == i) && !(q.1 + 1 == i && q.2.category == 2)) = lv2) (k : Vl γ φ nL a Q S (pc + 2) lv2 st) : Vl γ φ nL a Q S pc lv (.ref x :: st) := fun H locs ls hW hS hl => lv_astore C.2.1 C.2.2.1 d hl hn hl2 (fun ls2 h2 => k H locs ls2 hW hS h2)
theorem x_iinc (C : Cx γ φ own cc nL lev) {i : Nat} {n x : Int} (k0 : Nat) (lv2 : List (Nat × Value)) (d : decode cc pc = .ok (.iinc i n, 3)) (hk : lv[k0]? = some (i, .int (iI x))) (hn : i < nL) (hl2 : (i, Value.int (iI (x + n))) :: lv.filter (fun q => !(q.1 == i) && !(q.1 + 1 == i && q.2.category == 2)) = lv2) (k : Vl γ φ nL a Q S (pc + 3) lv2 st) : Vl γ φ nL a Q S pc lv st := fun H locs ls hW hS hl => lv_iinc C.2.1 C.2.2.1 d hl hk (iI_add x n) hn hl2 (fun ls2 h2 => k H locs ls2 hW hS h2)
theorem x_iadd (C : Cx γ φ own cc nL lev) {x y : Int} (d : decode cc pc = .ok (.iadd, 1)) (k : Vl γ φ nL a Q S (pc + 1) lv (.int (iI (x + y)) :: st)) : Vl γ φ nL a Q S pc lv (.int (iI y) :: .int (iI x) :: st) := fun H locs ls hW hS hl => lv_iadd C.2.1 C.2.2.1 d (by rw [iI_add]; exact k H locs ls hW hS hl)
theorem x_isub (C : Cx γ φ own cc nL lev) {x y : Int} (d : decode cc pc = .ok (.isub, 1)) (k : Vl γ φ nL a Q S (pc + 1) lv (.int (iI (x - y)) :: st)) : Vl γ φ nL a Q S pc lv (.int (iI y) :: .int (iI x) :: st) := fun H locs ls hW hS hl => lv_isub C.2.1 C.2.2.1 d (by rw [iI_sub]; exact k H locs ls hW hS hl)
theorem x_imul (C : Cx γ φ own cc nL lev) {x y : Int} (d : decode cc pc = .ok (.imul, 1)) (k : Vl γ φ nL a Q S (pc + 1) lv (.int (iI (x * y)) :: st)) : Vl γ φ nL a Q S pc lv (.int (iI y) :: .int (iI x) :: st) := fun H locs ls hW hS hl => lv_imul C.2.1 C.2.2.1 d (by rw [iI_mul]; exact k H locs ls hW hS hl)
theorem x_idiv (C : Cx γ φ own cc nL lev) {x y : Int} (hx : 0 ≤ x ∧ x < 2147483648) (hy : 0 < y ∧ y < 2147483648) (d : decode cc pc = .ok (.idiv, 1)) (k : Vl γ φ nL a Q S (pc + 1) lv (.int (iI (x / y)) :: st)) : Vl γ φ nL a Q S pc lv (.int (iI y) :: .int (iI x) :: st) := fun H locs ls hW hS hl => lv_idiv C.2.1 C.2.2.1 d (by rw [iI_0, iI_eq (by omega) (by omega)]; omega) (by rw [iI_div hx hy]; exact k H locs ls hW hS hl)
theorem x_irem (C : Cx γ φ own cc nL lev) {x y : Int} (hx : 0 ≤ x ∧ x < 2147483648) (hy : 0 < y ∧ y < 2147483648) (d : decode cc pc = .ok (.irem, 1)) (k : Vl γ φ nL a Q S (pc + 1) lv (.int (iI (x % y)) :: st)) : Vl γ φ nL a Q S pc lv (.int (iI y) :: .int (iI x) :: st) := fun H locs ls hW hS hl => lv_irem C.2.1 C.2.2.1 d (by rw [iI_0, iI_eq (by omega) (by omega)]; omega) (by rw [iI_rem hx hy]; exact k H locs ls hW hS hl)
theorem x_ladd (C : Cx γ φ own cc nL lev) {x y : Int} (d : decode cc pc = .ok (.ladd, 1)) (k : Vl γ φ nL a Q S (pc + 1) lv (.long (lI (x + y)) :: st)) : Vl γ φ nL a Q S pc lv (.long (lI y) :: .long (lI x) :: st) := fun H locs ls hW hS hl => lv_ladd C.2.1 C.2.2.1 d (by rw [lI_add]; exact k H locs ls hW hS hl)
theorem x_i2l (C : Cx γ φ own cc nL lev) {x : Int} (hx : -2147483648 ≤ x ∧ x < 2147483648) (d : decode cc pc = .ok (.i2l, 1)) (k : Vl γ φ nL a Q S (pc + 1) lv (.long (lI x) :: st)) : Vl γ φ nL a Q S pc lv (.int (iI x) :: st) := fun H locs ls hW hS hl => lv_i2l C.2.1 C.2.2.1 d (iI_l hx) (k H locs ls hW hS hl)
theorem x_ishl (C : Cx γ φ own cc nL lev) {x y : Int} (d : decode cc pc = .ok (.ishl, 1)) (k : Vl γ φ nL a Q S (pc + 1) lv (.int (iI (iShl x y)) :: st)) : Vl γ φ nL a Q S pc lv (.int (iI y) :: .int (iI x) :: st) := fun H locs ls hW hS hl => lv_ishl C.2.1 C.2.2.1 d (by have h := k H locs ls hW hS hl; rw [show iI (iShl x y) = _ from iI_asI _] at h; exact h)
theorem x_ior (C : Cx γ φ own cc nL lev) {x y : Int} (d : decode cc pc = .ok (.ior, 1)) (k : Vl γ φ nL a Q S (pc + 1) lv (.int (iI (iOr x y)) :: st)) : Vl γ φ nL a Q S pc lv (.int (iI y) :: .int (iI x) :: st) := fun H locs ls hW hS hl => lv_ior C.2.1 C.2.2.1 d (by have h := k H locs ls hW hS hl; rw [show iI (iOr x y) = _ from iI_asI _] at h; exact h)
theorem x_iand (C : Cx γ φ own cc nL lev) {x y : Int} (d : decode cc pc = .ok (.iand, 1)) (k : Vl γ φ nL a Q S (pc + 1) lv (.int (iI (iAnd x y)) :: st)) : Vl γ φ nL a Q S pc lv (.int (iI y) :: .int (iI x) :: st) := fun H locs ls hW hS hl => lv_iand C.2.1 C.2.2.1 d (by have h := k H locs ls hW hS hl; rw [show iI (iAnd x y) = _ from iI_asI _] at h; exact h)
theorem x_dup (C : Cx γ φ own cc nL lev) {va : Value} (hva : va.category = 1) (d : decode cc pc = .ok (.dup, 1)) (k : Vl γ φ nL a Q S (pc + 1) lv (va :: va :: st)) : Vl γ φ nL a Q S pc lv (va :: st) := fun H locs ls hW hS hl => lv_dup C.2.1 C.2.2.1 d hva (k H locs ls hW hS hl)
theorem x_pop (C : Cx γ φ own cc nL lev) {va : Value} (hva : va.category = 1) (d : decode cc pc = .ok (.pop, 1)) (k : Vl γ φ nL a Q S (pc + 1) lv st) : Vl γ φ nL a Q S pc lv (va :: st) := fun H locs ls hW hS hl => lv_pop C.2.1 C.2.2.1 d hva (k H locs ls hW hS hl)
theorem x_goto (C : Cx γ φ own cc nL lev) {off : Int} (tgt : Nat) (d : decode cc pc = .ok (.goto off, 3)) (ht : (pc : Int) + off = (tgt : Int)) (k : Vl γ φ nL a Q S tgt lv st) : Vl γ φ nL a Q S pc lv st := fun H locs ls hW hS hl => lv_goto C.2.1 C.2.2.1 d ht (k H locs ls hW hS hl)
theorem x_tabIn (C : Cx γ φ own cc nL lev) {x dflt lo hi : Int} {offs : Array Int} {len : Nat} {off : Int} (tgt : Nat) (hx : -2147483648 ≤ x ∧ x < 2147483648) (d : decode cc pc = .ok (.tableswitch dflt lo hi offs, len)) (h1 : lo ≤ x ∧ x ≤ hi) (ho : offs[(x - lo).toNat]? = some off) (ht : (pc : Int) + off = (tgt : Int)) (k : Vl γ φ nL a Q S tgt lv st) : Vl γ φ nL a Q S pc lv (.int (iI x) :: st) := fun H locs ls hW hS hl => lv_tableIn C.2.1 C.2.2.1 d (by rw [iI_t hx]; omega) (by rw [iI_t hx]; omega) (by rw [iI_t hx]; exact ho) ht (k H locs ls hW hS hl)
theorem x_tabOut (C : Cx γ φ own cc nL lev) {x dflt lo hi : Int} {offs : Array Int} {len : Nat} (tgt : Nat) (hx : -2147483648 ≤ x ∧ x < 2147483648) (d : decode cc pc = .ok (.tableswitch dflt lo hi offs, len)) (h1 : x < lo ∨ hi < x) (ht : (pc : Int) + dflt = (tgt : Int)) (k : Vl γ φ nL a Q S tgt lv st) : Vl γ φ nL a Q S pc lv (.int (iI x) :: st) := fun H locs ls hW hS hl => lv_tableOut C.2.1 C.2.2.1 d (by rw [iI_t hx]; exact h1) ht (k H locs ls hW hS hl)
theorem x_lv (lv2 : List (Nat × Value)) (ks : List Nat) (hk : lv_pick lv ks = lv2) (k : Vl γ φ nL a Q S pc lv2 st) : Vl γ φ nL a Q S pc lv st := fun H locs ls hW hS hl => k H locs ls hW hS (lv_sub hl ks hk)
theorem x_st {S2 : St2} (e : S = S2) (k : Vl γ φ nL a Q S2 pc lv st) : Vl γ φ nL a Q S pc lv st := e ▸ k
theorem x_ti {x x2 : Int} (e : x = x2) (k : Vl γ φ nL a Q S pc lv (.int (iI x2) :: st)) : Vl γ φ nL a Q S pc lv (.int (iI x) :: st) := e ▸ k
theorem x_nm {x : Int} (k : ∀ z : Int, z = x → Vl γ φ nL a Q S pc lv (.int (iI z) :: st)) : Vl γ φ nL a Q S pc lv (.int (iI x) :: st) := k x rfl
theorem x_if_eq (C : Cx γ φ own cc nL lev) {x : Int} {off : Int} (tgt : Nat) (hx : -2147483648 ≤ x ∧ x < 2147483648) (d : decode cc pc = .ok (.ifCond .eq off, 3)) (ht : (pc : Int) + off = (tgt : Int)) (kt : x = 0 → Vl γ φ nL a Q S tgt lv st) (kf : ¬ x = 0 → Vl γ φ nL a Q S (pc + 3) lv st) : Vl γ φ nL a Q S pc lv (.int (iI x) :: st) := fun H locs ls hW hS hl => lv_if_eq C.2.1 C.2.2.1 d ht (fun h => kt (by rw [iI_0] at h; rw [iI_eq hx (by omega)] at h; exact h) H locs ls hW hS hl) (fun h => kf (by rw [iI_0] at h; rw [iI_eq hx (by omega)] at h; exact h) H locs ls hW hS hl)
theorem x_if_ne (C : Cx γ φ own cc nL lev) {x : Int} {off : Int} (tgt : Nat) (hx : -2147483648 ≤ x ∧ x < 2147483648) (d : decode cc pc = .ok (.ifCond .ne off, 3)) (ht : (pc : Int) + off = (tgt : Int)) (kt : ¬ x = 0 → Vl γ φ nL a Q S tgt lv st) (kf : x = 0 → Vl γ φ nL a Q S (pc + 3) lv st) : Vl γ φ nL a Q S pc lv (.int (iI x) :: st) := fun H locs ls hW hS hl => lv_if_ne C.2.1 C.2.2.1 d ht (fun h => kt (by rw [iI_0] at h; rw [iI_eq hx (by omega)] at h; exact h) H locs ls hW hS hl) (fun h => kf (by rw [iI_0] at h; rw [iI_eq hx (by omega)] at h; exact h) H locs ls hW hS hl)
theorem x_if_lt (C : Cx γ φ own cc nL lev) {x : Int} {off : Int} (tgt : Nat) (hx : -2147483648 ≤ x ∧ x < 2147483648) (d : decode cc pc = .ok (.ifCond .lt off, 3)) (ht : (pc : Int) + off = (tgt : Int)) (kt : x < 0 → Vl γ φ nL a Q S tgt lv st) (kf : ¬ x < 0 → Vl γ φ nL a Q S (pc + 3) lv st) : Vl γ φ nL a Q S pc lv (.int (iI x) :: st) := fun H locs ls hW hS hl => lv_if_lt C.2.1 C.2.2.1 d ht (fun h => kt (by rw [iI_0] at h; rw [iI_lt hx (by omega)] at h; exact h) H locs ls hW hS hl) (fun h => kf (by rw [iI_0] at h; rw [iI_lt hx (by omega)] at h; exact h) H locs ls hW hS hl)
theorem x_if_ge (C : Cx γ φ own cc nL lev) {x : Int} {off : Int} (tgt : Nat) (hx : -2147483648 ≤ x ∧ x < 2147483648) (d : decode cc pc = .ok (.ifCond .ge off, 3)) (ht : (pc : Int) + off = (tgt : Int)) (kt : 0 ≤ x → Vl γ φ nL a Q S tgt lv st) (kf : ¬ 0 ≤ x → Vl γ φ nL a Q S (pc + 3) lv st) : Vl γ φ nL a Q S pc lv (.int (iI x) :: st) := fun H locs ls hW hS hl => lv_if_ge C.2.1 C.2.2.1 d ht (fun h => kt (by rw [iI_0] at h; rw [iI_le (by omega) hx] at h; exact h) H locs ls hW hS hl) (fun h => kf (by rw [iI_0] at h; rw [iI_le (by omega) hx] at h; exact h) H locs ls hW hS hl)
theorem x_if_gt (C : Cx γ φ own cc nL lev) {x : Int} {off : Int} (tgt : Nat) (hx : -2147483648 ≤ x ∧ x < 2147483648) (d : decode cc pc = .ok (.ifCond .gt off, 3)) (ht : (pc : Int) + off = (tgt : Int)) (kt : 0 < x → Vl γ φ nL a Q S tgt lv st) (kf : ¬ 0 < x → Vl γ φ nL a Q S (pc + 3) lv st) : Vl γ φ nL a Q S pc lv (.int (iI x) :: st) := fun H locs ls hW hS hl => lv_if_gt C.2.1 C.2.2.1 d ht (fun h => kt (by rw [iI_0] at h; rw [iI_lt (by omega) hx] at h; exact h) H locs ls hW hS hl) (fun h => kf (by rw [iI_0] at h; rw [iI_lt (by omega) hx] at h; exact h) H locs ls hW hS hl)
theorem x_if_le (C : Cx γ φ own cc nL lev) {x : Int} {off : Int} (tgt : Nat) (hx : -2147483648 ≤ x ∧ x < 2147483648) (d : decode cc pc = .ok (.ifCond .le off, 3)) (ht : (pc : Int) + off = (tgt : Int)) (kt : x ≤ 0 → Vl γ φ nL a Q S tgt lv st) (kf : ¬ x ≤ 0 → Vl γ φ nL a Q S (pc + 3) lv st) : Vl γ φ nL a Q S pc lv (.int (iI x) :: st) := fun H locs ls hW hS hl => lv_if_le C.2.1 C.2.2.1 d ht (fun h => kt (by rw [iI_0] at h; rw [iI_le hx (by omega)] at h; exact h) H locs ls hW hS hl) (fun h => kf (by rw [iI_0] at h; rw [iI_le hx (by omega)] at h; exact h) H locs ls hW hS hl)
theorem x_icmp_eq (C : Cx γ φ own cc nL lev) {x y : Int} {off : Int} (tgt : Nat) (hx : -2147483648 ≤ x ∧ x < 2147483648) (hy : -2147483648 ≤ y ∧ y < 2147483648) (d : decode cc pc = .ok (.if_icmp .eq off, 3)) (ht : (pc : Int) + off = (tgt : Int)) (kt : x = y → Vl γ φ nL a Q S tgt lv st) (kf : ¬ x = y → Vl γ φ nL a Q S (pc + 3) lv st) : Vl γ φ nL a Q S pc lv (.int (iI y) :: .int (iI x) :: st) := fun H locs ls hW hS hl => lv_icmp_eq C.2.1 C.2.2.1 d ht (fun h => kt (by rw [iI_eq hx hy] at h; exact h) H locs ls hW hS hl) (fun h => kf (by rw [iI_eq hx hy] at h; exact h) H locs ls hW hS hl)
theorem x_icmp_ne (C : Cx γ φ own cc nL lev) {x y : Int} {off : Int} (tgt : Nat) (hx : -2147483648 ≤ x ∧ x < 2147483648) (hy : -2147483648 ≤ y ∧ y < 2147483648) (d : decode cc pc = .ok (.if_icmp .ne off, 3)) (ht : (pc : Int) + off = (tgt : Int)) (kt : ¬ x = y → Vl γ φ nL a Q S tgt lv st) (kf : x = y → Vl γ φ nL a Q S (pc + 3) lv st) : Vl γ φ nL a Q S pc lv (.int (iI y) :: .int (iI x) :: st) := fun H locs ls hW hS hl => lv_icmp_ne C.2.1 C.2.2.1 d ht (fun h => kt (by rw [iI_eq hx hy] at h; exact h) H locs ls hW hS hl) (fun h => kf (by rw [iI_eq hx hy] at h; exact h) H locs ls hW hS hl)
theorem x_icmp_lt (C : Cx γ φ own cc nL lev) {x y : Int} {off : Int} (tgt : Nat) (hx : -2147483648 ≤ x ∧ x < 2147483648) (hy : -2147483648 ≤ y ∧ y < 2147483648) (d : decode cc pc = .ok (.if_icmp .lt off, 3)) (ht : (pc : Int) + off = (tgt : Int)) (kt : x < y → Vl γ φ nL a Q S tgt lv st) (kf : ¬ x < y → Vl γ φ nL a Q S (pc + 3) lv st) : Vl γ φ nL a Q S pc lv (.int (iI y) :: .int (iI x) :: st) := fun H locs ls hW hS hl => lv_icmp_lt C.2.1 C.2.2.1 d ht (fun h => kt (by rw [iI_lt hx hy] at h; exact h) H locs ls hW hS hl) (fun h => kf (by rw [iI_lt hx hy] at h; exact h) H locs ls hW hS hl)
theorem x_icmp_ge (C : Cx γ φ own cc nL lev) {x y : Int} {off : Int} (tgt : Nat) (hx : -2147483648 ≤ x ∧ x < 2147483648) (hy : -2147483648 ≤ y ∧ y < 2147483648) (d : decode cc pc = .ok (.if_icmp .ge off, 3)) (ht : (pc : Int) + off = (tgt : Int)) (kt : y ≤ x → Vl γ φ nL a Q S tgt lv st) (kf : ¬ y ≤ x → Vl γ φ nL a Q S (pc + 3) lv st) : Vl γ φ nL a Q S pc lv (.int (iI y) :: .int (iI x) :: st) := fun H locs ls hW hS hl => lv_icmp_ge C.2.1 C.2.2.1 d ht (fun h => kt (by rw [iI_le hy hx] at h; exact h) H locs ls hW hS hl) (fun h => kf (by rw [iI_le hy hx] at h; exact h) H locs ls hW hS hl)
theorem x_icmp_gt (C : Cx γ φ own cc nL lev) {x y : Int} {off : Int} (tgt : Nat) (hx : -2147483648 ≤ x ∧ x < 2147483648) (hy : -2147483648 ≤ y ∧ y < 2147483648) (d : decode cc pc = .ok (.if_icmp .gt off, 3)) (ht : (pc : Int) + off = (tgt : Int)) (kt : y < x → Vl γ φ nL a Q S tgt lv st) (kf : ¬ y < x → Vl γ φ nL a Q S (pc + 3) lv st) : Vl γ φ nL a Q S pc lv (.int (iI y) :: .int (iI x) :: st) := fun H locs ls hW hS hl => lv_icmp_gt C.2.1 C.2.2.1 d ht (fun h => kt (by rw [iI_lt hy hx] at h; exact h) H locs ls hW hS hl) (fun h => kf (by rw [iI_lt hy hx] at h; exact h) H locs ls hW hS hl)
theorem x_icmp_le (C : Cx γ φ own cc nL lev) {x y : Int} {off : Int} (tgt : Nat) (hx : -2147483648 ≤ x ∧ x < 2147483648) (hy : -2147483648 ≤ y ∧ y < 2147483648) (d : decode cc pc = .ok (.if_icmp .le off, 3)) (ht : (pc : Int) + off = (tgt : Int)) (kt : x ≤ y → Vl γ φ nL a Q S tgt lv st) (kf : ¬ x ≤ y → Vl γ φ nL a Q S (pc + 3) lv st) : Vl γ φ nL a Q S pc lv (.int (iI y) :: .int (iI x) :: st) := fun H locs ls hW hS hl => lv_icmp_le C.2.1 C.2.2.1 d ht (fun h => kt (by rw [iI_le hx hy] at h; exact h) H locs ls hW hS hl) (fun h => kf (by rw [iI_le hx hy] at h; exact h) H locs ls hW hS hl)
def iShr (x y : Int) : Int := (iI x >>> (iI y &&& 31)).toInt
theorem x_wide {a' : Nat} (h1 : a ≤ a') (k : Vl γ φ nL a' Q S pc lv st) : Vl γ φ nL a Q S pc lv st := fun H locs ls hW hS hl => W.widen h1 (by omega) (k H locs ls hW hS hl)
theorem x_ret {rt : FieldType} (C : Cx γ φ own cc nL lev) (hab : a ≤ m) (hr : φ.2.2.2.2.2.2.2.1.sig.returnType = some rt) {x : Int} (hn : narrow rt (.int (iI x)) = .int (iI x)) (d : decode cc pc = .ok (.ireturn, 1)) (hz : x = z) (hS9 : S = S') : Vl γ φ nL a (QL γ φ m z S') S pc lv [.int (iI x)] := by
  subst hz
  subst hS9
  exact fun H locs ls hW hS hl => vx_ret (W.widen (k := m) (n := 6 * m) hab (by omega) (W.zret C.2.1 C.2.2.1 hr hn (fun t ht hWt => ⟨rfl, by rw [ht]; exact hW, hS.F ht⟩) hS.2.2 d C.2.2.2.2.2.2.1))
theorem x_go (arr : Array Value)
    (run : ∀ H locs ls, Wl γ S H → va_S (Aw γ) φ.2.2.2.1.heap H locs → lv_has ls nL lv → vx_Run φ.1 γ.1 φ.2.1 φ.2.2.1 φ.2.2.2.1 φ.2.2.2.2.1 φ.2.2.2.2.2.1 φ.2.2.2.2.2.2.1 φ.2.2.2.2.2.2.2.1 φ.2.2.2.2.2.2.2.2 H locs a (6 * a) m (6 * m) (F0 φ.2.2.2.2.1 pc ls st0) st (Ql γ z S' arr) Xl (Aw γ))
    (k : Vl γ φ nL (a + m) Q S' (pc + 3) lv (.int (iI z) :: st)) : Vl γ φ nL a Q S pc lv st0 := by
  intro H locs ls hW hS hl T hT X
  rcases run H locs ls hW hS hl T hT X with ⟨v, st₀, t, T', L, h0, X', hL, e1, e2, ⟨hv, hWd, hF⟩, go⟩ | ⟨q, st₀, t, T', L, E, ce, h0, X', hL, e1, e2, hx, hce, hcv, hcl, stp⟩
  · cases hv
    obtain ⟨k1, k2, k3⟩ := vx_keep h0 e1 hS (fun _ _ h => h) (fun _ h => h) hL hF
    rw [← Nat.mul_add] at X'
    obtain ⟨t2, s2, q2⟩ := k T'.heap (locs ++ L) ls (by rw [e1]; exact hWd) k3 hl T' rfl X'
    exact ⟨t2, go _ s2, q2⟩
  · exact hx.elim
variable {y : MethodName} {bytes : ByteArray} {maxL lev2 n ix : Nat} {rt : Option FieldType} {as : List Value}
/-- a call of one of the law's own methods -/
theorem x_cs (C : Cx γ φ own cc nL lev) (hy : CyS γ y bytes maxL rt n) (hlink : Wrd γ (.methodLink own ix y)) (hM : Cl γ y (.code y bytes maxL rt) lev2 m as S z S') (d : decode cc pc = .ok (.invokestatic ix, 3)) (hn : as.length = n) (hst : st0 = as.reverse ++ st) (hl : lev2 + 1 ≤ lev) (hm : maxL ≤ 40) (hw : (st.map fun v => v.category).sum ≤ 8) (ha : a + m ≤ φ.2.2.1.cells ∧ 6 * (a + m) ≤ φ.2.2.1.slots)
    (k : Vl γ φ nL (a + m) Q S' (pc + 3) lv (.int (iI z) :: st)) : Vl γ φ nL a Q S pc lv st0 := by
  refine x_go (m := m) as.toArray (fun H locs ls hW hS hl9 => ?_) k
  obtain ⟨⟨h1, h2, h3, h4⟩, h5⟩ := hy
  have W0 := C.2.2.2.2.2.1.1
  have hf := C.2.2.2.2.2.2.2.1
  have hlo := C.2.2.2.2.2.2.2.2
  refine vx_runS (Ts := []) ⟨C.2.1, C.2.2.1, C.2.2.2.1, C.2.2.2.2.1, fun w h => nomatch h⟩ hM ⟨⟨rfl, rfl, ?_, ?_, fun w hw a' U hW9 => ?_, List.mem_cons_self, h3 _ _ W0, h4 _ _ W0, h1, h2, hlink _ _ W0⟩, h5 _ _ W0⟩ ⟨Pl.blind _ _ _, fun U hU hWU => ⟨rfl, C.2.2.2.2.2.1.nextA Aw_hi hS hU hWU, by rw [hU]; exact hW⟩⟩ rfl hn hl9.1 hst (lv_room hw) d ⟨ha.1, by omega⟩
  · show 10 + lev2 + 1 ≤ _
    omega
  · show 8 + (maxL + 11) + (400 + 60 * lev2) ≤ _
    omega
  · rw [List.mem_singleton] at hw
    subst hw
    exact h3 _ _ (State.WarmedH.trans W0 hW9)
/-- a call of one of the law's own methods that catch -/
theorem x_cw {hh : List (Nat × Nat × Nat × Nat)} (C : Cx γ φ own cc nL lev) (hy : (y.cls ≠ "java/lang/invoke/MethodHandle" ∧ y.cls ≠ "java/lang/invoke/VarHandle") ∧ (∀ sig, parseMethodDescriptor y.desc = some sig → n = sig.parameters.length) ∧ Wrd γ (.codeWith y bytes maxL rt hh) ∧ Wrd γ (.initialized y.cls) ∧ Wrd γ (.static y)) (hlink : Wrd γ (.methodLink own ix y)) (hM : Cl γ y (.codeWith y bytes maxL rt hh) lev2 m as S z S') (d : decode cc pc = .ok (.invokestatic ix, 3)) (hn : as.length = n) (hst : st0 = as.reverse ++ st) (hl : lev2 + 1 ≤ lev) (hm : maxL ≤ 40) (hw : (st.map fun v => v.category).sum ≤ 8) (ha : a + m ≤ φ.2.2.1.cells ∧ 6 * (a + m) ≤ φ.2.2.1.slots)
    (k : Vl γ φ nL (a + m) Q S' (pc + 3) lv (.int (iI z) :: st)) : Vl γ φ nL a Q S pc lv st0 := by
  refine x_go (m := m) as.toArray (fun H locs ls hW hS hl9 => ?_) k
  obtain ⟨h1, h2, h3, h4, h5⟩ := hy
  have W0 := C.2.2.2.2.2.1.1
  have hf := C.2.2.2.2.2.2.2.1
  have hlo := C.2.2.2.2.2.2.2.2
  refine vx_runSX (hh := hh) (Ts := []) ⟨C.2.1, C.2.2.1, C.2.2.2.1, C.2.2.2.2.1, fun w h => nomatch h⟩ hM ⟨⟨rfl, rfl, ?_, ?_, fun w hw a' U hW9 => ?_, List.mem_cons_self⟩, h3 _ _ W0, h4 _ _ W0, h1, h2, hlink _ _ W0, h5 _ _ W0⟩ ⟨Pl.blind _ _ _, fun U hU hWU => ⟨rfl, C.2.2.2.2.2.1.nextA Aw_hi hS hU hWU, by rw [hU]; exact hW⟩⟩ rfl hn hl9.1 hst (lv_room hw) d ⟨ha.1, by omega⟩
  · show 10 + lev2 + 1 ≤ _
    omega
  · show 8 + (maxL + 11) + (400 + 60 * lev2) ≤ _
    omega
  · rw [List.mem_singleton] at hw
    subst hw
    exact h3 _ _ (State.WarmedH.trans W0 hW9)
/-- a method of an object that never throws and changes nothing that is promised -/
theorem x_cv {w : Bool} {post : St → Int → St → Prop} (C : Cx γ φ own cc nL lev) (hy : CyV γ y bytes maxL rt n) (hlink : Wrd γ (.methodLink own ix y)) (hq : RX5 = y.cls) (hM : ∀ σ, CA σ (gat S w) → AOkA (gat S w) → Ct (gw γ w) y bytes maxL rt lev2 (.ref (bs (gw γ w) + 0) :: as) σ (pI (post σ))) (hp : ∀ σ x σ2, post σ x σ2 → x = z ∧ CA σ2 (gat S w)) (d : decode cc pc = .ok (.invokevirtual ix, 3)) (hn : as.length = n) (hst : st0 = as.reverse ++ .ref (bs (gw γ w)) :: st) (hl : lev2 + 1 ≤ lev) (hm : maxL ≤ 40) (hw : (st.map fun v => v.category).sum ≤ 8) (ha : a ≤ φ.2.2.1.cells ∧ 6 * a ≤ φ.2.2.1.slots)
    (k : Vl γ φ nL a Q S (pc + 3) lv (.int (iI z) :: st)) : Vl γ φ nL a Q S pc lv st0 := by
  intro H locs ls hW hS hl9
  obtain ⟨⟨h1, h2, h3, h4⟩, h5, h6⟩ := hy
  obtain ⟨q1, q2, q3, q4, q5, q6⟩ := cb_of C ⟨h1, h2, h3, h4⟩ hl hm
  have W0 := C.2.2.2.2.2.1.1
  obtain ⟨hO, hQ⟩ := hW
  cases w
  · obtain ⟨σ, hWd, hC, hA⟩ := hO
    have he := wl_get γ σ (show 0 < 255 by decide)
    rw [sh_0] at he
    have hrec := va_recv C.K hWd.1 (ci := 3) rfl he
    rw [show ((RX5, TX5, 7) : vw_C).1 = y.cls from hq] at hrec
    intro T hT X
    have run := va_runV (args := φ.2.2.2.2.2.1) (below := φ.2.2.2.2.2.2.1) (meth := φ.2.2.2.2.2.2.2.1) (e := φ.2.1) (Ts := []) (H := H) (locs := locs) (cells := a) (slots := 6 * a) (rest := st) (g := F0 φ.2.2.2.2.1 pc ls st0) ⟨C.2.1, C.2.2.1, C.2.2.2.1, C.2.2.2.2.1, fun w h => nomatch h⟩ (hM σ hC hA) ⟨⟨q1, q2, q3, q4, q5, q6, h3 _ _ W0, h4 _ _ W0, h1, h2, hlink _ _ W0⟩, h5 _ _ W0, h6 _ _ W0⟩ ⟨Pcc.blind _ _ _, hrec, fun U hU hWU => ⟨rfl, C.2.2.2.2.2.1.nextA Aw_hi hS hU hWU, by rw [hU]; exact hWd⟩⟩ rfl hn hl9.1 hst (lv_room hw) d ⟨by omega, by omega⟩
    obtain ⟨v, st₀, t, T', L, h0, X', hL, e1, e2, ⟨v', σ', hv, ⟨x, rfl, hz⟩, hWd', hF⟩, go⟩ := run T hT X
    cases hv
    obtain ⟨rfl, hC'⟩ := hp _ _ _ hz
    obtain ⟨k1, k2, k3⟩ := vx_keep h0 e1 hS (fun _ _ h => Ar_Aw false h) (fun _ h => Ar_Aw false h) hL hF
    obtain ⟨t2, s2, q2⟩ := k T'.heap (locs ++ L) ls ⟨⟨σ', by rw [e1]; exact hWd', hC', hA⟩, hQ.frame (fun q u v => k2 q u (fun z => Ar_apart z v))⟩ k3 hl9 T' rfl X'
    exact ⟨t2, go _ s2, q2⟩
  · obtain ⟨σ, hWd, hC, hA⟩ := hQ
    have he := wl_get (gq γ) σ (show 0 < 255 by decide)
    rw [sh_0] at he
    have hrec := va_recv C.K hWd.1 (ci := 3) rfl he
    rw [show ((RX5, TX5, 7) : vw_C).1 = y.cls from hq] at hrec
    intro T hT X
    have run := va_runV (args := φ.2.2.2.2.2.1) (below := φ.2.2.2.2.2.2.1) (meth := φ.2.2.2.2.2.2.2.1) (e := φ.2.1) (Ts := []) (H := H) (locs := locs) (cells := a) (slots := 6 * a) (rest := st) (g := F0 φ.2.2.2.2.1 pc ls st0) ⟨C.2.1, C.2.2.1, C.2.2.2.1, C.2.2.2.2.1, fun w h => nomatch h⟩ (hM σ hC hA) ⟨⟨q1, q2, q3, q4, q5, q6, h3 _ _ W0, h4 _ _ W0, h1, h2, hlink _ _ W0⟩, h5 _ _ W0, h6 _ _ W0⟩ ⟨Pcc.blind _ _ _, hrec, fun U hU hWU => ⟨rfl, C.2.2.2.2.2.1.nextA Aw_hi hS hU hWU, by rw [hU]; exact hWd⟩⟩ rfl hn hl9.1 hst (lv_room hw) d ⟨by omega, by omega⟩
    obtain ⟨v, st₀, t, T', L, h0, X', hL, e1, e2, ⟨v', σ', hv, ⟨x, rfl, hz⟩, hWd', hF⟩, go⟩ := run T hT X
    cases hv
    obtain ⟨rfl, hC'⟩ := hp _ _ _ hz
    obtain ⟨k1, k2, k3⟩ := vx_keep h0 e1 hS (fun _ _ h => Ar_Aw true h) (fun _ h => Ar_Aw true h) hL hF
    obtain ⟨t2, s2, q2⟩ := k T'.heap (locs ++ L) ls ⟨hO.frame (fun q u v => k2 q u (fun z => Ar_apart v z)), ⟨σ', by rw [e1]; exact hWd', hC', hA⟩⟩ k3 hl9 T' rfl X'
    exact ⟨t2, go _ s2, q2⟩
/-- what the world says of the states -/
theorem x_ok (k : AOkA S.1 → AOkA S.2 → Vl γ φ nL a Q S pc lv st) : Vl γ φ nL a Q S pc lv st := fun H locs ls hW hS hl => by
  obtain ⟨⟨σ, u1, u2, h1⟩, ⟨τ, v1, v2, h2⟩⟩ := hW
  exact k h1 h2 H locs ls ⟨⟨σ, u1, u2, h1⟩, ⟨τ, v1, v2, h2⟩⟩ hS hl
end XR
