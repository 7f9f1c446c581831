/-! the world: one map from cell numbers to rows of whole numbers, for the class's and the model's objects together -/
abbrev St : Type := Nat → Int → Int
abbrev Gm : Type := Launch × State × Array Value × va_G × (Nat → ClassId) × (Nat → Nat)
abbrev Fx : Type := Program × Env × Room × State × MethodId × Array Value × List Frame × Method × Code
def bs (γ : Gm) : Nat := γ.2.1.heap.size + γ.2.2.2.2.2 6
def Ar (γ : Gm) : Nat → Prop := fun q => bs γ ≤ q ∧ q < bs γ + 255
def setc (σ : St) (c : Nat) (r : Int → Int) : St := fun k => if k = c then r else σ k
def upr (r : Int → Int) (j z : Int) : Int → Int := fun i => if i = j then z else r i
theorem setc_at (σ : St) (c : Nat) (r : Int → Int) : setc σ c r c = r := if_pos rfl
theorem setc_ne (σ : St) {c k : Nat} (r : Int → Int) (h : k ≠ c) : setc σ c r k = σ k := if_neg h
theorem setc_setc (σ : St) (c : Nat) (r r' : Int → Int) : setc (setc σ c r) c r' = setc σ c r' := by
  funext k
  unfold setc
  by_cases h : k = c
  · rw [if_pos h, if_pos h]
  · rw [if_neg h, if_neg h, if_neg h]
theorem setc_eta (σ : St) (c : Nat) : setc σ c (σ c) = σ := by
  funext k
  unfold setc
  by_cases h : k = c
  · rw [if_pos h, h]
  · rw [if_neg h]
theorem upr_at (r : Int → Int) (j z : Int) : upr r j z j = z := if_pos rfl
theorem upr_ne (r : Int → Int) {j i : Int} (z : Int) (h : i ≠ j) : upr r j z i = r i := if_neg h
-- classes whose objects the world holds
abbrev classes : List vw_C := [(RX1, TX1, 3), (RX2, TX2, 16), (RX4, TX4, 5), (RX5, TX5, 7)]
def tys (γ : Gm) : List (ClassId × FieldType) := [(γ.2.2.2.2.1 0, .int), (γ.2.2.2.2.1 1, .char), (γ.2.2.2.2.1 2, .boolean), (γ.2.2.2.2.1 3, .int), (γ.2.2.2.2.1 4, .object RX2)]
/-- the kinds of the cells: (0, n) ints, (1, n) chars, (2, n) booleans, (3, n) longs, (4, n) nets, (5, k) an object of classes[k] -/
def shN : List (Nat × Nat) := [(5, 1), (0, 2), (0, 10), (0, 10), (0, 10), (0, 20), (0, 20), (0, 16), (0, 16), (0, 16), (0, 16), (0, 96), (0, 20)]
def shT : List (Nat × Nat) := [(5, 3), (5, 2), (1, 120), (0, 5)] ++ (shN ++ ([(5, 0), (4, 14)] ++ ((List.replicate 14 shN).flatten ++ ([(4, 2), (2, 2)] ++ (shN ++ (shN ++ (shN ++ (shN))))))))
def sh (c : Nat) : Nat × Nat := shT.getD c (9, 0)
def nref (c j : Nat) : Nat := if c = 18 then 19 + 13 * j else 229 + 13 * j
def obF (γ : Gm) (ci c : Nat) (r : Int → Int) : List Value := match ci with
  | 0 => [.int (iI (r 0)), .int (iI (r 1)), .ref (bs γ + (c + 1))]
  | 1 => [.int (iI (r 0)), .int (iI (r 1)), .int (iI (r 2)), .int (iI (r 3)), .ref (bs γ + (c + 1)), .ref (bs γ + (c + 2)), .ref (bs γ + (c + 3)), .ref (bs γ + (c + 4)), .ref (bs γ + (c + 5)), .ref (bs γ + (c + 6)), .ref (bs γ + (c + 7)), .ref (bs γ + (c + 8)), .ref (bs γ + (c + 9)), .ref (bs γ + (c + 10)), .ref (bs γ + (c + 11)), .ref (bs γ + (c + 12))]
  | 2 => [.ref (bs γ + (c + 1)), .int (iI (r 1)), .int (iI (r 2)), .int (iI (r 3)), .ref (bs γ + (c + 2))]
  | _ => [.ref (bs γ + (c + 1)), .ref (bs γ + (c + 4)), .ref (bs γ + (c + 17)), .ref (bs γ + (c + 201)), .ref (bs γ + (c + 202)), .ref (bs γ + (c + 203)), .ref (bs γ + (c + 216))]
def cellK (γ : Gm) (k : Nat × Nat) (c : Nat) (r : Int → Int) : va_E := match k.1 with
  | 0 => .inl (γ.2.2.2.2.1 0, k.2, .inl (fun j => iI (r (j : Int))))
  | 1 => .inl (γ.2.2.2.2.1 1, k.2, .inl (fun j => iI (r (j : Int))))
  | 2 => .inl (γ.2.2.2.2.1 2, k.2, .inl (fun j => iI (r (j : Int))))
  | 3 => .inl (γ.2.2.2.2.1 3, k.2, .inr (.inl (fun j => lI (r (j : Int)))))
  | 4 => .inl (γ.2.2.2.2.1 4, k.2, .inr (.inr (.inr (.inr (fun j => some (bs γ + nref c j))))))
  | _ => .inr (k.2, obF γ k.2 c r)
def wl (γ : Gm) (σ : St) : va_W := (List.range 255).map (fun c => (bs γ + c, cellK γ (sh c) c (σ c)))
/-- numbers that a world can hold: ints, and nothing behind a row's end -/
def Ok (σ : St) : Prop := (∀ c j, -2147483648 ≤ σ c j ∧ σ c j < 2147483648) ∧ ∀ c j, (sh c).1 < 4 → (j < 0 ∨ ((sh c).2 : Int) ≤ j) → σ c j = 0
def Wd (γ : Gm) (σ : St) (H : Heap) : Prop := va_P γ.2.2.2.1 classes (wl γ σ) H ∧ Ok σ
theorem wl_get (γ : Gm) (σ : St) {c : Nat} (h : c < 255) : (wl γ σ)[c]? = some (bs γ + c, cellK γ (sh c) c (σ c)) := by
  unfold wl
  rw [List.getElem?_map, List.getElem?_range h]
  rfl
theorem wl_set (γ : Gm) (σ : St) (c : Nat) (r : Int → Int) : (wl γ σ).set c (bs γ + c, cellK γ (sh c) c r) = wl γ (setc σ c r) := by
  apply List.ext_getElem?
  intro i
  unfold wl
  by_cases hi : i < 255
  · by_cases hc : c = i
    · subst hc
      rw [List.getElem?_set_self (by simpa using hi), List.getElem?_map, List.getElem?_range hi]
      simp [setc_at]
    · rw [List.getElem?_set_ne hc, List.getElem?_map, List.getElem?_map, List.getElem?_range hi]
      simp [setc_ne σ r (Ne.symm hc)]
  · rw [List.getElem?_eq_none (by simp; omega), List.getElem?_eq_none (by simp; omega)]
theorem wl_D (γ : Gm) (σ : St) : va_D (Ar γ) (wl γ σ) := by
  have key : ∀ (i : Nat) (p : Nat × va_E), (wl γ σ)[i]? = some p → p.1 = bs γ + i := by
    intro i p h
    have hi : i < 255 := by
      have := (List.getElem?_eq_some_iff.mp h).1
      simpa [wl] using this
    rw [wl_get γ σ hi] at h
    cases h
    rfl
  refine ⟨fun i j p q hi hj h => ?_, fun k q h => ?_⟩
  · have h1 := key i p hi
    have h2 := key j q hj
    omega
  · have h1 := key k q h
    have h2 : k < 255 := by
      have := (List.getElem?_eq_some_iff.mp h).1
      simpa [wl] using this
    show bs γ ≤ q.1 ∧ q.1 < bs γ + 255
    omega
theorem sh_lt {c : Nat} (h : (sh c).1 ≠ 9) : c < 255 := by
  rcases Nat.lt_or_ge c 255 with q | q
  · exact q
  · refine absurd ?_ h
    unfold sh
    rw [List.getD_eq_getElem?_getD, List.getElem?_eq_none]
    · rfl
    · have e : shT.length = 255 := by decide +kernel
      omega
theorem Wd.lt {γ : Gm} {σ : St} {H : Heap} (h : Wd γ σ H) {c : Nat} (hc : c < 255) : bs γ + c < H.size := (h.1 c _ (wl_get γ σ hc)).lt
theorem Wd.r {γ : Gm} {σ : St} {H : Heap} (h : Wd γ σ H) (c : Nat) (j : Int) : -2147483648 ≤ σ c j ∧ σ c j < 2147483648 := h.2.1 c j
theorem cellK_upd (γ : Gm) {k : Nat × Nat} (hk : k.1 = 0 ∨ k.1 = 1 ∨ k.1 = 2) (c : Nat) (r : Int → Int) {z : Int} {j : Nat} : ∃ cA : ClassId, cA = γ.2.2.2.2.1 k.1 ∧ cellK γ k c (upr r (j : Int) z) = .inl (cA, k.2, .inl (upd (fun j => iI (r (j : Int))) j (iI z))) := by
  have key : (fun i : Nat => iI (upr r (j : Int) z (i : Int))) = upd (fun j => iI (r (j : Int))) j (iI z) := by
    funext i
    unfold upr upd
    by_cases h : i = j
    · subst h; simp
    · rw [if_neg h, if_neg (by omega)]
  obtain ⟨k1, k2⟩ := k
  refine ⟨_, rfl, ?_⟩
  dsimp only at hk
  rcases hk with rfl | rfl | rfl <;> (show Sum.inl _ = _; rw [← key])
-- the nets
def NetB (n : Nat) : Prop := n = 4 ∨ n = 203 ∨ n = 216 ∨ n = 229 ∨ n = 242 ∨ ∃ i : Nat, i < 14 ∧ n = 19 + 13 * i
def netL : List Nat := [4, 203, 216, 229, 242] ++ (List.range 14).map (fun i => 19 + 13 * i)
theorem NetB.mem {n : Nat} (h : NetB n) : n ∈ netL := by
  unfold netL
  rcases h with h | h | h | h | h | ⟨i, hi, h⟩
  · subst h; decide
  · subst h; decide
  · subst h; decide
  · subst h; decide
  · subst h; decide
  · exact List.mem_append_right _ (List.mem_map.mpr ⟨i, List.mem_range.mpr hi, h.symm⟩)
theorem netL_sh : ∀ n ∈ netL, ∀ k, k < 13 → sh (n + k) = shN.getD k (9, 0) := by decide +kernel
theorem NetB.sh {n : Nat} (h : NetB n) {k : Nat} (hk : k < 13) : sh (n + k) = shN.getD k (9, 0) := netL_sh n h.mem k hk
theorem NetB.lt {n : Nat} (h : NetB n) : n + 12 < 255 := by
  rcases h with h | h | h | h | h | ⟨i, hi, h⟩ <;> omega
def setN (σ : St) (n : Nat) (a : St) : St := fun c => if n ≤ c ∧ c < n + 13 then a (c - n) else σ c
def getN (σ : St) (n : Nat) : St := fun k => if k < 13 then σ (n + k) else fun _ => 0
theorem setN_at (σ : St) (n : Nat) (a : St) {k : Nat} (hk : k < 13) : setN σ n a (n + k) = a k := by
  unfold setN
  rw [if_pos ⟨by omega, by omega⟩, Nat.add_sub_cancel_left]
theorem setN_out (σ : St) (n : Nat) (a : St) {c : Nat} (h : c < n ∨ n + 13 ≤ c) : setN σ n a c = σ c := by
  unfold setN
  rw [if_neg (by omega)]
theorem setN_setN (σ : St) (n : Nat) (a b : St) : setN (setN σ n a) n b = setN σ n b := by
  funext c
  unfold setN
  by_cases h : n ≤ c ∧ c < n + 13
  · rw [if_pos h, if_pos h]
  · rw [if_neg h, if_neg h, if_neg h]
theorem setN_eta (σ : St) (n : Nat) : setN σ n (getN σ n) = σ := by
  funext c
  unfold setN getN
  by_cases h : n ≤ c ∧ c < n + 13
  · rw [if_pos h, if_pos (by omega), show n + (c - n) = c by omega]
  · rw [if_neg h]
theorem setN_cong (σ : St) (n : Nat) {a b : St} (h : ∀ k, k < 13 → a k = b k) : setN σ n a = setN σ n b := by
  funext c
  unfold setN
  by_cases hc : n ≤ c ∧ c < n + 13
  · rw [if_pos hc, if_pos hc, h _ (by omega)]
  · rw [if_neg hc, if_neg hc]
theorem setc_setN (σ : St) (n : Nat) (a : St) {k : Nat} (hk : k < 13) (r : Int → Int) : setc (setN σ n a) (n + k) r = setN σ n (setc a k r) := by
  funext c
  unfold setc setN
  by_cases h : n ≤ c ∧ c < n + 13
  · rw [if_pos h, if_pos h]
    show _ = if c - n = k then r else a (c - n)
    by_cases hc : c = n + k
    · rw [if_pos hc, if_pos (by omega)]
    · rw [if_neg hc, if_neg (by omega)]
  · rw [if_neg h, if_neg h, if_neg (by omega)]
-- what holds of the launch, at the law's start
def tbN : Nat → String := fun k => match k with
  | 0 => "VALVE_NUMBERS" | 1 => "DUCT_NUMBERS" | 2 => "KEY_NUMBERS" | 3 => "LEAK_NUMBERS" | 4 => "TICK_NUMBERS" | _ => "NO_NUMBERS"
def tbL : Nat → List Int := fun k => match k with
  | 0 => [0, 4, 10, 99] | 1 => [0, 9, 0, 1, 0, 9, 0, 1, 1, 6] | 2 => [0, 9] | 3 => [0, 15, 0, 30] | 4 => [1, 99] | _ => []
def Glo (γ : Gm) : Prop := γ.1.stackTraces = false ∧ (∀ w ∈ lw_tbl, w.before γ.2.2.1 γ.2.1 = true) ∧ va_K γ.2.2.2.1 classes (tys γ) γ.2.1 ∧
  (∀ k, k < 6 → va_Z RX4 (tbN k) "[I" (.ref (γ.2.2.2.2.2 k)) (Ar γ) γ.2.1 γ.2.1.heap ∧ va_T .int (γ.2.2.2.2.2 k) (tbL k).length (fun j => .int (iI ((tbL k).getD j 0))) (Ar γ) γ.2.1 γ.2.1.heap) ∧
  vx_Zq Bundle.tN "UNASSIGNED_STACK" Bundle.steD (Ar γ) γ.2.1 γ.2.1.heap ∧ vx_Zq Bundle.tN "SUPPRESSED_SENTINEL" Bundle.listD (Ar γ) γ.2.1 γ.2.1.heap
/-- a later state of the same run -/
def Gs (γ : Gm) (s : State) : Prop := γ.2.1.WarmedH s.vm ∧ γ.2.1.heap.size ≤ s.heap.size ∧ ∀ q, q < γ.2.1.heap.size → s.heap[q]? = γ.2.1.heap[q]?
/-- a word that holds at every later state -/
def Wrd (γ : Gm) (w : Cond) : Prop := ∀ (a : Array Value) (U : State), γ.2.1.WarmedH U.vm → w.before a U = true
theorem wrd_of {γ : Gm} (G : Glo γ) {w : Cond} (k : Nat) (hm : lw_tbl[k]? = some w) (hg : goodWord w = true) : Wrd γ w := fun a U hW => word_at hW (good_of_word hg) (G.2.1 w (List.mem_of_getElem? hm))
def WrdN (γ : Gm) (w : Cond) : Prop := ∀ U : State, γ.2.1.WarmedH U.vm → va_Nw w U
theorem wrdN_of {γ : Gm} (G : Glo γ) {a h : String} {i : Nat} {y : MethodName} (k : Nat) (hm : lw_tbl[k]? = some (.methodLinkNest a i y h)) : WrdN γ (.methodLinkNest a i y h) := fun _ hW => va_Nw.warmM hW (va_Nw.of rfl (G.2.1 _ (List.mem_of_getElem? hm)))
def rmL (lev c s : Nat) : Room := { frames := 10 + lev, cells := c, slots := s, locals := 400 + 60 * lev }
/-- where a walk stands -/
def Cx (γ : Gm) (φ : Fx) (own : String) (cc : ByteArray) (nL lev : Nat) : Prop :=
  Glo γ ∧ φ.1.tables.exec = Jvm.exec ∧ φ.2.2.2.2.2.2.2.2.code = cc ∧ φ.2.2.2.2.2.2.2.2.maxLocals = nL ∧ φ.2.2.2.1.vm.findClass own = some φ.2.2.2.2.1.cls ∧ Gs γ φ.2.2.2.1 ∧ φ.2.2.2.2.2.2.2.1.locks = false ∧ 10 + lev ≤ φ.2.2.1.frames ∧ 400 + 60 * lev ≤ φ.2.2.1.locals
def Vw (γ : Gm) (φ : Fx) (nL a b : Nat) (Q : State → Prop) (σ : St) (pc : Nat) (lv : List (Nat × Value)) (st : List Value) : Prop :=
  ∀ (H : Heap) (locs : List Loc) (ls : Array Slot), Wd γ σ H → va_S (Ar γ) φ.2.2.2.1.heap H locs → lv_has ls nL lv →
    W φ.1 γ.1 φ.2.1 φ.2.2.1 φ.2.2.2.1 φ.2.2.2.2.1 φ.2.2.2.2.2.1 φ.2.2.2.2.2.2.1 φ.2.2.2.2.2.2.2.1 φ.2.2.2.2.2.2.2.2 H locs a b Q (F0 φ.2.2.2.2.1 pc ls st)
theorem Cx.K {γ : Gm} {φ : Fx} {own : String} {cc : ByteArray} {nL lev : Nat} (C : Cx γ φ own cc nL lev) : va_K γ.2.2.2.1 classes (tys γ) φ.2.2.2.1 := va_K.moved C.2.2.2.2.2.1.1.alike C.1.2.2.1
/-- a contract: from the world σ, with these arguments, it returns v in a world σ' of post -/
def Qcc (γ : Gm) (post : Option Value → St → Prop) : Array Value → State → Outcome → State → Prop := fun _ st oc t => ∃ (v : Option Value) (σ' : St), oc = .returned v ∧ post v σ' ∧ Wd γ σ' t.heap ∧ va_F (Ar γ) st t
def Pcc (γ : Gm) (as : List Value) (σ : St) : Array Value → State → Prop := va_Pc as (fun U => Gs γ U ∧ Wd γ σ U.heap)
def Ct (γ : Gm) (y : MethodName) (cc : ByteArray) (maxL : Nat) (rt : Option FieldType) (lev : Nat) (as : List Value) (σ : St) (post : Option Value → St → Prop) : Prop :=
  Met γ.1 y [.code y cc maxL rt] (rmL lev 0 0) (Pcc γ as σ) (Qcc γ post) 0 0 (Ar γ)
def QE (γ : Gm) (φ : Fx) (post : Option Value → St → Prop) : State → Prop := MQ φ.2.2.2.2.2.2.1 (Qcc γ post) φ.2.2.2.2.2.1 φ.2.2.2.1 0 0 (Ar γ)
theorem Pcc.blind (γ : Gm) (as : List Value) (σ : St) : FrameBlind (Pcc γ as σ) := fun _ _ _ _ q => q
theorem Gs.next {γ : Gm} {s U : State} {H : Heap} {locs : List Loc} (h : Gs γ s) (hS : va_S (Ar γ) s.heap H locs) (hU : U.heap = H) (hW : s.WarmedH U.vm) : Gs γ U := by
  obtain ⟨h1, h2, h3⟩ := h
  refine ⟨State.WarmedH.trans h1 hW, ?_, fun q hq => ?_⟩
  · rw [hU]; exact Nat.le_trans h2 hS.1
  · rw [hU, hS.2.1 q (Nat.lt_of_lt_of_le hq h2) (fun z => absurd (show bs γ ≤ q from z.1) (by unfold bs; omega))]
    exact h3 q hq
theorem Ct.of {γ : Gm} (G : Glo γ) {y : MethodName} {cc : ByteArray} {maxL lev : Nat} {rt : Option FieldType} {as : List Value} {σ : St} {post : Option Value → St → Prop} (hy : plainName y.cls = true) (hL : (lg_sl as).length ≤ maxL)
    (body : ∀ φ : Fx, Cx γ φ y.cls cc maxL lev → φ.2.2.2.2.2.2.2.1.sig.returnType = rt → Vw γ φ maxL 0 0 (QE γ φ post) σ 0 (lv_args 0 as) []) : Ct γ y cc maxL rt lev as σ post := by
  refine Met.ofW (cc := cc) (maxL := maxL) (ret := rt) hy rfl ?_
  intro p e s m args below meth c s₁ B hml hv
  obtain ⟨rfl, hG, hWd⟩ := hv
  have hown : s.vm.findClass y.cls = some m.cls := findClass_of_methodNamed B.named
  have h := body (p, e, rmL lev 0 0, s, m, as.toArray, below, meth, c) ⟨G, B.exec, B.bytes, hml, hown, hG, B.notSynchronized, Nat.le_refl _, Nat.le_refl _⟩ B.returns s.heap [] _ hWd va_S.rf (lv_entry as hL)
  rw [lg_entry_eq]
  exact h
/-- a contract whose answer is an int -/
abbrev pI (post : Int → St → Prop) : Option Value → St → Prop := fun v σ' => ∃ z : Int, v = some (.int (iI z)) ∧ post z σ'
abbrev pL (post : Int → St → Prop) : Option Value → St → Prop := fun v σ' => ∃ z : Int, v = some (.long (lI z)) ∧ post z σ'
abbrev pR (post : Nat → St → Prop) : Option Value → St → Prop := fun v σ' => ∃ z : Nat, v = some (.ref z) ∧ post z σ'
abbrev pV (post : St → Prop) : Option Value → St → Prop := fun v σ' => v = none ∧ post σ'
theorem Ct.weak {γ : Gm} {y : MethodName} {cc : ByteArray} {maxL lev : Nat} {rt : Option FieldType} {as : List Value} {σ : St} {post post' : Option Value → St → Prop} (h : Ct γ y cc maxL rt lev as σ post) (hp : ∀ v σ', post v σ' → post' v σ') : Ct γ y cc maxL rt lev as σ post' := by
  intro p e h1 h2 h3 s m args below h4 h5 h6 h7
  obtain ⟨n, o, g1, g2, g3, ⟨v, σ', e1, e2, e3⟩, g4⟩ := h p e h1 h2 h3 s m args below h4 h5 h6 h7
  exact ⟨n, o, g1, g2, g3, ⟨v, σ', e1, hp _ _ e2, e3⟩, g4⟩
def Cy (γ : Gm) (y : MethodName) (bytes : ByteArray) (maxL : Nat) (rt : Option FieldType) (n : Nat) : Prop :=
  (y.cls ≠ "java/lang/invoke/MethodHandle" ∧ y.cls ≠ "java/lang/invoke/VarHandle") ∧ (∀ sig, parseMethodDescriptor y.desc = some sig → n = sig.parameters.length) ∧ Wrd γ (.code y bytes maxL rt) ∧ Wrd γ (.initialized y.cls)
def CyS (γ : Gm) (y : MethodName) (bytes : ByteArray) (maxL : Nat) (rt : Option FieldType) (n : Nat) : Prop := Cy γ y bytes maxL rt n ∧ Wrd γ (.static y)
def CyV (γ : Gm) (y : MethodName) (bytes : ByteArray) (maxL : Nat) (rt : Option FieldType) (n : Nat) : Prop := Cy γ y bytes maxL rt n ∧ Wrd γ (.instanceMethod y) ∧ Wrd γ (.selects y.cls y y)
theorem cy_n {y : MethodName} {n : Nat} (h : (parseMethodDescriptor y.desc).map (fun d => d.parameters.length) = some n) : ∀ sig, parseMethodDescriptor y.desc = some sig → n = sig.parameters.length := fun sig e => by
  rw [e] at h
  exact (Option.some.inj h).symm
def WMax (γ : Gm) (own : String) (ix : Nat) : Prop := Wrd γ (.methodLink own ix Lib.Math.max.name) ∧ Wrd γ (.static Lib.Math.max.name) ∧ Wrd γ (.initialized "java/lang/Math") ∧ Wrd γ (.code Lib.Math.max.name Lib.Math.max.code 2 (some .int))
def WMin (γ : Gm) (own : String) (ix : Nat) : Prop := Wrd γ (.methodLink own ix Lib.Math.min.name) ∧ Wrd γ (.static Lib.Math.min.name) ∧ Wrd γ (.initialized "java/lang/Math") ∧ Wrd γ (.code Lib.Math.min.name Lib.Math.min.code 2 (some .int))
def WCpy (γ : Gm) (own : String) (ix : Nat) : Prop := Wrd γ (.methodLink own ix arraycopyName) ∧ Wrd γ (.native arraycopyName) ∧ Wrd γ (.static arraycopyName) ∧ Wrd γ (.initialized "java/lang/System")
