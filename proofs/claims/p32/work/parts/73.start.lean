/-! two objects are made -/
def A0 : Abs := (0, 0, fun _ => 0, newR, fun _ => 0, fun _ => 0, fun _ => 0)
theorem Ok_σ0 : Ok σ0 := by
  refine ⟨fun c j => ?_, fun c j h1 h2 => ?_⟩
  · unfold σ0
    repeat' split
    all_goals omega
  · unfold σ0
    by_cases h257 : c = 257
    · subst h257
      exact absurd h1 (by decide +kernel)
    · rw [if_neg h257]
      by_cases h02 : sh c = (0, 2)
      · rw [if_pos h02]
        rw [h02] at h2
        have h3 : j < 0 ∨ (2 : Int) ≤ j := h2
        rw [if_neg (by omega), if_neg (by omega)]
      · rw [if_neg h02]
theorem A0_ok : AOkA A0 := ⟨⟨by decide, by decide⟩, ⟨by decide, by decide⟩, fun j a b => absurd b (Int.not_lt.mpr a), Wf_newR, fun j a b => absurd b (Int.not_lt.mpr a), fun j hj => ⟨Or.inl rfl, fun h => absurd h (by decide : ¬ (0 : Int) = 1)⟩⟩
theorem A0_C : CA σ0 A0 := by
  have e : ∀ c, c ≠ 257 → sh c ≠ (0, 2) → ∀ j, σ0 c j = 0 := fun c h1 h2 j => by rw [σ0_z h1 h2]
  have hR : Rep (getN σ0 4) newR := by
    refine Rep_new ⟨?_, ?_, ?_, ?_, ?_, ?_⟩
    · exact e 4 (by decide) (by rw [sh_4]; decide) 0
    · exact e 4 (by decide) (by rw [sh_4]; decide) 1
    · exact e 4 (by decide) (by rw [sh_4]; decide) 2
    · exact e 4 (by decide) (by rw [sh_4]; decide) 3
    · show σ0 5 0 = 2
      rw [σ0_s (by decide) sh_5]
      rfl
    · show σ0 5 1 = 30
      rw [σ0_s (by decide) sh_5]
      rfl
  exact ⟨e 1 (by decide) (by rw [sh_1]; decide) 1, fun j a b => absurd b (Int.not_lt.mpr a), hR, MemR.zero _ (e 17 (by decide) (by rw [sh_17]; decide) 0) (e 17 (by decide) (by rw [sh_17]; decide) 1), fun j hj => ⟨e 202 (by decide) (by rw [sh_202]; decide) j, fun h => absurd h (by decide : ¬ (0 : Int) = 1)⟩⟩
theorem W1_0 {γ : Gm} {E : Nat → va_E} {H : Heap} (h : FN γ E 0 255) (hW : Wp γ E 255 H) : W1 γ A0 H := by
  refine ⟨σ0, ⟨fun c q hq => ?_, Ok_σ0⟩, A0_C, A0_ok⟩
  have hc : c < 255 := by
    have := (List.getElem?_eq_some_iff.mp hq).1
    simpa [wl] using this
  rw [wl_get γ σ0 hc] at hq
  cases hq
  exact h c (by omega) hc H (hW.1 c _ (WE_get γ E hc))
/-- the first stands, the second grows -/
def Vq (γ : Gm) (φ : Fx) (nL a b : Nat) (Q : State → Prop) (E : Nat → va_E) (m pc : Nat) (lv : List (Nat × Value)) (st : List Value) : Prop :=
  ∀ (H : Heap) (locs : List Loc) (ls : Array Slot), W1 γ A0 H → Wp (gq γ) E m H → va_S (Aw γ) φ.2.2.2.1.heap H locs → lv_has ls nL lv →
    W φ.1 γ.1 φ.2.1 φ.2.2.1 φ.2.2.2.1 φ.2.2.2.2.1 φ.2.2.2.2.2.1 φ.2.2.2.2.2.2.1 φ.2.2.2.2.2.2.2.1 φ.2.2.2.2.2.2.2.2 H locs a b Q (F0 φ.2.2.2.2.1 pc ls st)
section VQR
variable {γ : Gm} {φ : Fx} {own : String} {cc : ByteArray} {nL lev a b m : Nat} {Q : State → Prop} {E : Nat → va_E} {pc : Nat} {lv lv2 : List (Nat × Value)} {st st0 : List Value}
theorem q_from {E0 : Nat → va_E} (h : FN γ E0 0 255) (k : Vq γ φ nL a b Q E 0 pc lv st) : Vp γ φ nL a b Q E0 255 pc lv st := fun H locs ls hW hS hl => by
  refine k H locs ls (W1_0 h hW) ⟨fun k q hk => absurd hk (by simp [WE]), ?_⟩ hS hl
  rw [hW.2, bs_q]
theorem q_astore_n (C : Cx γ φ own cc nL lev) {k3 : Fin 4} {i : Nat} {x : Nat} (lv2 : List (Nat × Value)) (d : decode cc pc = .ok (.astore_n k3, 1)) (hi : (k3 : Nat) = i) (hn : i < nL) (hl2 : (i, Value.ref x) :: lv.filter (fun q => !(q.1 == i) && !(q.1 + 1 == i && q.2.category == 2)) = lv2) (k : Vq γ φ nL a b Q E m (pc + 1) lv2 st) : Vq γ φ nL a b Q E m pc lv (.ref x :: st) := fun H locs ls hO hW hS hl => lv_astore_n C.2.1 C.2.2.1 d hi hl hn hl2 (fun ls2 h2 => k H locs ls2 hO hW hS h2)
theorem q_dup (C : Cx γ φ own cc nL lev) {va : Value} (hva : va.category = 1) (d : decode cc pc = .ok (.dup, 1)) (k : Vq γ φ nL a b Q E m (pc + 1) lv (va :: va :: st)) : Vq γ φ nL a b Q E m pc lv (va :: st) := fun H locs ls hO hW hS hl => lv_dup C.2.1 C.2.2.1 d hva (k H locs ls hO hW hS hl)
theorem q_new (C : Cx γ φ own cc nL lev) {R0 : String} {T : u_T} {N ci ix : Nat} (hin : ∀ w ∈ u_ws R0 T N, w ∈ lw_tbl) (hg : ∀ w ∈ u_ws R0 T N, goodWord w = true) (ty0 : Nat → FieldType) (hty : ∀ k, k < N → parseFieldDescriptor (T k).2.2.1 = some (ty0 k)) (hcl : classes[ci]? = some (R0, T, N)) (h1 : Wrd γ (.classLink own ix R0)) (h2 : Wrd γ (.instantiable R0 N)) (h3 : Wrd γ (.initialized R0)) {fs : List Value} (hfs : ∀ j, j < N → defaultValue (ty0 j) = vp_V fs j) (hab : a + 1 ≤ φ.2.2.1.cells ∧ b + N ≤ φ.2.2.1.slots) (d : decode cc pc = .ok (.new ix, 3))
    (k : ∀ E1 : Nat → va_E, E1 m = .inr (ci, fs) → (∀ q, q ≠ m → E1 q = E q) → Vq γ φ nL (a + 1) (b + N) Q E1 (m + 1) (pc + 3) lv (.ref (bs (gq γ) + m) :: st)) : Vq γ φ nL a b Q E m pc lv st := fun H locs ls hO hW hS hl => by
  have W0 := C.2.2.2.2.2.1.1
  have hKn := C.K.1 ci _ hcl
  have hts : ∀ w ∈ u_ws R0 T N, w.before φ.2.2.2.2.2.1 φ.2.2.2.1 = true := fun w h => word_at W0 (good_of_word (hg w h)) (C.1.2.1 w (hin w h))
  refine W.newcK C.2.1 C.2.2.1 C.2.2.2.2.1 (h1 _ _ W0) (h2 _ _ W0) (h3 _ _ W0) rfl d hab.1 hab.2 hKn.2.1 hW.2 fun H1 kC hkC e1 z1 o1 => ?_
  refine k (upE E m (.inr (ci, fs))) (upE_at _ _ _) (fun q hq => upE_ne _ _ hq) H1 locs ls (hO.frame (fun q hq _ => o1 q (by rw [← hW.2]; exact hq))) (hW.push ⟨_, hcl, (u_born ty0 hts (fun _ h => h) hKn hkC e1 hty).to hfs⟩ (by rw [z1, hW.2]) (fun q hq => o1 q (by rw [← hW.2]; exact hq))) ?_ hl
  exact ⟨Nat.le_trans hS.1 (by rw [z1, hW.2]; omega), fun x g1 g2 => (o1 x (by rw [← hW.2]; exact Nat.lt_of_lt_of_le g1 hS.1)).trans (hS.2.1 x g1 g2), hS.2.2⟩
theorem Aw_q {q : Nat} (h : Aw (gq γ) q) : Aw γ q := by
  have h1 : bs (gq γ) ≤ q := h
  rw [bs_q] at h1
  show bs γ ≤ q
  omega
theorem q_ci {y : MethodName} {bytes : ByteArray} {maxL lev2 n ix mc ms c : Nat} {as : List Value} {post : (Nat → va_E) → Prop} (C : Cx γ φ own cc nL lev) (hy : Cy γ y bytes maxL none n ∧ Wrd γ (.instanceMethod y)) (hy1 : y.name = "<init>") (hlink : Wrd γ (.methodLink own ix y)) (hM : Cn (gq γ) y bytes maxL lev2 mc ms (.ref (bs (gq γ) + c) :: as) E m post) (d : decode cc pc = .ok (.invokespecial ix, 3)) (hn : as.length = n) (hst : st0 = as.reverse ++ .ref (bs (gq γ) + c) :: st) (hl : lev2 + 1 ≤ lev) (hm : maxL ≤ 40) (hw : (st.map fun v => v.category).sum ≤ 8) (hab : a + mc ≤ φ.2.2.1.cells ∧ b + ms ≤ φ.2.2.1.slots)
    (k : ∀ E' : Nat → va_E, post E' → Vq γ φ nL (a + mc) (b + ms) Q E' (m + mc) (pc + 3) lv st) : Vq γ φ nL a b Q E m pc lv st0 := by
  intro H locs ls hO hW hS hl9 T hT X
  obtain ⟨⟨h1, h2, h3, h4⟩, h5⟩ := hy
  have W0 := C.2.2.2.2.2.1.1
  have hf := C.2.2.2.2.2.2.2.1
  have hlo := C.2.2.2.2.2.2.2.2
  have run := va_runI (args := φ.2.2.2.2.2.1) (below := φ.2.2.2.2.2.2.1) (meth := φ.2.2.2.2.2.2.2.1) (e := φ.2.1) (Ts := []) (H := H) (locs := locs) (cells := a) (slots := b) (rest := st) (g := F0 φ.2.2.2.2.1 pc ls st0) ⟨C.2.1, C.2.2.1, C.2.2.2.1, C.2.2.2.2.1, fun w h => nomatch h⟩ hM ⟨⟨rfl, rfl, by show 10 + lev2 + 1 ≤ _; omega, by show 8 + (maxL + 11) + (400 + 60 * lev2) ≤ _; omega, fun w hw a' U hW9 => by rw [List.mem_singleton] at hw; subst hw; exact h3 _ _ (State.WarmedH.trans W0 hW9), List.mem_cons_self, h3 _ _ W0, h4 _ _ W0, h1, h2, hlink _ _ W0⟩, hy1, h5 _ _ W0⟩ ⟨Ppc.blind _ _ _ _, fun U hU hWU => ⟨rfl, C.2.2.2.2.2.1.nextA Aw_hi hS hU hWU, by rw [hU]; exact hW⟩⟩ rfl hn hl9.1 hst (lv_room hw) d hab
  obtain ⟨v, st₀, t, T', L, h0, X', hL, e1, e2, ⟨hv, E', hp, hWd, hF⟩, go⟩ := run T hT X
  cases hv
  obtain ⟨k1, k2, k3⟩ := vx_keep h0 e1 hS (fun _ _ h => Aw_q h) (fun _ h => Aw_q h) hL hF
  obtain ⟨t2, s2, q2⟩ := k E' hp T'.heap (locs ++ L) ls (hO.frame (fun q hq hA => k2 q hq (fun z => by
    have z1 : bs (gq γ) ≤ q := z
    have z2 := hA.2
    rw [bs_q] at z1
    omega))) (by rw [e1]; exact hWd) k3 hl9 T' rfl X'
  exact ⟨t2, go _ s2, q2⟩
theorem q_done {a' : Nat} (h : FN (gq γ) E 0 255) (ha : a ≤ a' ∧ b ≤ 6 * a') (k : Vl γ φ nL a' Q (A0, A0) pc lv st) : Vq γ φ nL a b Q E 255 pc lv st := fun H locs ls hO hW hS hl => W.widen ha.1 ha.2 (k H locs ls ⟨hO, W1_0 h hW⟩ hS hl)
theorem q_m {m' : Nat} (e : m = m') (k : Vq γ φ nL a b Q E m' pc lv st) : Vq γ φ nL a b Q E m pc lv st := e ▸ k
end VQR
/-! the script -/
def LE (γ : Gm) (φ : Fx) (b0 L : Nat) (xs : Nat → Int32) : Prop := va_X b0 L xs φ.2.2.2.1 φ.2.2.2.1.heap ∧ b0 < φ.2.2.2.1.heap.size ∧ ¬ Aw γ b0 ∧ L ≤ 260
def XS (xs : Nat → Int32) (j : Int) : Int := (xs j.toNat).toInt
theorem XS_r (xs : Nat → Int32) (j : Int) : -2147483648 ≤ XS xs j ∧ XS xs j < 2147483648 := iI_rng _
theorem x_sld {γ : Gm} {φ : Fx} {own : String} {cc : ByteArray} {nL lev a : Nat} {Q : State → Prop} {S : St2} {pc : Nat} {lv : List (Nat × Value)} {st : List Value} (C : Cx γ φ own cc nL lev) {b0 L : Nat} {xs : Nat → Int32} (E : LE γ φ b0 L xs) {j : Int} (hj : 0 ≤ j ∧ j < L) (d : decode cc pc = .ok (.iaload, 1)) (k : Vl γ φ nL a Q S (pc + 1) lv (.int (iI (XS xs j)) :: st)) : Vl γ φ nL a Q S pc lv (.int (iI j) :: .ref b0 :: st) := fun H locs ls hW hS hl => by
  have hL := E.2.2.2
  refine va_sld C.2.1 C.2.2.1 E.1 E.2.1 E.2.2.1 hS (iI_in hj (by omega)) d ?_
  rw [iI_cl (by omega)]
  have h := k H locs ls hW hS hl
  rw [show iI (XS xs j) = xs j.toNat from iI_asI _] at h
  exact h
theorem x_slen {γ : Gm} {φ : Fx} {own : String} {cc : ByteArray} {nL lev a : Nat} {Q : State → Prop} {S : St2} {pc : Nat} {lv : List (Nat × Value)} {st : List Value} (C : Cx γ φ own cc nL lev) {b0 L : Nat} {xs : Nat → Int32} (E : LE γ φ b0 L xs) (d : decode cc pc = .ok (.arraylength, 1)) (k : Vl γ φ nL a Q S (pc + 1) lv (.int (iI (L : Int)) :: st)) : Vl γ φ nL a Q S pc lv (.ref b0 :: st) := fun H locs ls hW hS hl => by
  refine va_slen C.2.1 C.2.2.1 E.1 E.2.1 E.2.2.1 hS d ?_
  have h := k H locs ls hW hS hl
  rw [show iI (L : Int) = Int32.ofNat L from Int32.ofInt_eq_ofNat] at h
  exact h
def ceV (xs : Nat → Int32) (L : Nat) (k : Int) : Int := iAnd (if k < (L : Int) then XS xs k else 15519731 * (k + 3) + 11743) 2147483647
theorem iAnd_M (x : Int) : 0 ≤ iAnd x 2147483647 ∧ iAnd x 2147483647 < 2147483648 := by
  unfold iAnd
  have h : (iI x &&& iI 2147483647).toBitVec.toNat = (iI x).toBitVec.toNat % 2147483648 := by
    rw [Int32.toBitVec_and, BitVec.toNat_and, show (iI 2147483647).toBitVec.toNat = 2 ^ 31 - 1 from by decide, Nat.and_two_pow_sub_one_eq_mod]
  have h2 : (iI x &&& iI 2147483647).toInt = ((iI x &&& iI 2147483647).toBitVec.toNat : Int) := BitVec.toInt_eq_toNat_of_lt (by omega)
  omega
theorem iAnd_7 (x : Int) : 0 ≤ iAnd x 7 ∧ iAnd x 7 ≤ 7 := by
  unfold iAnd
  have h : (iI x &&& iI 7).toBitVec.toNat = (iI x).toBitVec.toNat % 8 := by
    rw [Int32.toBitVec_and, BitVec.toNat_and, show (iI 7).toBitVec.toNat = 2 ^ 3 - 1 from by decide, Nat.and_two_pow_sub_one_eq_mod]
  have h2 : (iI x &&& iI 7).toInt = ((iI x &&& iI 7).toBitVec.toNat : Int) := BitVec.toInt_eq_toNat_of_lt (by omega)
  omega
theorem ceV_r (xs : Nat → Int32) (L : Nat) (k : Int) : 0 ≤ ceV xs L k ∧ ceV xs L k < 2147483648 := iAnd_M _
def Pe (γ : Gm) (as : List Value) (S : St2) (b0 L : Nat) (xs : Nat → Int32) : Array Value → State → Prop := va_Pc as (fun U => Gs γ U ∧ Wl γ S U.heap ∧ va_X b0 L xs U U.heap ∧ b0 < U.heap.size)
theorem Pe.blind (γ : Gm) (as : List Value) (S : St2) (b0 L : Nat) (xs : Nat → Int32) : FrameBlind (Pe γ as S b0 L xs) := fun _ _ _ _ q => q
set_option maxRecDepth 100000 in
theorem k_cell {γ : Gm} (G : GL γ) {S : St2} {b0 L : Nat} {xs : Nat → Int32} {k : Int} (hb : ¬ Aw γ b0) (hL : L ≤ 260) (hk : 0 ≤ k ∧ k < 100) : vx_Met γ.1 yL_cell [.code yL_cell cL_cell 2 (some .int)] (rmL 1 0 0) (Pe γ [.ref b0, .int (iI k)] S b0 L xs) (Ql γ (ceV xs L k) S) Xl 0 (6 * 0) (Aw γ) := by
  refine vx_ofW (cc := cL_cell) (maxL := 2) (ret := some .int) (by decide +kernel) rfl ?_
  intro p e s m' args below meth c s₁ B hml ht hv
  obtain ⟨rfl, hG, hWd, hX, hlt⟩ := hv
  have hown : s.vm.findClass yL_cell.cls = some m'.cls := findClass_of_methodNamed B.named
  generalize hφ : ((p, e, rmL 1 0 0, s, m', ([.ref b0, .int (iI k)] : List Value).toArray, below, meth, c) : Fx) = φ
  have C : Cx γ φ RL cL_cell 2 1 := by rw [← hφ]; exact ⟨G.1, B.exec, B.bytes, hml, hown, hG, B.notSynchronized, Nat.le_refl _, Nat.le_refl _⟩
  have E : LE γ φ b0 L xs := by rw [← hφ]; exact ⟨hX, hlt, hb, hL⟩
  have hr : φ.2.2.2.2.2.2.2.1.sig.returnType = some .int := by rw [← hφ]; exact B.returns
  have h : Vl γ φ 2 0 (QL γ φ 0 (ceV xs L k) S) S 0 (lv_args 0 [.ref b0, .int (iI k)]) [] := by
    refine x_lv [(0, .ref b0), (1, .int (iI k))] [0, 1] rfl ?_
    refine x_iload_n (pc := 0) C 1 rfl dL_cell_0 ?_
    refine x_aload_n (pc := 1) C 0 rfl dL_cell_1 ?_
    refine x_slen (pc := 2) C E dL_cell_2 ?_
    suffices K : Vl γ φ 2 0 (QL γ φ 0 (ceV xs L k) S) S 22 [(0, .ref b0), (1, .int (iI k))] [.int (iI (if k < (L : Int) then XS xs k else 15519731 * (k + 3) + 11743))] by
      refine x_icmp_ge (pc := 3) C 12 (by omega) (by omega) dL_cell_3 (by decide) (fun h3 => ?_) (fun h3 => ?_)
      · refine x_ldc (pc := 12) C (wC_L_170 G.1) dL_cell_12 ?_
        refine x_iload_n (pc := 14) C 1 rfl dL_cell_14 ?_
        refine x_iconst (pc := 15) C dL_cell_15 ?_
        refine x_iadd (pc := 16) C dL_cell_16 ?_
        refine x_imul (pc := 17) C dL_cell_17 ?_
        refine x_sipush (pc := 18) C (by decide +kernel) dL_cell_18 ?_
        refine x_iadd (pc := 21) C dL_cell_21 ?_
        exact x_ti (x2 := (if k < (L : Int) then XS xs k else 15519731 * (k + 3) + 11743)) (by rw [if_neg (by omega)]) K
      · refine x_aload_n (pc := 6) C 0 rfl dL_cell_6 ?_
        refine x_iload_n (pc := 7) C 1 rfl dL_cell_7 ?_
        refine x_sld (pc := 8) C E (by omega) dL_cell_8 ?_
        refine x_goto (pc := 9) C 22 dL_cell_9 (by decide) ?_
        exact x_ti (x2 := (if k < (L : Int) then XS xs k else 15519731 * (k + 3) + 11743)) (by rw [if_pos (by omega)]) K
    refine x_ldc (pc := 22) C (wC_L_171 G.1) dL_cell_22 ?_
    refine x_iand (pc := 24) C dL_cell_24 ?_
    exact x_ret (pc := 25) C (by omega) hr rfl dL_cell_25 rfl rfl
  have h9 := h s.heap [] _ (by exact hWd) (by rw [← hφ]; exact va_S.rf) (lv_entry ([.ref b0, .int (iI k)]) (n := 2) (Nat.le_of_ble_eq_true rfl))
  rw [← hφ] at h9
  rw [lg_entry_eq]
  exact h9
theorem x_cell {γ : Gm} {φ : Fx} {own : String} {cc : ByteArray} {nL lev a : Nat} {Q : State → Prop} {S : St2} {pc : Nat} {lv : List (Nat × Value)} {st : List Value} {b0 L ix : Nat} {xs : Nat → Int32} {k : Int} (G : GL γ) (C : Cx γ φ own cc nL lev) (E : LE γ φ b0 L xs) (hlink : Wrd γ (.methodLink own ix yL_cell)) (hk : 0 ≤ k ∧ k < 100) (d : decode cc pc = .ok (.invokestatic ix, 3)) (hl : 2 ≤ lev) (hw : (st.map fun v => v.category).sum ≤ 8) (ha : a ≤ φ.2.2.1.cells ∧ 6 * a ≤ φ.2.2.1.slots)
    (kk : Vl γ φ nL a Q S (pc + 3) lv (.int (iI (ceV xs L k)) :: st)) : Vl γ φ nL a Q S pc lv (.int (iI k) :: .ref b0 :: st) := by
  refine x_go (m := 0) ([.ref b0, .int (iI k)] : List Value).toArray (fun H locs ls hW hS hl9 => ?_) kk
  obtain ⟨⟨h1, h2, h3, h4⟩, h5⟩ := cy_L_cell G.1
  have W0 := C.2.2.2.2.2.1.1
  have hf := C.2.2.2.2.2.2.2.1
  have hlo := C.2.2.2.2.2.2.2.2
  refine vx_runS (Ts := []) (As := [.ref b0, .int (iI k)]) (rest := st) ⟨C.2.1, C.2.2.1, C.2.2.2.1, C.2.2.2.2.1, fun w h => nomatch h⟩ (k_cell G (S := S) E.2.2.1 E.2.2.2 hk) ⟨⟨rfl, rfl, ?_, ?_, fun w hw a' U hW9 => ?_, List.mem_cons_self, h3 _ _ W0, h4 _ _ W0, h1, h2, hlink _ _ W0⟩, h5 _ _ W0⟩ ⟨Pe.blind _ _ _ _ _ _, fun U hU hWU => ⟨rfl, C.2.2.2.2.2.1.nextA Aw_hi hS hU hWU, by rw [hU]; exact hW, (va_X.moved hWU.alike E.1).kept (by rw [hU]; exact hS.2.1 b0 E.2.1 E.2.2.1), by rw [hU]; exact Nat.lt_of_lt_of_le E.2.1 hS.1⟩⟩ rfl rfl hl9.1 rfl (lv_room hw) d ⟨ha.1, by omega⟩
  · show 10 + 1 + 1 ≤ _
    omega
  · show 8 + (2 + 11) + (400 + 60 * 1) ≤ _
    omega
  · rw [List.mem_singleton] at hw
    subst hw
    exact h3 _ _ (State.WarmedH.trans W0 hW9)
/-! the four valves of the beginning -/
def kd9 (x c : Int) : Int := if c < 2 then 0 else iAnd (iShr x (3 * c)) 7 % 5
theorem kd9_r (x c : Int) : 0 ≤ kd9 x c ∧ kd9 x c ≤ 4 := by
  unfold kd9
  split
  · decide
  · have := iAnd_7 (iShr x (3 * c))
    omega
def IV (c : Int) (A : Abs) : Prop := AOkA A ∧ nA A 0 = c ∧ nA A 2 = 0 ∧ (∀ v, 0 ≤ v → v < c → AbV (nA A) v) ∧ (∀ i, i < 0 ∨ 268 ≤ i → nA A i = 0) ∧ (1 ≤ c → nA A 6 = 0) ∧ (2 ≤ c → nA A 13 = 0) ∧ (∃ L, DL A L ∧ Ch 0 (nA A 2) L) ∧ ∀ j, j = 0 ∨ j = 1 → ¬ iA A j = 1
theorem IV_0 : IV 0 A0 := ⟨A0_ok, rfl, rfl, fun v a b => absurd b (Int.not_lt.mpr a), fun i hi => by show newR i = 0; unfold newR; rw [if_neg (by omega), if_neg (by omega)], fun h => absurd h (by decide), fun h => absurd h (by decide), ⟨[], ⟨rfl, by decide, fun j x hx => by simp at hx⟩, trivial⟩, fun j _ h => absurd h (by decide : ¬ (0 : Int) = 1)⟩
theorem IV_s {c x : Int} {A : Abs} (h : IV c A) (hc : 0 ≤ c ∧ c < 4) : IV (c + 1) (st_tryValve A (kd9 x c) (20 + 15 * c)) ∧ an_tryValve A (kd9 x c) (20 + 15 * c) = c := by
  obtain ⟨hO, h0, h2, ha, hz, h6, h13, ⟨L, hD, hC⟩, hk⟩ := h
  have hkd := kd9_r x c
  have hO' : AOkA (st_tryValve A (kd9 x c) (20 + 15 * c)) := ok_valve hO _ _
  have e : op_valve A.1 A.2.1 A.2.2.1 A.2.2.2.1 A.2.2.2.2.1 A.2.2.2.2.2.1 A.2.2.2.2.2.2 (kd9 x c) (20 + 15 * c) = (0, nA A 0, (A.1, remA (aA A), A.2.2.1, valveR (nA A) (kd9 x c) (20 + 15 * c), remD (aA A) (nA A) (dA A), kA A, iA A)) := by
    unfold op_valve
    rw [if_neg (not_not_intro ⟨hkd, by omega⟩), if_neg (not_not_intro (show nA A 0 < 10 by omega))]
  have es : st_tryValve A (kd9 x c) (20 + 15 * c) = (A.1, remA (aA A), A.2.2.1, valveR (nA A) (kd9 x c) (20 + 15 * c), remD (aA A) (nA A) (dA A), kA A, iA A) := by unfold st_tryValve; rw [e]
  have o := fun i a b => valveR_old (r := nA A) (by omega) (k := kd9 x c) (s := 20 + 15 * c) (i := i) a b
  have nw := fun j hj => valveR_new (r := nA A) (by omega) (k := kd9 x c) (s := 20 + 15 * c) (j := j) hj
  refine ⟨?_, by unfold an_tryValve; rw [e, rv_z, bmz_e (by omega), h0]⟩
  rw [es] at hO' ⊢
  have e2 : valveR (nA A) (kd9 x c) (20 + 15 * c) 2 = 0 := (o 2 (by omega) (by omega)).trans h2
  refine ⟨hO', ?_, e2, fun v a b => ?_, fun i hi => ?_, fun q => ?_, fun q => ?_, ⟨_, hD.push hz _, ?_⟩, hk⟩
  · show valveR (nA A) (kd9 x c) (20 + 15 * c) 0 = c + 1
    rw [valveR_0, h0]
  · show AbV (valveR (nA A) (kd9 x c) (20 + 15 * c)) v
    unfold AbV
    by_cases q : v = nA A 0
    · left
      rw [q, nw 3 (by omega)]
      rfl
    · rw [o _ (by omega) (by omega), o (6 + 7 * v + 4) (by omega) (by omega)]
      exact ha v a (by omega)
  · show valveR (nA A) (kd9 x c) (20 + 15 * c) i = 0
    rw [o _ (by omega) (by omega)]
    exact hz i hi
  · show valveR (nA A) (kd9 x c) (20 + 15 * c) 6 = 0
    by_cases c0 : c = 0
    · have := nw 0 (by omega)
      rw [h0, c0] at this
      rw [show (6 : Int) = 6 + 7 * 0 + 0 from rfl, c0, this]
      rfl
    · rw [o _ (by omega) (by omega)]
      exact h6 (by omega)
  · show valveR (nA A) (kd9 x c) (20 + 15 * c) 13 = 0
    by_cases c1 : c = 1
    · have := nw 0 (by omega)
      rw [h0, c1] at this
      rw [show (13 : Int) = 6 + 7 * 1 + 0 from rfl, c1, this]
      rfl
    · rw [o _ (by omega) (by omega)]
      exact h13 (by omega)
  · show Ch 0 (valveR (nA A) (kd9 x c) (20 + 15 * c) 2) ((nA A :: L).take 14)
    exact ⟨Or.inr e2, Ch.take L (nA A 2) 13 hC⟩
theorem IV_4 {A : Abs} (h : IV 4 A) : Inv 0 A := by
  obtain ⟨hO, h0, h2, ha, hz, h6, h13, hL, hk⟩ := h
  exact ⟨hO, ⟨hO.wf, ⟨by omega, h6 (by decide), h13 (by decide)⟩, by omega, fun v a b => ha v a (by omega), hz⟩, hL, fun j hj hi => absurd hi (hk j hj)⟩
