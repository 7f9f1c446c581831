theorem iI_c {x : Int} (hx : 0 ≤ x ∧ x < 65536) : ((iI x).toUInt32 % 65536).toInt32 = iI x := by
  obtain ⟨n, rfl⟩ : ∃ n : Nat, x = n := ⟨x.toNat, by omega⟩
  have h1 : iI (n : Int) = nI n := Int32.ofInt_eq_ofNat
  rw [h1]
  have h2 := pk_char (nI n)
  rw [pk_tn (by omega), Nat.mod_eq_of_lt (by omega)] at h2
  exact h2
theorem vp_nar_cI {x : Int} (hx : 0 ≤ x ∧ x < 65536) : vp_nar .char (iI x) = iI x := by
  rw [vp_nar_char]
  obtain ⟨n, rfl⟩ : ∃ n : Nat, x = n := ⟨x.toNat, by omega⟩
  have h1 : iI (n : Int) = nI n := Int32.ofInt_eq_ofNat
  rw [h1, ← vp_nar_char]
  have h := (pk_charN (q := n) (by omega)).1
  unfold vp_nar
  rw [h]
theorem vp_nar_zI {x : Int} (hx : x = 0 ∨ x = 1) : vp_nar .boolean (iI x) = iI x := by
  rcases hx with rfl | rfl <;> rfl
theorem ok_up {σ : St} (h : Ok σ) {c0 : Nat} {j0 x : Int} (hx : -2147483648 ≤ x ∧ x < 2147483648) (hj : (sh c0).1 < 4 → 0 ≤ j0 ∧ j0 < ((sh c0).2 : Int)) : Ok (setc σ c0 (upr (σ c0) j0 x)) := by
  have key : ∀ c j, setc σ c0 (upr (σ c0) j0 x) c j = if c = c0 ∧ j = j0 then x else σ c j := by
    intro c j
    by_cases hc : c = c0
    · subst hc
      rw [setc_at]
      by_cases hj : j = j0
      · rw [hj, upr_at, if_pos ⟨rfl, rfl⟩]
      · rw [upr_ne _ _ hj, if_neg (fun q => hj q.2)]
    · rw [setc_ne _ _ hc, if_neg (fun q => hc q.1)]
  refine ⟨fun c j => ?_, fun c j hk ho => ?_⟩
  · rw [key]
    split
    · exact hx
    · exact h.1 c j
  · rw [key, if_neg]
    · exact h.2 c j hk ho
    · rintro ⟨rfl, rfl⟩
      have := hj hk
      omega
section VR
variable {γ : Gm} {φ : Fx} {own : String} {cc : ByteArray} {nL lev a b : Nat} {Q : State → Prop} {σ : St} {pc : Nat} {lv lv2 : List (Nat × Value)} {st : List Value}
theorem v_iconst (C : Cx γ φ own cc nL lev) {n : Int} (d : decode cc pc = .ok (.iconst n, 1)) (k : Vw γ φ nL a b Q σ (pc + 1) lv (.int (iI n) :: st)) : Vw γ φ nL a b Q σ pc lv st := fun H locs ls hW hS hl => lv_iconst C.2.1 C.2.2.1 d rfl (k H locs ls hW hS hl)
theorem v_bipush (C : Cx γ φ own cc nL lev) {n : Int} (hv : (Int8.ofInt n).toInt32 = iI n) (d : decode cc pc = .ok (.bipush n, 2)) (k : Vw γ φ nL a b Q σ (pc + 2) lv (.int (iI n) :: st)) : Vw γ φ nL a b Q σ pc lv st := fun H locs ls hW hS hl => lv_bipush C.2.1 C.2.2.1 d hv (k H locs ls hW hS hl)
theorem v_sipush (C : Cx γ φ own cc nL lev) {n : Int} (hv : (Int16.ofInt n).toInt32 = iI n) (d : decode cc pc = .ok (.sipush n, 3)) (k : Vw γ φ nL a b Q σ (pc + 3) lv (.int (iI n) :: st)) : Vw γ φ nL a b Q σ pc lv st := fun H locs ls hW hS hl => lv_sipush C.2.1 C.2.2.1 d hv (k H locs ls hW hS hl)
theorem v_lconst (C : Cx γ φ own cc nL lev) {n : Fin 2} {z : Int} (hv : Int64.ofNat (n : Nat) = lI z) (d : decode cc pc = .ok (.lconst n, 1)) (k : Vw γ φ nL a b Q σ (pc + 1) lv (.long (lI z) :: st)) : Vw γ φ nL a b Q σ pc lv st := fun H locs ls hW hS hl => lv_lconst C.2.1 C.2.2.1 d hv (k H locs ls hW hS hl)
theorem v_ldc (C : Cx γ φ own cc nL lev) {ix : Nat} {z : Int} (hw : Wrd γ (.constant own ix (iI z))) (d : decode cc pc = .ok (.ldc ix, 2)) (k : Vw γ φ nL a b Q σ (pc + 2) lv (.int (iI z) :: st)) : Vw γ φ nL a b Q σ pc lv st := fun H locs ls hW hS hl => lv_ldc C.2.1 C.2.2.1 C.2.2.2.2.1 (hw _ _ C.2.2.2.2.2.1.1) d (k H locs ls hW hS hl)
theorem v_ldc2 (C : Cx γ φ own cc nL lev) {ix : Nat} {z : Int} (hw : Wrd γ (.constantLong own ix (lI z))) (d : decode cc pc = .ok (.ldc2_w ix, 3)) (k : Vw γ φ nL a b Q σ (pc + 3) lv (.long (lI z) :: st)) : Vw γ φ nL a b Q σ pc lv st := fun H locs ls hW hS hl => lv_ldc2 C.2.1 C.2.2.1 C.2.2.2.2.1 (hw _ _ C.2.2.2.2.2.1.1) d (k H locs ls hW hS hl)
theorem v_iload_n (C : Cx γ φ own cc nL lev) {k3 : Fin 4} {x : Int} (k0 : Nat) (hk : lv[k0]? = some ((k3 : Nat), .int (iI x))) (d : decode cc pc = .ok (.iload_n k3, 1)) (k : Vw γ φ nL a b Q σ (pc + 1) lv (.int (iI x) :: st)) : Vw γ φ nL a b Q σ pc lv st := fun H locs ls hW hS hl => lv_iload_n C.2.1 C.2.2.1 d rfl (lv_at hl k0 hk) (k H locs ls hW hS hl)
theorem v_iload (C : Cx γ φ own cc nL lev) {i : Nat} {x : Int} (k0 : Nat) (hk : lv[k0]? = some (i, .int (iI x))) (d : decode cc pc = .ok (.iload i, 2)) (k : Vw γ φ nL a b Q σ (pc + 2) lv (.int (iI x) :: st)) : Vw γ φ nL a b Q σ pc lv st := fun H locs ls hW hS hl => lv_iload C.2.1 C.2.2.1 d (lv_at hl k0 hk) (k H locs ls hW hS hl)
theorem v_lload_n (C : Cx γ φ own cc nL lev) {k3 : Fin 4} {x : Int} (k0 : Nat) (hk : lv[k0]? = some ((k3 : Nat), .long (lI x))) (d : decode cc pc = .ok (.lload_n k3, 1)) (k : Vw γ φ nL a b Q σ (pc + 1) lv (.long (lI x) :: st)) : Vw γ φ nL a b Q σ pc lv st := fun H locs ls hW hS hl => lv_lload_n C.2.1 C.2.2.1 d rfl (lv_at hl k0 hk) (k H locs ls hW hS hl)
theorem v_lload (C : Cx γ φ own cc nL lev) {i : Nat} {x : Int} (k0 : Nat) (hk : lv[k0]? = some (i, .long (lI x))) (d : decode cc pc = .ok (.lload i, 2)) (k : Vw γ φ nL a b Q σ (pc + 2) lv (.long (lI x) :: st)) : Vw γ φ nL a b Q σ pc lv st := fun H locs ls hW hS hl => lv_lload C.2.1 C.2.2.1 d (lv_at hl k0 hk) (k H locs ls hW hS hl)
theorem v_aload_n (C : Cx γ φ own cc nL lev) {k3 : Fin 4} {x : Nat} (k0 : Nat) (hk : lv[k0]? = some ((k3 : Nat), .ref x)) (d : decode cc pc = .ok (.aload_n k3, 1)) (k : Vw γ φ nL a b Q σ (pc + 1) lv (.ref x :: st)) : Vw γ φ nL a b Q σ pc lv st := fun H locs ls hW hS hl => lv_aload_n C.2.1 C.2.2.1 d rfl (lv_at hl k0 hk) (k H locs ls hW hS hl)
theorem v_aload (C : Cx γ φ own cc nL lev) {i : Nat} {x : Nat} (k0 : Nat) (hk : lv[k0]? = some (i, .ref x)) (d : decode cc pc = .ok (.aload i, 2)) (k : Vw γ φ nL a b Q σ (pc + 2) lv (.ref x :: st)) : Vw γ φ nL a b Q σ pc lv st := fun H locs ls hW hS hl => lv_aload C.2.1 C.2.2.1 d (lv_at hl k0 hk) (k H locs ls hW hS hl)
theorem v_istore_n (C : Cx γ φ own cc nL lev) {k3 : Fin 4} {i : Nat} {x : Int} (lv2 : List (Nat × Value)) (d : decode cc pc = .ok (.istore_n k3, 1)) (hi : (k3 : Nat) = i) (hn : i < nL) (hl2 : (i, Value.int (iI x)) :: lv.filter (fun q => !(q.1 == i) && !(q.1 + 1 == i && q.2.category == 2)) = lv2) (k : Vw γ φ nL a b Q σ (pc + 1) lv2 st) : Vw γ φ nL a b Q σ pc lv (.int (iI x) :: st) := fun H locs ls hW hS hl => lv_istore_n C.2.1 C.2.2.1 d hi hl hn hl2 (fun ls2 h2 => k H locs ls2 hW hS h2)
theorem v_istore (C : Cx γ φ own cc nL lev) {i : Nat} {x : Int} (lv2 : List (Nat × Value)) (d : decode cc pc = .ok (.istore i, 2)) (hn : i < nL) (hl2 : (i, Value.int (iI x)) :: lv.filter (fun q => !(q.1 == i) && !(q.1 + 1 == i && q.2.category == 2)) = lv2) (k : Vw γ φ nL a b Q σ (pc + 2) lv2 st) : Vw γ φ nL a b Q σ pc lv (.int (iI x) :: st) := fun H locs ls hW hS hl => lv_istore C.2.1 C.2.2.1 d hl hn hl2 (fun ls2 h2 => k H locs ls2 hW hS h2)
theorem v_lstore_n (C : Cx γ φ own cc nL lev) {k3 : Fin 4} {i : Nat} {x : Int} (lv2 : List (Nat × Value)) (d : decode cc pc = .ok (.lstore_n k3, 1)) (hi : (k3 : Nat) = i) (hn : i + 1 < nL) (hl2 : (i, Value.long (lI x)) :: lv.filter (fun q => !(q.1 == i) && (!(q.1 == i + 1) && !(q.1 + 1 == i && q.2.category == 2))) = lv2) (k : Vw γ φ nL a b Q σ (pc + 1) lv2 st) : Vw γ φ nL a b Q σ pc lv (.long (lI x) :: st) := fun H locs ls hW hS hl => lv_lstore_n C.2.1 C.2.2.1 d hi hl hn hl2 (fun ls2 h2 => k H locs ls2 hW hS h2)
theorem v_lstore (C : Cx γ φ own cc nL lev) {i : Nat} {x : Int} (lv2 : List (Nat × Value)) (d : decode cc pc = .ok (.lstore i, 2)) (hn : i + 1 < nL) (hl2 : (i, Value.long (lI x)) :: lv.filter (fun q => !(q.1 == i) && (!(q.1 == i + 1) && !(q.1 + 1 == i && q.2.category == 2))) = lv2) (k : Vw γ φ nL a b Q σ (pc + 2) lv2 st) : Vw γ φ nL a b Q σ pc lv (.long (lI x) :: st) := fun H locs ls hW hS hl => lv_lstore C.2.1 C.2.2.1 d hl hn hl2 (fun ls2 h2 => k H locs ls2 hW hS h2)
theorem v_astore_n (C : Cx γ φ own cc nL lev) {k3 : Fin 4} {i : Nat} {x : Nat} (lv2 : List (Nat × Value)) (d : decode cc pc = .ok (.astore_n k3, 1)) (hi : (k3 : Nat) = i) (hn : i < nL) (hl2 : (i, Value.ref x) :: lv.filter (fun q => !(q.1 == i) && !(q.1 + 1 == i && q.2.category == 2)) = lv2) (k : Vw γ φ nL a b Q σ (pc + 1) lv2 st) : Vw γ φ nL a b Q σ pc lv (.ref x :: st) := fun H locs ls hW hS hl => lv_astore_n C.2.1 C.2.2.1 d hi hl hn hl2 (fun ls2 h2 => k H locs ls2 hW hS h2)
theorem v_astore (C : Cx γ φ own cc nL lev) {i : Nat} {x : Nat} (lv2 : List (Nat × Value)) (d : decode cc pc = .ok (.astore i, 2)) (hn : i < nL) (hl2 : (i, Value.ref x) :: lv.filter (fun q => !(q.1 == i) && !(q.1 + 1 == i && q.2.category == 2)) = lv2) (k : Vw γ φ nL a b Q σ (pc + 2) lv2 st) : Vw γ φ nL a b Q σ pc lv (.ref x :: st) := fun H locs ls hW hS hl => lv_astore C.2.1 C.2.2.1 d hl hn hl2 (fun ls2 h2 => k H locs ls2 hW hS h2)
theorem v_iinc (C : Cx γ φ own cc nL lev) {i : Nat} {n x : Int} (k0 : Nat) (lv2 : List (Nat × Value)) (d : decode cc pc = .ok (.iinc i n, 3)) (hk : lv[k0]? = some (i, .int (iI x))) (hn : i < nL) (hl2 : (i, Value.int (iI (x + n))) :: lv.filter (fun q => !(q.1 == i) && !(q.1 + 1 == i && q.2.category == 2)) = lv2) (k : Vw γ φ nL a b Q σ (pc + 3) lv2 st) : Vw γ φ nL a b Q σ pc lv st := fun H locs ls hW hS hl => lv_iinc C.2.1 C.2.2.1 d hl hk (iI_add x n) hn hl2 (fun ls2 h2 => k H locs ls2 hW hS h2)
theorem v_iadd (C : Cx γ φ own cc nL lev) {x y : Int} (d : decode cc pc = .ok (.iadd, 1)) (k : Vw γ φ nL a b Q σ (pc + 1) lv (.int (iI (x + y)) :: st)) : Vw γ φ nL a b Q σ pc lv (.int (iI y) :: .int (iI x) :: st) := fun H locs ls hW hS hl => lv_iadd C.2.1 C.2.2.1 d (by rw [iI_add]; exact k H locs ls hW hS hl)
theorem v_ladd (C : Cx γ φ own cc nL lev) {x y : Int} (d : decode cc pc = .ok (.ladd, 1)) (k : Vw γ φ nL a b Q σ (pc + 1) lv (.long (lI (x + y)) :: st)) : Vw γ φ nL a b Q σ pc lv (.long (lI y) :: .long (lI x) :: st) := fun H locs ls hW hS hl => lv_ladd C.2.1 C.2.2.1 d (by rw [lI_add]; exact k H locs ls hW hS hl)
theorem v_isub (C : Cx γ φ own cc nL lev) {x y : Int} (d : decode cc pc = .ok (.isub, 1)) (k : Vw γ φ nL a b Q σ (pc + 1) lv (.int (iI (x - y)) :: st)) : Vw γ φ nL a b Q σ pc lv (.int (iI y) :: .int (iI x) :: st) := fun H locs ls hW hS hl => lv_isub C.2.1 C.2.2.1 d (by rw [iI_sub]; exact k H locs ls hW hS hl)
theorem v_lsub (C : Cx γ φ own cc nL lev) {x y : Int} (d : decode cc pc = .ok (.lsub, 1)) (k : Vw γ φ nL a b Q σ (pc + 1) lv (.long (lI (x - y)) :: st)) : Vw γ φ nL a b Q σ pc lv (.long (lI y) :: .long (lI x) :: st) := fun H locs ls hW hS hl => lv_lsub C.2.1 C.2.2.1 d (by rw [lI_sub]; exact k H locs ls hW hS hl)
theorem v_imul (C : Cx γ φ own cc nL lev) {x y : Int} (d : decode cc pc = .ok (.imul, 1)) (k : Vw γ φ nL a b Q σ (pc + 1) lv (.int (iI (x * y)) :: st)) : Vw γ φ nL a b Q σ pc lv (.int (iI y) :: .int (iI x) :: st) := fun H locs ls hW hS hl => lv_imul C.2.1 C.2.2.1 d (by rw [iI_mul]; exact k H locs ls hW hS hl)
theorem v_lmul (C : Cx γ φ own cc nL lev) {x y : Int} (d : decode cc pc = .ok (.lmul, 1)) (k : Vw γ φ nL a b Q σ (pc + 1) lv (.long (lI (x * y)) :: st)) : Vw γ φ nL a b Q σ pc lv (.long (lI y) :: .long (lI x) :: st) := fun H locs ls hW hS hl => lv_lmul C.2.1 C.2.2.1 d (by rw [lI_mul]; exact k H locs ls hW hS hl)
theorem v_idiv (C : Cx γ φ own cc nL lev) {x y : Int} (hx : 0 ≤ x ∧ x < 2147483648) (hy : 0 < y ∧ y < 2147483648) (d : decode cc pc = .ok (.idiv, 1)) (k : Vw γ φ nL a b Q σ (pc + 1) lv (.int (iI (x / y)) :: st)) : Vw γ φ nL a b Q σ pc lv (.int (iI y) :: .int (iI x) :: st) := fun H locs ls hW hS hl => lv_idiv C.2.1 C.2.2.1 d (by rw [iI_0, iI_eq (by omega) (by omega)]; omega) (by rw [iI_div hx hy]; exact k H locs ls hW hS hl)
theorem v_irem (C : Cx γ φ own cc nL lev) {x y : Int} (hx : 0 ≤ x ∧ x < 2147483648) (hy : 0 < y ∧ y < 2147483648) (d : decode cc pc = .ok (.irem, 1)) (k : Vw γ φ nL a b Q σ (pc + 1) lv (.int (iI (x % y)) :: st)) : Vw γ φ nL a b Q σ pc lv (.int (iI y) :: .int (iI x) :: st) := fun H locs ls hW hS hl => lv_irem C.2.1 C.2.2.1 d (by rw [iI_0, iI_eq (by omega) (by omega)]; omega) (by rw [iI_rem hx hy]; exact k H locs ls hW hS hl)
theorem v_ldiv (C : Cx γ φ own cc nL lev) {x y : Int} (hx : 0 ≤ x ∧ x < 9223372036854775808) (hy : 0 < y ∧ y < 9223372036854775808) (d : decode cc pc = .ok (.ldiv, 1)) (k : Vw γ φ nL a b Q σ (pc + 1) lv (.long (lI (x / y)) :: st)) : Vw γ φ nL a b Q σ pc lv (.long (lI y) :: .long (lI x) :: st) := fun H locs ls hW hS hl => lv_ldiv C.2.1 C.2.2.1 d (by rw [lI_0, lI_eq (by omega) (by omega)]; omega) (by rw [lI_div hx hy]; exact k H locs ls hW hS hl)
theorem v_lrem (C : Cx γ φ own cc nL lev) {x y : Int} (hx : 0 ≤ x ∧ x < 9223372036854775808) (hy : 0 < y ∧ y < 9223372036854775808) (d : decode cc pc = .ok (.lrem, 1)) (k : Vw γ φ nL a b Q σ (pc + 1) lv (.long (lI (x % y)) :: st)) : Vw γ φ nL a b Q σ pc lv (.long (lI y) :: .long (lI x) :: st) := fun H locs ls hW hS hl => lv_lrem C.2.1 C.2.2.1 d (by rw [lI_0, lI_eq (by omega) (by omega)]; omega) (by rw [lI_rem hx hy]; exact k H locs ls hW hS hl)
theorem v_i2l (C : Cx γ φ own cc nL lev) {x : Int} (hx : -2147483648 ≤ x ∧ x < 2147483648) (d : decode cc pc = .ok (.i2l, 1)) (k : Vw γ φ nL a b Q σ (pc + 1) lv (.long (lI x) :: st)) : Vw γ φ nL a b Q σ pc lv (.int (iI x) :: st) := fun H locs ls hW hS hl => lv_i2l C.2.1 C.2.2.1 d (iI_l hx) (k H locs ls hW hS hl)
theorem v_l2i (C : Cx γ φ own cc nL lev) {x : Int} (d : decode cc pc = .ok (.l2i, 1)) (k : Vw γ φ nL a b Q σ (pc + 1) lv (.int (iI x) :: st)) : Vw γ φ nL a b Q σ pc lv (.long (lI x) :: st) := fun H locs ls hW hS hl => lv_l2i C.2.1 C.2.2.1 d (lI_i x) (k H locs ls hW hS hl)
theorem v_i2c (C : Cx γ φ own cc nL lev) {x : Int} (hx : 0 ≤ x ∧ x < 65536) (d : decode cc pc = .ok (.i2c, 1)) (k : Vw γ φ nL a b Q σ (pc + 1) lv (.int (iI x) :: st)) : Vw γ φ nL a b Q σ pc lv (.int (iI x) :: st) := fun H locs ls hW hS hl => lv_i2c C.2.1 C.2.2.1 d (iI_c hx) (k H locs ls hW hS hl)
theorem v_lcmp (C : Cx γ φ own cc nL lev) {x y : Int} (hx : -9223372036854775808 ≤ x ∧ x < 9223372036854775808) (hy : -9223372036854775808 ≤ y ∧ y < 9223372036854775808) (d : decode cc pc = .ok (.lcmp, 1)) (k : Vw γ φ nL a b Q σ (pc + 1) lv (.int (iI (if x < y then -1 else if x = y then 0 else 1)) :: st)) : Vw γ φ nL a b Q σ pc lv (.long (lI y) :: .long (lI x) :: st) := fun H locs ls hW hS hl => W.lcmp C.2.1 C.2.2.1 d (by rw [lg_cmp_I hx hy]; exact k H locs ls hW hS hl)
def iShl (x y : Int) : Int := (iI x <<< (iI y &&& 31)).toInt
def iOr (x y : Int) : Int := (iI x ||| iI y).toInt
def iAnd (x y : Int) : Int := (iI x &&& iI y).toInt
def lShl (x y : Int) : Int := (lI x <<< ((iI y).toInt64 &&& 63)).toInt
def lUsh (x y : Int) : Int := ((lI x).toUInt64 >>> ((iI y).toInt64.toUInt64 &&& Int64.toUInt64 63)).toInt64.toInt
def lAnd (x y : Int) : Int := (lI x &&& lI y).toInt
def lOr (x y : Int) : Int := (lI x ||| lI y).toInt
theorem v_ishl (C : Cx γ φ own cc nL lev) {x y : Int} (d : decode cc pc = .ok (.ishl, 1)) (k : Vw γ φ nL a b Q σ (pc + 1) lv (.int (iI (iShl x y)) :: st)) : Vw γ φ nL a b Q σ pc lv (.int (iI y) :: .int (iI x) :: st) := fun H locs ls hW hS hl => lv_ishl C.2.1 C.2.2.1 d (by have h := k H locs ls hW hS hl; rw [show iI (iShl x y) = _ from iI_asI _] at h; exact h)
theorem v_ior (C : Cx γ φ own cc nL lev) {x y : Int} (d : decode cc pc = .ok (.ior, 1)) (k : Vw γ φ nL a b Q σ (pc + 1) lv (.int (iI (iOr x y)) :: st)) : Vw γ φ nL a b Q σ pc lv (.int (iI y) :: .int (iI x) :: st) := fun H locs ls hW hS hl => lv_ior C.2.1 C.2.2.1 d (by have h := k H locs ls hW hS hl; rw [show iI (iOr x y) = _ from iI_asI _] at h; exact h)
theorem v_iand (C : Cx γ φ own cc nL lev) {x y : Int} (d : decode cc pc = .ok (.iand, 1)) (k : Vw γ φ nL a b Q σ (pc + 1) lv (.int (iI (iAnd x y)) :: st)) : Vw γ φ nL a b Q σ pc lv (.int (iI y) :: .int (iI x) :: st) := fun H locs ls hW hS hl => lv_iand C.2.1 C.2.2.1 d (by have h := k H locs ls hW hS hl; rw [show iI (iAnd x y) = _ from iI_asI _] at h; exact h)
theorem v_land (C : Cx γ φ own cc nL lev) {x y : Int} (d : decode cc pc = .ok (.land, 1)) (k : Vw γ φ nL a b Q σ (pc + 1) lv (.long (lI (lAnd x y)) :: st)) : Vw γ φ nL a b Q σ pc lv (.long (lI y) :: .long (lI x) :: st) := fun H locs ls hW hS hl => lv_land C.2.1 C.2.2.1 d (by have h := k H locs ls hW hS hl; rw [show lI (lAnd x y) = _ from lI_asL _] at h; exact h)
theorem v_lor (C : Cx γ φ own cc nL lev) {x y : Int} (d : decode cc pc = .ok (.lor, 1)) (k : Vw γ φ nL a b Q σ (pc + 1) lv (.long (lI (lOr x y)) :: st)) : Vw γ φ nL a b Q σ pc lv (.long (lI y) :: .long (lI x) :: st) := fun H locs ls hW hS hl => lv_lor C.2.1 C.2.2.1 d (by have h := k H locs ls hW hS hl; rw [show lI (lOr x y) = _ from lI_asL _] at h; exact h)
theorem v_lshl (C : Cx γ φ own cc nL lev) {x y : Int} (d : decode cc pc = .ok (.lshl, 1)) (k : Vw γ φ nL a b Q σ (pc + 1) lv (.long (lI (lShl x y)) :: st)) : Vw γ φ nL a b Q σ pc lv (.int (iI y) :: .long (lI x) :: st) := fun H locs ls hW hS hl => lv_lshl C.2.1 C.2.2.1 d (lI_asL _).symm (k H locs ls hW hS hl)
theorem v_lushr (C : Cx γ φ own cc nL lev) {x y : Int} (d : decode cc pc = .ok (.lushr, 1)) (k : Vw γ φ nL a b Q σ (pc + 1) lv (.long (lI (lUsh x y)) :: st)) : Vw γ φ nL a b Q σ pc lv (.int (iI y) :: .long (lI x) :: st) := fun H locs ls hW hS hl => lv_lushr C.2.1 C.2.2.1 d (lI_asL _).symm (k H locs ls hW hS hl)
theorem v_dup (C : Cx γ φ own cc nL lev) {va : Value} (hva : va.category = 1) (d : decode cc pc = .ok (.dup, 1)) (k : Vw γ φ nL a b Q σ (pc + 1) lv (va :: va :: st)) : Vw γ φ nL a b Q σ pc lv (va :: st) := fun H locs ls hW hS hl => lv_dup C.2.1 C.2.2.1 d hva (k H locs ls hW hS hl)
theorem v_dup2 (C : Cx γ φ own cc nL lev) {va vb : Value} (hva : va.category = 1) (hvb : vb.category = 1) (d : decode cc pc = .ok (.dup2, 1)) (k : Vw γ φ nL a b Q σ (pc + 1) lv (va :: vb :: va :: vb :: st)) : Vw γ φ nL a b Q σ pc lv (va :: vb :: st) := fun H locs ls hW hS hl => lv_dup2_11 C.2.1 C.2.2.1 d hva hvb (k H locs ls hW hS hl)
theorem v_pop (C : Cx γ φ own cc nL lev) {va : Value} (hva : va.category = 1) (d : decode cc pc = .ok (.pop, 1)) (k : Vw γ φ nL a b Q σ (pc + 1) lv st) : Vw γ φ nL a b Q σ pc lv (va :: st) := fun H locs ls hW hS hl => lv_pop C.2.1 C.2.2.1 d hva (k H locs ls hW hS hl)
theorem v_goto (C : Cx γ φ own cc nL lev) {off : Int} (tgt : Nat) (d : decode cc pc = .ok (.goto off, 3)) (ht : (pc : Int) + off = (tgt : Int)) (k : Vw γ φ nL a b Q σ tgt lv st) : Vw γ φ nL a b Q σ pc lv st := fun H locs ls hW hS hl => lv_goto C.2.1 C.2.2.1 d ht (k H locs ls hW hS hl)
theorem v_if_eq (C : Cx γ φ own cc nL lev) {x : Int} {off : Int} (tgt : Nat) (hx : -2147483648 ≤ x ∧ x < 2147483648) (d : decode cc pc = .ok (.ifCond .eq off, 3)) (ht : (pc : Int) + off = (tgt : Int)) (kt : x = 0 → Vw γ φ nL a b Q σ tgt lv st) (kf : ¬ x = 0 → Vw γ φ nL a b Q σ (pc + 3) lv st) : Vw γ φ nL a b Q σ pc lv (.int (iI x) :: st) := fun H locs ls hW hS hl => lv_if_eq C.2.1 C.2.2.1 d ht (fun h => kt (by rw [iI_0] at h; rw [iI_eq hx (by omega)] at h; exact h) H locs ls hW hS hl) (fun h => kf (by rw [iI_0] at h; rw [iI_eq hx (by omega)] at h; exact h) H locs ls hW hS hl)
theorem v_icmp_eq (C : Cx γ φ own cc nL lev) {x y : Int} {off : Int} (tgt : Nat) (hx : -2147483648 ≤ x ∧ x < 2147483648) (hy : -2147483648 ≤ y ∧ y < 2147483648) (d : decode cc pc = .ok (.if_icmp .eq off, 3)) (ht : (pc : Int) + off = (tgt : Int)) (kt : x = y → Vw γ φ nL a b Q σ tgt lv st) (kf : ¬ x = y → Vw γ φ nL a b Q σ (pc + 3) lv st) : Vw γ φ nL a b Q σ pc lv (.int (iI y) :: .int (iI x) :: st) := fun H locs ls hW hS hl => lv_icmp_eq C.2.1 C.2.2.1 d ht (fun h => kt (by rw [iI_eq hx hy] at h; exact h) H locs ls hW hS hl) (fun h => kf (by rw [iI_eq hx hy] at h; exact h) H locs ls hW hS hl)
theorem v_if_ne (C : Cx γ φ own cc nL lev) {x : Int} {off : Int} (tgt : Nat) (hx : -2147483648 ≤ x ∧ x < 2147483648) (d : decode cc pc = .ok (.ifCond .ne off, 3)) (ht : (pc : Int) + off = (tgt : Int)) (kt : ¬ x = 0 → Vw γ φ nL a b Q σ tgt lv st) (kf : x = 0 → Vw γ φ nL a b Q σ (pc + 3) lv st) : Vw γ φ nL a b Q σ pc lv (.int (iI x) :: st) := fun H locs ls hW hS hl => lv_if_ne C.2.1 C.2.2.1 d ht (fun h => kt (by rw [iI_0] at h; rw [iI_eq hx (by omega)] at h; exact h) H locs ls hW hS hl) (fun h => kf (by rw [iI_0] at h; rw [iI_eq hx (by omega)] at h; exact h) H locs ls hW hS hl)
theorem v_icmp_ne (C : Cx γ φ own cc nL lev) {x y : Int} {off : Int} (tgt : Nat) (hx : -2147483648 ≤ x ∧ x < 2147483648) (hy : -2147483648 ≤ y ∧ y < 2147483648) (d : decode cc pc = .ok (.if_icmp .ne off, 3)) (ht : (pc : Int) + off = (tgt : Int)) (kt : ¬ x = y → Vw γ φ nL a b Q σ tgt lv st) (kf : x = y → Vw γ φ nL a b Q σ (pc + 3) lv st) : Vw γ φ nL a b Q σ pc lv (.int (iI y) :: .int (iI x) :: st) := fun H locs ls hW hS hl => lv_icmp_ne C.2.1 C.2.2.1 d ht (fun h => kt (by rw [iI_eq hx hy] at h; exact h) H locs ls hW hS hl) (fun h => kf (by rw [iI_eq hx hy] at h; exact h) H locs ls hW hS hl)
theorem v_if_lt (C : Cx γ φ own cc nL lev) {x : Int} {off : Int} (tgt : Nat) (hx : -2147483648 ≤ x ∧ x < 2147483648) (d : decode cc pc = .ok (.ifCond .lt off, 3)) (ht : (pc : Int) + off = (tgt : Int)) (kt : x < 0 → Vw γ φ nL a b Q σ tgt lv st) (kf : ¬ x < 0 → Vw γ φ nL a b Q σ (pc + 3) lv st) : Vw γ φ nL a b Q σ pc lv (.int (iI x) :: st) := fun H locs ls hW hS hl => lv_if_lt C.2.1 C.2.2.1 d ht (fun h => kt (by rw [iI_0] at h; rw [iI_lt hx (by omega)] at h; exact h) H locs ls hW hS hl) (fun h => kf (by rw [iI_0] at h; rw [iI_lt hx (by omega)] at h; exact h) H locs ls hW hS hl)
theorem v_icmp_lt (C : Cx γ φ own cc nL lev) {x y : Int} {off : Int} (tgt : Nat) (hx : -2147483648 ≤ x ∧ x < 2147483648) (hy : -2147483648 ≤ y ∧ y < 2147483648) (d : decode cc pc = .ok (.if_icmp .lt off, 3)) (ht : (pc : Int) + off = (tgt : Int)) (kt : x < y → Vw γ φ nL a b Q σ tgt lv st) (kf : ¬ x < y → Vw γ φ nL a b Q σ (pc + 3) lv st) : Vw γ φ nL a b Q σ pc lv (.int (iI y) :: .int (iI x) :: st) := fun H locs ls hW hS hl => lv_icmp_lt C.2.1 C.2.2.1 d ht (fun h => kt (by rw [iI_lt hx hy] at h; exact h) H locs ls hW hS hl) (fun h => kf (by rw [iI_lt hx hy] at h; exact h) H locs ls hW hS hl)
theorem v_if_ge (C : Cx γ φ own cc nL lev) {x : Int} {off : Int} (tgt : Nat) (hx : -2147483648 ≤ x ∧ x < 2147483648) (d : decode cc pc = .ok (.ifCond .ge off, 3)) (ht : (pc : Int) + off = (tgt : Int)) (kt : 0 ≤ x → Vw γ φ nL a b Q σ tgt lv st) (kf : ¬ 0 ≤ x → Vw γ φ nL a b Q σ (pc + 3) lv st) : Vw γ φ nL a b Q σ pc lv (.int (iI x) :: st) := fun H locs ls hW hS hl => lv_if_ge C.2.1 C.2.2.1 d ht (fun h => kt (by rw [iI_0] at h; rw [iI_le (by omega) hx] at h; exact h) H locs ls hW hS hl) (fun h => kf (by rw [iI_0] at h; rw [iI_le (by omega) hx] at h; exact h) H locs ls hW hS hl)
theorem v_icmp_ge (C : Cx γ φ own cc nL lev) {x y : Int} {off : Int} (tgt : Nat) (hx : -2147483648 ≤ x ∧ x < 2147483648) (hy : -2147483648 ≤ y ∧ y < 2147483648) (d : decode cc pc = .ok (.if_icmp .ge off, 3)) (ht : (pc : Int) + off = (tgt : Int)) (kt : y ≤ x → Vw γ φ nL a b Q σ tgt lv st) (kf : ¬ y ≤ x → Vw γ φ nL a b Q σ (pc + 3) lv st) : Vw γ φ nL a b Q σ pc lv (.int (iI y) :: .int (iI x) :: st) := fun H locs ls hW hS hl => lv_icmp_ge C.2.1 C.2.2.1 d ht (fun h => kt (by rw [iI_le hy hx] at h; exact h) H locs ls hW hS hl) (fun h => kf (by rw [iI_le hy hx] at h; exact h) H locs ls hW hS hl)
theorem v_if_gt (C : Cx γ φ own cc nL lev) {x : Int} {off : Int} (tgt : Nat) (hx : -2147483648 ≤ x ∧ x < 2147483648) (d : decode cc pc = .ok (.ifCond .gt off, 3)) (ht : (pc : Int) + off = (tgt : Int)) (kt : 0 < x → Vw γ φ nL a b Q σ tgt lv st) (kf : ¬ 0 < x → Vw γ φ nL a b Q σ (pc + 3) lv st) : Vw γ φ nL a b Q σ pc lv (.int (iI x) :: st) := fun H locs ls hW hS hl => lv_if_gt C.2.1 C.2.2.1 d ht (fun h => kt (by rw [iI_0] at h; rw [iI_lt (by omega) hx] at h; exact h) H locs ls hW hS hl) (fun h => kf (by rw [iI_0] at h; rw [iI_lt (by omega) hx] at h; exact h) H locs ls hW hS hl)
theorem v_icmp_gt (C : Cx γ φ own cc nL lev) {x y : Int} {off : Int} (tgt : Nat) (hx : -2147483648 ≤ x ∧ x < 2147483648) (hy : -2147483648 ≤ y ∧ y < 2147483648) (d : decode cc pc = .ok (.if_icmp .gt off, 3)) (ht : (pc : Int) + off = (tgt : Int)) (kt : y < x → Vw γ φ nL a b Q σ tgt lv st) (kf : ¬ y < x → Vw γ φ nL a b Q σ (pc + 3) lv st) : Vw γ φ nL a b Q σ pc lv (.int (iI y) :: .int (iI x) :: st) := fun H locs ls hW hS hl => lv_icmp_gt C.2.1 C.2.2.1 d ht (fun h => kt (by rw [iI_lt hy hx] at h; exact h) H locs ls hW hS hl) (fun h => kf (by rw [iI_lt hy hx] at h; exact h) H locs ls hW hS hl)
theorem v_if_le (C : Cx γ φ own cc nL lev) {x : Int} {off : Int} (tgt : Nat) (hx : -2147483648 ≤ x ∧ x < 2147483648) (d : decode cc pc = .ok (.ifCond .le off, 3)) (ht : (pc : Int) + off = (tgt : Int)) (kt : x ≤ 0 → Vw γ φ nL a b Q σ tgt lv st) (kf : ¬ x ≤ 0 → Vw γ φ nL a b Q σ (pc + 3) lv st) : Vw γ φ nL a b Q σ pc lv (.int (iI x) :: st) := fun H locs ls hW hS hl => lv_if_le C.2.1 C.2.2.1 d ht (fun h => kt (by rw [iI_0] at h; rw [iI_le hx (by omega)] at h; exact h) H locs ls hW hS hl) (fun h => kf (by rw [iI_0] at h; rw [iI_le hx (by omega)] at h; exact h) H locs ls hW hS hl)
theorem v_icmp_le (C : Cx γ φ own cc nL lev) {x y : Int} {off : Int} (tgt : Nat) (hx : -2147483648 ≤ x ∧ x < 2147483648) (hy : -2147483648 ≤ y ∧ y < 2147483648) (d : decode cc pc = .ok (.if_icmp .le off, 3)) (ht : (pc : Int) + off = (tgt : Int)) (kt : x ≤ y → Vw γ φ nL a b Q σ tgt lv st) (kf : ¬ x ≤ y → Vw γ φ nL a b Q σ (pc + 3) lv st) : Vw γ φ nL a b Q σ pc lv (.int (iI y) :: .int (iI x) :: st) := fun H locs ls hW hS hl => lv_icmp_le C.2.1 C.2.2.1 d ht (fun h => kt (by rw [iI_le hx hy] at h; exact h) H locs ls hW hS hl) (fun h => kf (by rw [iI_le hx hy] at h; exact h) H locs ls hW hS hl)
theorem v_tabIn (C : Cx γ φ own cc nL lev) {x dflt lo hi : Int} {offs : Array Int} {len : Nat} {off : Int} (tgt : Nat) (hx : -2147483648 ≤ x ∧ x < 2147483648) (d : decode cc pc = .ok (.tableswitch dflt lo hi offs, len)) (h1 : lo ≤ x ∧ x ≤ hi) (ho : offs[(x - lo).toNat]? = some off) (ht : (pc : Int) + off = (tgt : Int)) (k : Vw γ φ nL a b Q σ tgt lv st) : Vw γ φ nL a b Q σ pc lv (.int (iI x) :: st) := fun H locs ls hW hS hl => lv_tableIn C.2.1 C.2.2.1 d (by rw [iI_t hx]; omega) (by rw [iI_t hx]; omega) (by rw [iI_t hx]; exact ho) ht (k H locs ls hW hS hl)
theorem v_tabOut (C : Cx γ φ own cc nL lev) {x dflt lo hi : Int} {offs : Array Int} {len : Nat} (tgt : Nat) (hx : -2147483648 ≤ x ∧ x < 2147483648) (d : decode cc pc = .ok (.tableswitch dflt lo hi offs, len)) (h1 : x < lo ∨ hi < x) (ht : (pc : Int) + dflt = (tgt : Int)) (k : Vw γ φ nL a b Q σ tgt lv st) : Vw γ φ nL a b Q σ pc lv (.int (iI x) :: st) := fun H locs ls hW hS hl => lv_tableOut C.2.1 C.2.2.1 d (by rw [iI_t hx]; exact h1) ht (k H locs ls hW hS hl)
theorem v_look (C : Cx γ φ own cc nL lev) {x dflt : Int} {ps : Array (Int × Int)} {len : Nat} {off : Int} (tgt : Nat) (hx : -2147483648 ≤ x ∧ x < 2147483648) (d : decode cc pc = .ok (.lookupswitch dflt ps, len)) (hp : (ps.toList.zip (ps.toList.drop 1)).all (fun (a, next) => a.1 < next.1) = true) (ho : Op.lookupswitch.offset ps.toList dflt x = off) (ht : (pc : Int) + off = (tgt : Int)) (k : Vw γ φ nL a b Q σ tgt lv st) : Vw γ φ nL a b Q σ pc lv (.int (iI x) :: st) := fun H locs ls hW hS hl => lv_lookup C.2.1 C.2.2.1 d hp (by rw [iI_t hx]; exact ho) ht (k H locs ls hW hS hl)
theorem v_lv (lv2 : List (Nat × Value)) (ks : List Nat) (hk : lv_pick lv ks = lv2) (k : Vw γ φ nL a b Q σ pc lv2 st) : Vw γ φ nL a b Q σ pc lv st := fun H locs ls hW hS hl => k H locs ls hW hS (lv_sub hl ks hk)
theorem v_st {σ2 : St} (e : σ = σ2) (k : Vw γ φ nL a b Q σ2 pc lv st) : Vw γ φ nL a b Q σ pc lv st := e ▸ k
theorem v_ti {x x2 : Int} (e : x = x2) (k : Vw γ φ nL a b Q σ pc lv (.int (iI x2) :: st)) : Vw γ φ nL a b Q σ pc lv (.int (iI x) :: st) := e ▸ k
theorem v_nm {x : Int} (k : ∀ z : Int, z = x → Vw γ φ nL a b Q σ pc lv (.int (iI z) :: st)) : Vw γ φ nL a b Q σ pc lv (.int (iI x) :: st) := k x rfl
theorem v_nml {x : Int} (k : ∀ z : Int, z = x → Vw γ φ nL a b Q σ pc lv (.long (lI z) :: st)) : Vw γ φ nL a b Q σ pc lv (.long (lI x) :: st) := k x rfl
theorem v_bm {x : Int} (k : Vw γ φ nL a b Q σ pc lv (.int (iI (bmz x)) :: st)) : Vw γ φ nL a b Q σ pc lv (.int (iI x) :: st) := by rw [bmz_i] at k; exact k
theorem v_geti (C : Cx γ φ own cc nL lev) {ref : String} {R0 : String} {T : u_T} {N ci ix c0 : Nat} (hin : ∀ w ∈ u_ws R0 T N, w ∈ lw_tbl) (hg : ∀ w ∈ u_ws R0 T N, goodWord w = true) (hcl : classes[ci]? = some (R0, T, N)) (k0 : Nat) (hk : k0 < N) (hw : Wrd γ (.fieldLink own ix ref (T k0).2.1 (T k0).2.2.1)) (href : (T k0).1 = ref) (hs : sh c0 = (5, ci)) (j0 : Int) (hv : (obF γ ci c0 (σ c0))[k0]? = some (.int (iI (σ c0 j0)))) (d : decode cc pc = .ok (.getfield ix, 3)) (k : ∀ z : Int, z = σ c0 j0 → (-2147483648 ≤ z ∧ z < 2147483648) → Vw γ φ nL a b Q σ (pc + 3) lv (.int (iI z) :: st)) : Vw γ φ nL a b Q σ pc lv (.ref (bs γ + c0) :: st) := fun H locs ls hW hS hl => by
  have he := wl_get γ σ (sh_lt (by rw [hs]; simp))
  rw [hs] at he
  exact va_get C.2.1 C.2.2.1 (fun w h => word_at C.2.2.2.2.2.1.1 (good_of_word (hg w h)) (C.1.2.1 w (hin w h))) (fun _ h => h) C.2.2.2.2.1 C.K hW.1 c0 he hcl k0 hk (hw _ _ C.2.2.2.2.2.1.1) (fun x hx => by rw [← href]; exact hx) hv d (k _ rfl (hW.r _ _) H locs ls hW hS hl)
theorem v_getr (C : Cx γ φ own cc nL lev) {ref : String} {R0 : String} {T : u_T} {N ci ix c0 : Nat} (hin : ∀ w ∈ u_ws R0 T N, w ∈ lw_tbl) (hg : ∀ w ∈ u_ws R0 T N, goodWord w = true) (hcl : classes[ci]? = some (R0, T, N)) (k0 : Nat) (hk : k0 < N) (hw : Wrd γ (.fieldLink own ix ref (T k0).2.1 (T k0).2.2.1)) (href : (T k0).1 = ref) (hs : sh c0 = (5, ci)) (c1 : Nat) (hv : (obF γ ci c0 (σ c0))[k0]? = some (.ref (bs γ + c1))) (d : decode cc pc = .ok (.getfield ix, 3)) (k : Vw γ φ nL a b Q σ (pc + 3) lv (.ref (bs γ + c1) :: st)) : Vw γ φ nL a b Q σ pc lv (.ref (bs γ + c0) :: st) := fun H locs ls hW hS hl => by
  have he := wl_get γ σ (sh_lt (by rw [hs]; simp))
  rw [hs] at he
  exact va_get C.2.1 C.2.2.1 (fun w h => word_at C.2.2.2.2.2.1.1 (good_of_word (hg w h)) (C.1.2.1 w (hin w h))) (fun _ h => h) C.2.2.2.2.1 C.K hW.1 c0 he hcl k0 hk (hw _ _ C.2.2.2.2.2.1.1) (fun x hx => by rw [← href]; exact hx) hv d (k H locs ls hW hS hl)
theorem v_puti (C : Cx γ φ own cc nL lev) {ref : String} {R0 : String} {T : u_T} {N ci ix c0 : Nat} (hin : ∀ w ∈ u_ws R0 T N, w ∈ lw_tbl) (hg : ∀ w ∈ u_ws R0 T N, goodWord w = true) (hcl : classes[ci]? = some (R0, T, N)) (k0 : Nat) (hk : k0 < N) (hw : Wrd γ (.fieldLink own ix ref (T k0).2.1 (T k0).2.2.1)) (href : (T k0).1 = ref) (hs : sh c0 = (5, ci)) (ty0 : Nat → FieldType) (hty : ∀ k, k < N → parseFieldDescriptor (T k).2.2.1 = some (ty0 k)) (hnm : ∀ a, a < N → ∀ b, b < N → a ≠ b → (T a).2.1 ≠ (T b).2.1) (hfin : (T k0).2.2.2 = false) (hti : ty0 k0 = .int) (hlen : ∀ r : Int → Int, k0 < (obF γ ci c0 r).length) (hset : ∀ (r : Int → Int) (z : Int), (obF γ ci c0 r).set k0 (.int (iI z)) = obF γ ci c0 (upr r (k0 : Int) z)) {x : Int} (hx : -2147483648 ≤ x ∧ x < 2147483648) (d : decode cc pc = .ok (.putfield ix, 3)) (k : Vw γ φ nL a b Q (setc σ c0 (upr (σ c0) (k0 : Int) x)) (pc + 3) lv st) : Vw γ φ nL a b Q σ pc lv (.int (iI x) :: .ref (bs γ + c0) :: st) := fun H locs ls hW hS hl => by
  have he := wl_get γ σ (sh_lt (by rw [hs]; simp))
  rw [hs] at he
  refine va_put C.2.1 C.2.2.1 (fun w h => word_at C.2.2.2.2.2.1.1 (good_of_word (hg w h)) (C.1.2.1 w (hin w h))) (fun _ h => h) ty0 hty hnm C.2.2.2.2.1 C.K hW.1 (wl_D γ σ) hS c0 he hcl k0 hk (hw _ _ C.2.2.2.2.2.1.1) (fun x hx => by rw [← href]; exact hx) hfin (ty := .int) (by rw [hty k0 hk, hti]) rfl rfl (hlen _) d ?_
  intro H1 locs1 hP1 _ hS1
  refine k H1 locs1 ls ⟨?_, ?_⟩ hS1 hl
  · have e := wl_set γ σ c0 (upr (σ c0) (k0 : Int) x)
    rw [hs] at e
    rw [← e]
    rw [hset] at hP1
    exact hP1
  · exact ok_up hW.2 hx (fun h => by rw [hs] at h; simp at h)
theorem v_iald (C : Cx γ φ own cc nL lev) {c0 n : Nat} {j : Int} (hs : sh c0 = (0, n)) (hn : n ≤ 4000) (hj : 0 ≤ j ∧ j < n) (d : decode cc pc = .ok (.iaload, 1)) (k : ∀ z : Int, z = σ c0 j → (-2147483648 ≤ z ∧ z < 2147483648) → Vw γ φ nL a b Q σ (pc + 1) lv (.int (iI z) :: st)) : Vw γ φ nL a b Q σ pc lv (.int (iI j) :: .ref (bs γ + c0) :: st) := fun H locs ls hW hS hl => by
  have he := wl_get γ σ (sh_lt (by rw [hs]; simp))
  rw [hs] at he
  refine va_iald C.2.1 C.2.2.1 C.K hW.1 c0 0 he rfl (iI_in hj (by omega)) d ?_
  have e : σ c0 ((iI j).toNatClampNeg : Int) = σ c0 j := by rw [iI_cl (by omega)]; congr 1; omega
  rw [e]
  exact k _ rfl (hW.r _ _) H locs ls hW hS hl
theorem v_iast (C : Cx γ φ own cc nL lev) {c0 n : Nat} {j x : Int} (hs : sh c0 = (0, n)) (hn : n ≤ 4000) (hj : 0 ≤ j ∧ j < n) (hx : -2147483648 ≤ x ∧ x < 2147483648) (d : decode cc pc = .ok (.iastore, 1)) (k : Vw γ φ nL a b Q (setc σ c0 (upr (σ c0) j x)) (pc + 1) lv st) : Vw γ φ nL a b Q σ pc lv (.int (iI x) :: .int (iI j) :: .ref (bs γ + c0) :: st) := fun H locs ls hW hS hl => by
  have he := wl_get γ σ (sh_lt (by rw [hs]; simp))
  rw [hs] at he
  refine va_iast C.2.1 C.2.2.1 C.K hW.1 (wl_D γ σ) hS c0 0 he rfl (iI_in hj (by omega)) d ?_
  intro H1 locs1 hP1 _ hS1
  refine k H1 locs1 ls ⟨?_, ?_⟩ hS1 hl
  · have ej : j = ((iI j).toNatClampNeg : Int) := by rw [iI_cl (by omega)]; omega
    obtain ⟨cA, hcA, ec⟩ := cellK_upd γ (k := (0, n)) (by simp) c0 (σ c0) (z := x) (j := (iI j).toNatClampNeg)
    rw [← ej] at ec
    have e := wl_set γ σ c0 (upr (σ c0) j x)
    rw [hs, ec] at e
    rw [← e]
    rw [hcA]
    exact hP1
  · exact ok_up hW.2 (by omega) (fun _ => by rw [hs]; exact hj)
theorem v_cald (C : Cx γ φ own cc nL lev) {c0 n : Nat} {j : Int} (hs : sh c0 = (1, n)) (hn : n ≤ 4000) (hj : 0 ≤ j ∧ j < n) (d : decode cc pc = .ok (.caload, 1)) (k : ∀ z : Int, z = σ c0 j → (-2147483648 ≤ z ∧ z < 2147483648) → Vw γ φ nL a b Q σ (pc + 1) lv (.int (iI z) :: st)) : Vw γ φ nL a b Q σ pc lv (.int (iI j) :: .ref (bs γ + c0) :: st) := fun H locs ls hW hS hl => by
  have he := wl_get γ σ (sh_lt (by rw [hs]; simp))
  rw [hs] at he
  refine va_cald C.2.1 C.2.2.1 C.K hW.1 c0 1 he rfl (iI_in hj (by omega)) d ?_
  have e : σ c0 ((iI j).toNatClampNeg : Int) = σ c0 j := by rw [iI_cl (by omega)]; congr 1; omega
  rw [e]
  exact k _ rfl (hW.r _ _) H locs ls hW hS hl
theorem v_cast (C : Cx γ φ own cc nL lev) {c0 n : Nat} {j x : Int} (hs : sh c0 = (1, n)) (hn : n ≤ 4000) (hj : 0 ≤ j ∧ j < n) (hx : 0 ≤ x ∧ x < 65536) (d : decode cc pc = .ok (.castore, 1)) (k : Vw γ φ nL a b Q (setc σ c0 (upr (σ c0) j x)) (pc + 1) lv st) : Vw γ φ nL a b Q σ pc lv (.int (iI x) :: .int (iI j) :: .ref (bs γ + c0) :: st) := fun H locs ls hW hS hl => by
  have he := wl_get γ σ (sh_lt (by rw [hs]; simp))
  rw [hs] at he
  refine va_cast C.2.1 C.2.2.1 C.K hW.1 (wl_D γ σ) hS c0 1 he rfl (iI_in hj (by omega)) d ?_
  intro H1 locs1 hP1 _ hS1
  refine k H1 locs1 ls ⟨?_, ?_⟩ hS1 hl
  · have ej : j = ((iI j).toNatClampNeg : Int) := by rw [iI_cl (by omega)]; omega
    obtain ⟨cA, hcA, ec⟩ := cellK_upd γ (k := (1, n)) (by simp) c0 (σ c0) (z := x) (j := (iI j).toNatClampNeg)
    rw [← ej] at ec
    rw [vp_nar_cI hx] at hP1
    have e := wl_set γ σ c0 (upr (σ c0) j x)
    rw [hs, ec] at e
    rw [← e]
    rw [hcA]
    exact hP1
  · exact ok_up hW.2 (by omega) (fun _ => by rw [hs]; exact hj)
theorem v_zald (C : Cx γ φ own cc nL lev) {c0 n : Nat} {j : Int} (hs : sh c0 = (2, n)) (hn : n ≤ 4000) (hj : 0 ≤ j ∧ j < n) (d : decode cc pc = .ok (.baload, 1)) (k : ∀ z : Int, z = σ c0 j → (-2147483648 ≤ z ∧ z < 2147483648) → Vw γ φ nL a b Q σ (pc + 1) lv (.int (iI z) :: st)) : Vw γ φ nL a b Q σ pc lv (.int (iI j) :: .ref (bs γ + c0) :: st) := fun H locs ls hW hS hl => by
  have he := wl_get γ σ (sh_lt (by rw [hs]; simp))
  rw [hs] at he
  refine va_zald C.2.1 C.2.2.1 C.K hW.1 c0 2 he rfl (iI_in hj (by omega)) d ?_
  have e : σ c0 ((iI j).toNatClampNeg : Int) = σ c0 j := by rw [iI_cl (by omega)]; congr 1; omega
  rw [e]
  exact k _ rfl (hW.r _ _) H locs ls hW hS hl
theorem v_zast (C : Cx γ φ own cc nL lev) {c0 n : Nat} {j x : Int} (hs : sh c0 = (2, n)) (hn : n ≤ 4000) (hj : 0 ≤ j ∧ j < n) (hx : x = 0 ∨ x = 1) (d : decode cc pc = .ok (.bastore, 1)) (k : Vw γ φ nL a b Q (setc σ c0 (upr (σ c0) j x)) (pc + 1) lv st) : Vw γ φ nL a b Q σ pc lv (.int (iI x) :: .int (iI j) :: .ref (bs γ + c0) :: st) := fun H locs ls hW hS hl => by
  have he := wl_get γ σ (sh_lt (by rw [hs]; simp))
  rw [hs] at he
  refine va_zast C.2.1 C.2.2.1 C.K hW.1 (wl_D γ σ) hS c0 2 he rfl (iI_in hj (by omega)) d ?_
  intro H1 locs1 hP1 _ hS1
  refine k H1 locs1 ls ⟨?_, ?_⟩ hS1 hl
  · have ej : j = ((iI j).toNatClampNeg : Int) := by rw [iI_cl (by omega)]; omega
    obtain ⟨cA, hcA, ec⟩ := cellK_upd γ (k := (2, n)) (by simp) c0 (σ c0) (z := x) (j := (iI j).toNatClampNeg)
    rw [← ej] at ec
    rw [vp_nar_zI hx] at hP1
    have e := wl_set γ σ c0 (upr (σ c0) j x)
    rw [hs, ec] at e
    rw [← e]
    rw [hcA]
    exact hP1
  · exact ok_up hW.2 (by omega) (fun _ => by rw [hs]; exact hj)
theorem v_aald (C : Cx γ φ own cc nL lev) {c0 n : Nat} {j : Int} (hs : sh c0 = (4, n)) (hn : n ≤ 4000) (hj : 0 ≤ j ∧ j < n) (d : decode cc pc = .ok (.aaload, 1)) (k : Vw γ φ nL a b Q σ (pc + 1) lv (.ref (bs γ + nref c0 j.toNat) :: st)) : Vw γ φ nL a b Q σ pc lv (.int (iI j) :: .ref (bs γ + c0) :: st) := fun H locs ls hW hS hl => by
  have he := wl_get γ σ (sh_lt (by rw [hs]; simp))
  rw [hs] at he
  refine va_aldq C.2.1 C.2.2.1 C.K hW.1 c0 4 he rfl (iI_in hj (by omega)) d ?_
  rw [iI_cl (by omega)]
  exact k H locs ls hW hS hl
theorem v_gets (C : Cx γ φ own cc nL lev) {ix : Nat} (k0 : Nat) (hk : k0 < 6) (hw : Wrd γ (.fieldLink own ix RX4 (tbN k0) "[I")) (d : decode cc pc = .ok (.getstatic ix, 3)) (k : Vw γ φ nL a b Q σ (pc + 3) lv (.ref (γ.2.2.2.2.2 k0) :: st)) : Vw γ φ nL a b Q σ pc lv st := fun H locs ls hW hS hl => va_gets C.2.1 C.2.2.1 (va_Z.moved C.2.2.2.2.2.1.1.alike (va_Z.kept (C.1.2.2.2.1 k0 hk).1 (fun q hq hA => C.2.2.2.2.2.1.2.2 q hq))) hS C.2.2.2.2.1 (hw _ _ C.2.2.2.2.2.1.1) (fun _ h => h) d (k H locs ls hW hS hl)
theorem v_tlen (C : Cx γ φ own cc nL lev) (k0 : Nat) (hk : k0 < 6) (d : decode cc pc = .ok (.arraylength, 1)) (k : Vw γ φ nL a b Q σ (pc + 1) lv (.int (iI ((tbL k0).length : Int)) :: st)) : Vw γ φ nL a b Q σ pc lv (.ref (γ.2.2.2.2.2 k0) :: st) := fun H locs ls hW hS hl => va_tlen C.2.1 C.2.2.1 (va_T.moved C.2.2.2.2.2.1.1.alike (va_T.kept (C.1.2.2.2.1 k0 hk).2 (fun q hq hA => C.2.2.2.2.2.1.2.2 q hq))) hS (v := iI ((tbL k0).length : Int)) Int32.ofInt_eq_ofNat.symm d (k H locs ls hW hS hl)
theorem v_tald (C : Cx γ φ own cc nL lev) (k0 : Nat) (hk : k0 < 6) {j : Int} (hj : 0 ≤ j ∧ j < ((tbL k0).length : Int)) (hl9 : (tbL k0).length ≤ 4000) (d : decode cc pc = .ok (.iaload, 1)) (k : Vw γ φ nL a b Q σ (pc + 1) lv (.int (iI ((tbL k0).getD j.toNat 0)) :: st)) : Vw γ φ nL a b Q σ pc lv (.int (iI j) :: .ref (γ.2.2.2.2.2 k0) :: st) := fun H locs ls hW hS hl => va_ti C.2.1 C.2.2.1 (va_T.moved C.2.2.2.2.2.1.1.alike (va_T.kept (C.1.2.2.2.1 k0 hk).2 (fun q hq hA => C.2.2.2.2.2.1.2.2 q hq))) hS (iI_in hj (by omega)) (v := .int (iI ((tbL k0).getD j.toNat 0))) (by rw [iI_cl (by omega)]) d (k H locs ls hW hS hl)
theorem v_iret {post : Option Value → St → Prop} {rt : FieldType} (C : Cx γ φ own cc nL lev) (hr : φ.2.2.2.2.2.2.2.1.sig.returnType = some rt) {x : Int} (hn : narrow rt (.int (iI x)) = .int (iI x)) (d : decode cc pc = .ok (.ireturn, 1)) (hp : post (some (.int (iI x))) σ) : Vw γ φ nL 0 0 (QE γ φ post) σ pc lv [.int (iI x)] := fun H locs ls hW hS hl => W.zret C.2.1 C.2.2.1 hr hn (fun t ht hWt => ⟨_, σ, rfl, hp, by rw [ht]; exact hW, hS.F ht⟩) hS.2.2 d C.2.2.2.2.2.2.1
theorem v_lret {post : Option Value → St → Prop} (C : Cx γ φ own cc nL lev) (hr : φ.2.2.2.2.2.2.2.1.sig.returnType = some .long) {x : Int} (d : decode cc pc = .ok (.lreturn, 1)) (hp : post (some (.long (lI x))) σ) : Vw γ φ nL 0 0 (QE γ φ post) σ pc lv [.long (lI x)] := fun H locs ls hW hS hl => W.lret C.2.1 C.2.2.1 hr (fun t ht hWt => ⟨_, σ, rfl, hp, by rw [ht]; exact hW, hS.F ht⟩) hS.2.2 d C.2.2.2.2.2.2.1
theorem v_vret {post : Option Value → St → Prop} (C : Cx γ φ own cc nL lev) (hr : φ.2.2.2.2.2.2.2.1.sig.returnType = none) (d : decode cc pc = .ok (.return_, 1)) (hp : post none σ) : Vw γ φ nL 0 0 (QE γ φ post) σ pc lv [] := fun H locs ls hW hS hl => W.vret C.2.1 C.2.2.1 hr (fun t ht hWt => ⟨_, σ, rfl, hp, by rw [ht]; exact hW, hS.F ht⟩) hS.2.2 d C.2.2.2.2.2.2.1
theorem v_aret {post : Option Value → St → Prop} {rt : FieldType} (C : Cx γ φ own cc nL lev) (hr : φ.2.2.2.2.2.2.2.1.sig.returnType = some (.array rt)) {x : Nat} (d : decode cc pc = .ok (.areturn, 1)) (hp : post (some (.ref x)) σ) : Vw γ φ nL 0 0 (QE γ φ post) σ pc lv [.ref x] := fun H locs ls hW hS hl => W.aret C.2.1 C.2.2.1 hr (Or.inr ⟨_, rfl⟩) (Or.inr ⟨_, rfl⟩) (fun t ht hWt => ⟨_, σ, rfl, hp, by rw [ht]; exact hW, hS.F ht⟩) hS.2.2 d C.2.2.2.2.2.2.1
end VR
