section VM2
variable {γ : Gm} {φ : Fx} {own : String} {cc : ByteArray} {nL lev a b : Nat} {Q : State → Prop} {σ α : St} {pc : Nat} {lv lv2 : List (Nat × Value)} {st : List Value}
theorem v_getiM (C : Cx γ φ own cc nL lev) {n ix : Nat} {ref : String} (hN : NetB n) (k0 : Nat) (hk : k0 < 4) (hw : Wrd γ (.fieldLink own ix ref (TX2 k0).2.1 (TX2 k0).2.2.1)) (href : (TX2 k0).1 = ref) (ki : Int) (hki : (k0 : Int) = ki) (d : decode cc pc = .ok (.getfield ix, 3)) (k : ∀ z : Int, z = α 0 ki → (-2147483648 ≤ z ∧ z < 2147483648) → Vw γ φ nL a b Q (setN σ n α) (pc + 3) lv (.int (iI z) :: st)) : Vw γ φ nL a b Q (setN σ n α) pc lv (.ref (bs γ + n) :: st) := by
  subst hki
  exact v_getiN C hN k0 hk hw href d k
theorem v_putiM (C : Cx γ φ own cc nL lev) {n ix : Nat} {ref : String} (hN : NetB n) (k0 : Nat) (hk : k0 < 4) (hw : Wrd γ (.fieldLink own ix ref (TX2 k0).2.1 (TX2 k0).2.2.1)) (href : (TX2 k0).1 = ref) (hfin : (TX2 k0).2.2.2 = false) (ki : Int) (hki : (k0 : Int) = ki) {x : Int} (hx : -2147483648 ≤ x ∧ x < 2147483648) (d : decode cc pc = .ok (.putfield ix, 3)) (k : Vw γ φ nL a b Q (setN σ n (setc α 0 (upr (α 0) ki x))) (pc + 3) lv st) : Vw γ φ nL a b Q (setN σ n α) pc lv (.int (iI x) :: .ref (bs γ + n) :: st) := by
  subst hki
  exact v_putiN C hN k0 hk hw href hfin hx d k
end VM2
theorem iOr_0 (a b : Int) : iOr (iOr a b) 0 = iOr a b := by
  unfold iOr
  rw [iI_asI, show iI 0 = (0 : Int32) from rfl, Int32.or_zero]
theorem keysR_0 (r : Int → Int) : ∀ j : Nat, iOr (keysR r j) 0 = keysR r j
  | 0 => (by decide : iOr 0 0 = 0)
  | j + 1 => iOr_0 _ _
