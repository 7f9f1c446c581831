theorem sh_0 : sh 0 = (5, 3) := by decide +kernel
theorem sh_1 : sh 1 = (5, 2) := by decide +kernel
theorem sh_2 : sh 2 = (1, 120) := by decide +kernel
theorem sh_3 : sh 3 = (0, 5) := by decide +kernel
theorem sh_4 : sh 4 = (5, 1) := by decide +kernel
theorem sh_5 : sh 5 = (0, 2) := by decide +kernel
theorem sh_6 : sh 6 = (0, 10) := by decide +kernel
theorem sh_7 : sh 7 = (0, 10) := by decide +kernel
theorem sh_8 : sh 8 = (0, 10) := by decide +kernel
theorem sh_9 : sh 9 = (0, 20) := by decide +kernel
theorem sh_10 : sh 10 = (0, 20) := by decide +kernel
theorem sh_11 : sh 11 = (0, 16) := by decide +kernel
theorem sh_12 : sh 12 = (0, 16) := by decide +kernel
theorem sh_13 : sh 13 = (0, 16) := by decide +kernel
theorem sh_14 : sh 14 = (0, 16) := by decide +kernel
theorem sh_15 : sh 15 = (0, 96) := by decide +kernel
theorem sh_16 : sh 16 = (0, 20) := by decide +kernel
theorem sh_17 : sh 17 = (5, 0) := by decide +kernel
theorem sh_18 : sh 18 = (4, 14) := by decide +kernel
theorem sh_201 : sh 201 = (4, 2) := by decide +kernel
theorem sh_202 : sh 202 = (2, 2) := by decide +kernel
theorem sh_203 : sh 203 = (5, 1) := by decide +kernel
theorem sh_204 : sh 204 = (0, 2) := by decide +kernel
theorem sh_205 : sh 205 = (0, 10) := by decide +kernel
theorem sh_206 : sh 206 = (0, 10) := by decide +kernel
theorem sh_207 : sh 207 = (0, 10) := by decide +kernel
theorem sh_208 : sh 208 = (0, 20) := by decide +kernel
theorem sh_209 : sh 209 = (0, 20) := by decide +kernel
theorem sh_210 : sh 210 = (0, 16) := by decide +kernel
theorem sh_211 : sh 211 = (0, 16) := by decide +kernel
theorem sh_212 : sh 212 = (0, 16) := by decide +kernel
theorem sh_213 : sh 213 = (0, 16) := by decide +kernel
theorem sh_214 : sh 214 = (0, 96) := by decide +kernel
theorem sh_215 : sh 215 = (0, 20) := by decide +kernel
theorem sh_216 : sh 216 = (5, 1) := by decide +kernel
theorem sh_217 : sh 217 = (0, 2) := by decide +kernel
theorem sh_218 : sh 218 = (0, 10) := by decide +kernel
theorem sh_219 : sh 219 = (0, 10) := by decide +kernel
theorem sh_220 : sh 220 = (0, 10) := by decide +kernel
theorem sh_221 : sh 221 = (0, 20) := by decide +kernel
theorem sh_222 : sh 222 = (0, 20) := by decide +kernel
theorem sh_223 : sh 223 = (0, 16) := by decide +kernel
theorem sh_224 : sh 224 = (0, 16) := by decide +kernel
theorem sh_225 : sh 225 = (0, 16) := by decide +kernel
theorem sh_226 : sh 226 = (0, 16) := by decide +kernel
theorem sh_227 : sh 227 = (0, 96) := by decide +kernel
theorem sh_228 : sh 228 = (0, 20) := by decide +kernel
theorem nlen_b {k m : Nat} (hk : k < 13) (h : shN.getD k (9, 0) = (0, m)) : m ≤ 4000 := by
  have key : ∀ k, k < 13 → (shN.getD k (9, 0)).2 ≤ 4000 := by decide +kernel
  have := key k hk
  rw [h] at this
  exact this
theorem lc_r (x y : Int) : -2147483648 ≤ (if x < y then (-1 : Int) else if x = y then 0 else 1) ∧ (if x < y then (-1 : Int) else if x = y then 0 else 1) < 2147483648 := by
  split
  · omega
  · split <;> omega
theorem lc_lt {x y : Int} : (if x < y then (-1 : Int) else if x = y then 0 else 1) < 0 ↔ x < y := by
  split
  · omega
  · split <;> omega
theorem lc_gt {x y : Int} : 0 < (if x < y then (-1 : Int) else if x = y then 0 else 1) ↔ y < x := by
  split
  · omega
  · split <;> omega
theorem lc_le {x y : Int} : (if x < y then (-1 : Int) else if x = y then 0 else 1) ≤ 0 ↔ x ≤ y := by
  split
  · omega
  · split <;> omega
theorem lc_ge {x y : Int} : 0 ≤ (if x < y then (-1 : Int) else if x = y then 0 else 1) ↔ y ≤ x := by
  split
  · omega
  · split <;> omega
theorem lc_eq {x y : Int} : (if x < y then (-1 : Int) else if x = y then 0 else 1) = 0 ↔ x = y := by
  split
  · omega
  · split <;> omega
section VM
variable {γ : Gm} {φ : Fx} {own : String} {cc : ByteArray} {nL lev a b : Nat} {Q : State → Prop} {σ α : St} {pc : Nat} {lv lv2 : List (Nat × Value)} {st : List Value}
theorem v_ialdR (C : Cx γ φ own cc nL lev) {c0 n : Nat} {r : Int → Int} {j : Int} (hs : sh c0 = (0, n) ∧ n ≤ 4000) (hj : 0 ≤ j ∧ j < n) (d : decode cc pc = .ok (.iaload, 1)) (k : ∀ z : Int, z = r j → (-2147483648 ≤ z ∧ z < 2147483648) → Vw γ φ nL a b Q (setc σ c0 r) (pc + 1) lv (.int (iI z) :: st)) : Vw γ φ nL a b Q (setc σ c0 r) pc lv (.int (iI j) :: .ref (bs γ + c0) :: st) := by
  refine v_iald C hs.1 hs.2 hj d (fun z ez rz => k z ?_ rz)
  rw [ez, setc_at]
theorem v_iastR (C : Cx γ φ own cc nL lev) {c0 n : Nat} {r : Int → Int} {j x : Int} (hs : sh c0 = (0, n) ∧ n ≤ 4000) (hj : 0 ≤ j ∧ j < n) (hx : -2147483648 ≤ x ∧ x < 2147483648) (d : decode cc pc = .ok (.iastore, 1)) (k : Vw γ φ nL a b Q (setc σ c0 (upr r j x)) (pc + 1) lv st) : Vw γ φ nL a b Q (setc σ c0 r) pc lv (.int (iI x) :: .int (iI j) :: .ref (bs γ + c0) :: st) := by
  refine v_iast C hs.1 hs.2 hj hx d ?_
  rw [setc_at, setc_setc]
  exact k
theorem v_ialdN (C : Cx γ φ own cc nL lev) {n m : Nat} {j : Int} (hN : NetB n) (k0 : Nat) (hk : k0 < 13) (hm : shN.getD k0 (9, 0) = (0, m)) (hj : 0 ≤ j ∧ j < m) (d : decode cc pc = .ok (.iaload, 1)) (k : ∀ z : Int, z = α k0 j → (-2147483648 ≤ z ∧ z < 2147483648) → Vw γ φ nL a b Q (setN σ n α) (pc + 1) lv (.int (iI z) :: st)) : Vw γ φ nL a b Q (setN σ n α) pc lv (.int (iI j) :: .ref (bs γ + (n + k0)) :: st) := by
  have hs : sh (n + k0) = (0, m) := (hN.sh hk).trans hm
  have hb : m ≤ 4000 := nlen_b hk hm
  refine v_iald C hs hb hj d (fun z ez rz => k z ?_ rz)
  rw [ez, setN_at _ _ _ hk]
theorem v_iastN (C : Cx γ φ own cc nL lev) {n m : Nat} {j x : Int} (hN : NetB n) (k0 : Nat) (hk : k0 < 13) (hm : shN.getD k0 (9, 0) = (0, m)) (hj : 0 ≤ j ∧ j < m) (hx : -2147483648 ≤ x ∧ x < 2147483648) (d : decode cc pc = .ok (.iastore, 1)) (k : Vw γ φ nL a b Q (setN σ n (setc α k0 (upr (α k0) j x))) (pc + 1) lv st) : Vw γ φ nL a b Q (setN σ n α) pc lv (.int (iI x) :: .int (iI j) :: .ref (bs γ + (n + k0)) :: st) := by
  have hs : sh (n + k0) = (0, m) := (hN.sh hk).trans hm
  have hb : m ≤ 4000 := nlen_b hk hm
  refine v_iast C hs hb hj hx d ?_
  rw [setN_at _ _ _ hk, setc_setN _ _ _ hk]
  exact k
theorem v_getiN (C : Cx γ φ own cc nL lev) {n ix : Nat} {ref : String} (hN : NetB n) (k0 : Nat) (hk : k0 < 4) (hw : Wrd γ (.fieldLink own ix ref (TX2 k0).2.1 (TX2 k0).2.2.1)) (href : (TX2 k0).1 = ref) (d : decode cc pc = .ok (.getfield ix, 3)) (k : ∀ z : Int, z = α 0 (k0 : Int) → (-2147483648 ≤ z ∧ z < 2147483648) → Vw γ φ nL a b Q (setN σ n α) (pc + 3) lv (.int (iI z) :: st)) : Vw γ φ nL a b Q (setN σ n α) pc lv (.ref (bs γ + n) :: st) := by
  have hs : sh n = (5, 1) := hN.sh (k := 0) (by decide)
  have e0 : setN σ n α n = α 0 := setN_at σ n α (k := 0) (by decide)
  refine v_geti C inX2 goX2 (ci := 1) rfl k0 (by omega) hw href hs (k0 : Int) ?_ d (fun z ez rz => k z (by rw [ez, e0]) rz)
  rcases (show k0 = 0 ∨ k0 = 1 ∨ k0 = 2 ∨ k0 = 3 by omega) with h | h | h | h <;> subst h <;> rfl
theorem v_getrN (C : Cx γ φ own cc nL lev) {n ix : Nat} {ref : String} (hN : NetB n) (k0 o : Nat) (hk : k0 = o + 3 ∧ 1 ≤ o ∧ o ≤ 12) (hw : Wrd γ (.fieldLink own ix ref (TX2 k0).2.1 (TX2 k0).2.2.1)) (href : (TX2 k0).1 = ref) (d : decode cc pc = .ok (.getfield ix, 3)) (k : Vw γ φ nL a b Q σ (pc + 3) lv (.ref (bs γ + (n + o)) :: st)) : Vw γ φ nL a b Q σ pc lv (.ref (bs γ + n) :: st) := by
  have hs : sh n = (5, 1) := hN.sh (k := 0) (by decide)
  refine v_getr C inX2 goX2 (ci := 1) rfl k0 (by omega) hw href hs (n + o) ?_ d k
  obtain ⟨rfl, h1, h2⟩ := hk
  rcases (show o = 1 ∨ o = 2 ∨ o = 3 ∨ o = 4 ∨ o = 5 ∨ o = 6 ∨ o = 7 ∨ o = 8 ∨ o = 9 ∨ o = 10 ∨ o = 11 ∨ o = 12 by omega) with h | h | h | h | h | h | h | h | h | h | h | h <;> subst h <;> rfl
theorem ob_set_X1_0 {c : Nat} {r : Int → Int} {z : Int} : (obF γ 0 c r).set 0 (.int (iI z)) = obF γ 0 c (upr r (0 : Nat) z) := rfl
theorem ob_set_X1_1 {c : Nat} {r : Int → Int} {z : Int} : (obF γ 0 c r).set 1 (.int (iI z)) = obF γ 0 c (upr r (1 : Nat) z) := rfl
theorem ob_set_X2_0 {c : Nat} {r : Int → Int} {z : Int} : (obF γ 1 c r).set 0 (.int (iI z)) = obF γ 1 c (upr r (0 : Nat) z) := rfl
theorem ob_set_X2_1 {c : Nat} {r : Int → Int} {z : Int} : (obF γ 1 c r).set 1 (.int (iI z)) = obF γ 1 c (upr r (1 : Nat) z) := rfl
theorem ob_set_X2_2 {c : Nat} {r : Int → Int} {z : Int} : (obF γ 1 c r).set 2 (.int (iI z)) = obF γ 1 c (upr r (2 : Nat) z) := rfl
theorem ob_set_X2_3 {c : Nat} {r : Int → Int} {z : Int} : (obF γ 1 c r).set 3 (.int (iI z)) = obF γ 1 c (upr r (3 : Nat) z) := rfl
theorem ob_set_X4_1 {c : Nat} {r : Int → Int} {z : Int} : (obF γ 2 c r).set 1 (.int (iI z)) = obF γ 2 c (upr r (1 : Nat) z) := rfl
theorem ob_set_X4_2 {c : Nat} {r : Int → Int} {z : Int} : (obF γ 2 c r).set 2 (.int (iI z)) = obF γ 2 c (upr r (2 : Nat) z) := rfl
theorem ob_set_X4_3 {c : Nat} {r : Int → Int} {z : Int} : (obF γ 2 c r).set 3 (.int (iI z)) = obF γ 2 c (upr r (3 : Nat) z) := rfl
theorem v_putiN (C : Cx γ φ own cc nL lev) {n ix : Nat} {ref : String} (hN : NetB n) (k0 : Nat) (hk : k0 < 4) (hw : Wrd γ (.fieldLink own ix ref (TX2 k0).2.1 (TX2 k0).2.2.1)) (href : (TX2 k0).1 = ref) (hfin : (TX2 k0).2.2.2 = false) {x : Int} (hx : -2147483648 ≤ x ∧ x < 2147483648) (d : decode cc pc = .ok (.putfield ix, 3)) (k : Vw γ φ nL a b Q (setN σ n (setc α 0 (upr (α 0) (k0 : Int) x))) (pc + 3) lv st) : Vw γ φ nL a b Q (setN σ n α) pc lv (.int (iI x) :: .ref (bs γ + n) :: st) := by
  have hs : sh n = (5, 1) := hN.sh (k := 0) (by decide)
  have e0 : setN σ n α n = α 0 := setN_at σ n α (k := 0) (by decide)
  refine v_puti C inX2 goX2 (ci := 1) rfl k0 (by omega) hw href hs tyX2 tyX2_ok nmX2 hfin ?_ (fun r => ?_) (fun r z => ?_) hx d ?_
  · rcases (show k0 = 0 ∨ k0 = 1 ∨ k0 = 2 ∨ k0 = 3 by omega) with h | h | h | h <;> subst h <;> rfl
  · show k0 < 16
    omega
  · rcases (show k0 = 0 ∨ k0 = 1 ∨ k0 = 2 ∨ k0 = 3 by omega) with h | h | h | h <;> subst h
    · exact ob_set_X2_0
    · exact ob_set_X2_1
    · exact ob_set_X2_2
    · exact ob_set_X2_3
  · rw [e0]
    have e := setc_setN σ n α (k := 0) (by decide) (upr (α 0) (k0 : Int) x)
    rw [show n + 0 = n from rfl] at e
    rw [e]
    exact k
end VM
