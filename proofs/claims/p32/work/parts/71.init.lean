/-! the first world -/
def σ0 : St := fun c j => if c = 257 then (if j = 4 then 2 else if j = 5 then 30 else 0) else if sh c = (0, 2) then (if j = 0 then 2 else if j = 1 then 30 else 0) else 0
theorem σ0_z {c : Nat} (h1 : c ≠ 257) (h2 : sh c ≠ (0, 2)) : σ0 c = fun _ => 0 := by
  funext j
  unfold σ0
  rw [if_neg h1, if_neg h2]
theorem σ0_s {c : Nat} (h1 : c ≠ 257) (h2 : sh c = (0, 2)) : σ0 c = fun j => if j = 0 then 2 else if j = 1 then 30 else 0 := by
  funext j
  unfold σ0
  rw [if_neg h1, if_pos h2]
def fin (γ : Gm) (c : Nat) : va_E := cellK γ (sh c) c (σ0 c)
/-- what stands at the cell q, if it holds e, is what the first world has there -/
def Ft (γ : Gm) (q : Nat) (e : va_E) : Prop := ∀ H : Heap, va_at γ.2.2.2.1 classes (bs γ + q, e) H → va_at γ.2.2.2.1 classes (bs γ + q, fin γ q) H
def FN (γ : Gm) (E : Nat → va_E) (lo hi : Nat) : Prop := ∀ q, lo ≤ q → q < hi → Ft γ q (E q)
theorem FN.kept {γ : Gm} {E E' : Nat → va_E} {lo hi : Nat} (h : FN γ E lo hi) (e : ∀ q, lo ≤ q → q < hi → E' q = E q) : FN γ E' lo hi := fun q a b => by rw [e q a b]; exact h q a b
theorem FN.cat {γ : Gm} {E : Nat → va_E} {lo mi hi : Nat} (h : FN γ E lo mi) (g : FN γ E mi hi) : FN γ E lo hi := fun q a b => if c : q < mi then h q a c else g q (by omega) b
theorem FN.one {γ : Gm} {E : Nat → va_E} {q : Nat} (h : Ft γ q (E q)) : FN γ E q (q + 1) := fun r a b => by
  obtain rfl : r = q := by omega
  exact h
theorem arrV_c {cA : ClassId} {n : Nat} {f g : Nat → Value} (h : ∀ j, j < n → f j = g j) : arrV cA n f = arrV cA n g := by
  unfold arrV
  congr 2
  funext j
  exact h j.val j.isLt
theorem ft_i {γ : Gm} {q n : Nat} (hs : sh q = (0, n)) {f : Nat → Int32} (hf : ∀ j : Nat, j < n → f j = iI (σ0 q j)) : Ft γ q (.inl (γ.2.2.2.2.1 0, n, .inl f)) := by
  intro H h
  unfold fin
  rw [hs]
  show H[bs γ + q]? = some (vp_cell _ _)
  rw [show H[bs γ + q]? = some (vp_cell (γ.2.2.2.2.1 0) (n, .inl f)) from h, vp_cell_i, vp_cell_i]
  exact congrArg some (arrV_c (fun j hj => by rw [hf j hj]))
theorem ft_c {γ : Gm} {q n : Nat} (hs : sh q = (1, n)) {f : Nat → Int32} (hf : ∀ j : Nat, j < n → f j = iI (σ0 q j)) : Ft γ q (.inl (γ.2.2.2.2.1 1, n, .inl f)) := by
  intro H h
  unfold fin
  rw [hs]
  show H[bs γ + q]? = some (vp_cell _ _)
  rw [show H[bs γ + q]? = some (vp_cell (γ.2.2.2.2.1 1) (n, .inl f)) from h, vp_cell_i, vp_cell_i]
  exact congrArg some (arrV_c (fun j hj => by rw [hf j hj]))
theorem ft_b {γ : Gm} {q n : Nat} (hs : sh q = (2, n)) {f : Nat → Int32} (hf : ∀ j : Nat, j < n → f j = iI (σ0 q j)) : Ft γ q (.inl (γ.2.2.2.2.1 2, n, .inl f)) := by
  intro H h
  unfold fin
  rw [hs]
  show H[bs γ + q]? = some (vp_cell _ _)
  rw [show H[bs γ + q]? = some (vp_cell (γ.2.2.2.2.1 2) (n, .inl f)) from h, vp_cell_i, vp_cell_i]
  exact congrArg some (arrV_c (fun j hj => by rw [hf j hj]))
theorem ft_l {γ : Gm} {q n : Nat} (hs : sh q = (3, n)) {f : Nat → Int64} (hf : ∀ j : Nat, j < n → f j = lI (σ0 q j)) : Ft γ q (.inl (γ.2.2.2.2.1 3, n, .inr (.inl f))) := by
  intro H h
  unfold fin
  rw [hs]
  show H[bs γ + q]? = some (vp_cell _ _)
  rw [show H[bs γ + q]? = some (vp_cell (γ.2.2.2.2.1 3) (n, .inr (.inl f))) from h, vp_cell_l, vp_cell_l]
  exact congrArg some (arrV_c (fun j hj => by rw [hf j hj]))
theorem ft_q {γ : Gm} {q n : Nat} (hs : sh q = (4, n)) {f : Nat → Option Nat} (hf : ∀ j : Nat, j < n → f j = some (bs γ + nref q j)) : Ft γ q (.inl (γ.2.2.2.2.1 4, n, .inr (.inr (.inr (.inr f))))) := by
  intro H h
  unfold fin
  rw [hs]
  show H[bs γ + q]? = some (vp_cell _ _)
  rw [show H[bs γ + q]? = some (vp_cell (γ.2.2.2.2.1 4) (n, .inr (.inr (.inr (.inr f))))) from h, vp_cell_q, vp_cell_q]
  exact congrArg some (arrV_c (fun j hj => by rw [hf j hj]))
theorem ft_o {γ : Gm} {q ci : Nat} (hs : sh q = (5, ci)) {fs : List Value} (hf : fs = obF γ ci q (σ0 q)) : Ft γ q (.inr (ci, fs)) := by
  intro H h
  unfold fin
  rw [hs]
  subst hf
  exact h
theorem wrd_AO {γ : Gm} (G : Glo γ) {c : String} (k : Nat) (hm : lw_tbl[k]? = some (.arrayOver (.object c))) : Wrd γ (.arrayOver (.object c)) := fun _ _ hW => va_AO.use (va_AO.moved hW.alike (va_AO.of (G.2.1 _ (List.mem_of_getElem? hm))))
theorem wO_I {γ : Gm} (G : Glo γ) : Wrd γ (.instanceMethod Lib.objectInit) := wrd_of G 42 (by decide +kernel) (by decide +kernel)
theorem wO_C {γ : Gm} (G : Glo γ) : Wrd γ (.code Lib.objectInit ⟨#[0xb1]⟩ 1 none) := wrd_of G 43 (by decide +kernel) (by decide +kernel)
theorem wAC_char {γ : Gm} (G : Glo γ) : Wrd γ (.arrayClass .char) := wrd_of G 68 (by decide +kernel) (by decide +kernel)
theorem wAC_int {γ : Gm} (G : Glo γ) : Wrd γ (.arrayClass .int) := wrd_of G 69 (by decide +kernel) (by decide +kernel)
theorem wAC_boolean {γ : Gm} (G : Glo γ) : Wrd γ (.arrayClass .boolean) := wrd_of G 190 (by decide +kernel) (by decide +kernel)
theorem wAO_X2 {γ : Gm} (G : Glo γ) : Wrd γ (.arrayOver (.object RX2)) := wrd_AO G 155 (by decide +kernel)
theorem wIn_X4 {γ : Gm} (G : Glo γ) : Wrd γ (.instantiable RX4 5) := wrd_of G 45 (by decide +kernel) (by decide +kernel)
theorem wIz_X4 {γ : Gm} (G : Glo γ) : Wrd γ (.initialized RX4) := wrd_of G 12 (by decide +kernel) (by decide +kernel)
theorem wIn_X2 {γ : Gm} (G : Glo γ) : Wrd γ (.instantiable RX2 16) := wrd_of G 71 (by decide +kernel) (by decide +kernel)
theorem wIz_X2 {γ : Gm} (G : Glo γ) : Wrd γ (.initialized RX2) := wrd_of G 13 (by decide +kernel) (by decide +kernel)
theorem wIn_X1 {γ : Gm} (G : Glo γ) : Wrd γ (.instantiable RX1 3) := wrd_of G 149 (by decide +kernel) (by decide +kernel)
theorem wIz_X1 {γ : Gm} (G : Glo γ) : Wrd γ (.initialized RX1) := wrd_of G 14 (by decide +kernel) (by decide +kernel)
theorem wIn_X5 {γ : Gm} (G : Glo γ) : Wrd γ (.instantiable RX5 7) := wrd_of G 37 (by decide +kernel) (by decide +kernel)
theorem wIz_X5 {γ : Gm} (G : Glo γ) : Wrd γ (.initialized RX5) := wrd_of G 11 (by decide +kernel) (by decide +kernel)
theorem wCl_X5_7 {γ : Gm} (G : Glo γ) : Wrd γ (.classLink RX5 7 RX4) := wrd_of G 44 (by decide +kernel) (by decide +kernel)
theorem wCl_X5_16 {γ : Gm} (G : Glo γ) : Wrd γ (.classLink RX5 16 RX2) := wrd_of G 70 (by decide +kernel) (by decide +kernel)
theorem wCl_X5_23 {γ : Gm} (G : Glo γ) : Wrd γ (.classLink RX5 23 RX1) := wrd_of G 148 (by decide +kernel) (by decide +kernel)
theorem wCl_X1_9 {γ : Gm} (G : Glo γ) : Wrd γ (.classLink RX1 9 RX2) := wrd_of G 154 (by decide +kernel) (by decide +kernel)
theorem wCl_L_8 {γ : Gm} (G : Glo γ) : Wrd γ (.classLink RL 8 RX5) := wrd_of G 36 (by decide +kernel) (by decide +kernel)
theorem df_X4 : ∀ j, j < 5 → defaultValue (tyX4 j) = vp_V [.null, .int 0, .int 0, .int 0, .null] j := by
  intro j hj
  rcases (show j = 0 ∨ j = 1 ∨ j = 2 ∨ j = 3 ∨ j = 4 by omega) with rfl | rfl | rfl | rfl | rfl <;> rfl
theorem df_X2 : ∀ j, j < 16 → defaultValue (tyX2 j) = vp_V [.int 0, .int 0, .int 0, .int 0, .null, .null, .null, .null, .null, .null, .null, .null, .null, .null, .null, .null] j := by
  intro j hj
  rcases (show j = 0 ∨ j = 1 ∨ j = 2 ∨ j = 3 ∨ j = 4 ∨ j = 5 ∨ j = 6 ∨ j = 7 ∨ j = 8 ∨ j = 9 ∨ j = 10 ∨ j = 11 ∨ j = 12 ∨ j = 13 ∨ j = 14 ∨ j = 15 by omega) with rfl | rfl | rfl | rfl | rfl | rfl | rfl | rfl | rfl | rfl | rfl | rfl | rfl | rfl | rfl | rfl <;> rfl
theorem df_X1 : ∀ j, j < 3 → defaultValue (tyX1 j) = vp_V [.int 0, .int 0, .null] j := by
  intro j hj
  rcases (show j = 0 ∨ j = 1 ∨ j = 2 by omega) with rfl | rfl | rfl <;> rfl
theorem df_X5 : ∀ j, j < 7 → defaultValue (tyX5 j) = vp_V [.null, .null, .null, .null, .null, .null, .null] j := by
  intro j hj
  rcases (show j = 0 ∨ j = 1 ∨ j = 2 ∨ j = 3 ∨ j = 4 ∨ j = 5 ∨ j = 6 by omega) with rfl | rfl | rfl | rfl | rfl | rfl | rfl <;> rfl
set_option maxHeartbeats 4000000 in
set_option maxRecDepth 100000 in
theorem k_X2_init {γ : Gm} (G : Glo γ) {n : Nat} {E : Nat → va_E} (hN : NetB n) (ho : E n = .inr (1, [.int 0, .int 0, .int 0, .int 0, .null, .null, .null, .null, .null, .null, .null, .null, .null, .null, .null, .null])) : Cn γ yX2_init cX2_init 1 1 12 252 [.ref (bs γ + n)] E (n + 1) (fun E' => FN γ E' n (n + 13) ∧ (∃ vs, E' n = .inr (1, vs)) ∧ ∀ q, q < n → E' q = E q) := by
  refine Cn.of G (by decide +kernel) (Nat.le_of_ble_eq_true rfl) (fun φ C hcr hname hr => ?_)
  have C : Cx γ φ RX2 cX2_init 1 1 := C
  have hi9 : φ.2.2.2.2.2.2.2.1.name = "<init>" := hname
  refine p_lv [(0, .ref (bs γ + n))] [0] rfl ?_
  have hK : ∀ q, q < n → E q = E q := fun _ _ => rfl
  have hlt := hN.lt
  refine p_aload_n (pc := 0) C 0 rfl dX2_init_0 ?_
  refine p_obj (pc := 1) C (wM_X2_3 G) (wO_I G) (wO_C G) dX2_init_1 (Nat.le_of_ble_eq_true rfl) ?_
  refine p_aload_n (pc := 4) C 0 rfl dX2_init_4 ?_
  refine p_iconst (pc := 5) C dX2_init_5 ?_
  refine p_newa (pc := 6) C (ty := .int) rfl (wAC_int G) 0 rfl (fun _ _ h => h) (N := 2) (a0 := (2, .inl (fun _ => 0))) (fun _ => rfl) (by decide) (by decide) ⟨by omega, by omega⟩ dX2_init_6 (fun E1 hE1 hO1 => ?_)
  have ho := (hO1 _ (by omega)).trans ho
  have hK : ∀ q, q < n → E1 q = E q := fun q hq => (hO1 q (by omega)).trans (hK q hq)
  have hn_1 := hE1
  refine p_m (m' := n + 2) (by omega) ?_
  refine p_dup (pc := 8) C rfl dX2_init_8 ?_
  refine p_iconst (pc := 9) C dX2_init_9 ?_
  refine p_iconst (pc := 10) C dX2_init_10 ?_
  refine p_iast (pc := 11) C (by omega) hn_1 (by omega) (by decide) dX2_init_11 (fun E2 hE2 hO2 => ?_)
  have ho := (hO2 _ (by omega)).trans ho
  have hK : ∀ q, q < n → E2 q = E q := fun q hq => (hO2 q (by omega)).trans (hK q hq)
  have hn_1 := hE2
  refine p_dup (pc := 12) C rfl dX2_init_12 ?_
  refine p_iconst (pc := 13) C dX2_init_13 ?_
  refine p_bipush (pc := 14) C (by decide +kernel) dX2_init_14 ?_
  refine p_iast (pc := 16) C (by omega) hn_1 (by omega) (by decide) dX2_init_16 (fun E3 hE3 hO3 => ?_)
  have ho := (hO3 _ (by omega)).trans ho
  have hK : ∀ q, q < n → E3 q = E q := fun q hq => (hO3 q (by omega)).trans (hK q hq)
  have hn_1 := hE3
  refine p_putF (pc := 17) C hi9 inX2 goX2 (ci := 1) rfl 4 (by decide) (wF_X2_9 G) rfl tyX2 tyX2_ok nmX2 rfl rfl rfl rfl (by omega) ho (Nat.le_of_ble_eq_true rfl) dX2_init_17 (fun E4 hE4 hO4 => ?_)
  have hn_1 := (hO4 _ (by omega)).trans hn_1
  have hK : ∀ q, q < n → E4 q = E q := fun q hq => (hO4 q (by omega)).trans (hK q hq)
  have ho : E4 n = .inr (1, [.int 0, .int 0, .int 0, .int 0, .ref (bs γ + (n + 1)), .null, .null, .null, .null, .null, .null, .null, .null, .null, .null, .null]) := hE4
  refine p_aload_n (pc := 20) C 0 rfl dX2_init_20 ?_
  refine p_bipush (pc := 21) C (by decide +kernel) dX2_init_21 ?_
  refine p_newa (pc := 23) C (ty := .int) rfl (wAC_int G) 0 rfl (fun _ _ h => h) (N := 10) (a0 := (10, .inl (fun _ => 0))) (fun _ => rfl) (by decide) (by decide) ⟨by omega, by omega⟩ dX2_init_23 (fun E5 hE5 hO5 => ?_)
  have ho := (hO5 _ (by omega)).trans ho
  have hn_1 := (hO5 _ (by omega)).trans hn_1
  have hK : ∀ q, q < n → E5 q = E q := fun q hq => (hO5 q (by omega)).trans (hK q hq)
  have hn_2 := hE5
  refine p_m (m' := n + 3) (by omega) ?_
  refine p_putF (pc := 25) C hi9 inX2 goX2 (ci := 1) rfl 5 (by decide) (wF_X2_15 G) rfl tyX2 tyX2_ok nmX2 rfl rfl rfl rfl (by omega) ho (Nat.le_of_ble_eq_true rfl) dX2_init_25 (fun E6 hE6 hO6 => ?_)
  have hn_1 := (hO6 _ (by omega)).trans hn_1
  have hn_2 := (hO6 _ (by omega)).trans hn_2
  have hK : ∀ q, q < n → E6 q = E q := fun q hq => (hO6 q (by omega)).trans (hK q hq)
  have ho : E6 n = .inr (1, [.int 0, .int 0, .int 0, .int 0, .ref (bs γ + (n + 1)), .ref (bs γ + (n + 2)), .null, .null, .null, .null, .null, .null, .null, .null, .null, .null]) := hE6
  refine p_aload_n (pc := 28) C 0 rfl dX2_init_28 ?_
  refine p_bipush (pc := 29) C (by decide +kernel) dX2_init_29 ?_
  refine p_newa (pc := 31) C (ty := .int) rfl (wAC_int G) 0 rfl (fun _ _ h => h) (N := 10) (a0 := (10, .inl (fun _ => 0))) (fun _ => rfl) (by decide) (by decide) ⟨by omega, by omega⟩ dX2_init_31 (fun E7 hE7 hO7 => ?_)
  have ho := (hO7 _ (by omega)).trans ho
  have hn_1 := (hO7 _ (by omega)).trans hn_1
  have hn_2 := (hO7 _ (by omega)).trans hn_2
  have hK : ∀ q, q < n → E7 q = E q := fun q hq => (hO7 q (by omega)).trans (hK q hq)
  have hn_3 := hE7
  refine p_m (m' := n + 4) (by omega) ?_
  refine p_putF (pc := 33) C hi9 inX2 goX2 (ci := 1) rfl 6 (by decide) (wF_X2_18 G) rfl tyX2 tyX2_ok nmX2 rfl rfl rfl rfl (by omega) ho (Nat.le_of_ble_eq_true rfl) dX2_init_33 (fun E8 hE8 hO8 => ?_)
  have hn_1 := (hO8 _ (by omega)).trans hn_1
  have hn_2 := (hO8 _ (by omega)).trans hn_2
  have hn_3 := (hO8 _ (by omega)).trans hn_3
  have hK : ∀ q, q < n → E8 q = E q := fun q hq => (hO8 q (by omega)).trans (hK q hq)
  have ho : E8 n = .inr (1, [.int 0, .int 0, .int 0, .int 0, .ref (bs γ + (n + 1)), .ref (bs γ + (n + 2)), .ref (bs γ + (n + 3)), .null, .null, .null, .null, .null, .null, .null, .null, .null]) := hE8
  refine p_aload_n (pc := 36) C 0 rfl dX2_init_36 ?_
  refine p_bipush (pc := 37) C (by decide +kernel) dX2_init_37 ?_
  refine p_newa (pc := 39) C (ty := .int) rfl (wAC_int G) 0 rfl (fun _ _ h => h) (N := 10) (a0 := (10, .inl (fun _ => 0))) (fun _ => rfl) (by decide) (by decide) ⟨by omega, by omega⟩ dX2_init_39 (fun E9 hE9 hO9 => ?_)
  have ho := (hO9 _ (by omega)).trans ho
  have hn_1 := (hO9 _ (by omega)).trans hn_1
  have hn_2 := (hO9 _ (by omega)).trans hn_2
  have hn_3 := (hO9 _ (by omega)).trans hn_3
  have hK : ∀ q, q < n → E9 q = E q := fun q hq => (hO9 q (by omega)).trans (hK q hq)
  have hn_4 := hE9
  refine p_m (m' := n + 5) (by omega) ?_
  refine p_putF (pc := 41) C hi9 inX2 goX2 (ci := 1) rfl 7 (by decide) (wF_X2_21 G) rfl tyX2 tyX2_ok nmX2 rfl rfl rfl rfl (by omega) ho (Nat.le_of_ble_eq_true rfl) dX2_init_41 (fun E10 hE10 hO10 => ?_)
  have hn_1 := (hO10 _ (by omega)).trans hn_1
  have hn_2 := (hO10 _ (by omega)).trans hn_2
  have hn_3 := (hO10 _ (by omega)).trans hn_3
  have hn_4 := (hO10 _ (by omega)).trans hn_4
  have hK : ∀ q, q < n → E10 q = E q := fun q hq => (hO10 q (by omega)).trans (hK q hq)
  have ho : E10 n = .inr (1, [.int 0, .int 0, .int 0, .int 0, .ref (bs γ + (n + 1)), .ref (bs γ + (n + 2)), .ref (bs γ + (n + 3)), .ref (bs γ + (n + 4)), .null, .null, .null, .null, .null, .null, .null, .null]) := hE10
  refine p_aload_n (pc := 44) C 0 rfl dX2_init_44 ?_
  refine p_bipush (pc := 45) C (by decide +kernel) dX2_init_45 ?_
  refine p_newa (pc := 47) C (ty := .int) rfl (wAC_int G) 0 rfl (fun _ _ h => h) (N := 20) (a0 := (20, .inl (fun _ => 0))) (fun _ => rfl) (by decide) (by decide) ⟨by omega, by omega⟩ dX2_init_47 (fun E11 hE11 hO11 => ?_)
  have ho := (hO11 _ (by omega)).trans ho
  have hn_1 := (hO11 _ (by omega)).trans hn_1
  have hn_2 := (hO11 _ (by omega)).trans hn_2
  have hn_3 := (hO11 _ (by omega)).trans hn_3
  have hn_4 := (hO11 _ (by omega)).trans hn_4
  have hK : ∀ q, q < n → E11 q = E q := fun q hq => (hO11 q (by omega)).trans (hK q hq)
  have hn_5 := hE11
  refine p_m (m' := n + 6) (by omega) ?_
  refine p_putF (pc := 49) C hi9 inX2 goX2 (ci := 1) rfl 8 (by decide) (wF_X2_24 G) rfl tyX2 tyX2_ok nmX2 rfl rfl rfl rfl (by omega) ho (Nat.le_of_ble_eq_true rfl) dX2_init_49 (fun E12 hE12 hO12 => ?_)
  have hn_1 := (hO12 _ (by omega)).trans hn_1
  have hn_2 := (hO12 _ (by omega)).trans hn_2
  have hn_3 := (hO12 _ (by omega)).trans hn_3
  have hn_4 := (hO12 _ (by omega)).trans hn_4
  have hn_5 := (hO12 _ (by omega)).trans hn_5
  have hK : ∀ q, q < n → E12 q = E q := fun q hq => (hO12 q (by omega)).trans (hK q hq)
  have ho : E12 n = .inr (1, [.int 0, .int 0, .int 0, .int 0, .ref (bs γ + (n + 1)), .ref (bs γ + (n + 2)), .ref (bs γ + (n + 3)), .ref (bs γ + (n + 4)), .ref (bs γ + (n + 5)), .null, .null, .null, .null, .null, .null, .null]) := hE12
  refine p_aload_n (pc := 52) C 0 rfl dX2_init_52 ?_
  refine p_bipush (pc := 53) C (by decide +kernel) dX2_init_53 ?_
  refine p_newa (pc := 55) C (ty := .int) rfl (wAC_int G) 0 rfl (fun _ _ h => h) (N := 20) (a0 := (20, .inl (fun _ => 0))) (fun _ => rfl) (by decide) (by decide) ⟨by omega, by omega⟩ dX2_init_55 (fun E13 hE13 hO13 => ?_)
  have ho := (hO13 _ (by omega)).trans ho
  have hn_1 := (hO13 _ (by omega)).trans hn_1
  have hn_2 := (hO13 _ (by omega)).trans hn_2
  have hn_3 := (hO13 _ (by omega)).trans hn_3
  have hn_4 := (hO13 _ (by omega)).trans hn_4
  have hn_5 := (hO13 _ (by omega)).trans hn_5
  have hK : ∀ q, q < n → E13 q = E q := fun q hq => (hO13 q (by omega)).trans (hK q hq)
  have hn_6 := hE13
  refine p_m (m' := n + 7) (by omega) ?_
  refine p_putF (pc := 57) C hi9 inX2 goX2 (ci := 1) rfl 9 (by decide) (wF_X2_27 G) rfl tyX2 tyX2_ok nmX2 rfl rfl rfl rfl (by omega) ho (Nat.le_of_ble_eq_true rfl) dX2_init_57 (fun E14 hE14 hO14 => ?_)
  have hn_1 := (hO14 _ (by omega)).trans hn_1
  have hn_2 := (hO14 _ (by omega)).trans hn_2
  have hn_3 := (hO14 _ (by omega)).trans hn_3
  have hn_4 := (hO14 _ (by omega)).trans hn_4
  have hn_5 := (hO14 _ (by omega)).trans hn_5
  have hn_6 := (hO14 _ (by omega)).trans hn_6
  have hK : ∀ q, q < n → E14 q = E q := fun q hq => (hO14 q (by omega)).trans (hK q hq)
  have ho : E14 n = .inr (1, [.int 0, .int 0, .int 0, .int 0, .ref (bs γ + (n + 1)), .ref (bs γ + (n + 2)), .ref (bs γ + (n + 3)), .ref (bs γ + (n + 4)), .ref (bs γ + (n + 5)), .ref (bs γ + (n + 6)), .null, .null, .null, .null, .null, .null]) := hE14
  refine p_aload_n (pc := 60) C 0 rfl dX2_init_60 ?_
  refine p_bipush (pc := 61) C (by decide +kernel) dX2_init_61 ?_
  refine p_newa (pc := 63) C (ty := .int) rfl (wAC_int G) 0 rfl (fun _ _ h => h) (N := 16) (a0 := (16, .inl (fun _ => 0))) (fun _ => rfl) (by decide) (by decide) ⟨by omega, by omega⟩ dX2_init_63 (fun E15 hE15 hO15 => ?_)
  have ho := (hO15 _ (by omega)).trans ho
  have hn_1 := (hO15 _ (by omega)).trans hn_1
  have hn_2 := (hO15 _ (by omega)).trans hn_2
  have hn_3 := (hO15 _ (by omega)).trans hn_3
  have hn_4 := (hO15 _ (by omega)).trans hn_4
  have hn_5 := (hO15 _ (by omega)).trans hn_5
  have hn_6 := (hO15 _ (by omega)).trans hn_6
  have hK : ∀ q, q < n → E15 q = E q := fun q hq => (hO15 q (by omega)).trans (hK q hq)
  have hn_7 := hE15
  refine p_m (m' := n + 8) (by omega) ?_
  refine p_putF (pc := 65) C hi9 inX2 goX2 (ci := 1) rfl 10 (by decide) (wF_X2_30 G) rfl tyX2 tyX2_ok nmX2 rfl rfl rfl rfl (by omega) ho (Nat.le_of_ble_eq_true rfl) dX2_init_65 (fun E16 hE16 hO16 => ?_)
  have hn_1 := (hO16 _ (by omega)).trans hn_1
  have hn_2 := (hO16 _ (by omega)).trans hn_2
  have hn_3 := (hO16 _ (by omega)).trans hn_3
  have hn_4 := (hO16 _ (by omega)).trans hn_4
  have hn_5 := (hO16 _ (by omega)).trans hn_5
  have hn_6 := (hO16 _ (by omega)).trans hn_6
  have hn_7 := (hO16 _ (by omega)).trans hn_7
  have hK : ∀ q, q < n → E16 q = E q := fun q hq => (hO16 q (by omega)).trans (hK q hq)
  have ho : E16 n = .inr (1, [.int 0, .int 0, .int 0, .int 0, .ref (bs γ + (n + 1)), .ref (bs γ + (n + 2)), .ref (bs γ + (n + 3)), .ref (bs γ + (n + 4)), .ref (bs γ + (n + 5)), .ref (bs γ + (n + 6)), .ref (bs γ + (n + 7)), .null, .null, .null, .null, .null]) := hE16
  refine p_aload_n (pc := 68) C 0 rfl dX2_init_68 ?_
  refine p_bipush (pc := 69) C (by decide +kernel) dX2_init_69 ?_
  refine p_newa (pc := 71) C (ty := .int) rfl (wAC_int G) 0 rfl (fun _ _ h => h) (N := 16) (a0 := (16, .inl (fun _ => 0))) (fun _ => rfl) (by decide) (by decide) ⟨by omega, by omega⟩ dX2_init_71 (fun E17 hE17 hO17 => ?_)
  have ho := (hO17 _ (by omega)).trans ho
  have hn_1 := (hO17 _ (by omega)).trans hn_1
  have hn_2 := (hO17 _ (by omega)).trans hn_2
  have hn_3 := (hO17 _ (by omega)).trans hn_3
  have hn_4 := (hO17 _ (by omega)).trans hn_4
  have hn_5 := (hO17 _ (by omega)).trans hn_5
  have hn_6 := (hO17 _ (by omega)).trans hn_6
  have hn_7 := (hO17 _ (by omega)).trans hn_7
  have hK : ∀ q, q < n → E17 q = E q := fun q hq => (hO17 q (by omega)).trans (hK q hq)
  have hn_8 := hE17
  refine p_m (m' := n + 9) (by omega) ?_
  refine p_putF (pc := 73) C hi9 inX2 goX2 (ci := 1) rfl 11 (by decide) (wF_X2_33 G) rfl tyX2 tyX2_ok nmX2 rfl rfl rfl rfl (by omega) ho (Nat.le_of_ble_eq_true rfl) dX2_init_73 (fun E18 hE18 hO18 => ?_)
  have hn_1 := (hO18 _ (by omega)).trans hn_1
  have hn_2 := (hO18 _ (by omega)).trans hn_2
  have hn_3 := (hO18 _ (by omega)).trans hn_3
  have hn_4 := (hO18 _ (by omega)).trans hn_4
  have hn_5 := (hO18 _ (by omega)).trans hn_5
  have hn_6 := (hO18 _ (by omega)).trans hn_6
  have hn_7 := (hO18 _ (by omega)).trans hn_7
  have hn_8 := (hO18 _ (by omega)).trans hn_8
  have hK : ∀ q, q < n → E18 q = E q := fun q hq => (hO18 q (by omega)).trans (hK q hq)
  have ho : E18 n = .inr (1, [.int 0, .int 0, .int 0, .int 0, .ref (bs γ + (n + 1)), .ref (bs γ + (n + 2)), .ref (bs γ + (n + 3)), .ref (bs γ + (n + 4)), .ref (bs γ + (n + 5)), .ref (bs γ + (n + 6)), .ref (bs γ + (n + 7)), .ref (bs γ + (n + 8)), .null, .null, .null, .null]) := hE18
  refine p_aload_n (pc := 76) C 0 rfl dX2_init_76 ?_
  refine p_bipush (pc := 77) C (by decide +kernel) dX2_init_77 ?_
  refine p_newa (pc := 79) C (ty := .int) rfl (wAC_int G) 0 rfl (fun _ _ h => h) (N := 16) (a0 := (16, .inl (fun _ => 0))) (fun _ => rfl) (by decide) (by decide) ⟨by omega, by omega⟩ dX2_init_79 (fun E19 hE19 hO19 => ?_)
  have ho := (hO19 _ (by omega)).trans ho
  have hn_1 := (hO19 _ (by omega)).trans hn_1
  have hn_2 := (hO19 _ (by omega)).trans hn_2
  have hn_3 := (hO19 _ (by omega)).trans hn_3
  have hn_4 := (hO19 _ (by omega)).trans hn_4
  have hn_5 := (hO19 _ (by omega)).trans hn_5
  have hn_6 := (hO19 _ (by omega)).trans hn_6
  have hn_7 := (hO19 _ (by omega)).trans hn_7
  have hn_8 := (hO19 _ (by omega)).trans hn_8
  have hK : ∀ q, q < n → E19 q = E q := fun q hq => (hO19 q (by omega)).trans (hK q hq)
  have hn_9 := hE19
  refine p_m (m' := n + 10) (by omega) ?_
  refine p_putF (pc := 81) C hi9 inX2 goX2 (ci := 1) rfl 12 (by decide) (wF_X2_36 G) rfl tyX2 tyX2_ok nmX2 rfl rfl rfl rfl (by omega) ho (Nat.le_of_ble_eq_true rfl) dX2_init_81 (fun E20 hE20 hO20 => ?_)
  have hn_1 := (hO20 _ (by omega)).trans hn_1
  have hn_2 := (hO20 _ (by omega)).trans hn_2
  have hn_3 := (hO20 _ (by omega)).trans hn_3
  have hn_4 := (hO20 _ (by omega)).trans hn_4
  have hn_5 := (hO20 _ (by omega)).trans hn_5
  have hn_6 := (hO20 _ (by omega)).trans hn_6
  have hn_7 := (hO20 _ (by omega)).trans hn_7
  have hn_8 := (hO20 _ (by omega)).trans hn_8
  have hn_9 := (hO20 _ (by omega)).trans hn_9
  have hK : ∀ q, q < n → E20 q = E q := fun q hq => (hO20 q (by omega)).trans (hK q hq)
  have ho : E20 n = .inr (1, [.int 0, .int 0, .int 0, .int 0, .ref (bs γ + (n + 1)), .ref (bs γ + (n + 2)), .ref (bs γ + (n + 3)), .ref (bs γ + (n + 4)), .ref (bs γ + (n + 5)), .ref (bs γ + (n + 6)), .ref (bs γ + (n + 7)), .ref (bs γ + (n + 8)), .ref (bs γ + (n + 9)), .null, .null, .null]) := hE20
  refine p_aload_n (pc := 84) C 0 rfl dX2_init_84 ?_
  refine p_bipush (pc := 85) C (by decide +kernel) dX2_init_85 ?_
  refine p_newa (pc := 87) C (ty := .int) rfl (wAC_int G) 0 rfl (fun _ _ h => h) (N := 16) (a0 := (16, .inl (fun _ => 0))) (fun _ => rfl) (by decide) (by decide) ⟨by omega, by omega⟩ dX2_init_87 (fun E21 hE21 hO21 => ?_)
  have ho := (hO21 _ (by omega)).trans ho
  have hn_1 := (hO21 _ (by omega)).trans hn_1
  have hn_2 := (hO21 _ (by omega)).trans hn_2
  have hn_3 := (hO21 _ (by omega)).trans hn_3
  have hn_4 := (hO21 _ (by omega)).trans hn_4
  have hn_5 := (hO21 _ (by omega)).trans hn_5
  have hn_6 := (hO21 _ (by omega)).trans hn_6
  have hn_7 := (hO21 _ (by omega)).trans hn_7
  have hn_8 := (hO21 _ (by omega)).trans hn_8
  have hn_9 := (hO21 _ (by omega)).trans hn_9
  have hK : ∀ q, q < n → E21 q = E q := fun q hq => (hO21 q (by omega)).trans (hK q hq)
  have hn_10 := hE21
  refine p_m (m' := n + 11) (by omega) ?_
  refine p_putF (pc := 89) C hi9 inX2 goX2 (ci := 1) rfl 13 (by decide) (wF_X2_39 G) rfl tyX2 tyX2_ok nmX2 rfl rfl rfl rfl (by omega) ho (Nat.le_of_ble_eq_true rfl) dX2_init_89 (fun E22 hE22 hO22 => ?_)
  have hn_1 := (hO22 _ (by omega)).trans hn_1
  have hn_2 := (hO22 _ (by omega)).trans hn_2
  have hn_3 := (hO22 _ (by omega)).trans hn_3
  have hn_4 := (hO22 _ (by omega)).trans hn_4
  have hn_5 := (hO22 _ (by omega)).trans hn_5
  have hn_6 := (hO22 _ (by omega)).trans hn_6
  have hn_7 := (hO22 _ (by omega)).trans hn_7
  have hn_8 := (hO22 _ (by omega)).trans hn_8
  have hn_9 := (hO22 _ (by omega)).trans hn_9
  have hn_10 := (hO22 _ (by omega)).trans hn_10
  have hK : ∀ q, q < n → E22 q = E q := fun q hq => (hO22 q (by omega)).trans (hK q hq)
  have ho : E22 n = .inr (1, [.int 0, .int 0, .int 0, .int 0, .ref (bs γ + (n + 1)), .ref (bs γ + (n + 2)), .ref (bs γ + (n + 3)), .ref (bs γ + (n + 4)), .ref (bs γ + (n + 5)), .ref (bs γ + (n + 6)), .ref (bs γ + (n + 7)), .ref (bs γ + (n + 8)), .ref (bs γ + (n + 9)), .ref (bs γ + (n + 10)), .null, .null]) := hE22
  refine p_aload_n (pc := 92) C 0 rfl dX2_init_92 ?_
  refine p_bipush (pc := 93) C (by decide +kernel) dX2_init_93 ?_
  refine p_newa (pc := 95) C (ty := .int) rfl (wAC_int G) 0 rfl (fun _ _ h => h) (N := 96) (a0 := (96, .inl (fun _ => 0))) (fun _ => rfl) (by decide) (by decide) ⟨by omega, by omega⟩ dX2_init_95 (fun E23 hE23 hO23 => ?_)
  have ho := (hO23 _ (by omega)).trans ho
  have hn_1 := (hO23 _ (by omega)).trans hn_1
  have hn_2 := (hO23 _ (by omega)).trans hn_2
  have hn_3 := (hO23 _ (by omega)).trans hn_3
  have hn_4 := (hO23 _ (by omega)).trans hn_4
  have hn_5 := (hO23 _ (by omega)).trans hn_5
  have hn_6 := (hO23 _ (by omega)).trans hn_6
  have hn_7 := (hO23 _ (by omega)).trans hn_7
  have hn_8 := (hO23 _ (by omega)).trans hn_8
  have hn_9 := (hO23 _ (by omega)).trans hn_9
  have hn_10 := (hO23 _ (by omega)).trans hn_10
  have hK : ∀ q, q < n → E23 q = E q := fun q hq => (hO23 q (by omega)).trans (hK q hq)
  have hn_11 := hE23
  refine p_m (m' := n + 12) (by omega) ?_
  refine p_putF (pc := 97) C hi9 inX2 goX2 (ci := 1) rfl 14 (by decide) (wF_X2_42 G) rfl tyX2 tyX2_ok nmX2 rfl rfl rfl rfl (by omega) ho (Nat.le_of_ble_eq_true rfl) dX2_init_97 (fun E24 hE24 hO24 => ?_)
  have hn_1 := (hO24 _ (by omega)).trans hn_1
  have hn_2 := (hO24 _ (by omega)).trans hn_2
  have hn_3 := (hO24 _ (by omega)).trans hn_3
  have hn_4 := (hO24 _ (by omega)).trans hn_4
  have hn_5 := (hO24 _ (by omega)).trans hn_5
  have hn_6 := (hO24 _ (by omega)).trans hn_6
  have hn_7 := (hO24 _ (by omega)).trans hn_7
  have hn_8 := (hO24 _ (by omega)).trans hn_8
  have hn_9 := (hO24 _ (by omega)).trans hn_9
  have hn_10 := (hO24 _ (by omega)).trans hn_10
  have hn_11 := (hO24 _ (by omega)).trans hn_11
  have hK : ∀ q, q < n → E24 q = E q := fun q hq => (hO24 q (by omega)).trans (hK q hq)
  have ho : E24 n = .inr (1, [.int 0, .int 0, .int 0, .int 0, .ref (bs γ + (n + 1)), .ref (bs γ + (n + 2)), .ref (bs γ + (n + 3)), .ref (bs γ + (n + 4)), .ref (bs γ + (n + 5)), .ref (bs γ + (n + 6)), .ref (bs γ + (n + 7)), .ref (bs γ + (n + 8)), .ref (bs γ + (n + 9)), .ref (bs γ + (n + 10)), .ref (bs γ + (n + 11)), .null]) := hE24
  refine p_aload_n (pc := 100) C 0 rfl dX2_init_100 ?_
  refine p_bipush (pc := 101) C (by decide +kernel) dX2_init_101 ?_
  refine p_newa (pc := 103) C (ty := .int) rfl (wAC_int G) 0 rfl (fun _ _ h => h) (N := 20) (a0 := (20, .inl (fun _ => 0))) (fun _ => rfl) (by decide) (by decide) ⟨by omega, by omega⟩ dX2_init_103 (fun E25 hE25 hO25 => ?_)
  have ho := (hO25 _ (by omega)).trans ho
  have hn_1 := (hO25 _ (by omega)).trans hn_1
  have hn_2 := (hO25 _ (by omega)).trans hn_2
  have hn_3 := (hO25 _ (by omega)).trans hn_3
  have hn_4 := (hO25 _ (by omega)).trans hn_4
  have hn_5 := (hO25 _ (by omega)).trans hn_5
  have hn_6 := (hO25 _ (by omega)).trans hn_6
  have hn_7 := (hO25 _ (by omega)).trans hn_7
  have hn_8 := (hO25 _ (by omega)).trans hn_8
  have hn_9 := (hO25 _ (by omega)).trans hn_9
  have hn_10 := (hO25 _ (by omega)).trans hn_10
  have hn_11 := (hO25 _ (by omega)).trans hn_11
  have hK : ∀ q, q < n → E25 q = E q := fun q hq => (hO25 q (by omega)).trans (hK q hq)
  have hn_12 := hE25
  refine p_m (m' := n + 13) (by omega) ?_
  refine p_putF (pc := 105) C hi9 inX2 goX2 (ci := 1) rfl 15 (by decide) (wF_X2_45 G) rfl tyX2 tyX2_ok nmX2 rfl rfl rfl rfl (by omega) ho (Nat.le_of_ble_eq_true rfl) dX2_init_105 (fun E26 hE26 hO26 => ?_)
  have hn_1 := (hO26 _ (by omega)).trans hn_1
  have hn_2 := (hO26 _ (by omega)).trans hn_2
  have hn_3 := (hO26 _ (by omega)).trans hn_3
  have hn_4 := (hO26 _ (by omega)).trans hn_4
  have hn_5 := (hO26 _ (by omega)).trans hn_5
  have hn_6 := (hO26 _ (by omega)).trans hn_6
  have hn_7 := (hO26 _ (by omega)).trans hn_7
  have hn_8 := (hO26 _ (by omega)).trans hn_8
  have hn_9 := (hO26 _ (by omega)).trans hn_9
  have hn_10 := (hO26 _ (by omega)).trans hn_10
  have hn_11 := (hO26 _ (by omega)).trans hn_11
  have hn_12 := (hO26 _ (by omega)).trans hn_12
  have hK : ∀ q, q < n → E26 q = E q := fun q hq => (hO26 q (by omega)).trans (hK q hq)
  have ho : E26 n = .inr (1, [.int 0, .int 0, .int 0, .int 0, .ref (bs γ + (n + 1)), .ref (bs γ + (n + 2)), .ref (bs γ + (n + 3)), .ref (bs γ + (n + 4)), .ref (bs γ + (n + 5)), .ref (bs γ + (n + 6)), .ref (bs γ + (n + 7)), .ref (bs γ + (n + 8)), .ref (bs γ + (n + 9)), .ref (bs γ + (n + 10)), .ref (bs γ + (n + 11)), .ref (bs γ + (n + 12))]) := hE26
  refine p_vret (pc := 108) C ⟨by omega, by omega⟩ hr dX2_init_108 ⟨fun q q1 q2 => ?_, ⟨_, ho⟩, hK⟩
  rcases (show q = n ∨ q = n + 1 ∨ q = n + 2 ∨ q = n + 3 ∨ q = n + 4 ∨ q = n + 5 ∨ q = n + 6 ∨ q = n + 7 ∨ q = n + 8 ∨ q = n + 9 ∨ q = n + 10 ∨ q = n + 11 ∨ q = n + 12 by omega) with rfl | rfl | rfl | rfl | rfl | rfl | rfl | rfl | rfl | rfl | rfl | rfl | rfl
  · rw [ho]
    refine ft_o (show sh q = (5, 1) from hN.sh (k := 0) (by decide)) ?_
    rw [σ0_z (by omega) (by rw [show sh q = (5, 1) from hN.sh (k := 0) (by decide)]; decide)]
    rfl
  · rw [hn_1]
    refine ft_i (hN.sh (k := 1) (by decide)) (fun j hj => ?_)
    rw [σ0_s (by omega) (hN.sh (k := 1) (by decide))]
    rcases (show j = 0 ∨ j = 1 by omega) with rfl | rfl <;> rfl
  · rw [hn_2]
    refine ft_i (hN.sh (k := 2) (by decide)) (fun j hj => ?_)
    rw [σ0_z (by omega) (by rw [show sh (n + 2) = (0, 10) from (hN.sh (k := 2) (by decide))]; decide)]
    rfl
  · rw [hn_3]
    refine ft_i (hN.sh (k := 3) (by decide)) (fun j hj => ?_)
    rw [σ0_z (by omega) (by rw [show sh (n + 3) = (0, 10) from (hN.sh (k := 3) (by decide))]; decide)]
    rfl
  · rw [hn_4]
    refine ft_i (hN.sh (k := 4) (by decide)) (fun j hj => ?_)
    rw [σ0_z (by omega) (by rw [show sh (n + 4) = (0, 10) from (hN.sh (k := 4) (by decide))]; decide)]
    rfl
  · rw [hn_5]
    refine ft_i (hN.sh (k := 5) (by decide)) (fun j hj => ?_)
    rw [σ0_z (by omega) (by rw [show sh (n + 5) = (0, 20) from (hN.sh (k := 5) (by decide))]; decide)]
    rfl
  · rw [hn_6]
    refine ft_i (hN.sh (k := 6) (by decide)) (fun j hj => ?_)
    rw [σ0_z (by omega) (by rw [show sh (n + 6) = (0, 20) from (hN.sh (k := 6) (by decide))]; decide)]
    rfl
  · rw [hn_7]
    refine ft_i (hN.sh (k := 7) (by decide)) (fun j hj => ?_)
    rw [σ0_z (by omega) (by rw [show sh (n + 7) = (0, 16) from (hN.sh (k := 7) (by decide))]; decide)]
    rfl
  · rw [hn_8]
    refine ft_i (hN.sh (k := 8) (by decide)) (fun j hj => ?_)
    rw [σ0_z (by omega) (by rw [show sh (n + 8) = (0, 16) from (hN.sh (k := 8) (by decide))]; decide)]
    rfl
  · rw [hn_9]
    refine ft_i (hN.sh (k := 9) (by decide)) (fun j hj => ?_)
    rw [σ0_z (by omega) (by rw [show sh (n + 9) = (0, 16) from (hN.sh (k := 9) (by decide))]; decide)]
    rfl
  · rw [hn_10]
    refine ft_i (hN.sh (k := 10) (by decide)) (fun j hj => ?_)
    rw [σ0_z (by omega) (by rw [show sh (n + 10) = (0, 16) from (hN.sh (k := 10) (by decide))]; decide)]
    rfl
  · rw [hn_11]
    refine ft_i (hN.sh (k := 11) (by decide)) (fun j hj => ?_)
    rw [σ0_z (by omega) (by rw [show sh (n + 11) = (0, 96) from (hN.sh (k := 11) (by decide))]; decide)]
    rfl
  · rw [hn_12]
    refine ft_i (hN.sh (k := 12) (by decide)) (fun j hj => ?_)
    rw [σ0_z (by omega) (by rw [show sh (n + 12) = (0, 20) from (hN.sh (k := 12) (by decide))]; decide)]
    rfl
set_option maxHeartbeats 4000000 in
set_option maxRecDepth 100000 in
theorem k_X4_init {γ : Gm} (G : Glo γ) {E : Nat → va_E} (ho : E 1 = .inr (2, [.null, .int 0, .int 0, .int 0, .null])) : Cn γ yX4_init cX4_init 1 1 2 125 [.ref (bs γ + 1)] E (2) (fun E' => FN γ E' 1 4 ∧ ∀ q, q < 1 → E' q = E q) := by
  refine Cn.of G (by decide +kernel) (Nat.le_of_ble_eq_true rfl) (fun φ C hcr hname hr => ?_)
  have C : Cx γ φ RX4 cX4_init 1 1 := C
  have hi9 : φ.2.2.2.2.2.2.2.1.name = "<init>" := hname
  refine p_lv [(0, .ref (bs γ + 1))] [0] rfl ?_
  have hK : ∀ q, q < 1 → E q = E q := fun _ _ => rfl
  refine p_aload_n (pc := 0) C 0 rfl dX4_init_0 ?_
  refine p_obj (pc := 1) C (wM_X4_3 G) (wO_I G) (wO_C G) dX4_init_1 (Nat.le_of_ble_eq_true rfl) ?_
  refine p_aload_n (pc := 4) C 0 rfl dX4_init_4 ?_
  refine p_bipush (pc := 5) C (by decide +kernel) dX4_init_5 ?_
  refine p_newa (pc := 7) C (ty := .char) rfl (wAC_char G) 1 rfl (fun _ _ h => h) (N := 120) (a0 := (120, .inl (fun _ => 0))) (fun _ => rfl) (by decide) (by decide) ⟨by omega, by omega⟩ dX4_init_7 (fun E1 hE1 hO1 => ?_)
  have ho := (hO1 _ (by omega)).trans ho
  have hK : ∀ q, q < 1 → E1 q = E q := fun q hq => (hO1 q (by omega)).trans (hK q hq)
  have h2 := hE1
  refine p_m (m' := 3) (by omega) ?_
  refine p_putF (pc := 9) C hi9 inX4 goX4 (ci := 2) rfl 0 (by decide) (wF_X4_9 G) rfl tyX4 tyX4_ok nmX4 rfl rfl rfl rfl (by omega) ho (Nat.le_of_ble_eq_true rfl) dX4_init_9 (fun E2 hE2 hO2 => ?_)
  have h2 := (hO2 _ (by omega)).trans h2
  have hK : ∀ q, q < 1 → E2 q = E q := fun q hq => (hO2 q (by omega)).trans (hK q hq)
  have ho : E2 1 = .inr (2, [.ref (bs γ + (2)), .int 0, .int 0, .int 0, .null]) := hE2
  refine p_aload_n (pc := 12) C 0 rfl dX4_init_12 ?_
  refine p_iconst (pc := 13) C dX4_init_13 ?_
  refine p_newa (pc := 14) C (ty := .int) rfl (wAC_int G) 0 rfl (fun _ _ h => h) (N := 5) (a0 := (5, .inl (fun _ => 0))) (fun _ => rfl) (by decide) (by decide) ⟨by omega, by omega⟩ dX4_init_14 (fun E3 hE3 hO3 => ?_)
  have ho := (hO3 _ (by omega)).trans ho
  have h2 := (hO3 _ (by omega)).trans h2
  have hK : ∀ q, q < 1 → E3 q = E q := fun q hq => (hO3 q (by omega)).trans (hK q hq)
  have h3 := hE3
  refine p_m (m' := 4) (by omega) ?_
  refine p_putF (pc := 16) C hi9 inX4 goX4 (ci := 2) rfl 4 (by decide) (wF_X4_15 G) rfl tyX4 tyX4_ok nmX4 rfl rfl rfl rfl (by omega) ho (Nat.le_of_ble_eq_true rfl) dX4_init_16 (fun E4 hE4 hO4 => ?_)
  have h2 := (hO4 _ (by omega)).trans h2
  have h3 := (hO4 _ (by omega)).trans h3
  have hK : ∀ q, q < 1 → E4 q = E q := fun q hq => (hO4 q (by omega)).trans (hK q hq)
  have ho : E4 1 = .inr (2, [.ref (bs γ + (2)), .int 0, .int 0, .int 0, .ref (bs γ + (3))]) := hE4
  refine p_vret (pc := 19) C ⟨by omega, by omega⟩ hr dX4_init_19 ⟨fun q q1 q2 => ?_, hK⟩
  rcases (show q = 1 ∨ q = 2 ∨ q = 3 by omega) with rfl | rfl | rfl
  · rw [ho]
    refine ft_o sh_1 ?_
    rw [σ0_z (by decide) (by rw [sh_1]; decide)]
    rfl
  · rw [h2]
    refine ft_c sh_2 (fun j hj => ?_)
    rw [σ0_z (by decide) (by rw [sh_2]; decide)]
    rfl
  · rw [h3]
    refine ft_i sh_3 (fun j hj => ?_)
    rw [σ0_z (by decide) (by rw [sh_3]; decide)]
    rfl
