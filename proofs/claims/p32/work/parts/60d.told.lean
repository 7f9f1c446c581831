/-! ranges -/
theorem keysR_r (n : Int → Int) (m : Nat) : -2147483648 ≤ keysR n m ∧ keysR n m < 2147483648 := by
  cases m with
  | zero => exact (by decide : -2147483648 ≤ (0 : Int) ∧ (0 : Int) < 2147483648)
  | succ m => exact iI_rng _
theorem beatL_b (v : Int) : ∀ (f : Nat) (r : Int → Int) (m b : Int), (b = -1 ∨ (1 ≤ b ∧ b < m ∧ (m = b + 1 → 0 < r (6 + 7 * v + 3)))) → 1 ≤ m → m + (f : Int) ≤ 201 → beatL v f r m b = -1 ∨ (2 ≤ beatL v f r m b ∧ beatL v f r m b ≤ 199)
  | 0, _, _, _, _, _, _ => Or.inl rfl
  | f + 1, r, m, b, h, hm, hf => by
    unfold beatL
    by_cases c : r (6 + 7 * v + 3) = 0 ∧ 0 < tickR r (6 + 7 * v + 3)
    · rw [if_pos c]
      by_cases e : b = -1
      · rw [if_pos e]
        exact beatL_b v f _ _ _ (Or.inr ⟨hm, by omega, fun _ => c.2⟩) (by omega) (by omega)
      · rw [if_neg e]
        right
        rcases h with h | ⟨h1, h2, h3⟩
        · exact absurd h e
        · by_cases e2 : m = b + 1
          · have := h3 e2
            omega
          · omega
    · rw [if_neg c]
      refine beatL_b v f _ _ _ ?_ (by omega) (by omega)
      rcases h with h | ⟨h1, h2, h3⟩
      · exact Or.inl h
      · exact Or.inr ⟨h1, by omega, fun e => by omega⟩
theorem beatR_b (r : Int → Int) (v : Int) : beatR r v = -1 ∨ (2 ≤ beatR r v ∧ beatR r v ≤ 199) := beatL_b v 200 _ 1 (-1) (Or.inl rfl) (by decide) (by decide)
theorem iOr_bit {x y : Int} (hx : 0 ≤ x ∧ x < 16) (hy : 0 ≤ y ∧ y < 16) : 0 ≤ iOr x y ∧ iOr x y < 16 := by
  obtain ⟨a, rfl⟩ : ∃ a : Nat, x = a := ⟨x.toNat, by omega⟩
  obtain ⟨b, rfl⟩ : ∃ b : Nat, y = b := ⟨y.toNat, by omega⟩
  have key : ∀ a, a < 16 → ∀ b, b < 16 → (0 ≤ iOr (a : Nat) (b : Nat) ∧ iOr (a : Nat) (b : Nat) < 16) := by decide +kernel
  exact key a (by omega) b (by omega)
theorem ruleL_b (n : Int → Int) (c y v : Int) : ruleL n c y v 4 0 0 = -1 ∨ (0 ≤ ruleL n c y v 4 0 0 ∧ ruleL n c y v 4 0 0 < 16) := by
  have key : ∀ (f : Nat) (q b : Int), 0 ≤ q → q + (f : Int) ≤ 4 → 0 ≤ b ∧ b < 16 → ruleL n c y v f q b = -1 ∨ (0 ≤ ruleL n c y v f q b ∧ ruleL n c y v f q b < 16) := by
    intro f
    induction f with
    | zero => intro q b h1 h2 hb; exact Or.inr hb
    | succ f ih =>
      intro q b h1 h2 hb
      unfold ruleL
      split
      · refine ih _ _ (by omega) (by omega) (iOr_bit hb ?_)
        split
        · rcases (show q = 0 ∨ q = 1 ∨ q = 2 ∨ q = 3 by omega) with rfl | rfl | rfl | rfl <;> decide
        · decide
      · exact Or.inl rfl
  exact key 4 0 0 (by decide) (by decide) (by decide)
theorem suspD_b (n : Int → Int) (v b : Int) : ∀ (f : Nat) (e : Int), suspD n v b f e = -1 ∨ (e ≤ suspD n v b f e ∧ suspD n v b f e < e + f)
  | 0, _ => Or.inl rfl
  | f + 1, e => by
    unfold suspD
    split
    · right; omega
    · have := suspD_b n v b f (e + 1)
      omega
/-! single calls: refused, and told -/
abbrev nA (A : Abs) : Int → Int := A.2.2.2.1
abbrev aA (A : Abs) : Int := A.2.1
abbrev dA (A : Abs) : Int → Int := A.2.2.2.2.1
abbrev kA (A : Abs) : Int → Int := A.2.2.2.2.2.1
abbrev iA (A : Abs) : Int → Int := A.2.2.2.2.2.2
theorem rv_z (z : Int) (X : Abs) (c1 c2 c3 : Int) : rv (0, z, X) c1 c2 c3 = bmz z := rfl
theorem AOkA.wf {A : Abs} (h : AOkA A) : Wf (nA A) := h.2.2.2.1
theorem ce_tryAppend_1 {γ : Gm} (G : GL γ) (o : Bool) {S : St2} {A : Abs} (hS : gat S o = A) {c y9 z9 : Int} (hc : R3 c)  (hx : ¬ (0 ≤ c ∧ c ≤ 255)) : Cl γ yL_call (.code yL_call cL_call 5 (some .int)) 10 1 [.ref (bs (gw γ o)), .int (iI 0), .int (iI c), .int (iI y9), .int (iI z9)] S (-9999002) S := by
  have h := c_call_0 G o (S := S) (y9 := y9) (z9 := z9) hc
  have eq9 : op_append A.1 A.2.1 A.2.2.1 A.2.2.2.1 A.2.2.2.2.1 A.2.2.2.2.2.1 A.2.2.2.2.2.2 c = (1, 0, A) := by unfold op_append; rw [if_pos hx]
  have ea : an_tryAppend A c = (-9999002) := by unfold an_tryAppend; rw [eq9]; rfl
  have es : st_tryAppend A c = A := by unfold st_tryAppend; rw [eq9]
  rw [hS, ea, es, ← hS, gup_at] at h
  exact h
theorem ce_tryAbout_1 {γ : Gm} (G : GL γ) (o : Bool) {S : St2} {A : Abs} (hS : gat S o = A) {w y9 z9 : Int} (hw : R3 w)  (hx : ¬ (0 ≤ w ∧ w ≤ 6)) : Cl γ yL_call (.code yL_call cL_call 5 (some .int)) 10 1 [.ref (bs (gw γ o)), .int (iI 2), .int (iI w), .int (iI y9), .int (iI z9)] S (-9999002) S := by
  have h := c_call_2 G o (S := S) (y9 := y9) (z9 := z9) hw
  have eq9 : op_about A.1 A.2.1 A.2.2.1 A.2.2.2.1 A.2.2.2.2.1 A.2.2.2.2.2.1 A.2.2.2.2.2.2 w = (1, 0, A) := by unfold op_about; rw [if_pos hx]
  have ea : an_tryAbout A w = (-9999002) := by unfold an_tryAbout; rw [eq9]; rfl
  rw [hS, ea] at h
  exact h
theorem ce_tryTold_1 {γ : Gm} (G : GL γ) (o : Bool) {S : St2} {A : Abs} (hS : gat S o = A) {v w z9 : Int} (hv : R3 v) (hw : R3 w)  (hx : ¬ (0 ≤ v ∧ v < nA A 0)) : Cl γ yL_call (.code yL_call cL_call 5 (some .int)) 10 1 [.ref (bs (gw γ o)), .int (iI 3), .int (iI v), .int (iI w), .int (iI z9)] S (-9999001) S := by
  have h := c_call_3 G o (S := S) (z9 := z9) hv hw
  have eq9 : op_valveOf A.1 A.2.1 A.2.2.1 A.2.2.2.1 A.2.2.2.2.1 A.2.2.2.2.2.1 A.2.2.2.2.2.2 v w = (1, 0, A) := by unfold op_valveOf; rw [if_pos hx]
  have ea : an_tryTold A v w = (-9999001) := by unfold an_tryTold; rw [eq9]; rfl
  rw [hS, ea] at h
  exact h
theorem ce_tryTold_2 {γ : Gm} (G : GL γ) (o : Bool) {S : St2} {A : Abs} (hS : gat S o = A) {v w z9 : Int} (hv : R3 v) (hw : R3 w) (h1 : (0 ≤ v ∧ v < nA A 0)) (hx : ¬ (0 ≤ w ∧ w ≤ 4)) : Cl γ yL_call (.code yL_call cL_call 5 (some .int)) 10 1 [.ref (bs (gw γ o)), .int (iI 3), .int (iI v), .int (iI w), .int (iI z9)] S (-9999002) S := by
  have h := c_call_3 G o (S := S) (z9 := z9) hv hw
  have eq9 : op_valveOf A.1 A.2.1 A.2.2.1 A.2.2.2.1 A.2.2.2.2.1 A.2.2.2.2.2.1 A.2.2.2.2.2.2 v w = (2, 0, A) := by unfold op_valveOf; rw [if_neg (not_not_intro h1), if_pos hx]
  have ea : an_tryTold A v w = (-9999002) := by unfold an_tryTold; rw [eq9]; rfl
  rw [hS, ea] at h
  exact h
theorem ce_tryLeg_1 {γ : Gm} (G : GL γ) (o : Bool) {S : St2} {A : Abs} (hS : gat S o = A) {v g z9 : Int} (hv : R3 v) (hg : R3 g)  (hx : ¬ ((0 ≤ v ∧ v < nA A 0) ∧ (0 ≤ g ∧ g ≤ 1))) : Cl γ yL_call (.code yL_call cL_call 5 (some .int)) 10 1 [.ref (bs (gw γ o)), .int (iI 4), .int (iI v), .int (iI g), .int (iI z9)] S (-9999001) S := by
  have h := c_call_4 G o (S := S) (z9 := z9) hv hg
  have eq9 : op_leg A.1 A.2.1 A.2.2.1 A.2.2.2.1 A.2.2.2.2.1 A.2.2.2.2.2.1 A.2.2.2.2.2.2 v g = (1, 0, A) := by unfold op_leg; rw [if_pos hx]
  have ea : an_tryLeg A v g = (-9999001) := by unfold an_tryLeg; rw [eq9]; rfl
  rw [hS, ea] at h
  exact h
theorem ce_tryPush_1 {γ : Gm} (G : GL γ) (o : Bool) {S : St2} {A : Abs} (hS : gat S o = A) {v g w : Int} (hv : R3 v) (hg : R3 g) (hw : R3 w)  (hx : ¬ ((0 ≤ v ∧ v < nA A 0) ∧ (0 ≤ g ∧ g ≤ 1))) : Cl γ yL_call (.code yL_call cL_call 5 (some .int)) 10 1 [.ref (bs (gw γ o)), .int (iI 5), .int (iI v), .int (iI g), .int (iI w)] S (-9999001) S := by
  have h := c_call_5 G o (S := S) hv hg hw
  have eq9 : op_push A.1 A.2.1 A.2.2.1 A.2.2.2.1 A.2.2.2.2.1 A.2.2.2.2.2.1 A.2.2.2.2.2.2 v g w = (1, 0, A) := by unfold op_push; rw [if_pos hx]
  have ea : an_tryPush A v g w = (-9999001) := by unfold an_tryPush; rw [eq9]; rfl
  rw [hS, ea] at h
  exact h
theorem ce_tryPush_2 {γ : Gm} (G : GL γ) (o : Bool) {S : St2} {A : Abs} (hS : gat S o = A) {v g w : Int} (hv : R3 v) (hg : R3 g) (hw : R3 w) (h1 : ((0 ≤ v ∧ v < nA A 0) ∧ (0 ≤ g ∧ g ≤ 1))) (hx : ¬ (0 ≤ w ∧ w ≤ 1)) : Cl γ yL_call (.code yL_call cL_call 5 (some .int)) 10 1 [.ref (bs (gw γ o)), .int (iI 5), .int (iI v), .int (iI g), .int (iI w)] S (-9999002) S := by
  have h := c_call_5 G o (S := S) hv hg hw
  have eq9 : op_push A.1 A.2.1 A.2.2.1 A.2.2.2.1 A.2.2.2.2.1 A.2.2.2.2.2.1 A.2.2.2.2.2.2 v g w = (2, 0, A) := by unfold op_push; rw [if_neg (not_not_intro h1), if_pos hx]
  have ea : an_tryPush A v g w = (-9999002) := by unfold an_tryPush; rw [eq9]; rfl
  rw [hS, ea] at h
  exact h
theorem ce_tryPipe_1 {γ : Gm} (G : GL γ) (o : Bool) {S : St2} {A : Abs} (hS : gat S o = A) {e w z9 : Int} (he : R3 e) (hw : R3 w)  (hx : ¬ (0 ≤ e ∧ e < nA A 1)) : Cl γ yL_call (.code yL_call cL_call 5 (some .int)) 10 1 [.ref (bs (gw γ o)), .int (iI 6), .int (iI e), .int (iI w), .int (iI z9)] S (-9999001) S := by
  have h := c_call_6 G o (S := S) (z9 := z9) he hw
  have eq9 : op_ductOf A.1 A.2.1 A.2.2.1 A.2.2.2.1 A.2.2.2.2.1 A.2.2.2.2.2.1 A.2.2.2.2.2.2 e w = (1, 0, A) := by unfold op_ductOf; rw [if_pos hx]
  have ea : an_tryPipe A e w = (-9999001) := by unfold an_tryPipe; rw [eq9]; rfl
  rw [hS, ea] at h
  exact h
theorem ce_tryPipe_2 {γ : Gm} (G : GL γ) (o : Bool) {S : St2} {A : Abs} (hS : gat S o = A) {e w z9 : Int} (he : R3 e) (hw : R3 w) (h1 : (0 ≤ e ∧ e < nA A 1)) (hx : ¬ (0 ≤ w ∧ w ≤ 7)) : Cl γ yL_call (.code yL_call cL_call 5 (some .int)) 10 1 [.ref (bs (gw γ o)), .int (iI 6), .int (iI e), .int (iI w), .int (iI z9)] S (-9999002) S := by
  have h := c_call_6 G o (S := S) (z9 := z9) he hw
  have eq9 : op_ductOf A.1 A.2.1 A.2.2.1 A.2.2.2.1 A.2.2.2.2.1 A.2.2.2.2.2.1 A.2.2.2.2.2.2 e w = (2, 0, A) := by unfold op_ductOf; rw [if_neg (not_not_intro h1), if_pos hx]
  have ea : an_tryPipe A e w = (-9999002) := by unfold an_tryPipe; rw [eq9]; rfl
  rw [hS, ea] at h
  exact h
theorem ce_trySetting_1 {γ : Gm} (G : GL γ) (o : Bool) {S : St2} {A : Abs} (hS : gat S o = A) {w y9 z9 : Int} (hw : R3 w)  (hx : ¬ (0 ≤ w ∧ w ≤ 1)) : Cl γ yL_call (.code yL_call cL_call 5 (some .int)) 10 1 [.ref (bs (gw γ o)), .int (iI 7), .int (iI w), .int (iI y9), .int (iI z9)] S (-9999002) S := by
  have h := c_call_7 G o (S := S) (y9 := y9) (z9 := z9) hw
  have eq9 : op_setting A.1 A.2.1 A.2.2.1 A.2.2.2.1 A.2.2.2.2.1 A.2.2.2.2.2.1 A.2.2.2.2.2.2 w = (1, 0, A) := by unfold op_setting; rw [if_pos hx]
  have ea : an_trySetting A w = (-9999002) := by unfold an_trySetting; rw [eq9]; rfl
  rw [hS, ea] at h
  exact h
theorem ce_tryValve_1 {γ : Gm} (G : GL γ) (o : Bool) {S : St2} {A : Abs} (hS : gat S o = A) {c v z9 : Int} (hc : R3 c) (hv : R3 v)  (hx : ¬ ((0 ≤ c ∧ c ≤ 4) ∧ (10 ≤ v ∧ v ≤ 99))) : Cl γ yL_call (.code yL_call cL_call 5 (some .int)) 10 1 [.ref (bs (gw γ o)), .int (iI 8), .int (iI c), .int (iI v), .int (iI z9)] S (-9999002) S := by
  have h := c_call_8 G o (S := S) (z9 := z9) hc hv
  have eq9 : op_valve A.1 A.2.1 A.2.2.1 A.2.2.2.1 A.2.2.2.2.1 A.2.2.2.2.2.1 A.2.2.2.2.2.2 c v = (1, 0, A) := by unfold op_valve; rw [if_pos hx]
  have ea : an_tryValve A c v = (-9999002) := by unfold an_tryValve; rw [eq9]; rfl
  have es : st_tryValve A c v = A := by unfold st_tryValve; rw [eq9]
  rw [hS, ea, es, ← hS, gup_at] at h
  exact h
theorem ce_tryDrop_1 {γ : Gm} (G : GL γ) (o : Bool) {S : St2} {A : Abs} (hS : gat S o = A) {e y9 z9 : Int} (he : R3 e)  (hx : ¬ (0 ≤ e ∧ e < nA A 1)) : Cl γ yL_call (.code yL_call cL_call 5 (some .int)) 10 1 [.ref (bs (gw γ o)), .int (iI 9), .int (iI e), .int (iI y9), .int (iI z9)] S (-9999001) S := by
  have h := c_call_9 G o (S := S) (y9 := y9) (z9 := z9) he
  have eq9 : op_remove A.1 A.2.1 A.2.2.1 A.2.2.2.1 A.2.2.2.2.1 A.2.2.2.2.2.1 A.2.2.2.2.2.2 e = (1, 0, A) := by unfold op_remove; rw [if_pos hx]
  have ea : an_tryDrop A e = (-9999001) := by unfold an_tryDrop; rw [eq9]; rfl
  have es : st_tryDrop A e = A := by unfold st_tryDrop; rw [eq9]
  rw [hS, ea, es, ← hS, gup_at] at h
  exact h
theorem ce_tryLeak_1 {γ : Gm} (G : GL γ) (o : Bool) {S : St2} {A : Abs} (hS : gat S o = A) {e l z9 : Int} (he : R3 e) (hl : R3 l)  (hx : ¬ (0 ≤ e ∧ e < nA A 1)) : Cl γ yL_call (.code yL_call cL_call 5 (some .int)) 10 1 [.ref (bs (gw γ o)), .int (iI 10), .int (iI e), .int (iI l), .int (iI z9)] S (-9999001) S := by
  have h := c_call_10 G o (S := S) (z9 := z9) he hl
  have eq9 : op_leak A.1 A.2.1 A.2.2.1 A.2.2.2.1 A.2.2.2.2.1 A.2.2.2.2.2.1 A.2.2.2.2.2.2 e l = (1, 0, A) := by unfold op_leak; rw [if_pos hx]
  have ea : an_tryLeak A e l = (-9999001) := by unfold an_tryLeak; rw [eq9]; rfl
  have es : st_tryLeak A e l = A := by unfold st_tryLeak; rw [eq9]
  rw [hS, ea, es, ← hS, gup_at] at h
  exact h
theorem ce_tryLeak_2 {γ : Gm} (G : GL γ) (o : Bool) {S : St2} {A : Abs} (hS : gat S o = A) {e l z9 : Int} (he : R3 e) (hl : R3 l) (h1 : (0 ≤ e ∧ e < nA A 1)) (hx : ¬ (0 ≤ l ∧ l ≤ 30)) : Cl γ yL_call (.code yL_call cL_call 5 (some .int)) 10 1 [.ref (bs (gw γ o)), .int (iI 10), .int (iI e), .int (iI l), .int (iI z9)] S (-9999002) S := by
  have h := c_call_10 G o (S := S) (z9 := z9) he hl
  have eq9 : op_leak A.1 A.2.1 A.2.2.1 A.2.2.2.1 A.2.2.2.2.1 A.2.2.2.2.2.1 A.2.2.2.2.2.2 e l = (2, 0, A) := by unfold op_leak; rw [if_neg (not_not_intro h1), if_pos hx]
  have ea : an_tryLeak A e l = (-9999002) := by unfold an_tryLeak; rw [eq9]; rfl
  have es : st_tryLeak A e l = A := by unfold st_tryLeak; rw [eq9]
  rw [hS, ea, es, ← hS, gup_at] at h
  exact h
theorem ce_tryFeed_1 {γ : Gm} (G : GL γ) (o : Bool) {S : St2} {A : Abs} (hS : gat S o = A) {v m z9 : Int} (hv : R3 v) (hm : R3 m)  (hx : ¬ (0 ≤ v ∧ v < nA A 0)) : Cl γ yL_call (.code yL_call cL_call 5 (some .int)) 10 1 [.ref (bs (gw γ o)), .int (iI 11), .int (iI v), .int (iI m), .int (iI z9)] S (-9999001) S := by
  have h := c_call_11 G o (S := S) (z9 := z9) hv hm
  have eq9 : op_feed A.1 A.2.1 A.2.2.1 A.2.2.2.1 A.2.2.2.2.1 A.2.2.2.2.2.1 A.2.2.2.2.2.2 v m = (1, 0, A) := by unfold op_feed; rw [if_pos hx]
  have ea : an_tryFeed A v m = (-9999001) := by unfold an_tryFeed; rw [eq9]; rfl
  have es : st_tryFeed A v m = A := by unfold st_tryFeed; rw [eq9]
  rw [hS, ea, es, ← hS, gup_at] at h
  exact h
theorem ce_tryFeed_2 {γ : Gm} (G : GL γ) (o : Bool) {S : St2} {A : Abs} (hS : gat S o = A) {v m z9 : Int} (hv : R3 v) (hm : R3 m) (h1 : (0 ≤ v ∧ v < nA A 0)) (hx : ¬ (10 ≤ m ∧ m ≤ 99)) : Cl γ yL_call (.code yL_call cL_call 5 (some .int)) 10 1 [.ref (bs (gw γ o)), .int (iI 11), .int (iI v), .int (iI m), .int (iI z9)] S (-9999002) S := by
  have h := c_call_11 G o (S := S) (z9 := z9) hv hm
  have eq9 : op_feed A.1 A.2.1 A.2.2.1 A.2.2.2.1 A.2.2.2.2.1 A.2.2.2.2.2.1 A.2.2.2.2.2.2 v m = (2, 0, A) := by unfold op_feed; rw [if_neg (not_not_intro h1), if_pos hx]
  have ea : an_tryFeed A v m = (-9999002) := by unfold an_tryFeed; rw [eq9]; rfl
  have es : st_tryFeed A v m = A := by unfold st_tryFeed; rw [eq9]
  rw [hS, ea, es, ← hS, gup_at] at h
  exact h
theorem ce_tryLay_1 {γ : Gm} (G : GL γ) (o : Bool) {S : St2} {A : Abs} (hS : gat S o = A) {w v z9 : Int} (hw : R3 w) (hv : R3 v)  (hx : ¬ (w = 0 ∧ (0 ≤ v ∧ v ≤ 9) ∨ w = 1 ∧ (5 ≤ v ∧ v ≤ 90))) : Cl γ yL_call (.code yL_call cL_call 5 (some .int)) 10 1 [.ref (bs (gw γ o)), .int (iI 12), .int (iI w), .int (iI v), .int (iI z9)] S (-9999002) S := by
  have h := c_call_12 G o (S := S) (z9 := z9) hw hv
  have eq9 : op_set A.1 A.2.1 A.2.2.1 A.2.2.2.1 A.2.2.2.2.1 A.2.2.2.2.2.1 A.2.2.2.2.2.2 w v = (1, 0, A) := by unfold op_set; rw [if_pos hx]
  have ea : an_tryLay A w v = (-9999002) := by unfold an_tryLay; rw [eq9]; rfl
  have es : st_tryLay A w v = A := by unfold st_tryLay; rw [eq9]
  rw [hS, ea, es, ← hS, gup_at] at h
  exact h
theorem ce_tryTicks_1 {γ : Gm} (G : GL γ) (o : Bool) {S : St2} {A : Abs} (hS : gat S o = A) {m y9 z9 : Int} (hm : R3 m)  (hx : ¬ (1 ≤ m ∧ m ≤ 99)) : Cl γ yL_call (.code yL_call cL_call 5 (some .int)) 10 1 [.ref (bs (gw γ o)), .int (iI 13), .int (iI m), .int (iI y9), .int (iI z9)] S (-9999002) S := by
  have h := c_call_13 G o (S := S) (y9 := y9) (z9 := z9) hm
  have eq9 : op_ticks A.1 A.2.1 A.2.2.1 A.2.2.2.1 A.2.2.2.2.1 A.2.2.2.2.2.1 A.2.2.2.2.2.2 m = (1, 0, A) := by unfold op_ticks; rw [if_pos hx]
  have ea : an_tryTicks A m = (-9999002) := by unfold an_tryTicks; rw [eq9]; rfl
  have es : st_tryTicks A m = A := by unfold st_tryTicks; rw [eq9]
  rw [hS, ea, es, ← hS, gup_at] at h
  exact h
theorem ce_tryBeat_1 {γ : Gm} (G : GL γ) (o : Bool) {S : St2} {A : Abs} (hS : gat S o = A) {v y9 z9 : Int} (hv : R3 v)  (hx : ¬ (0 ≤ v ∧ v < nA A 0)) : Cl γ yL_call (.code yL_call cL_call 5 (some .int)) 10 1 [.ref (bs (gw γ o)), .int (iI 15), .int (iI v), .int (iI y9), .int (iI z9)] S (-9999001) S := by
  have h := c_call_15 G o (S := S) (y9 := y9) (z9 := z9) hv
  have eq9 : op_beat A.1 A.2.1 A.2.2.1 A.2.2.2.1 A.2.2.2.2.1 A.2.2.2.2.2.1 A.2.2.2.2.2.2 v = (1, 0, A) := by unfold op_beat; rw [if_pos hx]
  have ea : an_tryBeat A v = (-9999001) := by unfold an_tryBeat; rw [eq9]; rfl
  rw [hS, ea] at h
  exact h
theorem ce_tryRule_1 {γ : Gm} (G : GL γ) (o : Bool) {S : St2} {A : Abs} (hS : gat S o = A) {c y v : Int} (hc : R3 c) (hy : R3 y) (hv : R3 v)  (hx : ¬ ((0 ≤ c ∧ c < nA A 0) ∧ (0 ≤ y ∧ y < nA A 0) ∧ (0 ≤ v ∧ v < nA A 0))) : Cl γ yL_call (.code yL_call cL_call 5 (some .int)) 10 1 [.ref (bs (gw γ o)), .int (iI 16), .int (iI c), .int (iI y), .int (iI v)] S (-9999001) S := by
  have h := c_call_16 G o (S := S) hc hy hv
  have eq9 : op_rule A.1 A.2.1 A.2.2.1 A.2.2.2.1 A.2.2.2.2.1 A.2.2.2.2.2.1 A.2.2.2.2.2.2 c y v = (1, 0, A) := by unfold op_rule; rw [if_pos hx]
  have ea : an_tryRule A c y v = (-9999001) := by unfold an_tryRule; rw [eq9]; rfl
  rw [hS, ea] at h
  exact h
theorem ce_tryRule_2 {γ : Gm} (G : GL γ) (o : Bool) {S : St2} {A : Abs} (hS : gat S o = A) {c y v : Int} (hc : R3 c) (hy : R3 y) (hv : R3 v) (h1 : ((0 ≤ c ∧ c < nA A 0) ∧ (0 ≤ y ∧ y < nA A 0) ∧ (0 ≤ v ∧ v < nA A 0))) (hx : ¬ (¬ c = y ∧ nA A (6 + 7 * c + 0) = 0 ∧ nA A (6 + 7 * y + 0) = 0)) : Cl γ yL_call (.code yL_call cL_call 5 (some .int)) 10 1 [.ref (bs (gw γ o)), .int (iI 16), .int (iI c), .int (iI y), .int (iI v)] S (-9999002) S := by
  have h := c_call_16 G o (S := S) hc hy hv
  have eq9 : op_rule A.1 A.2.1 A.2.2.1 A.2.2.2.1 A.2.2.2.2.1 A.2.2.2.2.2.1 A.2.2.2.2.2.2 c y v = (2, 0, A) := by unfold op_rule; rw [if_neg (not_not_intro h1), if_pos hx]
  have ea : an_tryRule A c y v = (-9999002) := by unfold an_tryRule; rw [eq9]; rfl
  rw [hS, ea] at h
  exact h
theorem ce_tryIf_1 {γ : Gm} (G : GL γ) (o : Bool) {S : St2} {A : Abs} (hS : gat S o = A) {e l v : Int} (he : R3 e) (hl : R3 l) (hv : R3 v)  (hx : ¬ ((0 ≤ e ∧ e < nA A 1) ∧ (0 ≤ v ∧ v < nA A 0))) : Cl γ yL_call (.code yL_call cL_call 5 (some .int)) 10 1 [.ref (bs (gw γ o)), .int (iI 17), .int (iI e), .int (iI l), .int (iI v)] S (-9999001) S := by
  have h := c_call_17 G o (S := S) he hl hv
  have eq9 : op_ifLeak A.1 A.2.1 A.2.2.1 A.2.2.2.1 A.2.2.2.2.1 A.2.2.2.2.2.1 A.2.2.2.2.2.2 e l v = (1, 0, A) := by unfold op_ifLeak; rw [if_pos hx]
  have ea : an_tryIf A e l v = (-9999001) := by unfold an_tryIf; rw [eq9]; rfl
  rw [hS, ea] at h
  exact h
theorem ce_tryIf_2 {γ : Gm} (G : GL γ) (o : Bool) {S : St2} {A : Abs} (hS : gat S o = A) {e l v : Int} (he : R3 e) (hl : R3 l) (hv : R3 v) (h1 : ((0 ≤ e ∧ e < nA A 1) ∧ (0 ≤ v ∧ v < nA A 0))) (hx : ¬ (0 ≤ l ∧ l ≤ 30)) : Cl γ yL_call (.code yL_call cL_call 5 (some .int)) 10 1 [.ref (bs (gw γ o)), .int (iI 17), .int (iI e), .int (iI l), .int (iI v)] S (-9999002) S := by
  have h := c_call_17 G o (S := S) he hl hv
  have eq9 : op_ifLeak A.1 A.2.1 A.2.2.1 A.2.2.2.1 A.2.2.2.2.1 A.2.2.2.2.2.1 A.2.2.2.2.2.2 e l v = (2, 0, A) := by unfold op_ifLeak; rw [if_neg (not_not_intro h1), if_pos hx]
  have ea : an_tryIf A e l v = (-9999002) := by unfold an_tryIf; rw [eq9]; rfl
  rw [hS, ea] at h
  exact h
theorem ce_trySuspect_1 {γ : Gm} (G : GL γ) (o : Bool) {S : St2} {A : Abs} (hS : gat S o = A) {v b z9 : Int} (hv : R3 v) (hb : R3 b)  (hx : ¬ (0 ≤ v ∧ v < nA A 0)) : Cl γ yL_call (.code yL_call cL_call 5 (some .int)) 10 1 [.ref (bs (gw γ o)), .int (iI 18), .int (iI v), .int (iI b), .int (iI z9)] S (-9999001) S := by
  have h := c_call_18 G o (S := S) (z9 := z9) hv hb
  have eq9 : op_suspect A.1 A.2.1 A.2.2.1 A.2.2.2.1 A.2.2.2.2.1 A.2.2.2.2.2.1 A.2.2.2.2.2.2 v b = (1, 0, A) := by unfold op_suspect; rw [if_pos hx]
  have ea : an_trySuspect A v b = (-9999001) := by unfold an_trySuspect; rw [eq9]; rfl
  rw [hS, ea] at h
  exact h
theorem ce_trySuspect_2 {γ : Gm} (G : GL γ) (o : Bool) {S : St2} {A : Abs} (hS : gat S o = A) {v b z9 : Int} (hv : R3 v) (hb : R3 b) (h1 : (0 ≤ v ∧ v < nA A 0)) (hx : ¬ (b = -1 ∨ (1 ≤ b ∧ b ≤ 200))) : Cl γ yL_call (.code yL_call cL_call 5 (some .int)) 10 1 [.ref (bs (gw γ o)), .int (iI 18), .int (iI v), .int (iI b), .int (iI z9)] S (-9999002) S := by
  have h := c_call_18 G o (S := S) (z9 := z9) hv hb
  have eq9 : op_suspect A.1 A.2.1 A.2.2.1 A.2.2.2.1 A.2.2.2.2.1 A.2.2.2.2.2.1 A.2.2.2.2.2.2 v b = (2, 0, A) := by unfold op_suspect; rw [if_neg (not_not_intro h1), if_pos hx]
  have ea : an_trySuspect A v b = (-9999002) := by unfold an_trySuspect; rw [eq9]; rfl
  rw [hS, ea] at h
  exact h
theorem ce_tryKeep_1 {γ : Gm} (G : GL γ) (o : Bool) {S : St2} {A : Abs} (hS : gat S o = A) {q y9 z9 : Int} (hq : R3 q)  (hx : ¬ (0 ≤ q ∧ q ≤ 1)) : Cl γ yL_call (.code yL_call cL_call 5 (some .int)) 10 1 [.ref (bs (gw γ o)), .int (iI 19), .int (iI q), .int (iI y9), .int (iI z9)] S (-9999001) S := by
  have h := c_call_19 G o (S := S) (y9 := y9) (z9 := z9) hq
  have eq9 : op_save A.1 A.2.1 A.2.2.1 A.2.2.2.1 A.2.2.2.2.1 A.2.2.2.2.2.1 A.2.2.2.2.2.2 q = (1, 0, A) := by unfold op_save; rw [if_pos hx]
  have ea : an_tryKeep A q = (-9999001) := by unfold an_tryKeep; rw [eq9]; rfl
  have es : st_tryKeep A q = A := by unfold st_tryKeep; rw [eq9]
  rw [hS, ea, es, ← hS, gup_at] at h
  exact h
theorem ce_tryBack_1 {γ : Gm} (G : GL γ) (o : Bool) {S : St2} {A : Abs} (hS : gat S o = A) {q y9 z9 : Int} (hq : R3 q)  (hx : ¬ (0 ≤ q ∧ q ≤ 1)) : Cl γ yL_call (.code yL_call cL_call 5 (some .int)) 10 1 [.ref (bs (gw γ o)), .int (iI 20), .int (iI q), .int (iI y9), .int (iI z9)] S (-9999001) S := by
  have h := c_call_20 G o (S := S) (y9 := y9) (z9 := z9) hq
  have eq9 : op_restore A.1 A.2.1 A.2.2.1 A.2.2.2.1 A.2.2.2.2.1 A.2.2.2.2.2.1 A.2.2.2.2.2.2 q = (1, 0, A) := by unfold op_restore; rw [if_pos hx]
  have ea : an_tryBack A q = (-9999001) := by unfold an_tryBack; rw [eq9]; rfl
  have es : st_tryBack A q = A := by unfold st_tryBack; rw [eq9]
  rw [hS, ea, es, ← hS, gup_at] at h
  exact h
theorem ce_ducts_1 {γ : Gm} (G : GL γ) (o : Bool) {S : St2} {A : Abs} (hS : gat S o = A) {c g y q m : Int} (hc : R3 c) (hg : R3 g) (hy : R3 y) (hq : R3 q) (hm : R3 m)  (hx : ¬ (((0 ≤ c ∧ c < nA A 0) ∧ (0 ≤ g ∧ g ≤ 1)) ∧ ((0 ≤ y ∧ y < nA A 0) ∧ (0 ≤ q ∧ q ≤ 1)))) : Cl γ yL_ducts (.codeWith yL_ducts cL_ducts 7 (some .int) hL_ducts) 6 1 [.ref (bs (gw γ o)), .int (iI c), .int (iI g), .int (iI y), .int (iI q), .int (iI m)] S (-9999001) S := by
  have h := c_ducts G o (S := S) (c := c) (g := g) (y := y) (q := q) (m := m) hc hg hy hq hm
  have eq9 : op_duct A.1 A.2.1 A.2.2.1 A.2.2.2.1 A.2.2.2.2.1 A.2.2.2.2.2.1 A.2.2.2.2.2.2 c g y q m = (1, 0, A) := by unfold op_duct; rw [if_pos hx]
  have ea : an_ducts A c g y q m = (-9999001) := by unfold an_ducts; rw [eq9]; rfl
  have es : st_ducts A c g y q m = A := by unfold st_ducts; rw [eq9]
  rw [hS, ea, es, ← hS, gup_at] at h
  exact h
theorem ce_ducts_2 {γ : Gm} (G : GL γ) (o : Bool) {S : St2} {A : Abs} (hS : gat S o = A) {c g y q m : Int} (hc : R3 c) (hg : R3 g) (hy : R3 y) (hq : R3 q) (hm : R3 m) (h1 : (((0 ≤ c ∧ c < nA A 0) ∧ (0 ≤ g ∧ g ≤ 1)) ∧ ((0 ≤ y ∧ y < nA A 0) ∧ (0 ≤ q ∧ q ≤ 1)))) (hx : ¬ (1 ≤ m ∧ m ≤ 6)) : Cl γ yL_ducts (.codeWith yL_ducts cL_ducts 7 (some .int) hL_ducts) 6 1 [.ref (bs (gw γ o)), .int (iI c), .int (iI g), .int (iI y), .int (iI q), .int (iI m)] S (-9999002) S := by
  have h := c_ducts G o (S := S) (c := c) (g := g) (y := y) (q := q) (m := m) hc hg hy hq hm
  have eq9 : op_duct A.1 A.2.1 A.2.2.1 A.2.2.2.1 A.2.2.2.2.1 A.2.2.2.2.2.1 A.2.2.2.2.2.2 c g y q m = (2, 0, A) := by unfold op_duct; rw [if_neg (not_not_intro h1), if_pos hx]
  have ea : an_ducts A c g y q m = (-9999002) := by unfold an_ducts; rw [eq9]; rfl
  have es : st_ducts A c g y q m = A := by unfold st_ducts; rw [eq9]
  rw [hS, ea, es, ← hS, gup_at] at h
  exact h
theorem ce_keys_1 {γ : Gm} (G : GL γ) (o : Bool) {S : St2} {A : Abs} (hS : gat S o = A) {v b : Int} (hv : R3 v) (hb : b = 0 ∨ b = 1)  (hx : ¬ (0 ≤ v ∧ v < nA A 0)) : Cl γ yL_keys (.codeWith yL_keys cL_keys 4 (some .int) hL_keys) 5 1 [.ref (bs (gw γ o)), .int (iI v), .int (iI b)] S (-9999001) S := by
  have h := c_keys G o (S := S) (v := v) (b := b) hv hb
  have eq9 : op_press A.1 A.2.1 A.2.2.1 A.2.2.2.1 A.2.2.2.2.1 A.2.2.2.2.2.1 A.2.2.2.2.2.2 v b = (1, 0, A) := by unfold op_press; rw [if_pos hx]
  have ea : an_keys A v b = (-9999001) := by unfold an_keys; rw [eq9]; rfl
  have es : st_keys A v b = A := by unfold st_keys; rw [eq9]
  rw [hS, ea, es, ← hS, gup_at] at h
  exact h
theorem ce_keys_2 {γ : Gm} (G : GL γ) (o : Bool) {S : St2} {A : Abs} (hS : gat S o = A) {v b : Int} (hv : R3 v) (hb : b = 0 ∨ b = 1) (h1 : (0 ≤ v ∧ v < nA A 0)) (hx : ¬ nA A (6 + 7 * v + 0) = 0) : Cl γ yL_keys (.codeWith yL_keys cL_keys 4 (some .int) hL_keys) 5 1 [.ref (bs (gw γ o)), .int (iI v), .int (iI b)] S (-9999003) S := by
  have h := c_keys G o (S := S) (v := v) (b := b) hv hb
  have eq9 : op_press A.1 A.2.1 A.2.2.1 A.2.2.2.1 A.2.2.2.2.1 A.2.2.2.2.2.1 A.2.2.2.2.2.2 v b = (2, 0, A) := by unfold op_press; rw [if_neg (not_not_intro h1), if_pos hx]
  have ea : an_keys A v b = (-9999003) := by unfold an_keys; rw [eq9]; rfl
  have es : st_keys A v b = A := by unfold st_keys; rw [eq9]
  rw [hS, ea, es, ← hS, gup_at] at h
  exact h
theorem ce_doScript_1 {γ : Gm} (G : GL γ) (o : Bool) {S : St2} {A : Abs} (hS : gat S o = A) {m b : Int} (hm : R3 m) (hb : R6 b)  (hx : ¬ ((1 ≤ m ∧ m ≤ 3) ∧ (0 ≤ b ∧ b ≤ 1000000 ^ m.toNat - 1))) : Cl γ yL_doScript (.codeWith yL_doScript cL_doScript 5 (some .int) hL_doScript) 8 1 [.ref (bs (gw γ o)), .int (iI m), .long (lI b)] S (-9999002) S := by
  have h := c_doScript G o (S := S) (m := m) (b := b) hm hb
  have eq9 : op_runScript A.1 A.2.1 A.2.2.1 A.2.2.2.1 A.2.2.2.2.1 A.2.2.2.2.2.1 A.2.2.2.2.2.2 m b = (1, 0, A) := by unfold op_runScript; rw [if_pos hx]
  have ea : an_doScript A m b = (-9999002) := by unfold an_doScript; rw [eq9]; rfl
  rw [hS, ea] at h
  exact h
theorem ce_doSimulate_1 {γ : Gm} (G : GL γ) (o : Bool) {S : St2} {A : Abs} (hS : gat S o = A) {b m : Int} (hm : R3 m)  (hx : ¬ (1 ≤ m ∧ m ≤ 60)) : Cl γ yL_doSimulate (.codeWith yL_doSimulate cL_doSimulate 5 (some .int) hL_doSimulate) 8 1 [.ref (bs (gw γ o)), .long (lI b), .int (iI m)] S (-9999002) S := by
  have h := c_doSimulate G o (S := S) (b := b) (m := m) hm
  have eq9 : op_simulate A.1 A.2.1 A.2.2.1 A.2.2.2.1 A.2.2.2.2.1 A.2.2.2.2.2.1 A.2.2.2.2.2.2 b m = (1, 0, A) := by unfold op_simulate; rw [if_pos hx]
  have ea : an_doSimulate A b m = (-9999002) := by unfold an_doSimulate; rw [eq9]; rfl
  rw [hS, ea] at h
  exact h
theorem t_ab0 {γ : Gm} (G : GL γ) (o : Bool) {S : St2} {A : Abs} (hS : gat S o = A) (hO : AOkA A) {y9 z9 : Int}  : Cl γ yL_call (.code yL_call cL_call 5 (some .int)) 10 1 [.ref (bs (gw γ o)), .int (iI 2), .int (iI 0), .int (iI y9), .int (iI z9)] S (nA A 0) S := by
  have hw := hO.wf
  have h0 := hw.1
  have h1 := hw.2.1
  have h := c_call_2 G o (S := S) (w := 0) (y9 := y9) (z9 := z9) (by decide)
  have ea : an_tryAbout A 0 = nA A 0 := by
    unfold an_tryAbout op_about
    rw [if_neg (not_not_intro (by decide))]
    show bmz (aboutR (nA A) 0) = _
    exact bmz_e (by show -2147483648 ≤ nA A 0 ∧ nA A 0 < 2147483648; omega)
  rw [hS, ea] at h
  exact h
theorem t_ab1 {γ : Gm} (G : GL γ) (o : Bool) {S : St2} {A : Abs} (hS : gat S o = A) (hO : AOkA A) {y9 z9 : Int}  : Cl γ yL_call (.code yL_call cL_call 5 (some .int)) 10 1 [.ref (bs (gw γ o)), .int (iI 2), .int (iI 1), .int (iI y9), .int (iI z9)] S (nA A 1) S := by
  have hw := hO.wf
  have h0 := hw.1
  have h1 := hw.2.1
  have h := c_call_2 G o (S := S) (w := 1) (y9 := y9) (z9 := z9) (by decide)
  have ea : an_tryAbout A 1 = nA A 1 := by
    unfold an_tryAbout op_about
    rw [if_neg (not_not_intro (by decide))]
    show bmz (aboutR (nA A) 1) = _
    exact bmz_e (by show -2147483648 ≤ nA A 1 ∧ nA A 1 < 2147483648; omega)
  rw [hS, ea] at h
  exact h
theorem t_ab2 {γ : Gm} (G : GL γ) (o : Bool) {S : St2} {A : Abs} (hS : gat S o = A) (hO : AOkA A) {y9 z9 : Int} (ht : 0 ≤ nA A 2 ∧ nA A 2 < 1000000) : Cl γ yL_call (.code yL_call cL_call 5 (some .int)) 10 1 [.ref (bs (gw γ o)), .int (iI 2), .int (iI 2), .int (iI y9), .int (iI z9)] S (nA A 2) S := by
  have hw := hO.wf
  have h0 := hw.1
  have h1 := hw.2.1
  have h := c_call_2 G o (S := S) (w := 2) (y9 := y9) (z9 := z9) (by decide)
  have ea : an_tryAbout A 2 = nA A 2 := by
    unfold an_tryAbout op_about
    rw [if_neg (not_not_intro (by decide))]
    show bmz (aboutR (nA A) 2) = _
    exact bmz_e (by show -2147483648 ≤ nA A 2 ∧ nA A 2 < 2147483648; omega)
  rw [hS, ea] at h
  exact h
theorem t_ab3 {γ : Gm} (G : GL γ) (o : Bool) {S : St2} {A : Abs} (hS : gat S o = A) (hO : AOkA A) {y9 z9 : Int}  : Cl γ yL_call (.code yL_call cL_call 5 (some .int)) 10 1 [.ref (bs (gw γ o)), .int (iI 2), .int (iI 3), .int (iI y9), .int (iI z9)] S (livelyR (nA A) (nA A 0).toNat) S := by
  have hw := hO.wf
  have h0 := hw.1
  have h1 := hw.2.1
  have h := c_call_2 G o (S := S) (w := 3) (y9 := y9) (z9 := z9) (by decide)
  have ea : an_tryAbout A 3 = livelyR (nA A) (nA A 0).toNat := by
    unfold an_tryAbout op_about
    rw [if_neg (not_not_intro (by decide))]
    have := livelyR_b (nA A) (nA A 0).toNat
    show bmz (aboutR (nA A) 3) = _
    exact bmz_e (by show -2147483648 ≤ livelyR (nA A) (nA A 0).toNat ∧ livelyR (nA A) (nA A 0).toNat < 2147483648; omega)
  rw [hS, ea] at h
  exact h
theorem t_ab4 {γ : Gm} (G : GL γ) (o : Bool) {S : St2} {A : Abs} (hS : gat S o = A) (hO : AOkA A) {y9 z9 : Int}  : Cl γ yL_call (.code yL_call cL_call 5 (some .int)) 10 1 [.ref (bs (gw γ o)), .int (iI 2), .int (iI 4), .int (iI y9), .int (iI z9)] S (allPR (nA A) (nA A 0).toNat) S := by
  have hw := hO.wf
  have h0 := hw.1
  have h1 := hw.2.1
  have h := c_call_2 G o (S := S) (w := 4) (y9 := y9) (z9 := z9) (by decide)
  have ea : an_tryAbout A 4 = allPR (nA A) (nA A 0).toNat := by
    unfold an_tryAbout op_about
    rw [if_neg (not_not_intro (by decide))]
    have := allPR_b hw (nA A 0).toNat (by omega)
    show bmz (aboutR (nA A) 4) = _
    exact bmz_e (by show -2147483648 ≤ allPR (nA A) (nA A 0).toNat ∧ allPR (nA A) (nA A 0).toNat < 2147483648; omega)
  rw [hS, ea] at h
  exact h
theorem t_ab5 {γ : Gm} (G : GL γ) (o : Bool) {S : St2} {A : Abs} (hS : gat S o = A) (hO : AOkA A) {y9 z9 : Int}  : Cl γ yL_call (.code yL_call cL_call 5 (some .int)) 10 1 [.ref (bs (gw γ o)), .int (iI 2), .int (iI 5), .int (iI y9), .int (iI z9)] S (keysR (nA A) (nA A 0).toNat) S := by
  have hw := hO.wf
  have h0 := hw.1
  have h1 := hw.2.1
  have h := c_call_2 G o (S := S) (w := 5) (y9 := y9) (z9 := z9) (by decide)
  have ea : an_tryAbout A 5 = keysR (nA A) (nA A 0).toNat := by
    unfold an_tryAbout op_about
    rw [if_neg (not_not_intro (by decide))]
    show bmz (aboutR (nA A) 5) = _
    exact bmz_e (keysR_r _ _)
  rw [hS, ea] at h
  exact h
theorem t_ab6 {γ : Gm} (G : GL γ) (o : Bool) {S : St2} {A : Abs} (hS : gat S o = A) (hO : AOkA A) {y9 z9 : Int}  : Cl γ yL_call (.code yL_call cL_call 5 (some .int)) 10 1 [.ref (bs (gw γ o)), .int (iI 2), .int (iI 6), .int (iI y9), .int (iI z9)] S (bmz (nA A 3)) S := by
  have hw := hO.wf
  have h0 := hw.1
  have h1 := hw.2.1
  have h := c_call_2 G o (S := S) (w := 6) (y9 := y9) (z9 := z9) (by decide)
  have ea : an_tryAbout A 6 = bmz (nA A 3) := by
    unfold an_tryAbout op_about
    rw [if_neg (not_not_intro (by decide))]
    rfl
  rw [hS, ea] at h
  exact h
theorem t_told0 {γ : Gm} (G : GL γ) (o : Bool) {S : St2} {A : Abs} (hS : gat S o = A) (hO : AOkA A) {v z9 : Int} (hv : 0 ≤ v ∧ v < nA A 0) : Cl γ yL_call (.code yL_call cL_call 5 (some .int)) 10 1 [.ref (bs (gw γ o)), .int (iI 3), .int (iI v), .int (iI 0), .int (iI z9)] S (nA A (6 + 7 * v + 0)) S := by
  have hw := hO.wf
  have h0 := hw.1
  have h1 := hw.2.1
  have h := c_call_3 G o (S := S) (v := v) (w := 0) (z9 := z9) (by omega : R3 v) (by decide)
  have ea : an_tryTold A v 0 = nA A (6 + 7 * v + 0) := by
    unfold an_tryTold op_valveOf
    rw [if_neg (not_not_intro hv), if_neg (not_not_intro (by decide))]
    obtain ⟨q0, q1, q2, -⟩ := hw.2.2.2.2.1 v hv.1 hv.2
    show bmz (valveOfR (nA A) v 0) = _
    exact bmz_e (by show -2147483648 ≤ nA A (6 + 7 * v + 0) ∧ nA A (6 + 7 * v + 0) < 2147483648; omega)
  rw [hS, ea] at h
  exact h
theorem t_told1 {γ : Gm} (G : GL γ) (o : Bool) {S : St2} {A : Abs} (hS : gat S o = A) (hO : AOkA A) {v z9 : Int} (hv : 0 ≤ v ∧ v < nA A 0) : Cl γ yL_call (.code yL_call cL_call 5 (some .int)) 10 1 [.ref (bs (gw γ o)), .int (iI 3), .int (iI v), .int (iI 1), .int (iI z9)] S (nA A (6 + 7 * v + 1)) S := by
  have hw := hO.wf
  have h0 := hw.1
  have h1 := hw.2.1
  have h := c_call_3 G o (S := S) (v := v) (w := 1) (z9 := z9) (by omega : R3 v) (by decide)
  have ea : an_tryTold A v 1 = nA A (6 + 7 * v + 1) := by
    unfold an_tryTold op_valveOf
    rw [if_neg (not_not_intro hv), if_neg (not_not_intro (by decide))]
    obtain ⟨q0, q1, q2, -⟩ := hw.2.2.2.2.1 v hv.1 hv.2
    show bmz (valveOfR (nA A) v 1) = _
    exact bmz_e (by show -2147483648 ≤ nA A (6 + 7 * v + 1) ∧ nA A (6 + 7 * v + 1) < 2147483648; omega)
  rw [hS, ea] at h
  exact h
theorem t_told2 {γ : Gm} (G : GL γ) (o : Bool) {S : St2} {A : Abs} (hS : gat S o = A) (hO : AOkA A) {v z9 : Int} (hv : 0 ≤ v ∧ v < nA A 0) : Cl γ yL_call (.code yL_call cL_call 5 (some .int)) 10 1 [.ref (bs (gw γ o)), .int (iI 3), .int (iI v), .int (iI 2), .int (iI z9)] S (nA A (6 + 7 * v + 2)) S := by
  have hw := hO.wf
  have h0 := hw.1
  have h1 := hw.2.1
  have h := c_call_3 G o (S := S) (v := v) (w := 2) (z9 := z9) (by omega : R3 v) (by decide)
  have ea : an_tryTold A v 2 = nA A (6 + 7 * v + 2) := by
    unfold an_tryTold op_valveOf
    rw [if_neg (not_not_intro hv), if_neg (not_not_intro (by decide))]
    obtain ⟨q0, q1, q2, -⟩ := hw.2.2.2.2.1 v hv.1 hv.2
    show bmz (valveOfR (nA A) v 2) = _
    exact bmz_e (by show -2147483648 ≤ nA A (6 + 7 * v + 2) ∧ nA A (6 + 7 * v + 2) < 2147483648; omega)
  rw [hS, ea] at h
  exact h
theorem t_told3 {γ : Gm} (G : GL γ) (o : Bool) {S : St2} {A : Abs} (hS : gat S o = A) (hO : AOkA A) {v z9 : Int} (hv : 0 ≤ v ∧ v < nA A 0) : Cl γ yL_call (.code yL_call cL_call 5 (some .int)) 10 1 [.ref (bs (gw γ o)), .int (iI 3), .int (iI v), .int (iI 3), .int (iI z9)] S (cntR (nA A) v 0 (nA A 1).toNat) S := by
  have hw := hO.wf
  have h0 := hw.1
  have h1 := hw.2.1
  have h := c_call_3 G o (S := S) (v := v) (w := 3) (z9 := z9) (by omega : R3 v) (by decide)
  have ea : an_tryTold A v 3 = cntR (nA A) v 0 (nA A 1).toNat := by
    unfold an_tryTold op_valveOf
    rw [if_neg (not_not_intro hv), if_neg (not_not_intro (by decide))]
    have := cntR_b (nA A) v 0 (nA A 1).toNat
    show bmz (valveOfR (nA A) v 3) = _
    exact bmz_e (by show -2147483648 ≤ cntR (nA A) v 0 (nA A 1).toNat ∧ cntR (nA A) v 0 (nA A 1).toNat < 2147483648; omega)
  rw [hS, ea] at h
  exact h
theorem t_told4 {γ : Gm} (G : GL γ) (o : Bool) {S : St2} {A : Abs} (hS : gat S o = A) (hO : AOkA A) {v z9 : Int} (hv : 0 ≤ v ∧ v < nA A 0) : Cl γ yL_call (.code yL_call cL_call 5 (some .int)) 10 1 [.ref (bs (gw γ o)), .int (iI 3), .int (iI v), .int (iI 4), .int (iI z9)] S (cntR (nA A) v 2 (nA A 1).toNat) S := by
  have hw := hO.wf
  have h0 := hw.1
  have h1 := hw.2.1
  have h := c_call_3 G o (S := S) (v := v) (w := 4) (z9 := z9) (by omega : R3 v) (by decide)
  have ea : an_tryTold A v 4 = cntR (nA A) v 2 (nA A 1).toNat := by
    unfold an_tryTold op_valveOf
    rw [if_neg (not_not_intro hv), if_neg (not_not_intro (by decide))]
    have := cntR_b (nA A) v 2 (nA A 1).toNat
    show bmz (valveOfR (nA A) v 4) = _
    exact bmz_e (by show -2147483648 ≤ cntR (nA A) v 2 (nA A 1).toNat ∧ cntR (nA A) v 2 (nA A 1).toNat < 2147483648; omega)
  rw [hS, ea] at h
  exact h
theorem t_leg {γ : Gm} (G : GL γ) (o : Bool) {S : St2} {A : Abs} (hS : gat S o = A) (hO : AOkA A) {v g z9 : Int} (hv : 0 ≤ v ∧ v < nA A 0) (hg : 0 ≤ g ∧ g ≤ 1) : Cl γ yL_call (.code yL_call cL_call 5 (some .int)) 10 1 [.ref (bs (gw γ o)), .int (iI 4), .int (iI v), .int (iI g), .int (iI z9)] S (nA A (6 + 7 * v + (3 + g))) S := by
  have hw := hO.wf
  have h0 := hw.1
  have h1 := hw.2.1
  have h := c_call_4 G o (S := S) (v := v) (g := g) (z9 := z9) (by omega : R3 v) (by omega : R3 g)
  have ea : an_tryLeg A v g = nA A (6 + 7 * v + (3 + g)) := by
    unfold an_tryLeg op_leg
    rw [if_neg (not_not_intro ⟨hv, hg⟩)]
    have := hw.lg hv hg
    show bmz (nA A (6 + 7 * v + (3 + g))) = _
    exact bmz_e (by omega)
  rw [hS, ea] at h
  exact h
theorem t_leg0 {γ : Gm} (G : GL γ) (o : Bool) {S : St2} {A : Abs} (hS : gat S o = A) (hO : AOkA A) {v z9 : Int} (hv : 0 ≤ v ∧ v < nA A 0) : Cl γ yL_call (.code yL_call cL_call 5 (some .int)) 10 1 [.ref (bs (gw γ o)), .int (iI 4), .int (iI v), .int (iI 0), .int (iI z9)] S (nA A (6 + 7 * v + 3)) S := by
  have hw := hO.wf
  have h0 := hw.1
  have h1 := hw.2.1
  have h := c_call_4 G o (S := S) (v := v) (g := 0) (z9 := z9) (by omega : R3 v) (by decide)
  have ea : an_tryLeg A v 0 = nA A (6 + 7 * v + 3) := by
    unfold an_tryLeg op_leg
    rw [if_neg (not_not_intro ⟨hv, by decide⟩)]
    have := hw.lg (g := 0) hv (by decide)
    show bmz (nA A (6 + 7 * v + 3)) = _
    exact bmz_e (by rw [show (3 : Int) + 0 = 3 from rfl] at this; omega)
  rw [hS, ea] at h
  exact h
theorem t_psh0 {γ : Gm} (G : GL γ) (o : Bool) {S : St2} {A : Abs} (hS : gat S o = A) (hO : AOkA A) {v : Int} (hv : 0 ≤ v ∧ v < nA A 0) : Cl γ yL_call (.code yL_call cL_call 5 (some .int)) 10 1 [.ref (bs (gw γ o)), .int (iI 5), .int (iI v), .int (iI 0), .int (iI 0)] S (nA A (6 + 7 * v + 5)) S := by
  have hw := hO.wf
  have h0 := hw.1
  have h1 := hw.2.1
  have h := c_call_5 G o (S := S) (v := v) (g := 0) (w := 0) (by omega : R3 v) (by decide) (by decide)
  have ea : an_tryPush A v 0 0 = nA A (6 + 7 * v + 5) := by
    unfold an_tryPush op_push
    rw [if_neg (not_not_intro ⟨hv, by decide⟩), if_neg (not_not_intro (by decide))]
    have := hw.pg (g := 0) hv (by decide)
    show bmz (nA A (6 + 7 * v + 5)) = _
    exact bmz_e (by rw [show (5 : Int) + 0 = 5 from rfl] at this; omega)
  rw [hS, ea] at h
  exact h
theorem t_wrk0 {γ : Gm} (G : GL γ) (o : Bool) {S : St2} {A : Abs} (hS : gat S o = A) (hO : AOkA A) {v : Int} (hv : 0 ≤ v ∧ v < nA A 0) : Cl γ yL_call (.code yL_call cL_call 5 (some .int)) 10 1 [.ref (bs (gw γ o)), .int (iI 5), .int (iI v), .int (iI 0), .int (iI 1)] S (if worksR (nA A) v 5 then 1 else 0) S := by
  have hw := hO.wf
  have h0 := hw.1
  have h1 := hw.2.1
  have h := c_call_5 G o (S := S) (v := v) (g := 0) (w := 1) (by omega : R3 v) (by decide) (by decide)
  have ea : an_tryPush A v 0 1 = if worksR (nA A) v 5 then 1 else 0 := by
    unfold an_tryPush op_push
    rw [if_neg (not_not_intro ⟨hv, by decide⟩), if_neg (not_not_intro (by decide))]
    show bmz (if worksR (nA A) v 5 then 1 else 0) = _
    split
    · rfl
    · rfl
  rw [hS, ea] at h
  exact h
theorem t_leg1 {γ : Gm} (G : GL γ) (o : Bool) {S : St2} {A : Abs} (hS : gat S o = A) (hO : AOkA A) {v z9 : Int} (hv : 0 ≤ v ∧ v < nA A 0) : Cl γ yL_call (.code yL_call cL_call 5 (some .int)) 10 1 [.ref (bs (gw γ o)), .int (iI 4), .int (iI v), .int (iI 1), .int (iI z9)] S (nA A (6 + 7 * v + 4)) S := by
  have hw := hO.wf
  have h0 := hw.1
  have h1 := hw.2.1
  have h := c_call_4 G o (S := S) (v := v) (g := 1) (z9 := z9) (by omega : R3 v) (by decide)
  have ea : an_tryLeg A v 1 = nA A (6 + 7 * v + 4) := by
    unfold an_tryLeg op_leg
    rw [if_neg (not_not_intro ⟨hv, by decide⟩)]
    have := hw.lg (g := 1) hv (by decide)
    show bmz (nA A (6 + 7 * v + 4)) = _
    exact bmz_e (by rw [show (3 : Int) + 1 = 4 from rfl] at this; omega)
  rw [hS, ea] at h
  exact h
theorem t_psh1 {γ : Gm} (G : GL γ) (o : Bool) {S : St2} {A : Abs} (hS : gat S o = A) (hO : AOkA A) {v : Int} (hv : 0 ≤ v ∧ v < nA A 0) : Cl γ yL_call (.code yL_call cL_call 5 (some .int)) 10 1 [.ref (bs (gw γ o)), .int (iI 5), .int (iI v), .int (iI 1), .int (iI 0)] S (nA A (6 + 7 * v + 6)) S := by
  have hw := hO.wf
  have h0 := hw.1
  have h1 := hw.2.1
  have h := c_call_5 G o (S := S) (v := v) (g := 1) (w := 0) (by omega : R3 v) (by decide) (by decide)
  have ea : an_tryPush A v 1 0 = nA A (6 + 7 * v + 6) := by
    unfold an_tryPush op_push
    rw [if_neg (not_not_intro ⟨hv, by decide⟩), if_neg (not_not_intro (by decide))]
    have := hw.pg (g := 1) hv (by decide)
    show bmz (nA A (6 + 7 * v + 6)) = _
    exact bmz_e (by rw [show (5 : Int) + 1 = 6 from rfl] at this; omega)
  rw [hS, ea] at h
  exact h
theorem t_wrk1 {γ : Gm} (G : GL γ) (o : Bool) {S : St2} {A : Abs} (hS : gat S o = A) (hO : AOkA A) {v : Int} (hv : 0 ≤ v ∧ v < nA A 0) : Cl γ yL_call (.code yL_call cL_call 5 (some .int)) 10 1 [.ref (bs (gw γ o)), .int (iI 5), .int (iI v), .int (iI 1), .int (iI 1)] S (if worksR (nA A) v 6 then 1 else 0) S := by
  have hw := hO.wf
  have h0 := hw.1
  have h1 := hw.2.1
  have h := c_call_5 G o (S := S) (v := v) (g := 1) (w := 1) (by omega : R3 v) (by decide) (by decide)
  have ea : an_tryPush A v 1 1 = if worksR (nA A) v 6 then 1 else 0 := by
    unfold an_tryPush op_push
    rw [if_neg (not_not_intro ⟨hv, by decide⟩), if_neg (not_not_intro (by decide))]
    show bmz (if worksR (nA A) v 6 then 1 else 0) = _
    split
    · rfl
    · rfl
  rw [hS, ea] at h
  exact h
theorem t_pipe0 {γ : Gm} (G : GL γ) (o : Bool) {S : St2} {A : Abs} (hS : gat S o = A) (hO : AOkA A) {e z9 : Int} (he : 0 ≤ e ∧ e < nA A 1) : Cl γ yL_call (.code yL_call cL_call 5 (some .int)) 10 1 [.ref (bs (gw γ o)), .int (iI 6), .int (iI e), .int (iI 0), .int (iI z9)] S (nA A (76 + 12 * e + 0)) S := by
  have hw := hO.wf
  have h0 := hw.1
  have h1 := hw.2.1
  have h := c_call_6 G o (S := S) (e := e) (w := 0) (z9 := z9) (by omega : R3 e) (by decide)
  have ea : an_tryPipe A e 0 = nA A (76 + 12 * e + 0) := by
    unfold an_tryPipe op_ductOf
    rw [if_neg (not_not_intro he), if_neg (not_not_intro (by decide))]
    obtain ⟨q0, q1, q2, q3, q4, q5, -⟩ := hw.2.2.2.2.2 e he.1 he.2
    show bmz (nA A (76 + 12 * e + 0)) = _
    exact bmz_e (by omega)
  rw [hS, ea] at h
  exact h
theorem t_pipe1 {γ : Gm} (G : GL γ) (o : Bool) {S : St2} {A : Abs} (hS : gat S o = A) (hO : AOkA A) {e z9 : Int} (he : 0 ≤ e ∧ e < nA A 1) : Cl γ yL_call (.code yL_call cL_call 5 (some .int)) 10 1 [.ref (bs (gw γ o)), .int (iI 6), .int (iI e), .int (iI 1), .int (iI z9)] S (nA A (76 + 12 * e + 1)) S := by
  have hw := hO.wf
  have h0 := hw.1
  have h1 := hw.2.1
  have h := c_call_6 G o (S := S) (e := e) (w := 1) (z9 := z9) (by omega : R3 e) (by decide)
  have ea : an_tryPipe A e 1 = nA A (76 + 12 * e + 1) := by
    unfold an_tryPipe op_ductOf
    rw [if_neg (not_not_intro he), if_neg (not_not_intro (by decide))]
    obtain ⟨q0, q1, q2, q3, q4, q5, -⟩ := hw.2.2.2.2.2 e he.1 he.2
    show bmz (nA A (76 + 12 * e + 1)) = _
    exact bmz_e (by omega)
  rw [hS, ea] at h
  exact h
theorem t_pipe2 {γ : Gm} (G : GL γ) (o : Bool) {S : St2} {A : Abs} (hS : gat S o = A) (hO : AOkA A) {e z9 : Int} (he : 0 ≤ e ∧ e < nA A 1) : Cl γ yL_call (.code yL_call cL_call 5 (some .int)) 10 1 [.ref (bs (gw γ o)), .int (iI 6), .int (iI e), .int (iI 2), .int (iI z9)] S (nA A (76 + 12 * e + 2)) S := by
  have hw := hO.wf
  have h0 := hw.1
  have h1 := hw.2.1
  have h := c_call_6 G o (S := S) (e := e) (w := 2) (z9 := z9) (by omega : R3 e) (by decide)
  have ea : an_tryPipe A e 2 = nA A (76 + 12 * e + 2) := by
    unfold an_tryPipe op_ductOf
    rw [if_neg (not_not_intro he), if_neg (not_not_intro (by decide))]
    obtain ⟨q0, q1, q2, q3, q4, q5, -⟩ := hw.2.2.2.2.2 e he.1 he.2
    show bmz (nA A (76 + 12 * e + 2)) = _
    exact bmz_e (by omega)
  rw [hS, ea] at h
  exact h
theorem t_pipe3 {γ : Gm} (G : GL γ) (o : Bool) {S : St2} {A : Abs} (hS : gat S o = A) (hO : AOkA A) {e z9 : Int} (he : 0 ≤ e ∧ e < nA A 1) : Cl γ yL_call (.code yL_call cL_call 5 (some .int)) 10 1 [.ref (bs (gw γ o)), .int (iI 6), .int (iI e), .int (iI 3), .int (iI z9)] S (nA A (76 + 12 * e + 3)) S := by
  have hw := hO.wf
  have h0 := hw.1
  have h1 := hw.2.1
  have h := c_call_6 G o (S := S) (e := e) (w := 3) (z9 := z9) (by omega : R3 e) (by decide)
  have ea : an_tryPipe A e 3 = nA A (76 + 12 * e + 3) := by
    unfold an_tryPipe op_ductOf
    rw [if_neg (not_not_intro he), if_neg (not_not_intro (by decide))]
    obtain ⟨q0, q1, q2, q3, q4, q5, -⟩ := hw.2.2.2.2.2 e he.1 he.2
    show bmz (nA A (76 + 12 * e + 3)) = _
    exact bmz_e (by omega)
  rw [hS, ea] at h
  exact h
theorem t_pipe4 {γ : Gm} (G : GL γ) (o : Bool) {S : St2} {A : Abs} (hS : gat S o = A) (hO : AOkA A) {e z9 : Int} (he : 0 ≤ e ∧ e < nA A 1) : Cl γ yL_call (.code yL_call cL_call 5 (some .int)) 10 1 [.ref (bs (gw γ o)), .int (iI 6), .int (iI e), .int (iI 4), .int (iI z9)] S (nA A (76 + 12 * e + 4)) S := by
  have hw := hO.wf
  have h0 := hw.1
  have h1 := hw.2.1
  have h := c_call_6 G o (S := S) (e := e) (w := 4) (z9 := z9) (by omega : R3 e) (by decide)
  have ea : an_tryPipe A e 4 = nA A (76 + 12 * e + 4) := by
    unfold an_tryPipe op_ductOf
    rw [if_neg (not_not_intro he), if_neg (not_not_intro (by decide))]
    obtain ⟨q0, q1, q2, q3, q4, q5, -⟩ := hw.2.2.2.2.2 e he.1 he.2
    show bmz (nA A (76 + 12 * e + 4)) = _
    exact bmz_e (by omega)
  rw [hS, ea] at h
  exact h
theorem t_pipe5 {γ : Gm} (G : GL γ) (o : Bool) {S : St2} {A : Abs} (hS : gat S o = A) (hO : AOkA A) {e z9 : Int} (he : 0 ≤ e ∧ e < nA A 1) : Cl γ yL_call (.code yL_call cL_call 5 (some .int)) 10 1 [.ref (bs (gw γ o)), .int (iI 6), .int (iI e), .int (iI 5), .int (iI z9)] S (nA A (76 + 12 * e + 5)) S := by
  have hw := hO.wf
  have h0 := hw.1
  have h1 := hw.2.1
  have h := c_call_6 G o (S := S) (e := e) (w := 5) (z9 := z9) (by omega : R3 e) (by decide)
  have ea : an_tryPipe A e 5 = nA A (76 + 12 * e + 5) := by
    unfold an_tryPipe op_ductOf
    rw [if_neg (not_not_intro he), if_neg (not_not_intro (by decide))]
    obtain ⟨q0, q1, q2, q3, q4, q5, -⟩ := hw.2.2.2.2.2 e he.1 he.2
    show bmz (nA A (76 + 12 * e + 5)) = _
    exact bmz_e (by omega)
  rw [hS, ea] at h
  exact h
theorem t_pipe6 {γ : Gm} (G : GL γ) (o : Bool) {S : St2} {A : Abs} (hS : gat S o = A) (hO : AOkA A) {e z9 : Int} (he : 0 ≤ e ∧ e < nA A 1) : Cl γ yL_call (.code yL_call cL_call 5 (some .int)) 10 1 [.ref (bs (gw γ o)), .int (iI 6), .int (iI e), .int (iI 6), .int (iI z9)] S (outR (nA A) e) S := by
  have hw := hO.wf
  have h0 := hw.1
  have h1 := hw.2.1
  have h := c_call_6 G o (S := S) (e := e) (w := 6) (z9 := z9) (by omega : R3 e) (by decide)
  have ea : an_tryPipe A e 6 = outR (nA A) e := by
    unfold an_tryPipe op_ductOf
    rw [if_neg (not_not_intro he), if_neg (not_not_intro (by decide))]
    have := outR_r hw he.1 he.2
    show bmz (outR (nA A) e) = _
    exact bmz_e (by omega)
  rw [hS, ea] at h
  exact h
theorem t_pipe7 {γ : Gm} (G : GL γ) (o : Bool) {S : St2} {A : Abs} (hS : gat S o = A) (hO : AOkA A) {e z9 : Int} (he : 0 ≤ e ∧ e < nA A 1) : Cl γ yL_call (.code yL_call cL_call 5 (some .int)) 10 1 [.ref (bs (gw γ o)), .int (iI 6), .int (iI e), .int (iI 7), .int (iI z9)] S (needR (nA A) e) S := by
  have hw := hO.wf
  have h0 := hw.1
  have h1 := hw.2.1
  have h := c_call_6 G o (S := S) (e := e) (w := 7) (z9 := z9) (by omega : R3 e) (by decide)
  have ea : an_tryPipe A e 7 = needR (nA A) e := by
    unfold an_tryPipe op_ductOf
    rw [if_neg (not_not_intro he), if_neg (not_not_intro (by decide))]
    have := needR_b hw he
    show bmz (needR (nA A) e) = _
    exact bmz_e (by omega)
  rw [hS, ea] at h
  exact h
theorem t_set0 {γ : Gm} (G : GL γ) (o : Bool) {S : St2} {A : Abs} (hS : gat S o = A) (hO : AOkA A) {y9 z9 : Int}  : Cl γ yL_call (.code yL_call cL_call 5 (some .int)) 10 1 [.ref (bs (gw γ o)), .int (iI 7), .int (iI 0), .int (iI y9), .int (iI z9)] S (nA A 4) S := by
  have hw := hO.wf
  have h0 := hw.1
  have h1 := hw.2.1
  have h := c_call_7 G o (S := S) (w := 0) (y9 := y9) (z9 := z9) (by decide)
  have ea : an_trySetting A 0 = nA A 4 := by
    unfold an_trySetting op_setting
    rw [if_neg (not_not_intro (by decide))]
    have h4 := hw.2.2.1
    have h5 := hw.2.2.2.1
    show bmz (nA A 4) = _
    exact bmz_e (by omega)
  rw [hS, ea] at h
  exact h
theorem t_set1 {γ : Gm} (G : GL γ) (o : Bool) {S : St2} {A : Abs} (hS : gat S o = A) (hO : AOkA A) {y9 z9 : Int}  : Cl γ yL_call (.code yL_call cL_call 5 (some .int)) 10 1 [.ref (bs (gw γ o)), .int (iI 7), .int (iI 1), .int (iI y9), .int (iI z9)] S (nA A 5) S := by
  have hw := hO.wf
  have h0 := hw.1
  have h1 := hw.2.1
  have h := c_call_7 G o (S := S) (w := 1) (y9 := y9) (z9 := z9) (by decide)
  have ea : an_trySetting A 1 = nA A 5 := by
    unfold an_trySetting op_setting
    rw [if_neg (not_not_intro (by decide))]
    have h4 := hw.2.2.1
    have h5 := hw.2.2.2.1
    show bmz (nA A 5) = _
    exact bmz_e (by omega)
  rw [hS, ea] at h
  exact h
theorem t_beat {γ : Gm} (G : GL γ) (o : Bool) {S : St2} {A : Abs} (hS : gat S o = A) (hO : AOkA A) {v y9 z9 : Int} (hv : 0 ≤ v ∧ v < nA A 0) : Cl γ yL_call (.code yL_call cL_call 5 (some .int)) 10 1 [.ref (bs (gw γ o)), .int (iI 15), .int (iI v), .int (iI y9), .int (iI z9)] S (beatR (nA A) v) S := by
  have hw := hO.wf
  have h0 := hw.1
  have h1 := hw.2.1
  have h := c_call_15 G o (S := S) (v := v) (y9 := y9) (z9 := z9) (by omega : R3 v)
  have ea : an_tryBeat A v = beatR (nA A) v := by
    unfold an_tryBeat op_beat
    rw [if_neg (not_not_intro hv)]
    have := beatR_b (nA A) v
    rw [rv_z]
    exact bmz_e (show -2147483648 ≤ beatR (nA A) v ∧ beatR (nA A) v < 2147483648 by omega)
  rw [hS, ea] at h
  exact h
theorem t_rule {γ : Gm} (G : GL γ) (o : Bool) {S : St2} {A : Abs} (hS : gat S o = A) (hO : AOkA A) {c y v : Int} (hc : 0 ≤ c ∧ c < nA A 0) (hy : 0 ≤ y ∧ y < nA A 0) (hv : 0 ≤ v ∧ v < nA A 0) (hcy : ¬ c = y) (hkc : nA A (6 + 7 * c + 0) = 0) (hky : nA A (6 + 7 * y + 0) = 0) : Cl γ yL_call (.code yL_call cL_call 5 (some .int)) 10 1 [.ref (bs (gw γ o)), .int (iI 16), .int (iI c), .int (iI y), .int (iI v)] S (ruleL (nA A) c y v 4 0 0) S := by
  have hw := hO.wf
  have h0 := hw.1
  have h1 := hw.2.1
  have h := c_call_16 G o (S := S) (c := c) (y := y) (v := v) (by omega : R3 c) (by omega : R3 y) (by omega : R3 v)
  have ea : an_tryRule A c y v = ruleL (nA A) c y v 4 0 0 := by
    unfold an_tryRule op_rule
    rw [if_neg (not_not_intro ⟨hc, hy, hv⟩), if_neg (not_not_intro ⟨hcy, hkc, hky⟩)]
    have := ruleL_b (nA A) c y v
    rw [rv_z]
    exact bmz_e (show -2147483648 ≤ ruleL (nA A) c y v 4 0 0 ∧ ruleL (nA A) c y v 4 0 0 < 2147483648 by omega)
  rw [hS, ea] at h
  exact h
theorem t_if {γ : Gm} (G : GL γ) (o : Bool) {S : St2} {A : Abs} (hS : gat S o = A) (hO : AOkA A) {e l v : Int} (he : 0 ≤ e ∧ e < nA A 1) (hl : 0 ≤ l ∧ l ≤ 30) (hv : 0 ≤ v ∧ v < nA A 0) : Cl γ yL_call (.code yL_call cL_call 5 (some .int)) 10 1 [.ref (bs (gw γ o)), .int (iI 17), .int (iI e), .int (iI l), .int (iI v)] S (leakB (nA A) e l v) S := by
  have hw := hO.wf
  have h0 := hw.1
  have h1 := hw.2.1
  have h := c_call_17 G o (S := S) (e := e) (l := l) (v := v) (by omega : R3 e) (by omega : R3 l) (by omega : R3 v)
  have ea : an_tryIf A e l v = leakB (nA A) e l v := by
    unfold an_tryIf op_ifLeak
    rw [if_neg (not_not_intro ⟨he, hv⟩), if_neg (not_not_intro hl)]
    have := beatR_b (upr (nA A) (76 + 12 * e + 5) l) v
    rw [rv_z]
    exact bmz_e (show -2147483648 ≤ leakB (nA A) e l v ∧ leakB (nA A) e l v < 2147483648 by unfold leakB; omega)
  rw [hS, ea] at h
  exact h
theorem t_susp {γ : Gm} (G : GL γ) (o : Bool) {S : St2} {A : Abs} (hS : gat S o = A) (hO : AOkA A) {v b z9 : Int} (hv : 0 ≤ v ∧ v < nA A 0) (hb : b = -1 ∨ (1 ≤ b ∧ b ≤ 200)) : Cl γ yL_call (.code yL_call cL_call 5 (some .int)) 10 1 [.ref (bs (gw γ o)), .int (iI 18), .int (iI v), .int (iI b), .int (iI z9)] S (suspD (nA A) v b (nA A 1).toNat 0) S := by
  have hw := hO.wf
  have h0 := hw.1
  have h1 := hw.2.1
  have h := c_call_18 G o (S := S) (v := v) (b := b) (z9 := z9) (by omega : R3 v) (by omega : R3 b)
  have ea : an_trySuspect A v b = suspD (nA A) v b (nA A 1).toNat 0 := by
    unfold an_trySuspect op_suspect
    rw [if_neg (not_not_intro hv), if_neg (not_not_intro hb)]
    have := suspD_b (nA A) v b (nA A 1).toNat 0
    rw [rv_z]
    exact bmz_e (show -2147483648 ≤ suspD (nA A) v b (nA A 1).toNat 0 ∧ suspD (nA A) v b (nA A 1).toNat 0 < 2147483648 by omega)
  rw [hS, ea] at h
  exact h
