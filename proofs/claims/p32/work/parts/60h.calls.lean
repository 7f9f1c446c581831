/-! calls as they are, over a named state -/
theorem da_tryAppend {γ : Gm} (G : GL γ) (o : Bool) {S : St2} {A : Abs} (hS : gat S o = A) {c : Int} (hc : R3 c) : Cl γ yL_tryAppend (.codeWith yL_tryAppend cL_tryAppend 3 (some .int) hL_tryAppend) 3 1 [.ref (bs (gw γ o)), .int (iI c)] S (an_tryAppend A c) (gup S o (st_tryAppend A c)) := by
  have h := c_tryAppend G o (S := S) (c := c) hc
  rw [hS] at h
  exact h
theorem dc_tryAppend {γ : Gm} (G : GL γ) (o : Bool) {S : St2} {A : Abs} (hS : gat S o = A) {c y9 z9 : Int} (hc : R3 c) : Cl γ yL_call (.code yL_call cL_call 5 (some .int)) 10 1 [.ref (bs (gw γ o)), .int (iI 0), .int (iI c), .int (iI y9), .int (iI z9)] S (an_tryAppend A c) (gup S o (st_tryAppend A c)) := by
  have h := c_call_0 G o (S := S) (c := c) (y9 := y9) (z9 := z9) hc
  rw [hS] at h
  exact h
theorem da_tryLoad {γ : Gm} (G : GL γ) (o : Bool) {S : St2} {A : Abs} (hS : gat S o = A)  : Cl γ yL_tryLoad (.codeWith yL_tryLoad cL_tryLoad 2 (some .int) hL_tryLoad) 8 1 [.ref (bs (gw γ o))] S (an_tryLoad A) (gup S o (st_tryLoad A)) := by
  have h := c_tryLoad G o (S := S) 
  rw [hS] at h
  exact h
theorem dc_tryLoad {γ : Gm} (G : GL γ) (o : Bool) {S : St2} {A : Abs} (hS : gat S o = A) {x y9 z9 : Int}  : Cl γ yL_call (.code yL_call cL_call 5 (some .int)) 10 1 [.ref (bs (gw γ o)), .int (iI 1), .int (iI x), .int (iI y9), .int (iI z9)] S (an_tryLoad A) (gup S o (st_tryLoad A)) := by
  have h := c_call_1 G o (S := S) (x := x) (y9 := y9) (z9 := z9) 
  rw [hS] at h
  exact h
theorem da_tryAbout {γ : Gm} (G : GL γ) (o : Bool) {S : St2} {A : Abs} (hS : gat S o = A) {w : Int} (hw : R3 w) : Cl γ yL_tryAbout (.codeWith yL_tryAbout cL_tryAbout 3 (some .int) hL_tryAbout) 3 1 [.ref (bs (gw γ o)), .int (iI w)] S (an_tryAbout A w) S := by
  have h := c_tryAbout G o (S := S) (w := w) hw
  rw [hS] at h
  exact h
theorem dc_tryAbout {γ : Gm} (G : GL γ) (o : Bool) {S : St2} {A : Abs} (hS : gat S o = A) {w y9 z9 : Int} (hw : R3 w) : Cl γ yL_call (.code yL_call cL_call 5 (some .int)) 10 1 [.ref (bs (gw γ o)), .int (iI 2), .int (iI w), .int (iI y9), .int (iI z9)] S (an_tryAbout A w) S := by
  have h := c_call_2 G o (S := S) (w := w) (y9 := y9) (z9 := z9) hw
  rw [hS] at h
  exact h
theorem da_tryTold {γ : Gm} (G : GL γ) (o : Bool) {S : St2} {A : Abs} (hS : gat S o = A) {v w : Int} (hv : R3 v) (hw : R3 w) : Cl γ yL_tryTold (.codeWith yL_tryTold cL_tryTold 4 (some .int) hL_tryTold) 4 1 [.ref (bs (gw γ o)), .int (iI v), .int (iI w)] S (an_tryTold A v w) S := by
  have h := c_tryTold G o (S := S) (v := v) (w := w) hv hw
  rw [hS] at h
  exact h
theorem dc_tryTold {γ : Gm} (G : GL γ) (o : Bool) {S : St2} {A : Abs} (hS : gat S o = A) {v w z9 : Int} (hv : R3 v) (hw : R3 w) : Cl γ yL_call (.code yL_call cL_call 5 (some .int)) 10 1 [.ref (bs (gw γ o)), .int (iI 3), .int (iI v), .int (iI w), .int (iI z9)] S (an_tryTold A v w) S := by
  have h := c_call_3 G o (S := S) (v := v) (w := w) (z9 := z9) hv hw
  rw [hS] at h
  exact h
theorem da_tryLeg {γ : Gm} (G : GL γ) (o : Bool) {S : St2} {A : Abs} (hS : gat S o = A) {v g : Int} (hv : R3 v) (hg : R3 g) : Cl γ yL_tryLeg (.codeWith yL_tryLeg cL_tryLeg 4 (some .int) hL_tryLeg) 4 1 [.ref (bs (gw γ o)), .int (iI v), .int (iI g)] S (an_tryLeg A v g) S := by
  have h := c_tryLeg G o (S := S) (v := v) (g := g) hv hg
  rw [hS] at h
  exact h
theorem dc_tryLeg {γ : Gm} (G : GL γ) (o : Bool) {S : St2} {A : Abs} (hS : gat S o = A) {v g z9 : Int} (hv : R3 v) (hg : R3 g) : Cl γ yL_call (.code yL_call cL_call 5 (some .int)) 10 1 [.ref (bs (gw γ o)), .int (iI 4), .int (iI v), .int (iI g), .int (iI z9)] S (an_tryLeg A v g) S := by
  have h := c_call_4 G o (S := S) (v := v) (g := g) (z9 := z9) hv hg
  rw [hS] at h
  exact h
theorem da_tryPush {γ : Gm} (G : GL γ) (o : Bool) {S : St2} {A : Abs} (hS : gat S o = A) {v g w : Int} (hv : R3 v) (hg : R3 g) (hw : R3 w) : Cl γ yL_tryPush (.codeWith yL_tryPush cL_tryPush 5 (some .int) hL_tryPush) 5 1 [.ref (bs (gw γ o)), .int (iI v), .int (iI g), .int (iI w)] S (an_tryPush A v g w) S := by
  have h := c_tryPush G o (S := S) (v := v) (g := g) (w := w) hv hg hw
  rw [hS] at h
  exact h
theorem dc_tryPush {γ : Gm} (G : GL γ) (o : Bool) {S : St2} {A : Abs} (hS : gat S o = A) {v g w : Int} (hv : R3 v) (hg : R3 g) (hw : R3 w) : Cl γ yL_call (.code yL_call cL_call 5 (some .int)) 10 1 [.ref (bs (gw γ o)), .int (iI 5), .int (iI v), .int (iI g), .int (iI w)] S (an_tryPush A v g w) S := by
  have h := c_call_5 G o (S := S) (v := v) (g := g) (w := w) hv hg hw
  rw [hS] at h
  exact h
theorem da_tryPipe {γ : Gm} (G : GL γ) (o : Bool) {S : St2} {A : Abs} (hS : gat S o = A) {e w : Int} (he : R3 e) (hw : R3 w) : Cl γ yL_tryPipe (.codeWith yL_tryPipe cL_tryPipe 4 (some .int) hL_tryPipe) 4 1 [.ref (bs (gw γ o)), .int (iI e), .int (iI w)] S (an_tryPipe A e w) S := by
  have h := c_tryPipe G o (S := S) (e := e) (w := w) he hw
  rw [hS] at h
  exact h
theorem dc_tryPipe {γ : Gm} (G : GL γ) (o : Bool) {S : St2} {A : Abs} (hS : gat S o = A) {e w z9 : Int} (he : R3 e) (hw : R3 w) : Cl γ yL_call (.code yL_call cL_call 5 (some .int)) 10 1 [.ref (bs (gw γ o)), .int (iI 6), .int (iI e), .int (iI w), .int (iI z9)] S (an_tryPipe A e w) S := by
  have h := c_call_6 G o (S := S) (e := e) (w := w) (z9 := z9) he hw
  rw [hS] at h
  exact h
theorem da_trySetting {γ : Gm} (G : GL γ) (o : Bool) {S : St2} {A : Abs} (hS : gat S o = A) {w : Int} (hw : R3 w) : Cl γ yL_trySetting (.codeWith yL_trySetting cL_trySetting 3 (some .int) hL_trySetting) 3 1 [.ref (bs (gw γ o)), .int (iI w)] S (an_trySetting A w) S := by
  have h := c_trySetting G o (S := S) (w := w) hw
  rw [hS] at h
  exact h
theorem dc_trySetting {γ : Gm} (G : GL γ) (o : Bool) {S : St2} {A : Abs} (hS : gat S o = A) {w y9 z9 : Int} (hw : R3 w) : Cl γ yL_call (.code yL_call cL_call 5 (some .int)) 10 1 [.ref (bs (gw γ o)), .int (iI 7), .int (iI w), .int (iI y9), .int (iI z9)] S (an_trySetting A w) S := by
  have h := c_call_7 G o (S := S) (w := w) (y9 := y9) (z9 := z9) hw
  rw [hS] at h
  exact h
theorem da_tryValve {γ : Gm} (G : GL γ) (o : Bool) {S : St2} {A : Abs} (hS : gat S o = A) {c v : Int} (hc : R3 c) (hv : R3 v) : Cl γ yL_tryValve (.codeWith yL_tryValve cL_tryValve 4 (some .int) hL_tryValve) 6 1 [.ref (bs (gw γ o)), .int (iI c), .int (iI v)] S (an_tryValve A c v) (gup S o (st_tryValve A c v)) := by
  have h := c_tryValve G o (S := S) (c := c) (v := v) hc hv
  rw [hS] at h
  exact h
theorem dc_tryValve {γ : Gm} (G : GL γ) (o : Bool) {S : St2} {A : Abs} (hS : gat S o = A) {c v z9 : Int} (hc : R3 c) (hv : R3 v) : Cl γ yL_call (.code yL_call cL_call 5 (some .int)) 10 1 [.ref (bs (gw γ o)), .int (iI 8), .int (iI c), .int (iI v), .int (iI z9)] S (an_tryValve A c v) (gup S o (st_tryValve A c v)) := by
  have h := c_call_8 G o (S := S) (c := c) (v := v) (z9 := z9) hc hv
  rw [hS] at h
  exact h
theorem da_tryDrop {γ : Gm} (G : GL γ) (o : Bool) {S : St2} {A : Abs} (hS : gat S o = A) {e : Int} (he : R3 e) : Cl γ yL_tryDrop (.codeWith yL_tryDrop cL_tryDrop 3 (some .int) hL_tryDrop) 5 1 [.ref (bs (gw γ o)), .int (iI e)] S (an_tryDrop A e) (gup S o (st_tryDrop A e)) := by
  have h := c_tryDrop G o (S := S) (e := e) he
  rw [hS] at h
  exact h
theorem dc_tryDrop {γ : Gm} (G : GL γ) (o : Bool) {S : St2} {A : Abs} (hS : gat S o = A) {e y9 z9 : Int} (he : R3 e) : Cl γ yL_call (.code yL_call cL_call 5 (some .int)) 10 1 [.ref (bs (gw γ o)), .int (iI 9), .int (iI e), .int (iI y9), .int (iI z9)] S (an_tryDrop A e) (gup S o (st_tryDrop A e)) := by
  have h := c_call_9 G o (S := S) (e := e) (y9 := y9) (z9 := z9) he
  rw [hS] at h
  exact h
theorem da_tryLeak {γ : Gm} (G : GL γ) (o : Bool) {S : St2} {A : Abs} (hS : gat S o = A) {e l : Int} (he : R3 e) (hl : R3 l) : Cl γ yL_tryLeak (.codeWith yL_tryLeak cL_tryLeak 4 (some .int) hL_tryLeak) 5 1 [.ref (bs (gw γ o)), .int (iI e), .int (iI l)] S (an_tryLeak A e l) (gup S o (st_tryLeak A e l)) := by
  have h := c_tryLeak G o (S := S) (e := e) (l := l) he hl
  rw [hS] at h
  exact h
theorem dc_tryLeak {γ : Gm} (G : GL γ) (o : Bool) {S : St2} {A : Abs} (hS : gat S o = A) {e l z9 : Int} (he : R3 e) (hl : R3 l) : Cl γ yL_call (.code yL_call cL_call 5 (some .int)) 10 1 [.ref (bs (gw γ o)), .int (iI 10), .int (iI e), .int (iI l), .int (iI z9)] S (an_tryLeak A e l) (gup S o (st_tryLeak A e l)) := by
  have h := c_call_10 G o (S := S) (e := e) (l := l) (z9 := z9) he hl
  rw [hS] at h
  exact h
theorem da_tryFeed {γ : Gm} (G : GL γ) (o : Bool) {S : St2} {A : Abs} (hS : gat S o = A) {v m : Int} (hv : R3 v) (hm : R3 m) : Cl γ yL_tryFeed (.codeWith yL_tryFeed cL_tryFeed 4 (some .int) hL_tryFeed) 5 1 [.ref (bs (gw γ o)), .int (iI v), .int (iI m)] S (an_tryFeed A v m) (gup S o (st_tryFeed A v m)) := by
  have h := c_tryFeed G o (S := S) (v := v) (m := m) hv hm
  rw [hS] at h
  exact h
theorem dc_tryFeed {γ : Gm} (G : GL γ) (o : Bool) {S : St2} {A : Abs} (hS : gat S o = A) {v m z9 : Int} (hv : R3 v) (hm : R3 m) : Cl γ yL_call (.code yL_call cL_call 5 (some .int)) 10 1 [.ref (bs (gw γ o)), .int (iI 11), .int (iI v), .int (iI m), .int (iI z9)] S (an_tryFeed A v m) (gup S o (st_tryFeed A v m)) := by
  have h := c_call_11 G o (S := S) (v := v) (m := m) (z9 := z9) hv hm
  rw [hS] at h
  exact h
theorem da_tryLay {γ : Gm} (G : GL γ) (o : Bool) {S : St2} {A : Abs} (hS : gat S o = A) {w v : Int} (hw : R3 w) (hv : R3 v) : Cl γ yL_tryLay (.codeWith yL_tryLay cL_tryLay 4 (some .int) hL_tryLay) 5 1 [.ref (bs (gw γ o)), .int (iI w), .int (iI v)] S (an_tryLay A w v) (gup S o (st_tryLay A w v)) := by
  have h := c_tryLay G o (S := S) (w := w) (v := v) hw hv
  rw [hS] at h
  exact h
theorem dc_tryLay {γ : Gm} (G : GL γ) (o : Bool) {S : St2} {A : Abs} (hS : gat S o = A) {w v z9 : Int} (hw : R3 w) (hv : R3 v) : Cl γ yL_call (.code yL_call cL_call 5 (some .int)) 10 1 [.ref (bs (gw γ o)), .int (iI 12), .int (iI w), .int (iI v), .int (iI z9)] S (an_tryLay A w v) (gup S o (st_tryLay A w v)) := by
  have h := c_call_12 G o (S := S) (w := w) (v := v) (z9 := z9) hw hv
  rw [hS] at h
  exact h
theorem da_tryTicks {γ : Gm} (G : GL γ) (o : Bool) {S : St2} {A : Abs} (hS : gat S o = A) {m : Int} (hm : R3 m) : Cl γ yL_tryTicks (.codeWith yL_tryTicks cL_tryTicks 3 (some .int) hL_tryTicks) 7 1 [.ref (bs (gw γ o)), .int (iI m)] S (an_tryTicks A m) (gup S o (st_tryTicks A m)) := by
  have h := c_tryTicks G o (S := S) (m := m) hm
  rw [hS] at h
  exact h
theorem dc_tryTicks {γ : Gm} (G : GL γ) (o : Bool) {S : St2} {A : Abs} (hS : gat S o = A) {m y9 z9 : Int} (hm : R3 m) : Cl γ yL_call (.code yL_call cL_call 5 (some .int)) 10 1 [.ref (bs (gw γ o)), .int (iI 13), .int (iI m), .int (iI y9), .int (iI z9)] S (an_tryTicks A m) (gup S o (st_tryTicks A m)) := by
  have h := c_call_13 G o (S := S) (m := m) (y9 := y9) (z9 := z9) hm
  rw [hS] at h
  exact h
theorem da_tryUndo {γ : Gm} (G : GL γ) (o : Bool) {S : St2} {A : Abs} (hS : gat S o = A)  : Cl γ yL_tryUndo (.codeWith yL_tryUndo cL_tryUndo 2 (some .int) hL_tryUndo) 4 1 [.ref (bs (gw γ o))] S (an_tryUndo A) (gup S o (st_tryUndo A)) := by
  have h := c_tryUndo G o (S := S) 
  rw [hS] at h
  exact h
theorem dc_tryUndo {γ : Gm} (G : GL γ) (o : Bool) {S : St2} {A : Abs} (hS : gat S o = A) {x y9 z9 : Int}  : Cl γ yL_call (.code yL_call cL_call 5 (some .int)) 10 1 [.ref (bs (gw γ o)), .int (iI 14), .int (iI x), .int (iI y9), .int (iI z9)] S (an_tryUndo A) (gup S o (st_tryUndo A)) := by
  have h := c_call_14 G o (S := S) (x := x) (y9 := y9) (z9 := z9) 
  rw [hS] at h
  exact h
theorem da_tryBeat {γ : Gm} (G : GL γ) (o : Bool) {S : St2} {A : Abs} (hS : gat S o = A) {v : Int} (hv : R3 v) : Cl γ yL_tryBeat (.codeWith yL_tryBeat cL_tryBeat 3 (some .int) hL_tryBeat) 7 1 [.ref (bs (gw γ o)), .int (iI v)] S (an_tryBeat A v) S := by
  have h := c_tryBeat G o (S := S) (v := v) hv
  rw [hS] at h
  exact h
theorem dc_tryBeat {γ : Gm} (G : GL γ) (o : Bool) {S : St2} {A : Abs} (hS : gat S o = A) {v y9 z9 : Int} (hv : R3 v) : Cl γ yL_call (.code yL_call cL_call 5 (some .int)) 10 1 [.ref (bs (gw γ o)), .int (iI 15), .int (iI v), .int (iI y9), .int (iI z9)] S (an_tryBeat A v) S := by
  have h := c_call_15 G o (S := S) (v := v) (y9 := y9) (z9 := z9) hv
  rw [hS] at h
  exact h
theorem da_tryRule {γ : Gm} (G : GL γ) (o : Bool) {S : St2} {A : Abs} (hS : gat S o = A) {c y v : Int} (hc : R3 c) (hy : R3 y) (hv : R3 v) : Cl γ yL_tryRule (.codeWith yL_tryRule cL_tryRule 5 (some .int) hL_tryRule) 7 1 [.ref (bs (gw γ o)), .int (iI c), .int (iI y), .int (iI v)] S (an_tryRule A c y v) S := by
  have h := c_tryRule G o (S := S) (c := c) (y := y) (v := v) hc hy hv
  rw [hS] at h
  exact h
theorem dc_tryRule {γ : Gm} (G : GL γ) (o : Bool) {S : St2} {A : Abs} (hS : gat S o = A) {c y v : Int} (hc : R3 c) (hy : R3 y) (hv : R3 v) : Cl γ yL_call (.code yL_call cL_call 5 (some .int)) 10 1 [.ref (bs (gw γ o)), .int (iI 16), .int (iI c), .int (iI y), .int (iI v)] S (an_tryRule A c y v) S := by
  have h := c_call_16 G o (S := S) (c := c) (y := y) (v := v) hc hy hv
  rw [hS] at h
  exact h
theorem da_tryIf {γ : Gm} (G : GL γ) (o : Bool) {S : St2} {A : Abs} (hS : gat S o = A) {e l v : Int} (he : R3 e) (hl : R3 l) (hv : R3 v) : Cl γ yL_tryIf (.codeWith yL_tryIf cL_tryIf 5 (some .int) hL_tryIf) 8 1 [.ref (bs (gw γ o)), .int (iI e), .int (iI l), .int (iI v)] S (an_tryIf A e l v) S := by
  have h := c_tryIf G o (S := S) (e := e) (l := l) (v := v) he hl hv
  rw [hS] at h
  exact h
theorem dc_tryIf {γ : Gm} (G : GL γ) (o : Bool) {S : St2} {A : Abs} (hS : gat S o = A) {e l v : Int} (he : R3 e) (hl : R3 l) (hv : R3 v) : Cl γ yL_call (.code yL_call cL_call 5 (some .int)) 10 1 [.ref (bs (gw γ o)), .int (iI 17), .int (iI e), .int (iI l), .int (iI v)] S (an_tryIf A e l v) S := by
  have h := c_call_17 G o (S := S) (e := e) (l := l) (v := v) he hl hv
  rw [hS] at h
  exact h
theorem da_trySuspect {γ : Gm} (G : GL γ) (o : Bool) {S : St2} {A : Abs} (hS : gat S o = A) {v b : Int} (hv : R3 v) (hb : R3 b) : Cl γ yL_trySuspect (.codeWith yL_trySuspect cL_trySuspect 4 (some .int) hL_trySuspect) 8 1 [.ref (bs (gw γ o)), .int (iI v), .int (iI b)] S (an_trySuspect A v b) S := by
  have h := c_trySuspect G o (S := S) (v := v) (b := b) hv hb
  rw [hS] at h
  exact h
theorem dc_trySuspect {γ : Gm} (G : GL γ) (o : Bool) {S : St2} {A : Abs} (hS : gat S o = A) {v b z9 : Int} (hv : R3 v) (hb : R3 b) : Cl γ yL_call (.code yL_call cL_call 5 (some .int)) 10 1 [.ref (bs (gw γ o)), .int (iI 18), .int (iI v), .int (iI b), .int (iI z9)] S (an_trySuspect A v b) S := by
  have h := c_call_18 G o (S := S) (v := v) (b := b) (z9 := z9) hv hb
  rw [hS] at h
  exact h
theorem da_tryKeep {γ : Gm} (G : GL γ) (o : Bool) {S : St2} {A : Abs} (hS : gat S o = A) {q : Int} (hq : R3 q) : Cl γ yL_tryKeep (.codeWith yL_tryKeep cL_tryKeep 3 (some .int) hL_tryKeep) 4 1 [.ref (bs (gw γ o)), .int (iI q)] S (an_tryKeep A q) (gup S o (st_tryKeep A q)) := by
  have h := c_tryKeep G o (S := S) (q := q) hq
  rw [hS] at h
  exact h
theorem dc_tryKeep {γ : Gm} (G : GL γ) (o : Bool) {S : St2} {A : Abs} (hS : gat S o = A) {q y9 z9 : Int} (hq : R3 q) : Cl γ yL_call (.code yL_call cL_call 5 (some .int)) 10 1 [.ref (bs (gw γ o)), .int (iI 19), .int (iI q), .int (iI y9), .int (iI z9)] S (an_tryKeep A q) (gup S o (st_tryKeep A q)) := by
  have h := c_call_19 G o (S := S) (q := q) (y9 := y9) (z9 := z9) hq
  rw [hS] at h
  exact h
theorem da_tryBack {γ : Gm} (G : GL γ) (o : Bool) {S : St2} {A : Abs} (hS : gat S o = A) {q : Int} (hq : R3 q) : Cl γ yL_tryBack (.codeWith yL_tryBack cL_tryBack 3 (some .int) hL_tryBack) 4 1 [.ref (bs (gw γ o)), .int (iI q)] S (an_tryBack A q) (gup S o (st_tryBack A q)) := by
  have h := c_tryBack G o (S := S) (q := q) hq
  rw [hS] at h
  exact h
theorem dc_tryBack {γ : Gm} (G : GL γ) (o : Bool) {S : St2} {A : Abs} (hS : gat S o = A) {q y9 z9 : Int} (hq : R3 q) : Cl γ yL_call (.code yL_call cL_call 5 (some .int)) 10 1 [.ref (bs (gw γ o)), .int (iI 20), .int (iI q), .int (iI y9), .int (iI z9)] S (an_tryBack A q) (gup S o (st_tryBack A q)) := by
  have h := c_call_20 G o (S := S) (q := q) (y9 := y9) (z9 := z9) hq
  rw [hS] at h
  exact h
theorem da_ducts {γ : Gm} (G : GL γ) (o : Bool) {S : St2} {A : Abs} (hS : gat S o = A) {c g y q m : Int} (hc : R3 c) (hg : R3 g) (hy : R3 y) (hq : R3 q) (hm : R3 m) : Cl γ yL_ducts (.codeWith yL_ducts cL_ducts 7 (some .int) hL_ducts) 6 1 [.ref (bs (gw γ o)), .int (iI c), .int (iI g), .int (iI y), .int (iI q), .int (iI m)] S (an_ducts A c g y q m) (gup S o (st_ducts A c g y q m)) := by
  have h := c_ducts G o (S := S) (c := c) (g := g) (y := y) (q := q) (m := m) hc hg hy hq hm
  rw [hS] at h
  exact h
theorem da_keys {γ : Gm} (G : GL γ) (o : Bool) {S : St2} {A : Abs} (hS : gat S o = A) {v b : Int} (hv : R3 v) (hb : b = 0 ∨ b = 1) : Cl γ yL_keys (.codeWith yL_keys cL_keys 4 (some .int) hL_keys) 5 1 [.ref (bs (gw γ o)), .int (iI v), .int (iI b)] S (an_keys A v b) (gup S o (st_keys A v b)) := by
  have h := c_keys G o (S := S) (v := v) (b := b) hv hb
  rw [hS] at h
  exact h
theorem da_doScript {γ : Gm} (G : GL γ) (o : Bool) {S : St2} {A : Abs} (hS : gat S o = A) {m b : Int} (hm : R3 m) (hb : R6 b) : Cl γ yL_doScript (.codeWith yL_doScript cL_doScript 5 (some .int) hL_doScript) 8 1 [.ref (bs (gw γ o)), .int (iI m), .long (lI b)] S (an_doScript A m b) S := by
  have h := c_doScript G o (S := S) (m := m) (b := b) hm hb
  rw [hS] at h
  exact h
theorem da_doSimulate {γ : Gm} (G : GL γ) (o : Bool) {S : St2} {A : Abs} (hS : gat S o = A) {b m : Int} (hm : R3 m) : Cl γ yL_doSimulate (.codeWith yL_doSimulate cL_doSimulate 5 (some .int) hL_doSimulate) 8 1 [.ref (bs (gw γ o)), .long (lI b), .int (iI m)] S (an_doSimulate A b m) S := by
  have h := c_doSimulate G o (S := S) (b := b) (m := m) hm
  rw [hS] at h
  exact h
