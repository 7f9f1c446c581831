/-! what the calls of the law answer, and the states behind them -/
def an_tryAppend (A : Abs) (c : Int) : Int := rv (op_append A.1 A.2.1 A.2.2.1 A.2.2.2.1 A.2.2.2.2.1 A.2.2.2.2.2.1 A.2.2.2.2.2.2 c) (-9999002) (-9999003) 0
theorem an_tryAppend_r (A : Abs) (c : Int) : R3 (an_tryAppend A c) := rv_r _ (by decide) (by decide) (by decide)
def st_tryAppend (A : Abs) (c : Int) : Abs := (op_append A.1 A.2.1 A.2.2.1 A.2.2.2.1 A.2.2.2.2.1 A.2.2.2.2.2.1 A.2.2.2.2.2.2 c).2.2
def an_tryLoad (A : Abs) : Int := rv (op_load A.1 A.2.1 A.2.2.1 A.2.2.2.1 A.2.2.2.2.1 A.2.2.2.2.2.1 A.2.2.2.2.2.2) (-9999003) 0 0
theorem an_tryLoad_r (A : Abs) : R3 (an_tryLoad A) := rv_r _ (by decide) (by decide) (by decide)
def st_tryLoad (A : Abs) : Abs := (op_load A.1 A.2.1 A.2.2.1 A.2.2.2.1 A.2.2.2.2.1 A.2.2.2.2.2.1 A.2.2.2.2.2.2).2.2
def an_tryAbout (A : Abs) (w : Int) : Int := rv (op_about A.1 A.2.1 A.2.2.1 A.2.2.2.1 A.2.2.2.2.1 A.2.2.2.2.2.1 A.2.2.2.2.2.2 w) (-9999002) 0 0
theorem an_tryAbout_r (A : Abs) (w : Int) : R3 (an_tryAbout A w) := rv_r _ (by decide) (by decide) (by decide)
theorem st_tryAbout (A : Abs) (w : Int) : (op_about A.1 A.2.1 A.2.2.1 A.2.2.2.1 A.2.2.2.2.1 A.2.2.2.2.2.1 A.2.2.2.2.2.2 w).2.2 = A := by
  unfold op_about
  repeat' split
  all_goals rfl
def an_tryTold (A : Abs) (v w : Int) : Int := rv (op_valveOf A.1 A.2.1 A.2.2.1 A.2.2.2.1 A.2.2.2.2.1 A.2.2.2.2.2.1 A.2.2.2.2.2.2 v w) (-9999001) (-9999002) 0
theorem an_tryTold_r (A : Abs) (v w : Int) : R3 (an_tryTold A v w) := rv_r _ (by decide) (by decide) (by decide)
theorem st_tryTold (A : Abs) (v w : Int) : (op_valveOf A.1 A.2.1 A.2.2.1 A.2.2.2.1 A.2.2.2.2.1 A.2.2.2.2.2.1 A.2.2.2.2.2.2 v w).2.2 = A := by
  unfold op_valveOf
  repeat' split
  all_goals rfl
def an_tryLeg (A : Abs) (v g : Int) : Int := rv (op_leg A.1 A.2.1 A.2.2.1 A.2.2.2.1 A.2.2.2.2.1 A.2.2.2.2.2.1 A.2.2.2.2.2.2 v g) (-9999001) 0 0
theorem an_tryLeg_r (A : Abs) (v g : Int) : R3 (an_tryLeg A v g) := rv_r _ (by decide) (by decide) (by decide)
theorem st_tryLeg (A : Abs) (v g : Int) : (op_leg A.1 A.2.1 A.2.2.1 A.2.2.2.1 A.2.2.2.2.1 A.2.2.2.2.2.1 A.2.2.2.2.2.2 v g).2.2 = A := by
  unfold op_leg
  repeat' split
  all_goals rfl
def an_tryPush (A : Abs) (v g w : Int) : Int := rv (op_push A.1 A.2.1 A.2.2.1 A.2.2.2.1 A.2.2.2.2.1 A.2.2.2.2.2.1 A.2.2.2.2.2.2 v g w) (-9999001) (-9999002) 0
theorem an_tryPush_r (A : Abs) (v g w : Int) : R3 (an_tryPush A v g w) := rv_r _ (by decide) (by decide) (by decide)
theorem st_tryPush (A : Abs) (v g w : Int) : (op_push A.1 A.2.1 A.2.2.1 A.2.2.2.1 A.2.2.2.2.1 A.2.2.2.2.2.1 A.2.2.2.2.2.2 v g w).2.2 = A := by
  unfold op_push
  repeat' split
  all_goals rfl
def an_tryPipe (A : Abs) (e w : Int) : Int := rv (op_ductOf A.1 A.2.1 A.2.2.1 A.2.2.2.1 A.2.2.2.2.1 A.2.2.2.2.2.1 A.2.2.2.2.2.2 e w) (-9999001) (-9999002) 0
theorem an_tryPipe_r (A : Abs) (e w : Int) : R3 (an_tryPipe A e w) := rv_r _ (by decide) (by decide) (by decide)
theorem st_tryPipe (A : Abs) (e w : Int) : (op_ductOf A.1 A.2.1 A.2.2.1 A.2.2.2.1 A.2.2.2.2.1 A.2.2.2.2.2.1 A.2.2.2.2.2.2 e w).2.2 = A := by
  unfold op_ductOf
  repeat' split
  all_goals rfl
def an_trySetting (A : Abs) (w : Int) : Int := rv (op_setting A.1 A.2.1 A.2.2.1 A.2.2.2.1 A.2.2.2.2.1 A.2.2.2.2.2.1 A.2.2.2.2.2.2 w) (-9999002) 0 0
theorem an_trySetting_r (A : Abs) (w : Int) : R3 (an_trySetting A w) := rv_r _ (by decide) (by decide) (by decide)
theorem st_trySetting (A : Abs) (w : Int) : (op_setting A.1 A.2.1 A.2.2.1 A.2.2.2.1 A.2.2.2.2.1 A.2.2.2.2.2.1 A.2.2.2.2.2.2 w).2.2 = A := by
  unfold op_setting
  repeat' split
  all_goals rfl
def an_tryValve (A : Abs) (c v : Int) : Int := rv (op_valve A.1 A.2.1 A.2.2.1 A.2.2.2.1 A.2.2.2.2.1 A.2.2.2.2.2.1 A.2.2.2.2.2.2 c v) (-9999002) (-9999003) 0
theorem an_tryValve_r (A : Abs) (c v : Int) : R3 (an_tryValve A c v) := rv_r _ (by decide) (by decide) (by decide)
def st_tryValve (A : Abs) (c v : Int) : Abs := (op_valve A.1 A.2.1 A.2.2.1 A.2.2.2.1 A.2.2.2.2.1 A.2.2.2.2.2.1 A.2.2.2.2.2.2 c v).2.2
def an_tryDrop (A : Abs) (e : Int) : Int := rv (op_remove A.1 A.2.1 A.2.2.1 A.2.2.2.1 A.2.2.2.2.1 A.2.2.2.2.2.1 A.2.2.2.2.2.2 e) (-9999001) 0 0
theorem an_tryDrop_r (A : Abs) (e : Int) : R3 (an_tryDrop A e) := rv_r _ (by decide) (by decide) (by decide)
def st_tryDrop (A : Abs) (e : Int) : Abs := (op_remove A.1 A.2.1 A.2.2.1 A.2.2.2.1 A.2.2.2.2.1 A.2.2.2.2.2.1 A.2.2.2.2.2.2 e).2.2
def an_tryLeak (A : Abs) (e l : Int) : Int := rv (op_leak A.1 A.2.1 A.2.2.1 A.2.2.2.1 A.2.2.2.2.1 A.2.2.2.2.2.1 A.2.2.2.2.2.2 e l) (-9999001) (-9999002) 0
theorem an_tryLeak_r (A : Abs) (e l : Int) : R3 (an_tryLeak A e l) := rv_r _ (by decide) (by decide) (by decide)
def st_tryLeak (A : Abs) (e l : Int) : Abs := (op_leak A.1 A.2.1 A.2.2.1 A.2.2.2.1 A.2.2.2.2.1 A.2.2.2.2.2.1 A.2.2.2.2.2.2 e l).2.2
def an_tryFeed (A : Abs) (v m : Int) : Int := rv (op_feed A.1 A.2.1 A.2.2.1 A.2.2.2.1 A.2.2.2.2.1 A.2.2.2.2.2.1 A.2.2.2.2.2.2 v m) (-9999001) (-9999002) 0
theorem an_tryFeed_r (A : Abs) (v m : Int) : R3 (an_tryFeed A v m) := rv_r _ (by decide) (by decide) (by decide)
def st_tryFeed (A : Abs) (v m : Int) : Abs := (op_feed A.1 A.2.1 A.2.2.1 A.2.2.2.1 A.2.2.2.2.1 A.2.2.2.2.2.1 A.2.2.2.2.2.2 v m).2.2
def an_tryLay (A : Abs) (w v : Int) : Int := rv (op_set A.1 A.2.1 A.2.2.1 A.2.2.2.1 A.2.2.2.2.1 A.2.2.2.2.2.1 A.2.2.2.2.2.2 w v) (-9999002) 0 0
theorem an_tryLay_r (A : Abs) (w v : Int) : R3 (an_tryLay A w v) := rv_r _ (by decide) (by decide) (by decide)
def st_tryLay (A : Abs) (w v : Int) : Abs := (op_set A.1 A.2.1 A.2.2.1 A.2.2.2.1 A.2.2.2.2.1 A.2.2.2.2.2.1 A.2.2.2.2.2.2 w v).2.2
def an_tryTicks (A : Abs) (m : Int) : Int := rv (op_ticks A.1 A.2.1 A.2.2.1 A.2.2.2.1 A.2.2.2.2.1 A.2.2.2.2.2.1 A.2.2.2.2.2.2 m) (-9999002) 0 0
theorem an_tryTicks_r (A : Abs) (m : Int) : R3 (an_tryTicks A m) := rv_r _ (by decide) (by decide) (by decide)
def st_tryTicks (A : Abs) (m : Int) : Abs := (op_ticks A.1 A.2.1 A.2.2.1 A.2.2.2.1 A.2.2.2.2.1 A.2.2.2.2.2.1 A.2.2.2.2.2.2 m).2.2
def an_tryUndo (A : Abs) : Int := rv (op_undo A.1 A.2.1 A.2.2.1 A.2.2.2.1 A.2.2.2.2.1 A.2.2.2.2.2.1 A.2.2.2.2.2.2) (-9999003) 0 0
theorem an_tryUndo_r (A : Abs) : R3 (an_tryUndo A) := rv_r _ (by decide) (by decide) (by decide)
def st_tryUndo (A : Abs) : Abs := (op_undo A.1 A.2.1 A.2.2.1 A.2.2.2.1 A.2.2.2.2.1 A.2.2.2.2.2.1 A.2.2.2.2.2.2).2.2
def an_tryBeat (A : Abs) (v : Int) : Int := rv (op_beat A.1 A.2.1 A.2.2.1 A.2.2.2.1 A.2.2.2.2.1 A.2.2.2.2.2.1 A.2.2.2.2.2.2 v) (-9999001) 0 0
theorem an_tryBeat_r (A : Abs) (v : Int) : R3 (an_tryBeat A v) := rv_r _ (by decide) (by decide) (by decide)
theorem st_tryBeat (A : Abs) (v : Int) : (op_beat A.1 A.2.1 A.2.2.1 A.2.2.2.1 A.2.2.2.2.1 A.2.2.2.2.2.1 A.2.2.2.2.2.2 v).2.2 = A := by
  unfold op_beat
  repeat' split
  all_goals rfl
def an_tryRule (A : Abs) (c y v : Int) : Int := rv (op_rule A.1 A.2.1 A.2.2.1 A.2.2.2.1 A.2.2.2.2.1 A.2.2.2.2.2.1 A.2.2.2.2.2.2 c y v) (-9999001) (-9999002) 0
theorem an_tryRule_r (A : Abs) (c y v : Int) : R3 (an_tryRule A c y v) := rv_r _ (by decide) (by decide) (by decide)
theorem st_tryRule (A : Abs) (c y v : Int) : (op_rule A.1 A.2.1 A.2.2.1 A.2.2.2.1 A.2.2.2.2.1 A.2.2.2.2.2.1 A.2.2.2.2.2.2 c y v).2.2 = A := by
  unfold op_rule
  repeat' split
  all_goals rfl
def an_tryIf (A : Abs) (e l v : Int) : Int := rv (op_ifLeak A.1 A.2.1 A.2.2.1 A.2.2.2.1 A.2.2.2.2.1 A.2.2.2.2.2.1 A.2.2.2.2.2.2 e l v) (-9999001) (-9999002) 0
theorem an_tryIf_r (A : Abs) (e l v : Int) : R3 (an_tryIf A e l v) := rv_r _ (by decide) (by decide) (by decide)
theorem st_tryIf (A : Abs) (e l v : Int) : (op_ifLeak A.1 A.2.1 A.2.2.1 A.2.2.2.1 A.2.2.2.2.1 A.2.2.2.2.2.1 A.2.2.2.2.2.2 e l v).2.2 = A := by
  unfold op_ifLeak
  repeat' split
  all_goals rfl
def an_trySuspect (A : Abs) (v b : Int) : Int := rv (op_suspect A.1 A.2.1 A.2.2.1 A.2.2.2.1 A.2.2.2.2.1 A.2.2.2.2.2.1 A.2.2.2.2.2.2 v b) (-9999001) (-9999002) 0
theorem an_trySuspect_r (A : Abs) (v b : Int) : R3 (an_trySuspect A v b) := rv_r _ (by decide) (by decide) (by decide)
theorem st_trySuspect (A : Abs) (v b : Int) : (op_suspect A.1 A.2.1 A.2.2.1 A.2.2.2.1 A.2.2.2.2.1 A.2.2.2.2.2.1 A.2.2.2.2.2.2 v b).2.2 = A := by
  unfold op_suspect
  repeat' split
  all_goals rfl
def an_tryKeep (A : Abs) (q : Int) : Int := rv (op_save A.1 A.2.1 A.2.2.1 A.2.2.2.1 A.2.2.2.2.1 A.2.2.2.2.2.1 A.2.2.2.2.2.2 q) (-9999001) 0 0
theorem an_tryKeep_r (A : Abs) (q : Int) : R3 (an_tryKeep A q) := rv_r _ (by decide) (by decide) (by decide)
def st_tryKeep (A : Abs) (q : Int) : Abs := (op_save A.1 A.2.1 A.2.2.1 A.2.2.2.1 A.2.2.2.2.1 A.2.2.2.2.2.1 A.2.2.2.2.2.2 q).2.2
def an_tryBack (A : Abs) (q : Int) : Int := rv (op_restore A.1 A.2.1 A.2.2.1 A.2.2.2.1 A.2.2.2.2.1 A.2.2.2.2.2.1 A.2.2.2.2.2.2 q) (-9999001) (-9999003) 0
theorem an_tryBack_r (A : Abs) (q : Int) : R3 (an_tryBack A q) := rv_r _ (by decide) (by decide) (by decide)
def st_tryBack (A : Abs) (q : Int) : Abs := (op_restore A.1 A.2.1 A.2.2.1 A.2.2.2.1 A.2.2.2.2.1 A.2.2.2.2.2.1 A.2.2.2.2.2.2 q).2.2
def an_ducts (A : Abs) (c g y q m : Int) : Int := rv (op_duct A.1 A.2.1 A.2.2.1 A.2.2.2.1 A.2.2.2.2.1 A.2.2.2.2.2.1 A.2.2.2.2.2.2 c g y q m) (-9999001) (-9999002) (-9999003)
theorem an_ducts_r (A : Abs) (c g y q m : Int) : R3 (an_ducts A c g y q m) := rv_r _ (by decide) (by decide) (by decide)
def st_ducts (A : Abs) (c g y q m : Int) : Abs := (op_duct A.1 A.2.1 A.2.2.1 A.2.2.2.1 A.2.2.2.2.1 A.2.2.2.2.2.1 A.2.2.2.2.2.2 c g y q m).2.2
def an_keys (A : Abs) (v b : Int) : Int := rv (op_press A.1 A.2.1 A.2.2.1 A.2.2.2.1 A.2.2.2.2.1 A.2.2.2.2.2.1 A.2.2.2.2.2.2 v b) (-9999001) (-9999003) 0
theorem an_keys_r (A : Abs) (v b : Int) : R3 (an_keys A v b) := rv_r _ (by decide) (by decide) (by decide)
def st_keys (A : Abs) (v b : Int) : Abs := (op_press A.1 A.2.1 A.2.2.1 A.2.2.2.1 A.2.2.2.2.1 A.2.2.2.2.2.1 A.2.2.2.2.2.2 v b).2.2
def an_doScript (A : Abs) (m b : Int) : Int := rv (op_runScript A.1 A.2.1 A.2.2.1 A.2.2.2.1 A.2.2.2.2.1 A.2.2.2.2.2.1 A.2.2.2.2.2.2 m b) (-9999002) 0 0
theorem an_doScript_r (A : Abs) (m b : Int) : R3 (an_doScript A m b) := rv_r _ (by decide) (by decide) (by decide)
theorem st_doScript (A : Abs) (m b : Int) : (op_runScript A.1 A.2.1 A.2.2.1 A.2.2.2.1 A.2.2.2.2.1 A.2.2.2.2.2.1 A.2.2.2.2.2.2 m b).2.2 = A := by
  unfold op_runScript
  repeat' split
  all_goals rfl
def an_doSimulate (A : Abs) (b m : Int) : Int := rv (op_simulate A.1 A.2.1 A.2.2.1 A.2.2.2.1 A.2.2.2.2.1 A.2.2.2.2.2.1 A.2.2.2.2.2.2 b m) (-9999002) 0 0
theorem an_doSimulate_r (A : Abs) (b m : Int) : R3 (an_doSimulate A b m) := rv_r _ (by decide) (by decide) (by decide)
theorem st_doSimulate (A : Abs) (b m : Int) : (op_simulate A.1 A.2.1 A.2.2.1 A.2.2.2.1 A.2.2.2.2.1 A.2.2.2.2.2.1 A.2.2.2.2.2.2 b m).2.2 = A := by
  unfold op_simulate
  repeat' split
  all_goals rfl
theorem c_tryAppend {γ : Gm} (G : GL γ) (o : Bool) {S : St2} {c : Int} (hc : R3 c) : Cl γ yL_tryAppend (.codeWith yL_tryAppend cL_tryAppend 3 (some .int) hL_tryAppend) 3 1 [.ref (bs (gw γ o)), .int (iI c)] S (an_tryAppend (gat S o) c) (gup S o (st_tryAppend (gat S o) c)) := by
  have h := Cl.one (γ := γ) (w := o) (S := S) (r := an_tryAppend (gat S o) c) (A' := (op_append (gat S o).1 (gat S o).2.1 (gat S o).2.2.1 (gat S o).2.2.2.1 (gat S o).2.2.2.2.1 (gat S o).2.2.2.2.2.1 (gat S o).2.2.2.2.2.2 c).2.2) (fun σ hC hO => k_L_tryAppend (G.w o) (G.n o) hC hO hc) (fun _ _ _ q => q)
  exact h
theorem c_tryLoad {γ : Gm} (G : GL γ) (o : Bool) {S : St2}  : Cl γ yL_tryLoad (.codeWith yL_tryLoad cL_tryLoad 2 (some .int) hL_tryLoad) 8 1 [.ref (bs (gw γ o))] S (an_tryLoad (gat S o)) (gup S o (st_tryLoad (gat S o))) := by
  have h := Cl.one (γ := γ) (w := o) (S := S) (r := an_tryLoad (gat S o)) (A' := (op_load (gat S o).1 (gat S o).2.1 (gat S o).2.2.1 (gat S o).2.2.2.1 (gat S o).2.2.2.2.1 (gat S o).2.2.2.2.2.1 (gat S o).2.2.2.2.2.2).2.2) (fun σ hC hO => k_L_tryLoad (G.w o) (G.n o) hC hO ) (fun _ _ _ q => q)
  exact h
theorem c_tryAbout {γ : Gm} (G : GL γ) (o : Bool) {S : St2} {w : Int} (hw : R3 w) : Cl γ yL_tryAbout (.codeWith yL_tryAbout cL_tryAbout 3 (some .int) hL_tryAbout) 3 1 [.ref (bs (gw γ o)), .int (iI w)] S (an_tryAbout (gat S o) w) S := by
  have h := Cl.one (γ := γ) (w := o) (S := S) (r := an_tryAbout (gat S o) w) (A' := (op_about (gat S o).1 (gat S o).2.1 (gat S o).2.2.1 (gat S o).2.2.2.1 (gat S o).2.2.2.2.1 (gat S o).2.2.2.2.2.1 (gat S o).2.2.2.2.2.2 w).2.2) (fun σ hC hO => k_L_tryAbout (G.w o) (G.n o) hC hO hw) (fun _ _ _ q => q)
  rw [st_tryAbout, gup_at] at h
  exact h
theorem c_tryTold {γ : Gm} (G : GL γ) (o : Bool) {S : St2} {v w : Int} (hv : R3 v) (hw : R3 w) : Cl γ yL_tryTold (.codeWith yL_tryTold cL_tryTold 4 (some .int) hL_tryTold) 4 1 [.ref (bs (gw γ o)), .int (iI v), .int (iI w)] S (an_tryTold (gat S o) v w) S := by
  have h := Cl.one (γ := γ) (w := o) (S := S) (r := an_tryTold (gat S o) v w) (A' := (op_valveOf (gat S o).1 (gat S o).2.1 (gat S o).2.2.1 (gat S o).2.2.2.1 (gat S o).2.2.2.2.1 (gat S o).2.2.2.2.2.1 (gat S o).2.2.2.2.2.2 v w).2.2) (fun σ hC hO => k_L_tryTold (G.w o) (G.n o) hC hO hv hw) (fun _ _ _ q => q)
  rw [st_tryTold, gup_at] at h
  exact h
theorem c_tryLeg {γ : Gm} (G : GL γ) (o : Bool) {S : St2} {v g : Int} (hv : R3 v) (hg : R3 g) : Cl γ yL_tryLeg (.codeWith yL_tryLeg cL_tryLeg 4 (some .int) hL_tryLeg) 4 1 [.ref (bs (gw γ o)), .int (iI v), .int (iI g)] S (an_tryLeg (gat S o) v g) S := by
  have h := Cl.one (γ := γ) (w := o) (S := S) (r := an_tryLeg (gat S o) v g) (A' := (op_leg (gat S o).1 (gat S o).2.1 (gat S o).2.2.1 (gat S o).2.2.2.1 (gat S o).2.2.2.2.1 (gat S o).2.2.2.2.2.1 (gat S o).2.2.2.2.2.2 v g).2.2) (fun σ hC hO => k_L_tryLeg (G.w o) (G.n o) hC hO hv hg) (fun _ _ _ q => q)
  rw [st_tryLeg, gup_at] at h
  exact h
theorem c_tryPush {γ : Gm} (G : GL γ) (o : Bool) {S : St2} {v g w : Int} (hv : R3 v) (hg : R3 g) (hw : R3 w) : Cl γ yL_tryPush (.codeWith yL_tryPush cL_tryPush 5 (some .int) hL_tryPush) 5 1 [.ref (bs (gw γ o)), .int (iI v), .int (iI g), .int (iI w)] S (an_tryPush (gat S o) v g w) S := by
  have h := Cl.one (γ := γ) (w := o) (S := S) (r := an_tryPush (gat S o) v g w) (A' := (op_push (gat S o).1 (gat S o).2.1 (gat S o).2.2.1 (gat S o).2.2.2.1 (gat S o).2.2.2.2.1 (gat S o).2.2.2.2.2.1 (gat S o).2.2.2.2.2.2 v g w).2.2) (fun σ hC hO => k_L_tryPush (G.w o) (G.n o) hC hO hv hg hw) (fun _ _ _ q => q)
  rw [st_tryPush, gup_at] at h
  exact h
theorem c_tryPipe {γ : Gm} (G : GL γ) (o : Bool) {S : St2} {e w : Int} (he : R3 e) (hw : R3 w) : Cl γ yL_tryPipe (.codeWith yL_tryPipe cL_tryPipe 4 (some .int) hL_tryPipe) 4 1 [.ref (bs (gw γ o)), .int (iI e), .int (iI w)] S (an_tryPipe (gat S o) e w) S := by
  have h := Cl.one (γ := γ) (w := o) (S := S) (r := an_tryPipe (gat S o) e w) (A' := (op_ductOf (gat S o).1 (gat S o).2.1 (gat S o).2.2.1 (gat S o).2.2.2.1 (gat S o).2.2.2.2.1 (gat S o).2.2.2.2.2.1 (gat S o).2.2.2.2.2.2 e w).2.2) (fun σ hC hO => k_L_tryPipe (G.w o) (G.n o) hC hO he hw) (fun _ _ _ q => q)
  rw [st_tryPipe, gup_at] at h
  exact h
theorem c_trySetting {γ : Gm} (G : GL γ) (o : Bool) {S : St2} {w : Int} (hw : R3 w) : Cl γ yL_trySetting (.codeWith yL_trySetting cL_trySetting 3 (some .int) hL_trySetting) 3 1 [.ref (bs (gw γ o)), .int (iI w)] S (an_trySetting (gat S o) w) S := by
  have h := Cl.one (γ := γ) (w := o) (S := S) (r := an_trySetting (gat S o) w) (A' := (op_setting (gat S o).1 (gat S o).2.1 (gat S o).2.2.1 (gat S o).2.2.2.1 (gat S o).2.2.2.2.1 (gat S o).2.2.2.2.2.1 (gat S o).2.2.2.2.2.2 w).2.2) (fun σ hC hO => k_L_trySetting (G.w o) (G.n o) hC hO hw) (fun _ _ _ q => q)
  rw [st_trySetting, gup_at] at h
  exact h
theorem c_tryValve {γ : Gm} (G : GL γ) (o : Bool) {S : St2} {c v : Int} (hc : R3 c) (hv : R3 v) : Cl γ yL_tryValve (.codeWith yL_tryValve cL_tryValve 4 (some .int) hL_tryValve) 6 1 [.ref (bs (gw γ o)), .int (iI c), .int (iI v)] S (an_tryValve (gat S o) c v) (gup S o (st_tryValve (gat S o) c v)) := by
  have h := Cl.one (γ := γ) (w := o) (S := S) (r := an_tryValve (gat S o) c v) (A' := (op_valve (gat S o).1 (gat S o).2.1 (gat S o).2.2.1 (gat S o).2.2.2.1 (gat S o).2.2.2.2.1 (gat S o).2.2.2.2.2.1 (gat S o).2.2.2.2.2.2 c v).2.2) (fun σ hC hO => k_L_tryValve (G.w o) (G.n o) hC hO hc hv) (fun _ _ _ q => q)
  exact h
theorem c_tryDrop {γ : Gm} (G : GL γ) (o : Bool) {S : St2} {e : Int} (he : R3 e) : Cl γ yL_tryDrop (.codeWith yL_tryDrop cL_tryDrop 3 (some .int) hL_tryDrop) 5 1 [.ref (bs (gw γ o)), .int (iI e)] S (an_tryDrop (gat S o) e) (gup S o (st_tryDrop (gat S o) e)) := by
  have h := Cl.one (γ := γ) (w := o) (S := S) (r := an_tryDrop (gat S o) e) (A' := (op_remove (gat S o).1 (gat S o).2.1 (gat S o).2.2.1 (gat S o).2.2.2.1 (gat S o).2.2.2.2.1 (gat S o).2.2.2.2.2.1 (gat S o).2.2.2.2.2.2 e).2.2) (fun σ hC hO => k_L_tryDrop (G.w o) (G.n o) hC hO he) (fun _ _ _ q => q)
  exact h
theorem c_tryLeak {γ : Gm} (G : GL γ) (o : Bool) {S : St2} {e l : Int} (he : R3 e) (hl : R3 l) : Cl γ yL_tryLeak (.codeWith yL_tryLeak cL_tryLeak 4 (some .int) hL_tryLeak) 5 1 [.ref (bs (gw γ o)), .int (iI e), .int (iI l)] S (an_tryLeak (gat S o) e l) (gup S o (st_tryLeak (gat S o) e l)) := by
  have h := Cl.one (γ := γ) (w := o) (S := S) (r := an_tryLeak (gat S o) e l) (A' := (op_leak (gat S o).1 (gat S o).2.1 (gat S o).2.2.1 (gat S o).2.2.2.1 (gat S o).2.2.2.2.1 (gat S o).2.2.2.2.2.1 (gat S o).2.2.2.2.2.2 e l).2.2) (fun σ hC hO => k_L_tryLeak (G.w o) (G.n o) hC hO he hl) (fun _ _ _ q => q)
  exact h
theorem c_tryFeed {γ : Gm} (G : GL γ) (o : Bool) {S : St2} {v m : Int} (hv : R3 v) (hm : R3 m) : Cl γ yL_tryFeed (.codeWith yL_tryFeed cL_tryFeed 4 (some .int) hL_tryFeed) 5 1 [.ref (bs (gw γ o)), .int (iI v), .int (iI m)] S (an_tryFeed (gat S o) v m) (gup S o (st_tryFeed (gat S o) v m)) := by
  have h := Cl.one (γ := γ) (w := o) (S := S) (r := an_tryFeed (gat S o) v m) (A' := (op_feed (gat S o).1 (gat S o).2.1 (gat S o).2.2.1 (gat S o).2.2.2.1 (gat S o).2.2.2.2.1 (gat S o).2.2.2.2.2.1 (gat S o).2.2.2.2.2.2 v m).2.2) (fun σ hC hO => k_L_tryFeed (G.w o) (G.n o) hC hO hv hm) (fun _ _ _ q => q)
  exact h
theorem c_tryLay {γ : Gm} (G : GL γ) (o : Bool) {S : St2} {w v : Int} (hw : R3 w) (hv : R3 v) : Cl γ yL_tryLay (.codeWith yL_tryLay cL_tryLay 4 (some .int) hL_tryLay) 5 1 [.ref (bs (gw γ o)), .int (iI w), .int (iI v)] S (an_tryLay (gat S o) w v) (gup S o (st_tryLay (gat S o) w v)) := by
  have h := Cl.one (γ := γ) (w := o) (S := S) (r := an_tryLay (gat S o) w v) (A' := (op_set (gat S o).1 (gat S o).2.1 (gat S o).2.2.1 (gat S o).2.2.2.1 (gat S o).2.2.2.2.1 (gat S o).2.2.2.2.2.1 (gat S o).2.2.2.2.2.2 w v).2.2) (fun σ hC hO => k_L_tryLay (G.w o) (G.n o) hC hO hw hv) (fun _ _ _ q => q)
  exact h
theorem c_tryTicks {γ : Gm} (G : GL γ) (o : Bool) {S : St2} {m : Int} (hm : R3 m) : Cl γ yL_tryTicks (.codeWith yL_tryTicks cL_tryTicks 3 (some .int) hL_tryTicks) 7 1 [.ref (bs (gw γ o)), .int (iI m)] S (an_tryTicks (gat S o) m) (gup S o (st_tryTicks (gat S o) m)) := by
  have h := Cl.one (γ := γ) (w := o) (S := S) (r := an_tryTicks (gat S o) m) (A' := (op_ticks (gat S o).1 (gat S o).2.1 (gat S o).2.2.1 (gat S o).2.2.2.1 (gat S o).2.2.2.2.1 (gat S o).2.2.2.2.2.1 (gat S o).2.2.2.2.2.2 m).2.2) (fun σ hC hO => k_L_tryTicks (G.w o) (G.n o) hC hO hm) (fun _ _ _ q => q)
  exact h
theorem c_tryUndo {γ : Gm} (G : GL γ) (o : Bool) {S : St2}  : Cl γ yL_tryUndo (.codeWith yL_tryUndo cL_tryUndo 2 (some .int) hL_tryUndo) 4 1 [.ref (bs (gw γ o))] S (an_tryUndo (gat S o)) (gup S o (st_tryUndo (gat S o))) := by
  have h := Cl.one (γ := γ) (w := o) (S := S) (r := an_tryUndo (gat S o)) (A' := (op_undo (gat S o).1 (gat S o).2.1 (gat S o).2.2.1 (gat S o).2.2.2.1 (gat S o).2.2.2.2.1 (gat S o).2.2.2.2.2.1 (gat S o).2.2.2.2.2.2).2.2) (fun σ hC hO => k_L_tryUndo (G.w o) (G.n o) hC hO ) (fun _ _ _ q => q)
  exact h
theorem c_tryBeat {γ : Gm} (G : GL γ) (o : Bool) {S : St2} {v : Int} (hv : R3 v) : Cl γ yL_tryBeat (.codeWith yL_tryBeat cL_tryBeat 3 (some .int) hL_tryBeat) 7 1 [.ref (bs (gw γ o)), .int (iI v)] S (an_tryBeat (gat S o) v) S := by
  have h := Cl.one (γ := γ) (w := o) (S := S) (r := an_tryBeat (gat S o) v) (A' := (op_beat (gat S o).1 (gat S o).2.1 (gat S o).2.2.1 (gat S o).2.2.2.1 (gat S o).2.2.2.2.1 (gat S o).2.2.2.2.2.1 (gat S o).2.2.2.2.2.2 v).2.2) (fun σ hC hO => k_L_tryBeat (G.w o) (G.n o) hC hO hv) (fun _ _ _ q => q)
  rw [st_tryBeat, gup_at] at h
  exact h
theorem c_tryRule {γ : Gm} (G : GL γ) (o : Bool) {S : St2} {c y v : Int} (hc : R3 c) (hy : R3 y) (hv : R3 v) : Cl γ yL_tryRule (.codeWith yL_tryRule cL_tryRule 5 (some .int) hL_tryRule) 7 1 [.ref (bs (gw γ o)), .int (iI c), .int (iI y), .int (iI v)] S (an_tryRule (gat S o) c y v) S := by
  have h := Cl.one (γ := γ) (w := o) (S := S) (r := an_tryRule (gat S o) c y v) (A' := (op_rule (gat S o).1 (gat S o).2.1 (gat S o).2.2.1 (gat S o).2.2.2.1 (gat S o).2.2.2.2.1 (gat S o).2.2.2.2.2.1 (gat S o).2.2.2.2.2.2 c y v).2.2) (fun σ hC hO => k_L_tryRule (G.w o) (G.n o) hC hO hc hy hv) (fun _ _ _ q => q)
  rw [st_tryRule, gup_at] at h
  exact h
theorem c_tryIf {γ : Gm} (G : GL γ) (o : Bool) {S : St2} {e l v : Int} (he : R3 e) (hl : R3 l) (hv : R3 v) : Cl γ yL_tryIf (.codeWith yL_tryIf cL_tryIf 5 (some .int) hL_tryIf) 8 1 [.ref (bs (gw γ o)), .int (iI e), .int (iI l), .int (iI v)] S (an_tryIf (gat S o) e l v) S := by
  have h := Cl.one (γ := γ) (w := o) (S := S) (r := an_tryIf (gat S o) e l v) (A' := (op_ifLeak (gat S o).1 (gat S o).2.1 (gat S o).2.2.1 (gat S o).2.2.2.1 (gat S o).2.2.2.2.1 (gat S o).2.2.2.2.2.1 (gat S o).2.2.2.2.2.2 e l v).2.2) (fun σ hC hO => k_L_tryIf (G.w o) (G.n o) hC hO he hl hv) (fun _ _ _ q => q)
  rw [st_tryIf, gup_at] at h
  exact h
theorem c_trySuspect {γ : Gm} (G : GL γ) (o : Bool) {S : St2} {v b : Int} (hv : R3 v) (hb : R3 b) : Cl γ yL_trySuspect (.codeWith yL_trySuspect cL_trySuspect 4 (some .int) hL_trySuspect) 8 1 [.ref (bs (gw γ o)), .int (iI v), .int (iI b)] S (an_trySuspect (gat S o) v b) S := by
  have h := Cl.one (γ := γ) (w := o) (S := S) (r := an_trySuspect (gat S o) v b) (A' := (op_suspect (gat S o).1 (gat S o).2.1 (gat S o).2.2.1 (gat S o).2.2.2.1 (gat S o).2.2.2.2.1 (gat S o).2.2.2.2.2.1 (gat S o).2.2.2.2.2.2 v b).2.2) (fun σ hC hO => k_L_trySuspect (G.w o) (G.n o) hC hO hv hb) (fun _ _ _ q => q)
  rw [st_trySuspect, gup_at] at h
  exact h
theorem c_tryKeep {γ : Gm} (G : GL γ) (o : Bool) {S : St2} {q : Int} (hq : R3 q) : Cl γ yL_tryKeep (.codeWith yL_tryKeep cL_tryKeep 3 (some .int) hL_tryKeep) 4 1 [.ref (bs (gw γ o)), .int (iI q)] S (an_tryKeep (gat S o) q) (gup S o (st_tryKeep (gat S o) q)) := by
  have h := Cl.one (γ := γ) (w := o) (S := S) (r := an_tryKeep (gat S o) q) (A' := (op_save (gat S o).1 (gat S o).2.1 (gat S o).2.2.1 (gat S o).2.2.2.1 (gat S o).2.2.2.2.1 (gat S o).2.2.2.2.2.1 (gat S o).2.2.2.2.2.2 q).2.2) (fun σ hC hO => k_L_tryKeep (G.w o) (G.n o) hC hO hq) (fun _ _ _ q => q)
  exact h
theorem c_tryBack {γ : Gm} (G : GL γ) (o : Bool) {S : St2} {q : Int} (hq : R3 q) : Cl γ yL_tryBack (.codeWith yL_tryBack cL_tryBack 3 (some .int) hL_tryBack) 4 1 [.ref (bs (gw γ o)), .int (iI q)] S (an_tryBack (gat S o) q) (gup S o (st_tryBack (gat S o) q)) := by
  have h := Cl.one (γ := γ) (w := o) (S := S) (r := an_tryBack (gat S o) q) (A' := (op_restore (gat S o).1 (gat S o).2.1 (gat S o).2.2.1 (gat S o).2.2.2.1 (gat S o).2.2.2.2.1 (gat S o).2.2.2.2.2.1 (gat S o).2.2.2.2.2.2 q).2.2) (fun σ hC hO => k_L_tryBack (G.w o) (G.n o) hC hO hq) (fun _ _ _ q => q)
  exact h
theorem c_ducts {γ : Gm} (G : GL γ) (o : Bool) {S : St2} {c g y q m : Int} (hc : R3 c) (hg : R3 g) (hy : R3 y) (hq : R3 q) (hm : R3 m) : Cl γ yL_ducts (.codeWith yL_ducts cL_ducts 7 (some .int) hL_ducts) 6 1 [.ref (bs (gw γ o)), .int (iI c), .int (iI g), .int (iI y), .int (iI q), .int (iI m)] S (an_ducts (gat S o) c g y q m) (gup S o (st_ducts (gat S o) c g y q m)) := by
  have h := Cl.one (γ := γ) (w := o) (S := S) (r := an_ducts (gat S o) c g y q m) (A' := (op_duct (gat S o).1 (gat S o).2.1 (gat S o).2.2.1 (gat S o).2.2.2.1 (gat S o).2.2.2.2.1 (gat S o).2.2.2.2.2.1 (gat S o).2.2.2.2.2.2 c g y q m).2.2) (fun σ hC hO => k_L_ducts (G.w o) (G.n o) hC hO hc hg hy hq hm) (fun _ _ _ q => q)
  exact h
theorem c_keys {γ : Gm} (G : GL γ) (o : Bool) {S : St2} {v b : Int} (hv : R3 v) (hb : b = 0 ∨ b = 1) : Cl γ yL_keys (.codeWith yL_keys cL_keys 4 (some .int) hL_keys) 5 1 [.ref (bs (gw γ o)), .int (iI v), .int (iI b)] S (an_keys (gat S o) v b) (gup S o (st_keys (gat S o) v b)) := by
  have h := Cl.one (γ := γ) (w := o) (S := S) (r := an_keys (gat S o) v b) (A' := (op_press (gat S o).1 (gat S o).2.1 (gat S o).2.2.1 (gat S o).2.2.2.1 (gat S o).2.2.2.2.1 (gat S o).2.2.2.2.2.1 (gat S o).2.2.2.2.2.2 v b).2.2) (fun σ hC hO => k_L_keys (G.w o) (G.n o) hC hO hv hb) (fun _ _ _ q => q)
  exact h
theorem c_doScript {γ : Gm} (G : GL γ) (o : Bool) {S : St2} {m b : Int} (hm : R3 m) (hb : R6 b) : Cl γ yL_doScript (.codeWith yL_doScript cL_doScript 5 (some .int) hL_doScript) 8 1 [.ref (bs (gw γ o)), .int (iI m), .long (lI b)] S (an_doScript (gat S o) m b) S := by
  have h := Cl.one (γ := γ) (w := o) (S := S) (r := an_doScript (gat S o) m b) (A' := (op_runScript (gat S o).1 (gat S o).2.1 (gat S o).2.2.1 (gat S o).2.2.2.1 (gat S o).2.2.2.2.1 (gat S o).2.2.2.2.2.1 (gat S o).2.2.2.2.2.2 m b).2.2) (fun σ hC hO => k_L_doScript (G.w o) (G.n o) hC hO hm hb) (fun _ _ _ q => q)
  rw [st_doScript, gup_at] at h
  exact h
theorem c_doSimulate {γ : Gm} (G : GL γ) (o : Bool) {S : St2} {b m : Int} (hm : R3 m) : Cl γ yL_doSimulate (.codeWith yL_doSimulate cL_doSimulate 5 (some .int) hL_doSimulate) 8 1 [.ref (bs (gw γ o)), .long (lI b), .int (iI m)] S (an_doSimulate (gat S o) b m) S := by
  have h := Cl.one (γ := γ) (w := o) (S := S) (r := an_doSimulate (gat S o) b m) (A' := (op_simulate (gat S o).1 (gat S o).2.1 (gat S o).2.2.1 (gat S o).2.2.2.1 (gat S o).2.2.2.2.1 (gat S o).2.2.2.2.2.1 (gat S o).2.2.2.2.2.2 b m).2.2) (fun σ hC hO => k_L_doSimulate (G.w o) (G.n o) hC hO hm) (fun _ _ _ q => q)
  rw [st_doSimulate, gup_at] at h
  exact h
set_option maxRecDepth 100000 in
theorem c_call_0 {γ : Gm} (G : GL γ) (o : Bool) {S : St2} {c y9 z9 : Int} (hc : R3 c) : Cl γ yL_call (.code yL_call cL_call 5 (some .int)) 10 1 [.ref (bs (gw γ o)), .int (iI 0), .int (iI c), .int (iI y9), .int (iI z9)] S (an_tryAppend (gat S o) c) (gup S o (st_tryAppend (gat S o) c)) := by
  refine Cl.of G (by decide +kernel) (Nat.le_of_ble_eq_true rfl) (fun φ C hcr hr => ?_)
  have C : Cx γ φ RL cL_call 5 10 := C
  refine x_lv [(0, .ref (bs (gw γ o))), (1, .int (iI 0)), (2, .int (iI c)), (3, .int (iI y9)), (4, .int (iI z9))] [0, 1, 2, 3, 4] rfl ?_
  refine x_iload_n (pc := 0) C 1 rfl dL_call_0 ?_
  refine x_tabIn (pc := 1) C 96 (by decide) dL_call_1 (by decide) rfl (by decide) ?_
  refine x_aload_n (pc := 96) C 0 rfl dL_call_96 ?_
  refine x_iload_n (pc := 97) C 2 rfl dL_call_97 ?_
  refine x_cw (pc := 98) (as := [.ref (bs (gw γ o)), .int (iI c)]) C (cy_L_tryAppend G.1) (wM_L_101 G.1) (c_tryAppend G o hc) dL_call_98 rfl rfl (by decide) (by decide) (Nat.le_of_ble_eq_true rfl) ⟨by omega, by omega⟩ ?_
  exact x_ret (pc := 101) C (by decide) hr rfl dL_call_101 rfl rfl
set_option maxRecDepth 100000 in
theorem c_call_1 {γ : Gm} (G : GL γ) (o : Bool) {S : St2} {x y9 z9 : Int}  : Cl γ yL_call (.code yL_call cL_call 5 (some .int)) 10 1 [.ref (bs (gw γ o)), .int (iI 1), .int (iI x), .int (iI y9), .int (iI z9)] S (an_tryLoad (gat S o)) (gup S o (st_tryLoad (gat S o))) := by
  refine Cl.of G (by decide +kernel) (Nat.le_of_ble_eq_true rfl) (fun φ C hcr hr => ?_)
  have C : Cx γ φ RL cL_call 5 10 := C
  refine x_lv [(0, .ref (bs (gw γ o))), (1, .int (iI 1)), (2, .int (iI x)), (3, .int (iI y9)), (4, .int (iI z9))] [0, 1, 2, 3, 4] rfl ?_
  refine x_iload_n (pc := 0) C 1 rfl dL_call_0 ?_
  refine x_tabIn (pc := 1) C 102 (by decide) dL_call_1 (by decide) rfl (by decide) ?_
  refine x_aload_n (pc := 102) C 0 rfl dL_call_102 ?_
  refine x_cw (pc := 103) (as := [.ref (bs (gw γ o))]) C (cy_L_tryLoad G.1) (wM_L_107 G.1) (c_tryLoad G o ) dL_call_103 rfl rfl (by decide) (by decide) (Nat.le_of_ble_eq_true rfl) ⟨by omega, by omega⟩ ?_
  exact x_ret (pc := 106) C (by decide) hr rfl dL_call_106 rfl rfl
set_option maxRecDepth 100000 in
theorem c_call_2 {γ : Gm} (G : GL γ) (o : Bool) {S : St2} {w y9 z9 : Int} (hw : R3 w) : Cl γ yL_call (.code yL_call cL_call 5 (some .int)) 10 1 [.ref (bs (gw γ o)), .int (iI 2), .int (iI w), .int (iI y9), .int (iI z9)] S (an_tryAbout (gat S o) w) S := by
  refine Cl.of G (by decide +kernel) (Nat.le_of_ble_eq_true rfl) (fun φ C hcr hr => ?_)
  have C : Cx γ φ RL cL_call 5 10 := C
  refine x_lv [(0, .ref (bs (gw γ o))), (1, .int (iI 2)), (2, .int (iI w)), (3, .int (iI y9)), (4, .int (iI z9))] [0, 1, 2, 3, 4] rfl ?_
  refine x_iload_n (pc := 0) C 1 rfl dL_call_0 ?_
  refine x_tabIn (pc := 1) C 107 (by decide) dL_call_1 (by decide) rfl (by decide) ?_
  refine x_aload_n (pc := 107) C 0 rfl dL_call_107 ?_
  refine x_iload_n (pc := 108) C 2 rfl dL_call_108 ?_
  refine x_cw (pc := 109) (as := [.ref (bs (gw γ o)), .int (iI w)]) C (cy_L_tryAbout G.1) (wM_L_111 G.1) (c_tryAbout G o hw) dL_call_109 rfl rfl (by decide) (by decide) (Nat.le_of_ble_eq_true rfl) ⟨by omega, by omega⟩ ?_
  exact x_ret (pc := 112) C (by decide) hr rfl dL_call_112 rfl rfl
set_option maxRecDepth 100000 in
theorem c_call_3 {γ : Gm} (G : GL γ) (o : Bool) {S : St2} {v w z9 : Int} (hv : R3 v) (hw : R3 w) : Cl γ yL_call (.code yL_call cL_call 5 (some .int)) 10 1 [.ref (bs (gw γ o)), .int (iI 3), .int (iI v), .int (iI w), .int (iI z9)] S (an_tryTold (gat S o) v w) S := by
  refine Cl.of G (by decide +kernel) (Nat.le_of_ble_eq_true rfl) (fun φ C hcr hr => ?_)
  have C : Cx γ φ RL cL_call 5 10 := C
  refine x_lv [(0, .ref (bs (gw γ o))), (1, .int (iI 3)), (2, .int (iI v)), (3, .int (iI w)), (4, .int (iI z9))] [0, 1, 2, 3, 4] rfl ?_
  refine x_iload_n (pc := 0) C 1 rfl dL_call_0 ?_
  refine x_tabIn (pc := 1) C 113 (by decide) dL_call_1 (by decide) rfl (by decide) ?_
  refine x_aload_n (pc := 113) C 0 rfl dL_call_113 ?_
  refine x_iload_n (pc := 114) C 2 rfl dL_call_114 ?_
  refine x_iload_n (pc := 115) C 3 rfl dL_call_115 ?_
  refine x_cw (pc := 116) (as := [.ref (bs (gw γ o)), .int (iI v), .int (iI w)]) C (cy_L_tryTold G.1) (wM_L_114 G.1) (c_tryTold G o hv hw) dL_call_116 rfl rfl (by decide) (by decide) (Nat.le_of_ble_eq_true rfl) ⟨by omega, by omega⟩ ?_
  exact x_ret (pc := 119) C (by decide) hr rfl dL_call_119 rfl rfl
set_option maxRecDepth 100000 in
theorem c_call_4 {γ : Gm} (G : GL γ) (o : Bool) {S : St2} {v g z9 : Int} (hv : R3 v) (hg : R3 g) : Cl γ yL_call (.code yL_call cL_call 5 (some .int)) 10 1 [.ref (bs (gw γ o)), .int (iI 4), .int (iI v), .int (iI g), .int (iI z9)] S (an_tryLeg (gat S o) v g) S := by
  refine Cl.of G (by decide +kernel) (Nat.le_of_ble_eq_true rfl) (fun φ C hcr hr => ?_)
  have C : Cx γ φ RL cL_call 5 10 := C
  refine x_lv [(0, .ref (bs (gw γ o))), (1, .int (iI 4)), (2, .int (iI v)), (3, .int (iI g)), (4, .int (iI z9))] [0, 1, 2, 3, 4] rfl ?_
  refine x_iload_n (pc := 0) C 1 rfl dL_call_0 ?_
  refine x_tabIn (pc := 1) C 120 (by decide) dL_call_1 (by decide) rfl (by decide) ?_
  refine x_aload_n (pc := 120) C 0 rfl dL_call_120 ?_
  refine x_iload_n (pc := 121) C 2 rfl dL_call_121 ?_
  refine x_iload_n (pc := 122) C 3 rfl dL_call_122 ?_
  refine x_cw (pc := 123) (as := [.ref (bs (gw γ o)), .int (iI v), .int (iI g)]) C (cy_L_tryLeg G.1) (wM_L_118 G.1) (c_tryLeg G o hv hg) dL_call_123 rfl rfl (by decide) (by decide) (Nat.le_of_ble_eq_true rfl) ⟨by omega, by omega⟩ ?_
  exact x_ret (pc := 126) C (by decide) hr rfl dL_call_126 rfl rfl
set_option maxRecDepth 100000 in
theorem c_call_5 {γ : Gm} (G : GL γ) (o : Bool) {S : St2} {v g w : Int} (hv : R3 v) (hg : R3 g) (hw : R3 w) : Cl γ yL_call (.code yL_call cL_call 5 (some .int)) 10 1 [.ref (bs (gw γ o)), .int (iI 5), .int (iI v), .int (iI g), .int (iI w)] S (an_tryPush (gat S o) v g w) S := by
  refine Cl.of G (by decide +kernel) (Nat.le_of_ble_eq_true rfl) (fun φ C hcr hr => ?_)
  have C : Cx γ φ RL cL_call 5 10 := C
  refine x_lv [(0, .ref (bs (gw γ o))), (1, .int (iI 5)), (2, .int (iI v)), (3, .int (iI g)), (4, .int (iI w))] [0, 1, 2, 3, 4] rfl ?_
  refine x_iload_n (pc := 0) C 1 rfl dL_call_0 ?_
  refine x_tabIn (pc := 1) C 127 (by decide) dL_call_1 (by decide) rfl (by decide) ?_
  refine x_aload_n (pc := 127) C 0 rfl dL_call_127 ?_
  refine x_iload_n (pc := 128) C 2 rfl dL_call_128 ?_
  refine x_iload_n (pc := 129) C 3 rfl dL_call_129 ?_
  refine x_iload (pc := 130) C 4 rfl dL_call_130 ?_
  refine x_cw (pc := 132) (as := [.ref (bs (gw γ o)), .int (iI v), .int (iI g), .int (iI w)]) C (cy_L_tryPush G.1) (wM_L_121 G.1) (c_tryPush G o hv hg hw) dL_call_132 rfl rfl (by decide) (by decide) (Nat.le_of_ble_eq_true rfl) ⟨by omega, by omega⟩ ?_
  exact x_ret (pc := 135) C (by decide) hr rfl dL_call_135 rfl rfl
set_option maxRecDepth 100000 in
theorem c_call_6 {γ : Gm} (G : GL γ) (o : Bool) {S : St2} {e w z9 : Int} (he : R3 e) (hw : R3 w) : Cl γ yL_call (.code yL_call cL_call 5 (some .int)) 10 1 [.ref (bs (gw γ o)), .int (iI 6), .int (iI e), .int (iI w), .int (iI z9)] S (an_tryPipe (gat S o) e w) S := by
  refine Cl.of G (by decide +kernel) (Nat.le_of_ble_eq_true rfl) (fun φ C hcr hr => ?_)
  have C : Cx γ φ RL cL_call 5 10 := C
  refine x_lv [(0, .ref (bs (gw γ o))), (1, .int (iI 6)), (2, .int (iI e)), (3, .int (iI w)), (4, .int (iI z9))] [0, 1, 2, 3, 4] rfl ?_
  refine x_iload_n (pc := 0) C 1 rfl dL_call_0 ?_
  refine x_tabIn (pc := 1) C 136 (by decide) dL_call_1 (by decide) rfl (by decide) ?_
  refine x_aload_n (pc := 136) C 0 rfl dL_call_136 ?_
  refine x_iload_n (pc := 137) C 2 rfl dL_call_137 ?_
  refine x_iload_n (pc := 138) C 3 rfl dL_call_138 ?_
  refine x_cw (pc := 139) (as := [.ref (bs (gw γ o)), .int (iI e), .int (iI w)]) C (cy_L_tryPipe G.1) (wM_L_125 G.1) (c_tryPipe G o he hw) dL_call_139 rfl rfl (by decide) (by decide) (Nat.le_of_ble_eq_true rfl) ⟨by omega, by omega⟩ ?_
  exact x_ret (pc := 142) C (by decide) hr rfl dL_call_142 rfl rfl
set_option maxRecDepth 100000 in
theorem c_call_7 {γ : Gm} (G : GL γ) (o : Bool) {S : St2} {w y9 z9 : Int} (hw : R3 w) : Cl γ yL_call (.code yL_call cL_call 5 (some .int)) 10 1 [.ref (bs (gw γ o)), .int (iI 7), .int (iI w), .int (iI y9), .int (iI z9)] S (an_trySetting (gat S o) w) S := by
  refine Cl.of G (by decide +kernel) (Nat.le_of_ble_eq_true rfl) (fun φ C hcr hr => ?_)
  have C : Cx γ φ RL cL_call 5 10 := C
  refine x_lv [(0, .ref (bs (gw γ o))), (1, .int (iI 7)), (2, .int (iI w)), (3, .int (iI y9)), (4, .int (iI z9))] [0, 1, 2, 3, 4] rfl ?_
  refine x_iload_n (pc := 0) C 1 rfl dL_call_0 ?_
  refine x_tabIn (pc := 1) C 143 (by decide) dL_call_1 (by decide) rfl (by decide) ?_
  refine x_aload_n (pc := 143) C 0 rfl dL_call_143 ?_
  refine x_iload_n (pc := 144) C 2 rfl dL_call_144 ?_
  refine x_cw (pc := 145) (as := [.ref (bs (gw γ o)), .int (iI w)]) C (cy_L_trySetting G.1) (wM_L_128 G.1) (c_trySetting G o hw) dL_call_145 rfl rfl (by decide) (by decide) (Nat.le_of_ble_eq_true rfl) ⟨by omega, by omega⟩ ?_
  exact x_ret (pc := 148) C (by decide) hr rfl dL_call_148 rfl rfl
set_option maxRecDepth 100000 in
theorem c_call_8 {γ : Gm} (G : GL γ) (o : Bool) {S : St2} {c v z9 : Int} (hc : R3 c) (hv : R3 v) : Cl γ yL_call (.code yL_call cL_call 5 (some .int)) 10 1 [.ref (bs (gw γ o)), .int (iI 8), .int (iI c), .int (iI v), .int (iI z9)] S (an_tryValve (gat S o) c v) (gup S o (st_tryValve (gat S o) c v)) := by
  refine Cl.of G (by decide +kernel) (Nat.le_of_ble_eq_true rfl) (fun φ C hcr hr => ?_)
  have C : Cx γ φ RL cL_call 5 10 := C
  refine x_lv [(0, .ref (bs (gw γ o))), (1, .int (iI 8)), (2, .int (iI c)), (3, .int (iI v)), (4, .int (iI z9))] [0, 1, 2, 3, 4] rfl ?_
  refine x_iload_n (pc := 0) C 1 rfl dL_call_0 ?_
  refine x_tabIn (pc := 1) C 149 (by decide) dL_call_1 (by decide) rfl (by decide) ?_
  refine x_aload_n (pc := 149) C 0 rfl dL_call_149 ?_
  refine x_iload_n (pc := 150) C 2 rfl dL_call_150 ?_
  refine x_iload_n (pc := 151) C 3 rfl dL_call_151 ?_
  refine x_cw (pc := 152) (as := [.ref (bs (gw γ o)), .int (iI c), .int (iI v)]) C (cy_L_tryValve G.1) (wM_L_131 G.1) (c_tryValve G o hc hv) dL_call_152 rfl rfl (by decide) (by decide) (Nat.le_of_ble_eq_true rfl) ⟨by omega, by omega⟩ ?_
  exact x_ret (pc := 155) C (by decide) hr rfl dL_call_155 rfl rfl
set_option maxRecDepth 100000 in
theorem c_call_9 {γ : Gm} (G : GL γ) (o : Bool) {S : St2} {e y9 z9 : Int} (he : R3 e) : Cl γ yL_call (.code yL_call cL_call 5 (some .int)) 10 1 [.ref (bs (gw γ o)), .int (iI 9), .int (iI e), .int (iI y9), .int (iI z9)] S (an_tryDrop (gat S o) e) (gup S o (st_tryDrop (gat S o) e)) := by
  refine Cl.of G (by decide +kernel) (Nat.le_of_ble_eq_true rfl) (fun φ C hcr hr => ?_)
  have C : Cx γ φ RL cL_call 5 10 := C
  refine x_lv [(0, .ref (bs (gw γ o))), (1, .int (iI 9)), (2, .int (iI e)), (3, .int (iI y9)), (4, .int (iI z9))] [0, 1, 2, 3, 4] rfl ?_
  refine x_iload_n (pc := 0) C 1 rfl dL_call_0 ?_
  refine x_tabIn (pc := 1) C 156 (by decide) dL_call_1 (by decide) rfl (by decide) ?_
  refine x_aload_n (pc := 156) C 0 rfl dL_call_156 ?_
  refine x_iload_n (pc := 157) C 2 rfl dL_call_157 ?_
  refine x_cw (pc := 158) (as := [.ref (bs (gw γ o)), .int (iI e)]) C (cy_L_tryDrop G.1) (wM_L_134 G.1) (c_tryDrop G o he) dL_call_158 rfl rfl (by decide) (by decide) (Nat.le_of_ble_eq_true rfl) ⟨by omega, by omega⟩ ?_
  exact x_ret (pc := 161) C (by decide) hr rfl dL_call_161 rfl rfl
set_option maxRecDepth 100000 in
theorem c_call_10 {γ : Gm} (G : GL γ) (o : Bool) {S : St2} {e l z9 : Int} (he : R3 e) (hl : R3 l) : Cl γ yL_call (.code yL_call cL_call 5 (some .int)) 10 1 [.ref (bs (gw γ o)), .int (iI 10), .int (iI e), .int (iI l), .int (iI z9)] S (an_tryLeak (gat S o) e l) (gup S o (st_tryLeak (gat S o) e l)) := by
  refine Cl.of G (by decide +kernel) (Nat.le_of_ble_eq_true rfl) (fun φ C hcr hr => ?_)
  have C : Cx γ φ RL cL_call 5 10 := C
  refine x_lv [(0, .ref (bs (gw γ o))), (1, .int (iI 10)), (2, .int (iI e)), (3, .int (iI l)), (4, .int (iI z9))] [0, 1, 2, 3, 4] rfl ?_
  refine x_iload_n (pc := 0) C 1 rfl dL_call_0 ?_
  refine x_tabIn (pc := 1) C 162 (by decide) dL_call_1 (by decide) rfl (by decide) ?_
  refine x_aload_n (pc := 162) C 0 rfl dL_call_162 ?_
  refine x_iload_n (pc := 163) C 2 rfl dL_call_163 ?_
  refine x_iload_n (pc := 164) C 3 rfl dL_call_164 ?_
  refine x_cw (pc := 165) (as := [.ref (bs (gw γ o)), .int (iI e), .int (iI l)]) C (cy_L_tryLeak G.1) (wM_L_137 G.1) (c_tryLeak G o he hl) dL_call_165 rfl rfl (by decide) (by decide) (Nat.le_of_ble_eq_true rfl) ⟨by omega, by omega⟩ ?_
  exact x_ret (pc := 168) C (by decide) hr rfl dL_call_168 rfl rfl
set_option maxRecDepth 100000 in
theorem c_call_11 {γ : Gm} (G : GL γ) (o : Bool) {S : St2} {v m z9 : Int} (hv : R3 v) (hm : R3 m) : Cl γ yL_call (.code yL_call cL_call 5 (some .int)) 10 1 [.ref (bs (gw γ o)), .int (iI 11), .int (iI v), .int (iI m), .int (iI z9)] S (an_tryFeed (gat S o) v m) (gup S o (st_tryFeed (gat S o) v m)) := by
  refine Cl.of G (by decide +kernel) (Nat.le_of_ble_eq_true rfl) (fun φ C hcr hr => ?_)
  have C : Cx γ φ RL cL_call 5 10 := C
  refine x_lv [(0, .ref (bs (gw γ o))), (1, .int (iI 11)), (2, .int (iI v)), (3, .int (iI m)), (4, .int (iI z9))] [0, 1, 2, 3, 4] rfl ?_
  refine x_iload_n (pc := 0) C 1 rfl dL_call_0 ?_
  refine x_tabIn (pc := 1) C 169 (by decide) dL_call_1 (by decide) rfl (by decide) ?_
  refine x_aload_n (pc := 169) C 0 rfl dL_call_169 ?_
  refine x_iload_n (pc := 170) C 2 rfl dL_call_170 ?_
  refine x_iload_n (pc := 171) C 3 rfl dL_call_171 ?_
  refine x_cw (pc := 172) (as := [.ref (bs (gw γ o)), .int (iI v), .int (iI m)]) C (cy_L_tryFeed G.1) (wM_L_140 G.1) (c_tryFeed G o hv hm) dL_call_172 rfl rfl (by decide) (by decide) (Nat.le_of_ble_eq_true rfl) ⟨by omega, by omega⟩ ?_
  exact x_ret (pc := 175) C (by decide) hr rfl dL_call_175 rfl rfl
set_option maxRecDepth 100000 in
theorem c_call_12 {γ : Gm} (G : GL γ) (o : Bool) {S : St2} {w v z9 : Int} (hw : R3 w) (hv : R3 v) : Cl γ yL_call (.code yL_call cL_call 5 (some .int)) 10 1 [.ref (bs (gw γ o)), .int (iI 12), .int (iI w), .int (iI v), .int (iI z9)] S (an_tryLay (gat S o) w v) (gup S o (st_tryLay (gat S o) w v)) := by
  refine Cl.of G (by decide +kernel) (Nat.le_of_ble_eq_true rfl) (fun φ C hcr hr => ?_)
  have C : Cx γ φ RL cL_call 5 10 := C
  refine x_lv [(0, .ref (bs (gw γ o))), (1, .int (iI 12)), (2, .int (iI w)), (3, .int (iI v)), (4, .int (iI z9))] [0, 1, 2, 3, 4] rfl ?_
  refine x_iload_n (pc := 0) C 1 rfl dL_call_0 ?_
  refine x_tabIn (pc := 1) C 176 (by decide) dL_call_1 (by decide) rfl (by decide) ?_
  refine x_aload_n (pc := 176) C 0 rfl dL_call_176 ?_
  refine x_iload_n (pc := 177) C 2 rfl dL_call_177 ?_
  refine x_iload_n (pc := 178) C 3 rfl dL_call_178 ?_
  refine x_cw (pc := 179) (as := [.ref (bs (gw γ o)), .int (iI w), .int (iI v)]) C (cy_L_tryLay G.1) (wM_L_143 G.1) (c_tryLay G o hw hv) dL_call_179 rfl rfl (by decide) (by decide) (Nat.le_of_ble_eq_true rfl) ⟨by omega, by omega⟩ ?_
  exact x_ret (pc := 182) C (by decide) hr rfl dL_call_182 rfl rfl
set_option maxRecDepth 100000 in
theorem c_call_13 {γ : Gm} (G : GL γ) (o : Bool) {S : St2} {m y9 z9 : Int} (hm : R3 m) : Cl γ yL_call (.code yL_call cL_call 5 (some .int)) 10 1 [.ref (bs (gw γ o)), .int (iI 13), .int (iI m), .int (iI y9), .int (iI z9)] S (an_tryTicks (gat S o) m) (gup S o (st_tryTicks (gat S o) m)) := by
  refine Cl.of G (by decide +kernel) (Nat.le_of_ble_eq_true rfl) (fun φ C hcr hr => ?_)
  have C : Cx γ φ RL cL_call 5 10 := C
  refine x_lv [(0, .ref (bs (gw γ o))), (1, .int (iI 13)), (2, .int (iI m)), (3, .int (iI y9)), (4, .int (iI z9))] [0, 1, 2, 3, 4] rfl ?_
  refine x_iload_n (pc := 0) C 1 rfl dL_call_0 ?_
  refine x_tabIn (pc := 1) C 183 (by decide) dL_call_1 (by decide) rfl (by decide) ?_
  refine x_aload_n (pc := 183) C 0 rfl dL_call_183 ?_
  refine x_iload_n (pc := 184) C 2 rfl dL_call_184 ?_
  refine x_cw (pc := 185) (as := [.ref (bs (gw γ o)), .int (iI m)]) C (cy_L_tryTicks G.1) (wM_L_146 G.1) (c_tryTicks G o hm) dL_call_185 rfl rfl (by decide) (by decide) (Nat.le_of_ble_eq_true rfl) ⟨by omega, by omega⟩ ?_
  exact x_ret (pc := 188) C (by decide) hr rfl dL_call_188 rfl rfl
set_option maxRecDepth 100000 in
theorem c_call_14 {γ : Gm} (G : GL γ) (o : Bool) {S : St2} {x y9 z9 : Int}  : Cl γ yL_call (.code yL_call cL_call 5 (some .int)) 10 1 [.ref (bs (gw γ o)), .int (iI 14), .int (iI x), .int (iI y9), .int (iI z9)] S (an_tryUndo (gat S o)) (gup S o (st_tryUndo (gat S o))) := by
  refine Cl.of G (by decide +kernel) (Nat.le_of_ble_eq_true rfl) (fun φ C hcr hr => ?_)
  have C : Cx γ φ RL cL_call 5 10 := C
  refine x_lv [(0, .ref (bs (gw γ o))), (1, .int (iI 14)), (2, .int (iI x)), (3, .int (iI y9)), (4, .int (iI z9))] [0, 1, 2, 3, 4] rfl ?_
  refine x_iload_n (pc := 0) C 1 rfl dL_call_0 ?_
  refine x_tabIn (pc := 1) C 189 (by decide) dL_call_1 (by decide) rfl (by decide) ?_
  refine x_aload_n (pc := 189) C 0 rfl dL_call_189 ?_
  refine x_cw (pc := 190) (as := [.ref (bs (gw γ o))]) C (cy_L_tryUndo G.1) (wM_L_149 G.1) (c_tryUndo G o ) dL_call_190 rfl rfl (by decide) (by decide) (Nat.le_of_ble_eq_true rfl) ⟨by omega, by omega⟩ ?_
  exact x_ret (pc := 193) C (by decide) hr rfl dL_call_193 rfl rfl
set_option maxRecDepth 100000 in
theorem c_call_15 {γ : Gm} (G : GL γ) (o : Bool) {S : St2} {v y9 z9 : Int} (hv : R3 v) : Cl γ yL_call (.code yL_call cL_call 5 (some .int)) 10 1 [.ref (bs (gw γ o)), .int (iI 15), .int (iI v), .int (iI y9), .int (iI z9)] S (an_tryBeat (gat S o) v) S := by
  refine Cl.of G (by decide +kernel) (Nat.le_of_ble_eq_true rfl) (fun φ C hcr hr => ?_)
  have C : Cx γ φ RL cL_call 5 10 := C
  refine x_lv [(0, .ref (bs (gw γ o))), (1, .int (iI 15)), (2, .int (iI v)), (3, .int (iI y9)), (4, .int (iI z9))] [0, 1, 2, 3, 4] rfl ?_
  refine x_iload_n (pc := 0) C 1 rfl dL_call_0 ?_
  refine x_tabIn (pc := 1) C 194 (by decide) dL_call_1 (by decide) rfl (by decide) ?_
  refine x_aload_n (pc := 194) C 0 rfl dL_call_194 ?_
  refine x_iload_n (pc := 195) C 2 rfl dL_call_195 ?_
  refine x_cw (pc := 196) (as := [.ref (bs (gw γ o)), .int (iI v)]) C (cy_L_tryBeat G.1) (wM_L_152 G.1) (c_tryBeat G o hv) dL_call_196 rfl rfl (by decide) (by decide) (Nat.le_of_ble_eq_true rfl) ⟨by omega, by omega⟩ ?_
  exact x_ret (pc := 199) C (by decide) hr rfl dL_call_199 rfl rfl
set_option maxRecDepth 100000 in
theorem c_call_16 {γ : Gm} (G : GL γ) (o : Bool) {S : St2} {c y v : Int} (hc : R3 c) (hy : R3 y) (hv : R3 v) : Cl γ yL_call (.code yL_call cL_call 5 (some .int)) 10 1 [.ref (bs (gw γ o)), .int (iI 16), .int (iI c), .int (iI y), .int (iI v)] S (an_tryRule (gat S o) c y v) S := by
  refine Cl.of G (by decide +kernel) (Nat.le_of_ble_eq_true rfl) (fun φ C hcr hr => ?_)
  have C : Cx γ φ RL cL_call 5 10 := C
  refine x_lv [(0, .ref (bs (gw γ o))), (1, .int (iI 16)), (2, .int (iI c)), (3, .int (iI y)), (4, .int (iI v))] [0, 1, 2, 3, 4] rfl ?_
  refine x_iload_n (pc := 0) C 1 rfl dL_call_0 ?_
  refine x_tabIn (pc := 1) C 200 (by decide) dL_call_1 (by decide) rfl (by decide) ?_
  refine x_aload_n (pc := 200) C 0 rfl dL_call_200 ?_
  refine x_iload_n (pc := 201) C 2 rfl dL_call_201 ?_
  refine x_iload_n (pc := 202) C 3 rfl dL_call_202 ?_
  refine x_iload (pc := 203) C 4 rfl dL_call_203 ?_
  refine x_cw (pc := 205) (as := [.ref (bs (gw γ o)), .int (iI c), .int (iI y), .int (iI v)]) C (cy_L_tryRule G.1) (wM_L_155 G.1) (c_tryRule G o hc hy hv) dL_call_205 rfl rfl (by decide) (by decide) (Nat.le_of_ble_eq_true rfl) ⟨by omega, by omega⟩ ?_
  exact x_ret (pc := 208) C (by decide) hr rfl dL_call_208 rfl rfl
set_option maxRecDepth 100000 in
theorem c_call_17 {γ : Gm} (G : GL γ) (o : Bool) {S : St2} {e l v : Int} (he : R3 e) (hl : R3 l) (hv : R3 v) : Cl γ yL_call (.code yL_call cL_call 5 (some .int)) 10 1 [.ref (bs (gw γ o)), .int (iI 17), .int (iI e), .int (iI l), .int (iI v)] S (an_tryIf (gat S o) e l v) S := by
  refine Cl.of G (by decide +kernel) (Nat.le_of_ble_eq_true rfl) (fun φ C hcr hr => ?_)
  have C : Cx γ φ RL cL_call 5 10 := C
  refine x_lv [(0, .ref (bs (gw γ o))), (1, .int (iI 17)), (2, .int (iI e)), (3, .int (iI l)), (4, .int (iI v))] [0, 1, 2, 3, 4] rfl ?_
  refine x_iload_n (pc := 0) C 1 rfl dL_call_0 ?_
  refine x_tabIn (pc := 1) C 209 (by decide) dL_call_1 (by decide) rfl (by decide) ?_
  refine x_aload_n (pc := 209) C 0 rfl dL_call_209 ?_
  refine x_iload_n (pc := 210) C 2 rfl dL_call_210 ?_
  refine x_iload_n (pc := 211) C 3 rfl dL_call_211 ?_
  refine x_iload (pc := 212) C 4 rfl dL_call_212 ?_
  refine x_cw (pc := 214) (as := [.ref (bs (gw γ o)), .int (iI e), .int (iI l), .int (iI v)]) C (cy_L_tryIf G.1) (wM_L_158 G.1) (c_tryIf G o he hl hv) dL_call_214 rfl rfl (by decide) (by decide) (Nat.le_of_ble_eq_true rfl) ⟨by omega, by omega⟩ ?_
  exact x_ret (pc := 217) C (by decide) hr rfl dL_call_217 rfl rfl
set_option maxRecDepth 100000 in
theorem c_call_18 {γ : Gm} (G : GL γ) (o : Bool) {S : St2} {v b z9 : Int} (hv : R3 v) (hb : R3 b) : Cl γ yL_call (.code yL_call cL_call 5 (some .int)) 10 1 [.ref (bs (gw γ o)), .int (iI 18), .int (iI v), .int (iI b), .int (iI z9)] S (an_trySuspect (gat S o) v b) S := by
  refine Cl.of G (by decide +kernel) (Nat.le_of_ble_eq_true rfl) (fun φ C hcr hr => ?_)
  have C : Cx γ φ RL cL_call 5 10 := C
  refine x_lv [(0, .ref (bs (gw γ o))), (1, .int (iI 18)), (2, .int (iI v)), (3, .int (iI b)), (4, .int (iI z9))] [0, 1, 2, 3, 4] rfl ?_
  refine x_iload_n (pc := 0) C 1 rfl dL_call_0 ?_
  refine x_tabIn (pc := 1) C 218 (by decide) dL_call_1 (by decide) rfl (by decide) ?_
  refine x_aload_n (pc := 218) C 0 rfl dL_call_218 ?_
  refine x_iload_n (pc := 219) C 2 rfl dL_call_219 ?_
  refine x_iload_n (pc := 220) C 3 rfl dL_call_220 ?_
  refine x_cw (pc := 221) (as := [.ref (bs (gw γ o)), .int (iI v), .int (iI b)]) C (cy_L_trySuspect G.1) (wM_L_161 G.1) (c_trySuspect G o hv hb) dL_call_221 rfl rfl (by decide) (by decide) (Nat.le_of_ble_eq_true rfl) ⟨by omega, by omega⟩ ?_
  exact x_ret (pc := 224) C (by decide) hr rfl dL_call_224 rfl rfl
set_option maxRecDepth 100000 in
theorem c_call_19 {γ : Gm} (G : GL γ) (o : Bool) {S : St2} {q y9 z9 : Int} (hq : R3 q) : Cl γ yL_call (.code yL_call cL_call 5 (some .int)) 10 1 [.ref (bs (gw γ o)), .int (iI 19), .int (iI q), .int (iI y9), .int (iI z9)] S (an_tryKeep (gat S o) q) (gup S o (st_tryKeep (gat S o) q)) := by
  refine Cl.of G (by decide +kernel) (Nat.le_of_ble_eq_true rfl) (fun φ C hcr hr => ?_)
  have C : Cx γ φ RL cL_call 5 10 := C
  refine x_lv [(0, .ref (bs (gw γ o))), (1, .int (iI 19)), (2, .int (iI q)), (3, .int (iI y9)), (4, .int (iI z9))] [0, 1, 2, 3, 4] rfl ?_
  refine x_iload_n (pc := 0) C 1 rfl dL_call_0 ?_
  refine x_tabIn (pc := 1) C 225 (by decide) dL_call_1 (by decide) rfl (by decide) ?_
  refine x_aload_n (pc := 225) C 0 rfl dL_call_225 ?_
  refine x_iload_n (pc := 226) C 2 rfl dL_call_226 ?_
  refine x_cw (pc := 227) (as := [.ref (bs (gw γ o)), .int (iI q)]) C (cy_L_tryKeep G.1) (wM_L_164 G.1) (c_tryKeep G o hq) dL_call_227 rfl rfl (by decide) (by decide) (Nat.le_of_ble_eq_true rfl) ⟨by omega, by omega⟩ ?_
  exact x_ret (pc := 230) C (by decide) hr rfl dL_call_230 rfl rfl
set_option maxRecDepth 100000 in
theorem c_call_20 {γ : Gm} (G : GL γ) (o : Bool) {S : St2} {q y9 z9 : Int} (hq : R3 q) : Cl γ yL_call (.code yL_call cL_call 5 (some .int)) 10 1 [.ref (bs (gw γ o)), .int (iI 20), .int (iI q), .int (iI y9), .int (iI z9)] S (an_tryBack (gat S o) q) (gup S o (st_tryBack (gat S o) q)) := by
  refine Cl.of G (by decide +kernel) (Nat.le_of_ble_eq_true rfl) (fun φ C hcr hr => ?_)
  have C : Cx γ φ RL cL_call 5 10 := C
  refine x_lv [(0, .ref (bs (gw γ o))), (1, .int (iI 20)), (2, .int (iI q)), (3, .int (iI y9)), (4, .int (iI z9))] [0, 1, 2, 3, 4] rfl ?_
  refine x_iload_n (pc := 0) C 1 rfl dL_call_0 ?_
  refine x_tabOut (pc := 1) C 231 (by decide) dL_call_1 (by decide) (by decide) ?_
  refine x_aload_n (pc := 231) C 0 rfl dL_call_231 ?_
  refine x_iload_n (pc := 232) C 2 rfl dL_call_232 ?_
  refine x_cw (pc := 233) (as := [.ref (bs (gw γ o)), .int (iI q)]) C (cy_L_tryBack G.1) (wM_L_167 G.1) (c_tryBack G o hq) dL_call_233 rfl rfl (by decide) (by decide) (Nat.le_of_ble_eq_true rfl) ⟨by omega, by omega⟩ ?_
  exact x_ret (pc := 236) C (by decide) hr rfl dL_call_236 rfl rfl
