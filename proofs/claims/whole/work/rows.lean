section
-- ===== PART A: goes FIRST, ahead of the names: the tables' words, and 'selects' of the private methods out of them =====
/-- a private method of a class that the tables say can be made, by its rows of tables_1 -/
def lw_okq (q : MethodName × Nat) : Prop := (q.1.cls ≠ "java/lang/invoke/MethodHandle" ∧ q.1.cls ≠ "java/lang/invoke/VarHandle") ∧ Cond.instantiable q.1.cls q.2 ∈ tables_1 ∧ Cond.privateMethod q.1 ∈ tables_1 ∧ Cond.instanceMethod q.1 ∈ tables_1
theorem lw_p0 : lw_okq (⟨"AirValves$Text", "readNumber", "(III)Z"⟩, 5) := ⟨⟨by decide +kernel, by decide +kernel⟩, List.mem_of_getElem? (i := 36) (by decide +kernel), List.mem_of_getElem? (i := 222) (by decide +kernel), List.mem_of_getElem? (i := 223) (by decide +kernel)⟩
theorem lw_p1 : lw_okq (⟨"AirValves$Net", "fillPushes", "()Z"⟩, 16) := ⟨⟨by decide +kernel, by decide +kernel⟩, List.mem_of_getElem? (i := 62) (by decide +kernel), List.mem_of_getElem? (i := 244) (by decide +kernel), List.mem_of_getElem? (i := 245) (by decide +kernel)⟩
theorem lw_p2 : lw_okq (⟨"AirValves$Net", "turnValve", "(I)Z"⟩, 16) := ⟨⟨by decide +kernel, by decide +kernel⟩, List.mem_of_getElem? (i := 62) (by decide +kernel), List.mem_of_getElem? (i := 262) (by decide +kernel), List.mem_of_getElem? (i := 263) (by decide +kernel)⟩
theorem lw_p3 : lw_okq (⟨"AirValves$Net", "supplyLeg", "(II)Z"⟩, 16) := ⟨⟨by decide +kernel, by decide +kernel⟩, List.mem_of_getElem? (i := 62) (by decide +kernel), List.mem_of_getElem? (i := 272) (by decide +kernel), List.mem_of_getElem? (i := 273) (by decide +kernel)⟩
theorem lw_p4 : lw_okq (⟨"AirValves$Net", "putLegs", "(III)Z"⟩, 16) := ⟨⟨by decide +kernel, by decide +kernel⟩, List.mem_of_getElem? (i := 62) (by decide +kernel), List.mem_of_getElem? (i := 276) (by decide +kernel), List.mem_of_getElem? (i := 277) (by decide +kernel)⟩
theorem lw_p5 : lw_okq (⟨"AirValves$Net", "turnWallJet", "(I)I"⟩, 16) := ⟨⟨by decide +kernel, by decide +kernel⟩, List.mem_of_getElem? (i := 62) (by decide +kernel), List.mem_of_getElem? (i := 284) (by decide +kernel), List.mem_of_getElem? (i := 285) (by decide +kernel)⟩
theorem lw_p6 : lw_okq (⟨"AirValves$Net", "moveAir", "(I)Z"⟩, 16) := ⟨⟨by decide +kernel, by decide +kernel⟩, List.mem_of_getElem? (i := 62) (by decide +kernel), List.mem_of_getElem? (i := 288) (by decide +kernel), List.mem_of_getElem? (i := 289) (by decide +kernel)⟩
theorem lw_p7 : lw_okq (⟨"java/lang/Throwable", "fillInStackTrace", "(I)Ljava/lang/Throwable;"⟩, 6) := ⟨⟨by decide +kernel, by decide +kernel⟩, List.mem_of_getElem? (i := 353) (by decide +kernel), List.mem_of_getElem? (i := 351) (by decide +kernel), List.mem_of_getElem? (i := 352) (by decide +kernel)⟩
theorem lw_p8 : lw_okq (⟨"AirValves", "emptySlots", "()V"⟩, 7) := ⟨⟨by decide +kernel, by decide +kernel⟩, List.mem_of_getElem? (i := 28) (by decide +kernel), List.mem_of_getElem? (i := 409) (by decide +kernel), List.mem_of_getElem? (i := 410) (by decide +kernel)⟩
theorem lw_p9 : lw_okq (⟨"AirValves", "findBeatWithLeak", "(III)I"⟩, 7) := ⟨⟨by decide +kernel, by decide +kernel⟩, List.mem_of_getElem? (i := 28) (by decide +kernel), List.mem_of_getElem? (i := 980) (by decide +kernel), List.mem_of_getElem? (i := 981) (by decide +kernel)⟩
theorem lw_p10 : lw_okq (⟨"AirValvesModel", "refused", "(I)Z"⟩, 12) := ⟨⟨by decide +kernel, by decide +kernel⟩, List.mem_of_getElem? (i := 1050) (by decide +kernel), List.mem_of_getElem? (i := 1108) (by decide +kernel), List.mem_of_getElem? (i := 1109) (by decide +kernel)⟩
theorem lw_p11 : lw_okq (⟨"AirValvesModel", "readText", "([I)I"⟩, 12) := ⟨⟨by decide +kernel, by decide +kernel⟩, List.mem_of_getElem? (i := 1050) (by decide +kernel), List.mem_of_getElem? (i := 1120) (by decide +kernel), List.mem_of_getElem? (i := 1121) (by decide +kernel)⟩
theorem lw_p12 : lw_okq (⟨"AirValvesModel", "readCommand", "([I)Z"⟩, 12) := ⟨⟨by decide +kernel, by decide +kernel⟩, List.mem_of_getElem? (i := 1050) (by decide +kernel), List.mem_of_getElem? (i := 1124) (by decide +kernel), List.mem_of_getElem? (i := 1125) (by decide +kernel)⟩
theorem lw_p13 : lw_okq (⟨"AirValvesModel", "figures", "(IIII)I"⟩, 12) := ⟨⟨by decide +kernel, by decide +kernel⟩, List.mem_of_getElem? (i := 1050) (by decide +kernel), List.mem_of_getElem? (i := 1128) (by decide +kernel), List.mem_of_getElem? (i := 1129) (by decide +kernel)⟩
theorem lw_p14 : lw_okq (⟨"AirValvesModel", "done", "(Z)Z"⟩, 12) := ⟨⟨by decide +kernel, by decide +kernel⟩, List.mem_of_getElem? (i := 1050) (by decide +kernel), List.mem_of_getElem? (i := 1136) (by decide +kernel), List.mem_of_getElem? (i := 1137) (by decide +kernel)⟩
theorem lw_p15 : lw_okq (⟨"AirValvesModel", "readDuct", "([I)Z"⟩, 12) := ⟨⟨by decide +kernel, by decide +kernel⟩, List.mem_of_getElem? (i := 1050) (by decide +kernel), List.mem_of_getElem? (i := 1140) (by decide +kernel), List.mem_of_getElem? (i := 1141) (by decide +kernel)⟩
def lw_privs_1 : List (MethodName × Nat) := [(⟨"AirValves$Text", "readNumber", "(III)Z"⟩, 5), (⟨"AirValves$Net", "fillPushes", "()Z"⟩, 16), (⟨"AirValves$Net", "turnValve", "(I)Z"⟩, 16), (⟨"AirValves$Net", "supplyLeg", "(II)Z"⟩, 16), (⟨"AirValves$Net", "putLegs", "(III)Z"⟩, 16), (⟨"AirValves$Net", "turnWallJet", "(I)I"⟩, 16), (⟨"AirValves$Net", "moveAir", "(I)Z"⟩, 16), (⟨"java/lang/Throwable", "fillInStackTrace", "(I)Ljava/lang/Throwable;"⟩, 6), (⟨"AirValves", "emptySlots", "()V"⟩, 7), (⟨"AirValves", "findBeatWithLeak", "(III)I"⟩, 7), (⟨"AirValvesModel", "refused", "(I)Z"⟩, 12), (⟨"AirValvesModel", "readText", "([I)I"⟩, 12), (⟨"AirValvesModel", "readCommand", "([I)Z"⟩, 12), (⟨"AirValvesModel", "figures", "(IIII)I"⟩, 12), (⟨"AirValvesModel", "done", "(Z)Z"⟩, 12), (⟨"AirValvesModel", "readDuct", "([I)Z"⟩, 12)]
theorem lw_r1 : ∀ q ∈ lw_privs_1, lw_okq q := List.forall_mem_cons.mpr ⟨lw_p0, List.forall_mem_cons.mpr ⟨lw_p1, List.forall_mem_cons.mpr ⟨lw_p2, List.forall_mem_cons.mpr ⟨lw_p3, List.forall_mem_cons.mpr ⟨lw_p4, List.forall_mem_cons.mpr ⟨lw_p5, List.forall_mem_cons.mpr ⟨lw_p6, List.forall_mem_cons.mpr ⟨lw_p7, List.forall_mem_cons.mpr ⟨lw_p8, List.forall_mem_cons.mpr ⟨lw_p9, List.forall_mem_cons.mpr ⟨lw_p10, List.forall_mem_cons.mpr ⟨lw_p11, List.forall_mem_cons.mpr ⟨lw_p12, List.forall_mem_cons.mpr ⟨lw_p13, List.forall_mem_cons.mpr ⟨lw_p14, List.forall_mem_cons.mpr ⟨lw_p15, fun _ h => absurd h List.not_mem_nil⟩⟩⟩⟩⟩⟩⟩⟩⟩⟩⟩⟩⟩⟩⟩⟩
theorem lw_p16 : lw_okq (⟨"AirValvesModel", "who", "(I)I"⟩, 12) := ⟨⟨by decide +kernel, by decide +kernel⟩, List.mem_of_getElem? (i := 1050) (by decide +kernel), List.mem_of_getElem? (i := 1144) (by decide +kernel), List.mem_of_getElem? (i := 1145) (by decide +kernel)⟩
theorem lw_p17 : lw_okq (⟨"AirValvesModel", "runOn", "([II)I"⟩, 12) := ⟨⟨by decide +kernel, by decide +kernel⟩, List.mem_of_getElem? (i := 1050) (by decide +kernel), List.mem_of_getElem? (i := 1179) (by decide +kernel), List.mem_of_getElem? (i := 1180) (by decide +kernel)⟩
theorem lw_p18 : lw_okq (⟨"AirValvesModel", "remember", "()V"⟩, 12) := ⟨⟨by decide +kernel, by decide +kernel⟩, List.mem_of_getElem? (i := 1050) (by decide +kernel), List.mem_of_getElem? (i := 1267) (by decide +kernel), List.mem_of_getElem? (i := 1268) (by decide +kernel)⟩
theorem lw_p19 : lw_okq (⟨"AirValvesModel", "rests", "([I)Z"⟩, 12) := ⟨⟨by decide +kernel, by decide +kernel⟩, List.mem_of_getElem? (i := 1050) (by decide +kernel), List.mem_of_getElem? (i := 1316) (by decide +kernel), List.mem_of_getElem? (i := 1317) (by decide +kernel)⟩
theorem lw_p20 : lw_okq (⟨"AirValvesModel", "beatOf", "(I)I"⟩, 12) := ⟨⟨by decide +kernel, by decide +kernel⟩, List.mem_of_getElem? (i := 1050) (by decide +kernel), List.mem_of_getElem? (i := 1324) (by decide +kernel), List.mem_of_getElem? (i := 1325) (by decide +kernel)⟩
theorem lw_p21 : lw_okq (⟨"AirValvesModel", "beatWith", "(III)I"⟩, 12) := ⟨⟨by decide +kernel, by decide +kernel⟩, List.mem_of_getElem? (i := 1050) (by decide +kernel), List.mem_of_getElem? (i := 1336) (by decide +kernel), List.mem_of_getElem? (i := 1337) (by decide +kernel)⟩
theorem lw_p22 : lw_okq (⟨"AirValvesModel", "command", "(II)Z"⟩, 12) := ⟨⟨by decide +kernel, by decide +kernel⟩, List.mem_of_getElem? (i := 1050) (by decide +kernel), List.mem_of_getElem? (i := 1356) (by decide +kernel), List.mem_of_getElem? (i := 1357) (by decide +kernel)⟩
def lw_privs_2 : List (MethodName × Nat) := [(⟨"AirValvesModel", "who", "(I)I"⟩, 12), (⟨"AirValvesModel", "runOn", "([II)I"⟩, 12), (⟨"AirValvesModel", "remember", "()V"⟩, 12), (⟨"AirValvesModel", "rests", "([I)Z"⟩, 12), (⟨"AirValvesModel", "beatOf", "(I)I"⟩, 12), (⟨"AirValvesModel", "beatWith", "(III)I"⟩, 12), (⟨"AirValvesModel", "command", "(II)Z"⟩, 12)]
theorem lw_r2 : ∀ q ∈ lw_privs_2, lw_okq q := List.forall_mem_cons.mpr ⟨lw_p16, List.forall_mem_cons.mpr ⟨lw_p17, List.forall_mem_cons.mpr ⟨lw_p18, List.forall_mem_cons.mpr ⟨lw_p19, List.forall_mem_cons.mpr ⟨lw_p20, List.forall_mem_cons.mpr ⟨lw_p21, List.forall_mem_cons.mpr ⟨lw_p22, fun _ h => absurd h List.not_mem_nil⟩⟩⟩⟩⟩⟩⟩
def lw_privs : List (MethodName × Nat) := lw_privs_1 ++ (lw_privs_2)
def lw_tbl : List Cond := k2_sels lw_privs ++ tables_1
theorem lw_privs_ok : ∀ q ∈ lw_privs, lw_okq q := by
  show ∀ q ∈ lw_privs_1 ++ (lw_privs_2), lw_okq q
  exact List.forall_mem_append.mpr ⟨lw_r1, lw_r2⟩
end
section
/-! ===== BEGIN words of one list among another's, by their places ===== -/
theorem goodIn_r {big : List Cond} (ws : List Cond) (ps : List Nat) (hp : ws = ps.filterMap (fun i => big[i]?)) (h : ws.all goodWord = true) : GoodIn big ws := by
  intro w hw
  have h1 := List.all_eq_true.mp h w hw
  rw [hp] at hw
  obtain ⟨i, -, hi⟩ := List.mem_filterMap.mp hw
  have hm : w ∈ big := by first | exact List.mem_of_getElem? hi | exact List.getElem?_mem hi
  exact ⟨hm, good_of_word h1⟩
theorem goodIn_app {big a b : List Cond} (ha : GoodIn big a) (hb : GoodIn big b) : GoodIn big (a ++ b) := fun w h => (List.mem_append.mp h).elim (ha w) (hb w)
theorem goodIn_ca {big a b : List Cond} {c : Cond} (ha : GoodIn big (c :: a)) (hb : GoodIn big b) : GoodIn big (c :: (a ++ b)) := fun w h => (List.mem_cons.mp h).elim (fun e => ha w (List.mem_cons.mpr (Or.inl e))) (fun h => (List.mem_append.mp h).elim (fun h => ha w (List.mem_cons.mpr (Or.inr h))) (hb w))
theorem goodIn_sub {big ws : List Cond} (hm : ∀ w ∈ ws, w ∈ big) (h : ws.all goodWord = true) : GoodIn big ws := fun w hw => ⟨hm w hw, good_of_word (List.all_eq_true.mp h w hw)⟩
/-! ===== END ===== -/
/-! ===== BEGIN exceptions that leave a method, and their catching by the caller (launches without stack traces) ===== -/
section VXA
/-! The laws vx_back, vx_callV, vx_callS, vx_callSW, vx_throw0, vx_throwS follow proofs of the library, with one case more: JvmDerived/Free/Laws.lean (Back.of_free), Shelf42/LK1.lean (callV, callS), Shelf/KitTraced.lean (throwNew0V, throwNewS). -/
/-- where a method has thrown q: the class by its name, the cell, what was written, the world -/
def vx_T (XC : String → State → State → Prop) (st : State) (q : Addr) (t : State) (mc ms : Nat) (free : Addr → Prop) : Prop :=
  ∃ (E : String) (ce : Cell) (L : List Loc), XC E st t ∧ t.heap[q]? = some ce ∧ ce.vm = .none ∧ st.vm.findClass E = some ce.cls ∧ st.WarmedH t.vm ∧ st.sameButNew ({ t with vm := st.vm } : State) L mc ms ∧ ∀ z ∈ L, free z.base
def vx_Q (Qc : Array Value → State → Outcome → State → Prop) (XC : String → State → State → Prop) (mc ms : Nat) (free : Addr → Prop) : Array Value → State → Outcome → State → Prop := fun a st o t =>
  (Qc a st o t ∧ ∃ L, FrameEnd st o t L mc ms ∧ ∀ q ∈ L, free q.base) ∨ ∃ q, o = .threw q ∧ vx_T XC st q t mc ms free
/-- a callee that returns or throws -/
def vx_Met (l : Launch) (y : MethodName) (ws : List Cond) (rm : Room) (Pc : Array Value → State → Prop) (Qc : Array Value → State → Outcome → State → Prop) (XC : String → State → State → Prop) (mc ms : Nat) (free : Addr → Prop) : Prop :=
  MetFree l y (headSpec ws rm) Pc (fun _ _ _ _ _ => True) (vx_Q Qc XC mc ms free)
def vx_Post (XC : String → State → State → Prop) (mc ms : Nat) (free : Addr → Prop) : Pt → Array Value → Addr → Pt → Prop := fun A a q B =>
  ∃ (g : JFrame) (mk : MethodId) (t : State) (L : List Loc) (E : String) (ce : Cell), B.U.heap = t.heap ∧ B.U.vm = t.vm ∧ XC E (A.U.calling g mk a) t ∧ t.heap[q]? = some ce ∧ ce.vm = .none ∧ A.U.vm.findClass E = some ce.cls ∧ B.locs = A.locs ++ L ∧ (∀ z ∈ L, free z.base) ∧ B.cells = A.cells + mc ∧ B.slots = A.slots + ms
def vx_Back (l : Launch) (R : Room) (p : Program) (e : Env) (below : List Frame) (s : State) (sargs : Array Value) (y : MethodName) (len W9 : Nat)
    (Pre : Pt → Array Value → Prop) (Post : Pt → Array Value → Option Value → Pt → Prop) (PostX : Pt → Array Value → Addr → Pt → Prop) : Prop :=
  ∀ (m : MethodId) (meth : Method) (c : Code) (A : Pt) (g : JFrame) (ig : Instr) (mk : MethodId) (a : Array Value),
    Stand p l e R s m sargs below meth c A.U A.locs A.cells A.slots → g.method = m → g.locals.size = c.maxLocals → decode c.code g.pc = .ok (ig, len) →
    2 * g.monitorRoom + (g.stack.map fun v => v.category).sum ≤ W9 → A.U.methodNamed? y = some mk → Pre A a →
    (∃ (v : Option Value) (B : Pt), Stand p l e R s m sargs below meth c B.U B.locs B.cells B.slots ∧ Post A a v B ∧
      Steps p.tables e below (doInvoke e (A.U.setTop g) [] mk a).1 (B.U.setTop { g with pc := g.pc + len, stack := v.toList ++ g.stack })) ∨
    (∃ (q : Addr) (B : Pt), Stand p l e R s m sargs below meth c B.U B.locs B.cells B.slots ∧ PostX A a q B ∧
      Steps p.tables e below (doInvoke e (A.U.setTop g) [] mk a).1 ((B.U.setTop g).pushFrame (.throwing q)))
section Payer
variable {l : Launch} {R : Room} {p : Program} {e : Env} {below : List Frame} {s : State} {sargs : Array Value} {y : MethodName} {len W9 : Nat}
theorem vx_back {ws : List Cond} {rm : Room} {Pc : Array Value → State → Prop} {Qc : Array Value → State → Outcome → State → Prop} {XC : String → State → State → Prop} {mc ms : Nat} {free : Addr → Prop} {bytes : ByteArray} {maxL : Nat} {ret : Option FieldType}
    (hM : vx_Met l y ws rm Pc Qc XC mc ms free) (hblind : FrameBlind Pc) (hrc : rm.cells = mc) (hrs : rm.slots = ms)
    (hframes : rm.frames + 1 ≤ R.frames) (hlocals : W9 + (maxL + 11) + rm.locals ≤ R.locals)
    (hws : ∀ w ∈ ws, ∀ a' U, s.WarmedH U.vm → w.before a' U = true) (hcode : Cond.code y bytes maxL ret ∈ ws) (hinit : ∀ a' U, s.WarmedH U.vm → (Cond.initialized y.cls).before a' U = true) :
    vx_Back l R p e below s sargs y len W9 (PreOf R mc ms Pc) (PostOf Qc mc ms free) (vx_Post XC mc ms free) := by
  intro m meth c A g ig mk a X hg hsize hdg hW hn hp
  have h1 : (headSpec ws rm).pre.before a A.U = true := atoms_intro fun w hw => hws w hw _ _ X.warmed
  have h2 : (Cond.code y bytes maxL ret).before a A.U = true := hws _ hcode _ _ X.warmed
  have h3 : (Cond.initialized y.cls).before a A.U = true := hinit _ _ X.warmed
  have h4 : A.cells + (headSpec ws rm).room.cells ≤ R.cells := by rw [show (headSpec ws rm).room.cells = mc from hrc]; exact hp.1
  have h5 : A.slots + (headSpec ws rm).room.slots ≤ R.slots := by rw [show (headSpec ws rm).room.slots = ms from hrs]; exact hp.2.1
  have hPc : Pc a (A.U.calling g mk a) := hblind _ _ _ _ hp.2.2
  obtain ⟨U, Ls, c0, s0⟩ := A
  dsimp only [Pt.U, Pt.locs, Pt.cells, Pt.slots] at h1 h2 h3 h4 h5 X hn hPc ⊢
  obtain ⟨methY, cY, hmY, hcY, -, hlY, -, -, -, -⟩ := Cond.code_spec hn h2
  obtain ⟨kY, hkY, -⟩ := className_of_methodNamed hn
  have hinitY : kY.init = .initialized := Cond.initialized_spec (findClass_of_methodNamed hn) hkY h3
  have h : At U g.method c below := by rw [hg]; exact X.here
  have hlocals9 : W9 + (maxL + 11) + (headSpec ws rm).room.locals ≤ R.locals := hlocals
  have happ : (headSpec ws rm).appliesLoose y e.platform (U.calling g mk a) = true :=
    Spec.appliesLoose_calling (g := g) h hdg hn hkY hinitY
      (X.room_calling (g := g) (R' := (headSpec ws rm).room) hsize hmY hcY hframes (by rw [hlY]; omega) h4 h5) h1
  obtain ⟨mid, hmid⟩ := h.above
  have hfr : (U.setTop g).frames = (.java g :: mid) ++ below := by rw [State.frames_setTop' g h.top, hmid]; rfl
  obtain ⟨o, s₂, hsteps, -, hend, hq⟩ := Steps.callFree hM p X.admits X.cas X.clock (acts := []) hfr happ hPc trivial
  have hq' : vx_Q Qc XC mc ms free a (U.calling g mk a) o s₂ := hq
  rw [State.frames_setTop' g h.top] at hend
  obtain ⟨g₀, hg0⟩ := Option.isSome_iff_exists.mp h.top
  obtain ⟨r, hr⟩ := State.topJava?_eq_some.mp hg0
  have hr' : (({ U with heap := s₂.heap, slotsUsed := s₂.slotsUsed } : State).setVm s₂.vm).frames = .java g₀ :: r := hr
  rcases hq' with ⟨hqc, L, hfe, hL⟩ | ⟨q, rfl, E, ce, L, hx, hce, hcv, hcl, hW₂, hsm, hL⟩
  · obtain ⟨⟨v, rfl⟩, hW₂, e2, q2, q3, q4, q5, q6⟩ := id hfe
    have e3 : s₂ = ({ (U.calling g mk a).setFrames s₂.frames with heap := s₂.heap, slotsUsed := s₂.slotsUsed } : State).setVm s₂.vm := by
      have : s₂ = ({ s₂ with vm := (U.calling g mk a).vm } : State).setVm s₂.vm := rfl
      rw [e2] at this
      exact this
    obtain ⟨c₂, i₂, len₂, hc₂, hd₂, hf₂⟩ := hend
    have hW' : U.WarmedH s₂.vm := hW₂
    have hcc : c₂ = c := by
      have h1 : s₂.code? g.method = U.code? g.method := by
        rw [State.code?_eq, State.code?_eq, hW'.alike.method?]
      exact Option.some.inj (hc₂.symm.trans (h1.trans h.code))
    subst hcc
    have hlen : len₂ = len := by rw [hdg] at hd₂; cases hd₂; rfl
    subst hlen
    have hs₂ : s₂ = (({ U with heap := s₂.heap, slotsUsed := s₂.slotsUsed } : State).setVm s₂.vm).setTop { g with pc := g.pc + len₂, stack := v.toList ++ g.stack } := by
      refine e3.trans ?_
      rw [hf₂, State.calling_eq h.top, State.setFrames_setFrames, State.setTop_of_frames _ hr', hr]
      rfl
    have hsame : U.sameButNew ({ U with heap := s₂.heap, slotsUsed := s₂.slotsUsed } : State) L mc ms := by
      refine ⟨?_, q2, q3, q4, q5, q6⟩
      obtain ⟨t, ht, -⟩ := State.frames_cons hr
      show ({ U with heap := s₂.heap, slotsUsed := s₂.slotsUsed } : State) = { U.setFrames U.frames with heap := s₂.heap, slotsUsed := s₂.slotsUsed }
      rw [State.setFrames_self ht]
    subst hg
    refine Or.inl ⟨v, ⟨(({ U with heap := s₂.heap, slotsUsed := s₂.slotsUsed } : State).setVm s₂.vm), Ls ++ L, c0 + mc, s0 + ms⟩,
      ⟨X.admits, X.cas, X.clock, X.frames, X.room, X.hears, X.method, X.code, (X.here.setHeapUsed s₂.heap s₂.slotsUsed).setVm hW'.alike, X.tail, State.WarmedH.trans X.warmed hW', X.limits, X.bytes, X.same.trans (hsame.setVm s.vm)⟩,
      ⟨g, mk, s₂, L, rfl, rfl, hqc, rfl, hL, rfl, rfl⟩, ?_⟩
    show Steps p.tables e below _ ((({ U with heap := s₂.heap, slotsUsed := s₂.slotsUsed } : State).setVm s₂.vm).setTop { g with pc := g.pc + len₂, stack := v.toList ++ g.stack })
    rw [← hs₂]
    exact hsteps
  · obtain ⟨e2, q2, q3, q4, q5, q6⟩ := id hsm
    have e3 : s₂ = ({ (U.calling g mk a).setFrames s₂.frames with heap := s₂.heap, slotsUsed := s₂.slotsUsed } : State).setVm s₂.vm := by
      have : s₂ = ({ s₂ with vm := (U.calling g mk a).vm } : State).setVm s₂.vm := rfl
      rw [e2] at this
      exact this
    have hf₂ : s₂.frames = .throwing q :: .java g :: U.frames.tail := hend
    have hW' : U.WarmedH s₂.vm := hW₂
    have hs₂ : s₂ = ((({ U with heap := s₂.heap, slotsUsed := s₂.slotsUsed } : State).setVm s₂.vm).setTop g).pushFrame (.throwing q) := by
      refine e3.trans ?_
      rw [hf₂, State.calling_eq h.top, State.setFrames_setFrames, State.pushFrame, State.frames_setTop _ hr', State.setTop_of_frames _ hr', State.setFrames_setFrames, hr]
      rfl
    have hsame : U.sameButNew ({ U with heap := s₂.heap, slotsUsed := s₂.slotsUsed } : State) L mc ms := by
      refine ⟨?_, q2, q3, q4, q5, q6⟩
      obtain ⟨t, ht, -⟩ := State.frames_cons hr
      show ({ U with heap := s₂.heap, slotsUsed := s₂.slotsUsed } : State) = { U.setFrames U.frames with heap := s₂.heap, slotsUsed := s₂.slotsUsed }
      rw [State.setFrames_self ht]
    subst hg
    refine Or.inr ⟨q, ⟨(({ U with heap := s₂.heap, slotsUsed := s₂.slotsUsed } : State).setVm s₂.vm), Ls ++ L, c0 + mc, s0 + ms⟩,
      ⟨X.admits, X.cas, X.clock, X.frames, X.room, X.hears, X.method, X.code, (X.here.setHeapUsed s₂.heap s₂.slotsUsed).setVm hW'.alike, X.tail, State.WarmedH.trans X.warmed hW', X.limits, X.bytes, X.same.trans (hsame.setVm s.vm)⟩,
      ⟨g, mk, s₂, L, E, ce, rfl, rfl, hx, hce, hcv, hcl, rfl, hL, rfl, rfl⟩, ?_⟩
    show Steps p.tables e below _ (((({ U with heap := s₂.heap, slotsUsed := s₂.slotsUsed } : State).setVm s₂.vm).setTop g).pushFrame (.throwing q))
    rw [← hs₂]
    exact hsteps
end Payer
section Calls
variable {p : Program} {l : Launch} {e : Env} {R : Room} {s : State} {m : MethodId} {args : Array Value} {below : List Frame} {meth : Method} {c : Code} {T : State} {locs : List Loc} {cells slots : Nat}
theorem vx_callV (X : Stand p l e R s m args below meth c T locs cells slots) (hexec : p.tables.exec = Jvm.exec) {own C : String} {index : Nat} {y : MethodName} {bytes : ByteArray} {maxL : Nat} {ret : Option FieldType}
    (hown : s.vm.findClass own = some m.cls) (hlink : (Cond.methodLink own index y).before args s = true) (hinst : (Cond.instanceMethod y).before args s = true) (hsel : (Cond.selects C y y).before args s = true)
    (hcode : (Cond.code y bytes maxL ret).before args s = true) (hy : y.cls ≠ "java/lang/invoke/MethodHandle" ∧ y.cls ≠ "java/lang/invoke/VarHandle")
    {W9 : Nat} {Pre : Pt → Array Value → Prop} {Post : Pt → Array Value → Option Value → Pt → Prop} {PostX : Pt → Array Value → Addr → Pt → Prop} (hK : vx_Back l R p e below s args y 3 W9 Pre Post PostX)
    {b : Addr} {cellB : Cell} (hcell : T.heap[b]? = some cellB) (hobj : cellB.vm.isStatics = false) (hcls : s.vm.findClass C = some cellB.cls)
    {g : JFrame} (hg : g.method = m) (hsize : g.locals.size = c.maxLocals) {argsL rest : List Value} (hlen : ∀ sig, parseMethodDescriptor y.desc = some sig → argsL.length = sig.parameters.length)
    (hstack : g.stack = argsL.reverse ++ .ref b :: rest) (hW : 2 * g.monitorRoom + (rest.map fun v => v.category).sum ≤ W9) (hdg : decode c.code g.pc = .ok (.invokevirtual index, 3))
    (hpre : ∀ vm₁, s.WarmedH vm₁ → Pre ⟨T.setVm vm₁, locs, cells, slots⟩ (Value.ref b :: argsL).toArray) :
    (∃ (v : Option Value) (vm₁ : Vm) (B : Pt), s.WarmedH vm₁ ∧ Stand p l e R s m args below meth c B.U B.locs B.cells B.slots ∧ Post ⟨T.setVm vm₁, locs, cells, slots⟩ (Value.ref b :: argsL).toArray v B ∧
      ∀ target, Steps p.tables e below (B.U.setTop { g with pc := g.pc + 3, stack := v.toList ++ rest }) target → Steps p.tables e below (T.setTop g) target) ∨
    (∃ (q : Addr) (vm₁ : Vm) (B : Pt), s.WarmedH vm₁ ∧ Stand p l e R s m args below meth c B.U B.locs B.cells B.slots ∧ PostX ⟨T.setVm vm₁, locs, cells, slots⟩ (Value.ref b :: argsL).toArray q B ∧
      Steps p.tables e below (T.setTop g) ((B.U.setTop { g with stack := rest }).pushFrame (.throwing q))) := by
  obtain ⟨mk, methM, hnamed, hmethM, hstM, habM⟩ := Cond.instanceMethod_spec hinst
  obtain ⟨methM', cM, hmethM', -, -, -, -, -, -, hsigM⟩ := Cond.code_spec hnamed hcode
  cases hmethM.symm.trans hmethM'
  obtain ⟨c2, r2, m2, q1, q2, q3, q4, kP, hkP, hkPi⟩ := Cond.selects_spec hsel
  cases hcls.symm.trans q1
  cases (State.methodFound?_of_named hnamed hy).symm.trans q2
  cases hnamed.symm.trans q3
  have hselP : selectMethod e.platform s.vm cellB.cls mk = .method mk := by rw [Launch.admits_selectMethod X.admits]; exact q4
  obtain ⟨vm₁, X₁, hstep₁⟩ := X.invokevirtual hexec hown hlink hnamed hmethM hstM hkP hkPi hy (a := b) (cell := cellB) hcell
    (fun z h => by rw [h] at hobj; cases hobj) hselP hmethM habM hkP hkPi (g := g) hg (argsL := argsL) (rest := rest) (hlen _ hsigM) hstack hdg
  rcases hK m meth c ⟨T.setVm vm₁, locs, cells, slots⟩ { g with stack := rest } (.invokevirtual index) mk (Value.ref b :: argsL).toArray X₁ hg hsize hdg hW (X₁.named hnamed) (hpre vm₁ X₁.warmed) with ⟨v, B, X', hpost, hsteps⟩ | ⟨q, B, X', hpost, hsteps⟩
  · exact Or.inl ⟨v, vm₁, B, X₁.warmed, X', hpost, fun target h => hstep₁ _ fun acts => by rw [doInvoke_state]; exact hsteps.trans h⟩
  · exact Or.inr ⟨q, vm₁, B, X₁.warmed, X', hpost, hstep₁ _ fun acts => by rw [doInvoke_state]; exact hsteps⟩
theorem vx_callS (X : Stand p l e R s m args below meth c T locs cells slots) (hexec : p.tables.exec = Jvm.exec) {own : String} {index : Nat} {y : MethodName} {bytes : ByteArray} {maxL : Nat} {ret : Option FieldType}
    (hown : s.vm.findClass own = some m.cls) (hlink : (Cond.methodLink own index y).before args s = true) (hstat : (Cond.static y).before args s = true) (hinit : (Cond.initialized y.cls).before args s = true)
    (hcode : (Cond.code y bytes maxL ret).before args s = true) (hy : y.cls ≠ "java/lang/invoke/MethodHandle" ∧ y.cls ≠ "java/lang/invoke/VarHandle")
    {W9 : Nat} {Pre : Pt → Array Value → Prop} {Post : Pt → Array Value → Option Value → Pt → Prop} {PostX : Pt → Array Value → Addr → Pt → Prop} (hK : vx_Back l R p e below s args y 3 W9 Pre Post PostX)
    {g : JFrame} (hg : g.method = m) (hsize : g.locals.size = c.maxLocals) {argsL rest : List Value} (hlen : ∀ sig, parseMethodDescriptor y.desc = some sig → argsL.length = sig.parameters.length)
    (hstack : g.stack = argsL.reverse ++ rest) (hW : 2 * g.monitorRoom + (rest.map fun v => v.category).sum ≤ W9) (hdg : decode c.code g.pc = .ok (.invokestatic index, 3))
    (hpre : ∀ vm₁, s.WarmedH vm₁ → Pre ⟨T.setVm vm₁, locs, cells, slots⟩ argsL.toArray) :
    (∃ (v : Option Value) (vm₁ : Vm) (B : Pt), s.WarmedH vm₁ ∧ Stand p l e R s m args below meth c B.U B.locs B.cells B.slots ∧ Post ⟨T.setVm vm₁, locs, cells, slots⟩ argsL.toArray v B ∧
      ∀ target, Steps p.tables e below (B.U.setTop { g with pc := g.pc + 3, stack := v.toList ++ rest }) target → Steps p.tables e below (T.setTop g) target) ∨
    (∃ (q : Addr) (vm₁ : Vm) (B : Pt), s.WarmedH vm₁ ∧ Stand p l e R s m args below meth c B.U B.locs B.cells B.slots ∧ PostX ⟨T.setVm vm₁, locs, cells, slots⟩ argsL.toArray q B ∧
      Steps p.tables e below (T.setTop g) ((B.U.setTop { g with stack := rest }).pushFrame (.throwing q))) := by
  obtain ⟨mk, hnamed⟩ := Cond.code_named hcode
  obtain ⟨methM, cM, hmethM, -, -, -, -, -, -, hsigM⟩ := Cond.code_spec hnamed hcode
  have hstatic : methM.isStatic = true := Cond.static_spec hnamed hmethM hstat
  obtain ⟨kP, hkP, -⟩ := className_of_methodNamed hnamed
  have hinitP : kP.init = .initialized := Cond.initialized_spec (findClass_of_methodNamed hnamed) hkP hinit
  obtain ⟨vm₁, X₁, hstep₁⟩ := X.invokestatic hexec hown hlink hnamed hmethM hstatic hkP hinitP hy (g := g) hg (argsL := argsL) (rest := rest) (hlen _ hsigM) hstack hdg
  rcases hK m meth c ⟨T.setVm vm₁, locs, cells, slots⟩ { g with stack := rest } (.invokestatic index) mk argsL.toArray X₁ hg hsize hdg hW (X₁.named hnamed) (hpre vm₁ X₁.warmed) with ⟨v, B, X', hpost, hsteps⟩ | ⟨q, B, X', hpost, hsteps⟩
  · exact Or.inl ⟨v, vm₁, B, X₁.warmed, X', hpost, fun target h => hstep₁ _ fun acts => by rw [doInvoke_state]; exact hsteps.trans h⟩
  · exact Or.inr ⟨q, vm₁, B, X₁.warmed, X', hpost, hstep₁ _ fun acts => by rw [doInvoke_state]; exact hsteps⟩
end Calls
theorem vx_cls {s : State} {T : State} {vm₁ : Vm} {E : String} {k : ClassId} (hW : s.WarmedH vm₁) (h : (T.setVm vm₁).vm.findClass E = some k) : s.vm.findClass E = some k := by
  have h1 : vm₁.findClass E = some k := h
  rw [hW.alike.findClass] at h1
  exact h1
/-- the method's frame g, with q thrown over it -/
def vx_W (p : Program) (l : Launch) (e : Env) (R : Room) (s : State) (m : MethodId) (args : Array Value) (below : List Frame) (meth : Method) (c : Code) (H : Heap) (locs : List Loc) (cells slots : Nat) (Q : State → Prop) (g : JFrame) (q : Addr) : Prop :=
  ∀ T : State, T.heap = H → Stand p l e R s m args below meth c T locs cells slots → ∃ t, Steps p.tables e below ((T.setTop g).pushFrame (.throwing q)) t ∧ Q t
def vx_Run (p : Program) (l : Launch) (e : Env) (R : Room) (s : State) (m : MethodId) (args : Array Value) (below : List Frame) (meth : Method) (c : Code) (H : Heap) (locs : List Loc) (cells slots mc ms : Nat) (g : JFrame) (rest : List Value) (Qa : State → Outcome → State → Prop) (XC : String → State → State → Prop) (free : Addr → Prop) : Prop :=
  ∀ T : State, T.heap = H → Stand p l e R s m args below meth c T locs cells slots →
    (∃ (v : Option Value) (st₀ t T' : State) (L : List Loc), st₀.heap = H ∧ Stand p l e R s m args below meth c T' (locs ++ L) (cells + mc) (slots + ms) ∧ (∀ q ∈ L, free q.base) ∧ T'.heap = t.heap ∧ T'.vm = t.vm ∧ Qa st₀ (.returned v) t ∧
      Goes p e below T g T' { g with pc := g.pc + 3, stack := v.toList ++ rest }) ∨
    (∃ (q : Addr) (st₀ t T' : State) (L : List Loc) (E : String) (ce : Cell), st₀.heap = H ∧ Stand p l e R s m args below meth c T' (locs ++ L) (cells + mc) (slots + ms) ∧ (∀ z ∈ L, free z.base) ∧ T'.heap = t.heap ∧ T'.vm = t.vm ∧ XC E st₀ t ∧ t.heap[q]? = some ce ∧ ce.vm = .none ∧ s.vm.findClass E = some ce.cls ∧
      Steps p.tables e below (T.setTop g) ((T'.setTop { g with stack := rest }).pushFrame (.throwing q)))
def vx_X {S : Type} (px : S → Prop) (B : String → S → State → Prop) (A : Nat → Prop) : String → State → State → Prop := fun E st t => ∃ u : S, px u ∧ B E u t ∧ va_F A st t
section Runs
variable {p : Program} {l : Launch} {e : Env} {R : Room} {s : State} {m : MethodId} {args : Array Value} {below : List Frame} {meth : Method} {c : Code} {H : Heap} {locs : List Loc} {cells slots : Nat}
variable {y : MethodName} {bytes cc : ByteArray} {maxL nL mc ms n index : Nat} {ret : Option FieldType} {ws : List Cond} {rm : Room} {Pc : Array Value → State → Prop} {Qc : Array Value → State → Outcome → State → Prop} {XC : String → State → State → Prop} {free : Addr → Prop} {Ts : List Cond} {own C : String} {b : Addr} {As rest : List Value} {g : JFrame}
theorem vx_callBack (cb : CallB R s args own index y bytes maxL ret ws rm mc ms n) (hM : vx_Met l y ws rm Pc Qc XC mc ms free) (hbl : FrameBlind Pc) : vx_Back l R p e below s args y 3 8 (PreOf R mc ms Pc) (PostOf Qc mc ms free) (vx_Post XC mc ms free) := by
  obtain ⟨hrc, hrs, hfr, hlo, hws, hcw, -, hini, -⟩ := cb
  exact vx_back (bytes := bytes) (maxL := maxL) (ret := ret) hM hbl hrc hrs hfr hlo hws hcw (fun a' U hW => word_at hW (Or.inl (by first | rfl | simp [Cond.onTables, Cond.keeps, Cond.steady])) hini)
theorem vx_runV (S : CallFix p m c cc nL s args Ts own) (hM : vx_Met l y ws rm Pc Qc XC mc ms free) (cw : CallW R s args own C index y bytes maxL ret ws rm mc ms n) (hp : PreV s H C b Pc As)
    (hg : g.method = m) (hn : As.length = n) (hsize : g.locals.size = nL) (hstack : g.stack = As.reverse ++ .ref b :: rest) (hW : 2 * g.monitorRoom + (rest.map fun v => v.category).sum ≤ 8) (hdg : decode cc g.pc = .ok (.invokevirtual index, 3)) (hf : cells + mc ≤ R.cells ∧ slots + ms ≤ R.slots) :
    vx_Run p l e R s m args below meth c H locs cells slots mc ms g rest (Qc (Value.ref b :: As).toArray) XC free := by
  have hK : vx_Back l R p e below s args y 3 8 (PreOf R mc ms Pc) (PostOf Qc mc ms free) (vx_Post XC mc ms free) := vx_callBack cw.1 hM hp.1
  obtain ⟨⟨-, -, -, -, -, -, hcode, -, hy, hlen, hl⟩, hin, hse⟩ := cw
  obtain ⟨hx, hb, hml, ho, -⟩ := S
  obtain ⟨-, ⟨cellB, hcB, hoB, hclB⟩, hPc⟩ := hp
  intro T hT X
  rcases vx_callV X hx (C := C) (bytes := bytes) (maxL := maxL) (ret := ret) ho hl hin hse hcode hy hK (by rw [hT]; exact hcB) hoB hclB hg (hsize.trans hml.symm) (argsL := As) (rest := rest) (fun sig h => hn.trans (hlen sig h)) hstack hW (by rw [hb]; exact hdg)
    (fun vm₁ hW₁ => ⟨hf.1, hf.2, hPc (T.setVm vm₁) hT hW₁⟩) with ⟨v, vm₁, ⟨U', l2, c2, s2⟩, hW₁, X', ⟨g', mk, t, L, e1, e2, hq, h1, hL, h2, h3⟩, st⟩ | ⟨q, vm₁, ⟨U', l2, c2, s2⟩, hW₁, X', ⟨g', mk, t, L, E, ce, e1, e2, hq, hce, hcv, hcl, h1, hL, h2, h3⟩, st⟩
  · dsimp only [Pt.U, Pt.locs, Pt.cells, Pt.slots] at X' e1 e2 h1 h2 h3 st
    subst h1; subst h2; subst h3
    exact Or.inl ⟨v, (T.setVm vm₁).calling g' mk (Value.ref b :: As).toArray, t, U', L, hT, X', hL, e1, e2, hq, st⟩
  · dsimp only [Pt.U, Pt.locs, Pt.cells, Pt.slots] at X' e1 e2 h1 h2 h3 st hcl
    subst h1; subst h2; subst h3
    exact Or.inr ⟨q, (T.setVm vm₁).calling g' mk (Value.ref b :: As).toArray, t, U', L, E, ce, hT, X', hL, e1, e2, hq, hce, hcv, vx_cls hW₁ hcl, st⟩
theorem vx_runS (S : CallFix p m c cc nL s args Ts own) (hM : vx_Met l y ws rm Pc Qc XC mc ms free) (cw : CallB R s args own index y bytes maxL ret ws rm mc ms n ∧ (Cond.static y).before args s = true) (hp : PreS s H Pc As)
    (hg : g.method = m) (hn : As.length = n) (hsize : g.locals.size = nL) (hstack : g.stack = As.reverse ++ rest) (hW : 2 * g.monitorRoom + (rest.map fun v => v.category).sum ≤ 8) (hdg : decode cc g.pc = .ok (.invokestatic index, 3)) (hf : cells + mc ≤ R.cells ∧ slots + ms ≤ R.slots) :
    vx_Run p l e R s m args below meth c H locs cells slots mc ms g rest (Qc As.toArray) XC free := by
  have hK : vx_Back l R p e below s args y 3 8 (PreOf R mc ms Pc) (PostOf Qc mc ms free) (vx_Post XC mc ms free) := vx_callBack cw.1 hM hp.1
  obtain ⟨⟨-, -, -, -, -, -, hcode, hini, hy, hlen, hl⟩, hstt⟩ := cw
  obtain ⟨hx, hb, hml, ho, -⟩ := S
  intro T hT X
  rcases vx_callS X hx (bytes := bytes) (maxL := maxL) (ret := ret) ho hl hstt hini hcode hy hK hg (hsize.trans hml.symm) (argsL := As) (rest := rest) (fun sig h => hn.trans (hlen sig h)) hstack hW (by rw [hb]; exact hdg)
    (fun vm₁ hW₁ => ⟨hf.1, hf.2, hp.2 (T.setVm vm₁) hT hW₁⟩) with ⟨v, vm₁, ⟨U', l2, c2, s2⟩, hW₁, X', ⟨g', mk, t, L, e1, e2, hq, h1, hL, h2, h3⟩, st⟩ | ⟨q, vm₁, ⟨U', l2, c2, s2⟩, hW₁, X', ⟨g', mk, t, L, E, ce, e1, e2, hq, hce, hcv, hcl, h1, hL, h2, h3⟩, st⟩
  · dsimp only [Pt.U, Pt.locs, Pt.cells, Pt.slots] at X' e1 e2 h1 h2 h3 st
    subst h1; subst h2; subst h3
    exact Or.inl ⟨v, (T.setVm vm₁).calling g' mk As.toArray, t, U', L, hT, X', hL, e1, e2, hq, st⟩
  · dsimp only [Pt.U, Pt.locs, Pt.cells, Pt.slots] at X' e1 e2 h1 h2 h3 st hcl
    subst h1; subst h2; subst h3
    exact Or.inr ⟨q, (T.setVm vm₁).calling g' mk As.toArray, t, U', L, E, ce, hT, X', hL, e1, e2, hq, hce, hcv, vx_cls hW₁ hcl, st⟩
end Runs
section Rows
variable {p : Program} {l : Launch} {e : Env} {R : Room} {s : State} {m : MethodId} {args : Array Value} {below : List Frame} {meth : Method} {c : Code} {H : Heap} {locs : List Loc} {cells slots : Nat} {Q : State → Prop}
variable {mc ms : Nat} {free : Addr → Prop} {A0 A1 : Nat → Prop} {H0 : Heap} {a : Array Value} {pc : Nat} {ls : Array Slot} {st0 rest : List Value}
theorem vx_keep {st₀ t T' : State} {L : List Loc} (h0 : st₀.heap = H) (e1 : T'.heap = t.heap) (hS : va_S A0 H0 H locs) (hA : ∀ q, q < H.size → A1 q → A0 q) (hf : ∀ q, free q → A0 q) (hL : ∀ q ∈ L, free q.base) (hF : va_F A1 st₀ t) :
    H.size ≤ T'.heap.size ∧ (∀ q : Nat, q < H.size → ¬ A1 q → T'.heap[q]? = H[q]?) ∧ va_S A0 H0 T'.heap (locs ++ L) := by
  obtain ⟨hz, hk⟩ := hF
  rw [h0] at hz hk
  exact ⟨by rw [e1]; exact hz, fun q h1 h2 => by rw [e1]; exact hk q h1 h2,
    ⟨Nat.le_trans hS.1 (by rw [e1]; exact hz), fun q h1 h2 => by rw [e1, hk q (Nat.lt_of_lt_of_le h1 hS.1) (fun z => h2 (hA q (Nat.lt_of_lt_of_le h1 hS.1) z))]; exact hS.2.1 q h1 h2, fun q hq => by
      rcases List.mem_append.mp hq with h | h
      · exact hS.2.2 q h
      · exact hf _ (hL q h)⟩⟩
theorem vx_calli {S SX : Type} {post : Int32 → S → Prop} {px : SX → Prop} {B : S → State → Prop} {BX : String → SX → State → Prop} {AX : Nat → Prop} (hr : vx_Run p l e R s m args below meth c H locs cells slots mc ms (F0 m pc ls st0) rest (va_Qi post B A1 a) (vx_X px BX AX) free) (hS : va_S A0 H0 H locs) (hA : ∀ q, q < H.size → A1 q → A0 q) (hf : ∀ q, free q → A0 q) (hAX : ∀ q, q < H.size → AX q → A0 q)
    (kx : ∀ (E : String) (ce : Cell) (q9 : Addr) (u : SX) (t : State) (H1 : Heap) (locs1 : List Loc), t.heap = H1 → s.vm.Alike t.vm → px u → BX E u t → H.size ≤ H1.size → (∀ q : Nat, q < H.size → ¬ AX q → H1[q]? = H[q]?) → va_S A0 H0 H1 locs1 → H1[q9]? = some ce → ce.vm = .none → s.vm.findClass E = some ce.cls → vx_W p l e R s m args below meth c H1 locs1 (cells + mc) (slots + ms) Q (F0 m pc ls rest) q9)
    (kk : ∀ (r : Int32) (u : S) (t : State) (H1 : Heap) (locs1 : List Loc), t.heap = H1 → s.vm.Alike t.vm → post r u → B u t → H.size ≤ H1.size → (∀ q : Nat, q < H.size → ¬ A1 q → H1[q]? = H[q]?) → va_S A0 H0 H1 locs1 → W p l e R s m args below meth c H1 locs1 (cells + mc) (slots + ms) Q (F0 m (pc + 3) ls (.int r :: rest))) : W p l e R s m args below meth c H locs cells slots Q (F0 m pc ls st0) := by
  intro T hT X
  rcases hr T hT X with ⟨v, st₀, t, T', L, h0, X', hL, e1, e2, ⟨⟨r, u, hv, hp, hb⟩, hF⟩, st⟩ | ⟨q, st₀, t, T', L, E, ce, h0, X', hL, e1, e2, ⟨u, hp, hb, hF⟩, hce, hcv, hcl, st⟩
  · cases hv
    obtain ⟨k1, k2, k3⟩ := vx_keep h0 e1 hS hA hf hL hF
    obtain ⟨t2, a1, b1⟩ := kk r u t T'.heap (locs ++ L) e1.symm (by rw [← e2]; exact X'.warmed.alike) hp hb k1 k2 k3 T' rfl X'
    exact ⟨t2, st t2 a1, b1⟩
  · obtain ⟨k1, k2, k3⟩ := vx_keep h0 e1 hS hAX hf hL hF
    obtain ⟨t2, a1, b1⟩ := kx E ce q u t T'.heap (locs ++ L) e1.symm (by rw [← e2]; exact X'.warmed.alike) hp hb k1 k2 k3 (by rw [e1]; exact hce) hcv hcl T' rfl X'
    exact ⟨t2, st.trans a1, b1⟩
theorem vx_calll {S SX : Type} {post : Int64 → S → Prop} {px : SX → Prop} {B : S → State → Prop} {BX : String → SX → State → Prop} {AX : Nat → Prop} (hr : vx_Run p l e R s m args below meth c H locs cells slots mc ms (F0 m pc ls st0) rest (va_Ql post B A1 a) (vx_X px BX AX) free) (hS : va_S A0 H0 H locs) (hA : ∀ q, q < H.size → A1 q → A0 q) (hf : ∀ q, free q → A0 q) (hAX : ∀ q, q < H.size → AX q → A0 q)
    (kx : ∀ (E : String) (ce : Cell) (q9 : Addr) (u : SX) (t : State) (H1 : Heap) (locs1 : List Loc), t.heap = H1 → s.vm.Alike t.vm → px u → BX E u t → H.size ≤ H1.size → (∀ q : Nat, q < H.size → ¬ AX q → H1[q]? = H[q]?) → va_S A0 H0 H1 locs1 → H1[q9]? = some ce → ce.vm = .none → s.vm.findClass E = some ce.cls → vx_W p l e R s m args below meth c H1 locs1 (cells + mc) (slots + ms) Q (F0 m pc ls rest) q9)
    (kk : ∀ (r : Int64) (u : S) (t : State) (H1 : Heap) (locs1 : List Loc), t.heap = H1 → s.vm.Alike t.vm → post r u → B u t → H.size ≤ H1.size → (∀ q : Nat, q < H.size → ¬ A1 q → H1[q]? = H[q]?) → va_S A0 H0 H1 locs1 → W p l e R s m args below meth c H1 locs1 (cells + mc) (slots + ms) Q (F0 m (pc + 3) ls (.long r :: rest))) : W p l e R s m args below meth c H locs cells slots Q (F0 m pc ls st0) := by
  intro T hT X
  rcases hr T hT X with ⟨v, st₀, t, T', L, h0, X', hL, e1, e2, ⟨⟨r, u, hv, hp, hb⟩, hF⟩, st⟩ | ⟨q, st₀, t, T', L, E, ce, h0, X', hL, e1, e2, ⟨u, hp, hb, hF⟩, hce, hcv, hcl, st⟩
  · cases hv
    obtain ⟨k1, k2, k3⟩ := vx_keep h0 e1 hS hA hf hL hF
    obtain ⟨t2, a1, b1⟩ := kk r u t T'.heap (locs ++ L) e1.symm (by rw [← e2]; exact X'.warmed.alike) hp hb k1 k2 k3 T' rfl X'
    exact ⟨t2, st t2 a1, b1⟩
  · obtain ⟨k1, k2, k3⟩ := vx_keep h0 e1 hS hAX hf hL hF
    obtain ⟨t2, a1, b1⟩ := kx E ce q u t T'.heap (locs ++ L) e1.symm (by rw [← e2]; exact X'.warmed.alike) hp hb k1 k2 k3 (by rw [e1]; exact hce) hcv hcl T' rfl X'
    exact ⟨t2, st.trans a1, b1⟩
theorem vx_callf {S SX : Type} {post : UInt32 → S → Prop} {px : SX → Prop} {B : S → State → Prop} {BX : String → SX → State → Prop} {AX : Nat → Prop} (hr : vx_Run p l e R s m args below meth c H locs cells slots mc ms (F0 m pc ls st0) rest (va_Qf post B A1 a) (vx_X px BX AX) free) (hS : va_S A0 H0 H locs) (hA : ∀ q, q < H.size → A1 q → A0 q) (hf : ∀ q, free q → A0 q) (hAX : ∀ q, q < H.size → AX q → A0 q)
    (kx : ∀ (E : String) (ce : Cell) (q9 : Addr) (u : SX) (t : State) (H1 : Heap) (locs1 : List Loc), t.heap = H1 → s.vm.Alike t.vm → px u → BX E u t → H.size ≤ H1.size → (∀ q : Nat, q < H.size → ¬ AX q → H1[q]? = H[q]?) → va_S A0 H0 H1 locs1 → H1[q9]? = some ce → ce.vm = .none → s.vm.findClass E = some ce.cls → vx_W p l e R s m args below meth c H1 locs1 (cells + mc) (slots + ms) Q (F0 m pc ls rest) q9)
    (kk : ∀ (r : UInt32) (u : S) (t : State) (H1 : Heap) (locs1 : List Loc), t.heap = H1 → s.vm.Alike t.vm → post r u → B u t → H.size ≤ H1.size → (∀ q : Nat, q < H.size → ¬ A1 q → H1[q]? = H[q]?) → va_S A0 H0 H1 locs1 → W p l e R s m args below meth c H1 locs1 (cells + mc) (slots + ms) Q (F0 m (pc + 3) ls (.float r :: rest))) : W p l e R s m args below meth c H locs cells slots Q (F0 m pc ls st0) := by
  intro T hT X
  rcases hr T hT X with ⟨v, st₀, t, T', L, h0, X', hL, e1, e2, ⟨⟨r, u, hv, hp, hb⟩, hF⟩, st⟩ | ⟨q, st₀, t, T', L, E, ce, h0, X', hL, e1, e2, ⟨u, hp, hb, hF⟩, hce, hcv, hcl, st⟩
  · cases hv
    obtain ⟨k1, k2, k3⟩ := vx_keep h0 e1 hS hA hf hL hF
    obtain ⟨t2, a1, b1⟩ := kk r u t T'.heap (locs ++ L) e1.symm (by rw [← e2]; exact X'.warmed.alike) hp hb k1 k2 k3 T' rfl X'
    exact ⟨t2, st t2 a1, b1⟩
  · obtain ⟨k1, k2, k3⟩ := vx_keep h0 e1 hS hAX hf hL hF
    obtain ⟨t2, a1, b1⟩ := kx E ce q u t T'.heap (locs ++ L) e1.symm (by rw [← e2]; exact X'.warmed.alike) hp hb k1 k2 k3 (by rw [e1]; exact hce) hcv hcl T' rfl X'
    exact ⟨t2, st.trans a1, b1⟩
theorem vx_calld {S SX : Type} {post : UInt64 → S → Prop} {px : SX → Prop} {B : S → State → Prop} {BX : String → SX → State → Prop} {AX : Nat → Prop} (hr : vx_Run p l e R s m args below meth c H locs cells slots mc ms (F0 m pc ls st0) rest (va_Qd post B A1 a) (vx_X px BX AX) free) (hS : va_S A0 H0 H locs) (hA : ∀ q, q < H.size → A1 q → A0 q) (hf : ∀ q, free q → A0 q) (hAX : ∀ q, q < H.size → AX q → A0 q)
    (kx : ∀ (E : String) (ce : Cell) (q9 : Addr) (u : SX) (t : State) (H1 : Heap) (locs1 : List Loc), t.heap = H1 → s.vm.Alike t.vm → px u → BX E u t → H.size ≤ H1.size → (∀ q : Nat, q < H.size → ¬ AX q → H1[q]? = H[q]?) → va_S A0 H0 H1 locs1 → H1[q9]? = some ce → ce.vm = .none → s.vm.findClass E = some ce.cls → vx_W p l e R s m args below meth c H1 locs1 (cells + mc) (slots + ms) Q (F0 m pc ls rest) q9)
    (kk : ∀ (r : UInt64) (u : S) (t : State) (H1 : Heap) (locs1 : List Loc), t.heap = H1 → s.vm.Alike t.vm → post r u → B u t → H.size ≤ H1.size → (∀ q : Nat, q < H.size → ¬ A1 q → H1[q]? = H[q]?) → va_S A0 H0 H1 locs1 → W p l e R s m args below meth c H1 locs1 (cells + mc) (slots + ms) Q (F0 m (pc + 3) ls (.double r :: rest))) : W p l e R s m args below meth c H locs cells slots Q (F0 m pc ls st0) := by
  intro T hT X
  rcases hr T hT X with ⟨v, st₀, t, T', L, h0, X', hL, e1, e2, ⟨⟨r, u, hv, hp, hb⟩, hF⟩, st⟩ | ⟨q, st₀, t, T', L, E, ce, h0, X', hL, e1, e2, ⟨u, hp, hb, hF⟩, hce, hcv, hcl, st⟩
  · cases hv
    obtain ⟨k1, k2, k3⟩ := vx_keep h0 e1 hS hA hf hL hF
    obtain ⟨t2, a1, b1⟩ := kk r u t T'.heap (locs ++ L) e1.symm (by rw [← e2]; exact X'.warmed.alike) hp hb k1 k2 k3 T' rfl X'
    exact ⟨t2, st t2 a1, b1⟩
  · obtain ⟨k1, k2, k3⟩ := vx_keep h0 e1 hS hAX hf hL hF
    obtain ⟨t2, a1, b1⟩ := kx E ce q u t T'.heap (locs ++ L) e1.symm (by rw [← e2]; exact X'.warmed.alike) hp hb k1 k2 k3 (by rw [e1]; exact hce) hcv hcl T' rfl X'
    exact ⟨t2, st.trans a1, b1⟩
theorem vx_callv {S SX : Type} {post : S → Prop} {px : SX → Prop} {B : S → State → Prop} {BX : String → SX → State → Prop} {AX : Nat → Prop} (hr : vx_Run p l e R s m args below meth c H locs cells slots mc ms (F0 m pc ls st0) rest (va_Qv post B A1 a) (vx_X px BX AX) free) (hS : va_S A0 H0 H locs) (hA : ∀ q, q < H.size → A1 q → A0 q) (hf : ∀ q, free q → A0 q) (hAX : ∀ q, q < H.size → AX q → A0 q)
    (kx : ∀ (E : String) (ce : Cell) (q9 : Addr) (u : SX) (t : State) (H1 : Heap) (locs1 : List Loc), t.heap = H1 → s.vm.Alike t.vm → px u → BX E u t → H.size ≤ H1.size → (∀ q : Nat, q < H.size → ¬ AX q → H1[q]? = H[q]?) → va_S A0 H0 H1 locs1 → H1[q9]? = some ce → ce.vm = .none → s.vm.findClass E = some ce.cls → vx_W p l e R s m args below meth c H1 locs1 (cells + mc) (slots + ms) Q (F0 m pc ls rest) q9)
    (kk : ∀ (u : S) (t : State) (H1 : Heap) (locs1 : List Loc), t.heap = H1 → s.vm.Alike t.vm → post u → B u t → H.size ≤ H1.size → (∀ q : Nat, q < H.size → ¬ A1 q → H1[q]? = H[q]?) → va_S A0 H0 H1 locs1 → W p l e R s m args below meth c H1 locs1 (cells + mc) (slots + ms) Q (F0 m (pc + 3) ls (rest))) : W p l e R s m args below meth c H locs cells slots Q (F0 m pc ls st0) := by
  intro T hT X
  rcases hr T hT X with ⟨v, st₀, t, T', L, h0, X', hL, e1, e2, ⟨⟨u, hv, hp, hb⟩, hF⟩, st⟩ | ⟨q, st₀, t, T', L, E, ce, h0, X', hL, e1, e2, ⟨u, hp, hb, hF⟩, hce, hcv, hcl, st⟩
  · cases hv
    obtain ⟨k1, k2, k3⟩ := vx_keep h0 e1 hS hA hf hL hF
    obtain ⟨t2, a1, b1⟩ := kk u t T'.heap (locs ++ L) e1.symm (by rw [← e2]; exact X'.warmed.alike) hp hb k1 k2 k3 T' rfl X'
    exact ⟨t2, st t2 a1, b1⟩
  · obtain ⟨k1, k2, k3⟩ := vx_keep h0 e1 hS hAX hf hL hF
    obtain ⟨t2, a1, b1⟩ := kx E ce q u t T'.heap (locs ++ L) e1.symm (by rw [← e2]; exact X'.warmed.alike) hp hb k1 k2 k3 (by rw [e1]; exact hce) hcv hcl T' rfl X'
    exact ⟨t2, st.trans a1, b1⟩
/-- caught by the row x of this method's table; the rows ahead don't take it -/
theorem vx_catch {own name : String} {E : String} {ce : Cell} {q : Addr} (hown : s.vm.findClass own = some m.cls) (pre : List ExceptionTableEntry) (x : ExceptionTableEntry) (suf : List ExceptionTableEntry) (hsplit : c.exceptionTable.toList = pre ++ x :: suf)
    (hpass : ∀ z ∈ pre, covers z pc = false ∨ (z.catchType ≠ 0 ∧ ∃ nm : String, (Cond.classLink own z.catchType nm).before args s = true ∧ va_Nc E nm s)) (hx : covers x pc = true) (h0 : x.catchType ≠ 0)
    (hlink : (Cond.classLink own x.catchType name).before args s = true) (hcast : (Cond.castable E name).before args s = true) (hcell : H[q]? = some ce) (hv : ce.vm = .none) (hcl : s.vm.findClass E = some ce.cls)
    (kk : W p l e R s m args below meth c H locs cells slots Q (F0 m x.handlerPc ls [.ref q])) : vx_W p l e R s m args below meth c H locs cells slots Q (F0 m pc ls rest) q := by
  intro T hT X
  have hpl : e.platform.magicAccessors = ({} : Platform).magicAccessors := by rw [X.admits.platform]
  obtain ⟨c3, c4, hc3, hc4, hasg⟩ := Cond.castable_spec hcast
  cases Option.some.inj (hc3.symm.trans hcl)
  obtain ⟨c5, hc5, hcl5⟩ := Cond.classLink_spec hown hlink e.platform hpl
  cases Option.some.inj (hc4.symm.trans hc5)
  obtain ⟨vm', X', st⟩ := X.thenCaughtThrough q (g := F0 m pc ls rest) rfl (Steps.refl _) (by rw [hT]; exact hcell) (by rw [hv]; rfl) (by obtain ⟨k9, h9, -⟩ := Vm.findClass_spec hcl; exact ⟨k9, h9⟩) pre x suf hsplit
    (fun z hz => by
      rcases hpass z hz with h | ⟨hz0, nm, hl1, hn1⟩
      · exact Or.inl h
      · obtain ⟨c6, hc6, hcl6⟩ := Cond.classLink_spec hown hl1 e.platform hpl
        obtain ⟨a8, b8, h1, h2, h3⟩ := hn1
        cases Option.some.inj (h1.symm.trans hcl)
        cases Option.some.inj (h2.symm.trans hc6)
        exact Or.inr ⟨hz0, _, hcl6, h3⟩) hx (Or.inr ⟨h0, c4, hcl5, hasg⟩)
  obtain ⟨t, a1, b1⟩ := kk (T.setVm vm') hT X'
  exact ⟨t, st.trans a1, b1⟩
end Rows
section Ends
variable {p : Program} {l : Launch} {e : Env} {R : Room} {s : State} {m : MethodId} {args : Array Value} {below : List Frame} {meth : Method} {c : Code} {H : Heap} {locs : List Loc} {cells slots : Nat} {Q : State → Prop}
variable {mc ms : Nat} {free : Addr → Prop} {A0 A1 : Nat → Prop} {H0 : Heap} {a : Array Value} {ls : Array Slot} {st0 rest : List Value}
variable {Qc : Array Value → State → Outcome → State → Prop} {XC : String → State → State → Prop}
/-- what a body that may throw owes at its end -/
def vx_MQ (below : List Frame) (Qc : Array Value → State → Outcome → State → Prop) (XC : String → State → State → Prop) (a : Array Value) (s : State) (mc ms : Nat) (free : Addr → Prop) : State → Prop := fun t =>
  ∃ o, t.status = .running ∧ Ended t below o ∧ vx_Q Qc XC mc ms free a s o t
theorem vx_ret {g : JFrame} {mc ms : Nat} (k : W p l e R s m args below meth c H locs cells slots (MQ below Qc args s mc ms free) g) : W p l e R s m args below meth c H locs cells slots (vx_MQ below Qc XC args s mc ms free) g := by
  intro T hT X
  obtain ⟨t, a1, o, b1, b2, b3, b4⟩ := k T hT X
  exact ⟨t, a1, o, b1, b2, Or.inl ⟨b3, b4⟩⟩
/-- not caught here: it goes on to the caller -/
theorem vx_widen {g : JFrame} {q : Addr} {k n : Nat} (h1 : cells ≤ k) (h2 : slots ≤ n) (kk : vx_W p l e R s m args below meth c H locs k n Q g q) : vx_W p l e R s m args below meth c H locs cells slots Q g q := fun T hT X => kk T hT (stand_widen X h1 h2)
theorem vx_out {pc : Nat} {E : String} {ce : Cell} {q : Addr} {mc ms : Nat} (hout : ∀ x ∈ c.exceptionTable.toList, covers x pc = false) (hlocks : meth.locks = false) (hcell : H[q]? = some ce) (hv : ce.vm = .none) (hcl : s.vm.findClass E = some ce.cls)
    (hx : ∀ t : State, t.heap = H → s.vm.Alike t.vm → XC E s t) (hf : ∀ z ∈ locs, free z.base) (hc : cells ≤ mc) (hs : slots ≤ ms) :
    vx_W p l e R s m args below meth c H locs cells slots (vx_MQ below Qc XC args s mc ms free) (F0 m pc ls rest) q := by
  intro T hT X
  obtain ⟨st1, hrun, hend, hW, hsm⟩ := X.leaveThrown q (g := F0 m pc ls rest) rfl rfl rfl hout hlocks
  have hcell9 : (T.setFrames (.throwing q :: below)).heap[q]? = some ce := by
    show T.heap[q]? = some ce
    rw [hT]; exact hcell
  exact ⟨_, st1, .threw q, hrun, hend, Or.inr ⟨q, rfl, E, ce, locs, hx _ hT hW.alike, hcell9, hv, hcl, hW, hsm.mono hc hs, hf⟩⟩
theorem vx_frame {U : State} {k n : Nat} (h : s.sameButNew ({ U with vm := s.vm } : State) locs k n) : s.heap.size ≤ U.heap.size ∧ ∀ q : Nat, q < s.heap.size → (∀ z ∈ locs, z.base ≠ q) → U.heap[q]? = s.heap[q]? := by
  obtain ⟨-, h2, -, -, -, h6⟩ := h
  refine ⟨h2, fun q hq hz => ?_⟩
  obtain ⟨c9, e1, e2, e3, e4⟩ := h6 q _ (Array.getElem?_eq_getElem hq)
  have hs : c9.slots = (s.heap[q]).slots := Array.ext_getElem? fun i => e4 i fun hm => hz _ hm rfl
  have h9 : c9 = s.heap[q] := by
    rw [hs] at e2
    exact e2
  have e5 : U.heap[q]? = some c9 := e1
  rw [e5, h9, Array.getElem?_eq_getElem hq]
/-- the words of a throw but the four that speak of the heap -/
def vx_no (w : Cond) : Bool := decide (w ≠ .isRef (.static Bundle.tN "UNASSIGNED_STACK" Bundle.steD)) && decide (w ≠ .isRef (.static Bundle.tN "SUPPRESSED_SENTINEL" Bundle.listD)) && decide (w ≠ .laysStatic Bundle.tN "UNASSIGNED_STACK" Bundle.steD) && decide (w ≠ .laysStatic Bundle.tN "SUPPRESSED_SENTINEL" Bundle.listD)
def vx_at0 (own : String) (ic : Nat) (X : String) (names : List String) : List Cond := (Bundle.ownAtoms0 own ic X names).filter vx_no
def vx_atS (own : String) (ic : Nat) (X : String) (names : List String) : List Cond := (Bundle.ownAtoms own ic X names).filter vx_no
/-- a word that the tables alone decide, or a good one -/
def vx_ot (w : Cond) : Bool := w.onTables || goodWord w
theorem vx_ot_at {args a' : Array Value} {s U : State} {w : Cond} (hW : s.WarmedH U.vm) (hvm : s.vm = U.vm) (hg : vx_ot w = true) (h : w.before args s = true) : w.before a' U = true := by
  simp only [vx_ot, Bool.or_eq_true] at hg
  rcases hg with hg | hg
  · exact va_tabs hg hvm h
  · exact word_at hW (good_of_word hg) h
/-- a list's words: the good ones out of the method's own list, the others by premises of their own -/
theorem vx_hat {args : Array Value} {s : State} {L B : List Cond} (h1 : ∀ w ∈ L.filter goodWord, w.before args s = true) (h2 : ∀ w ∈ L.filter (fun w => !goodWord w), w ∈ B) (h3 : ∀ w ∈ B, w.before args s = true) : ∀ w ∈ L, w.before args s = true := by
  intro w hw
  by_cases g : goodWord w = true
  · exact h1 w (List.mem_filter.mpr ⟨hw, g⟩)
  · refine h3 w (h2 w (List.mem_filter.mpr ⟨hw, ?_⟩))
    show (!goodWord w) = true
    cases hgw : goodWord w
    · rfl
    · exact absurd hgw g
theorem vx_c {args : Array Value} {s : State} {w : Cond} {B : List Cond} (h : w.before args s = true) (t : ∀ w ∈ B, w.before args s = true) : ∀ w' ∈ w :: B, w'.before args s = true := fun w' h' => (List.mem_cons.mp h').elim (fun e => by rw [e]; exact h) (t w')
theorem vx_n {args : Array Value} {s : State} : ∀ w ∈ ([] : List Cond), w.before args s = true := fun _ h => nomatch h
theorem vx_own {args : Array Value} {s : State} {L : List Cond} (h1 : ∀ w ∈ L.filter vx_no, w.before args s = true)
    (hU : (Cond.isRef (.static Bundle.tN "UNASSIGNED_STACK" Bundle.steD)).before args s = true) (hN : (Cond.isRef (.static Bundle.tN "SUPPRESSED_SENTINEL" Bundle.listD)).before args s = true)
    (lU : (Cond.laysStatic Bundle.tN "UNASSIGNED_STACK" Bundle.steD).before args s = true) (lN : (Cond.laysStatic Bundle.tN "SUPPRESSED_SENTINEL" Bundle.listD).before args s = true) : ∀ w ∈ L, w.before args s = true := by
  intro w hw
  by_cases e1 : w = .isRef (.static Bundle.tN "UNASSIGNED_STACK" Bundle.steD)
  · rw [e1]; exact hU
  · by_cases e2 : w = .isRef (.static Bundle.tN "SUPPRESSED_SENTINEL" Bundle.listD)
    · rw [e2]; exact hN
    · by_cases e3 : w = .laysStatic Bundle.tN "UNASSIGNED_STACK" Bundle.steD
      · rw [e3]; exact lU
      · by_cases e4 : w = .laysStatic Bundle.tN "SUPPRESSED_SENTINEL" Bundle.listD
        · rw [e4]; exact lN
        · exact h1 w (List.mem_filter.mpr ⟨hw, by unfold vx_no; rw [decide_eq_true e1, decide_eq_true e2, decide_eq_true e3, decide_eq_true e4]; rfl⟩)
/-- where a static field lies, its class's statics cell in H -/
def vx_L (C n d : String) (A : Nat → Prop) (U : State) (H : Heap) : Prop := ∃ (c : ClassId) (k : Class) (i : Nat) (f : Field) (a : Nat) (cell : Cell), U.vm.findClass C = some c ∧ U.fieldFound? C n d = some (c, k, i, f) ∧ f.isStatic = true ∧ k.statics = some a ∧ H[a]? = some cell ∧ cell.vm.isStatics = true ∧ cell.cls = c ∧ f.slot < cell.slots.size ∧ k.staticTypes[f.slot]? = some f.type ∧ ¬ A a
theorem vx_L.moved {C n d : String} {A : Nat → Prop} {u U : State} {H : Heap} (hvm : u.vm.Alike U.vm) (h : vx_L C n d A u H) : vx_L C n d A U H := by
  obtain ⟨c, k, i, f, a, cell, h1, h2, h3, h4, h5, h6, h7, h8, h9, h10⟩ := h
  obtain ⟨k', hi', he⟩ := State.fieldFound?_setVm hvm h2
  exact ⟨c, k', i, f, a, cell, by rw [hvm.findClass]; exact h1, hi', h3, by rw [he]; exact h4, h5, h6, h7, h8, by rw [he]; exact h9, h10⟩
theorem vx_L.kept {C n d : String} {A : Nat → Prop} {U : State} {H H1 : Heap} (h : vx_L C n d A U H) (hq : ∀ a : Nat, a < H.size → ¬ A a → H1[a]? = H[a]?) : vx_L C n d A U H1 := by
  obtain ⟨c, k, i, f, a, cell, h1, h2, h3, h4, h5, h6, h7, h8, h9, h10⟩ := h
  exact ⟨c, k, i, f, a, cell, h1, h2, h3, h4, by rw [hq a (Array.getElem?_eq_some_iff.mp h5).1 h10]; exact h5, h6, h7, h8, h9, h10⟩
theorem vx_L.narrow {C n d : String} {A B : Nat → Prop} {U : State} {H : Heap} (h : vx_L C n d A U H) (hAB : ∀ q, B q → A q) : vx_L C n d B U H := by
  obtain ⟨c, k, i, f, a, cell, h1, h2, h3, h4, h5, h6, h7, h8, h9, h10⟩ := h
  exact ⟨c, k, i, f, a, cell, h1, h2, h3, h4, h5, h6, h7, h8, h9, fun z => h10 (hAB _ z)⟩
theorem vx_L.word {C n d : String} {A : Nat → Prop} {s : State} {args : Array Value} (h : vx_L C n d A s s.heap) : (Cond.laysStatic C n d).before args s = true := by
  obtain ⟨c, k, i, f, a, cell, h1, h2, h3, h4, h5, h6, h7, h8, h9, -⟩ := h
  show (Cond.laysStatic C n d).holds args s none s [] = true
  exact Cond.laysStatic_of h1 h2 h3 h4 h5 h6 h7 h8 h9
/-- .. and what it holds: null or some reference -/
def vx_Zq (C n d : String) (A : Nat → Prop) (U : State) (H : Heap) : Prop := va_Zq C n d A U H ∧ vx_L C n d A U H
theorem vx_Zq.moved {C n d : String} {A : Nat → Prop} {u U : State} {H : Heap} (hvm : u.vm.Alike U.vm) (h : vx_Zq C n d A u H) : vx_Zq C n d A U H := ⟨va_Zq.moved hvm h.1, vx_L.moved hvm h.2⟩
theorem vx_Zq.kept {C n d : String} {A : Nat → Prop} {U : State} {H H1 : Heap} (h : vx_Zq C n d A U H) (hq : ∀ a : Nat, a < H.size → ¬ A a → H1[a]? = H[a]?) : vx_Zq C n d A U H1 := ⟨va_Zq.kept h.1 hq, vx_L.kept h.2 hq⟩
theorem vx_Zq.narrow {C n d : String} {A B : Nat → Prop} {U : State} {H : Heap} (h : vx_Zq C n d A U H) (hAB : ∀ q, B q → A q) : vx_Zq C n d B U H := ⟨va_Zq.narrow h.1 hAB, vx_L.narrow h.2 hAB⟩
theorem vx_Zqof {args : Array Value} {s : State} {C n d : String} {A : Nat → Prop} (hl : (Cond.laysStatic C n d).before args s = true) (hini : (Cond.initialized C).before args s = true) (h : (Cond.isRef (.static C n d)).before args s = true) (hA : ∀ a : Nat, a < s.heap.size → ¬ A a) : vx_Zq C n d A s s.heap := by
  refine ⟨va_Zqof hl hini h hA, ?_⟩
  obtain ⟨c, k, i, f, a, cell, h1, h2, h3, h4, h5, h6, h7, h8, h9⟩ := Cond.laysStatic_spec hl
  exact ⟨c, k, i, f, a, cell, h1, h2, h3, h4, h5, h6, h7, h8, h9, hA a (Array.getElem?_eq_some_iff.mp h5).1⟩
theorem vx_isRef {C n d : String} {v : Value} {A : Nat → Prop} {s : State} {args : Array Value} (h : va_Z C n d v A s s.heap) (hv : v.isRef = true) : (Cond.isRef (.static C n d)).before args s = true := by
  obtain ⟨cf, kf, fi, f, a, cell, h1, h2, h3, h4, h5, h6, h7, -⟩ := h
  have he : (Term.static C n d).eval args s none [] s = some v := by
    simp [Term.eval, State.fieldNamed?, h1, h2, h4, h5, h6, h7]
  simp only [Cond.before, Cond.holds, Cond.value, he]
  cases v <;> simp_all [Value.isRef]
theorem vx_isRefq {C n d : String} {A : Nat → Prop} {s : State} {args : Array Value} (h : va_Zq C n d A s s.heap) : (Cond.isRef (.static C n d)).before args s = true := by
  rcases h with h | ⟨t, h⟩
  · exact vx_isRef h rfl
  · exact vx_isRef h rfl
/-- the same frame, seen from here: as if the method were called anew in this heap -/
theorem vx_rebase {T : State} (X : Stand p l e R s m args below meth c T locs cells slots) {R' : Room} (hf : R'.frames ≤ R.frames) (hl : R'.locals ≤ R.locals) (hc : cells + R'.cells ≤ R.cells) (hs : slots + R'.slots ≤ R.slots) :
    Stand p l e R' ((T.setVm s.vm).setFrames (.invoking m args :: below)) m args below meth c T [] 0 0 := by
  have htop : (T.setVm s.vm).topJava?.isSome := X.here.top
  have hF : ((T.setVm s.vm).setFrames (.invoking m args :: below)).frames = .invoking m args :: below := State.frames_setFrames _ (State.cur_lt_of_top htop)
  obtain ⟨g₀, hg0⟩ := Option.isSome_iff_exists.mp htop
  obtain ⟨r, hr⟩ := State.topJava?_eq_some.mp hg0
  have hl9 : e.platform.stackLimits (T.setVm s.vm).me = e.platform.stackLimits s.me := X.limits
  have hb9 : (T.setVm s.vm).me.stackBytes = s.me.stackBytes := X.bytes
  refine ⟨X.admits, X.cas, X.clock, hF, ?_, X.hears, X.method, X.code, X.here, X.tail, X.warmed, ?_, ?_, ?_⟩
  · have h := X.room
    have hU : ((T.setVm s.vm).setFrames (.invoking m args :: below)).localsInUse = s.localsInUse := by
      rw [State.localsInUse_invoking hF (meth := meth) (c := c) X.method X.code, State.localsInUse_invoking X.frames X.method X.code]
    simp only [State.hasRoom, Bool.and_eq_true, decide_eq_true_eq] at h ⊢
    obtain ⟨⟨⟨⟨h1, h2, h3, h4, h5, h6⟩, h7⟩, h8⟩, h9⟩ := h
    rw [X.frames, List.length_cons] at h2 h3
    have q1 := X.heapSize
    have q2 := X.used
    simp only [hF, hU, List.length_cons, State.stackLimits_setFrames, State.stackBytes_setFrames, hl9, hb9]
    refine ⟨⟨⟨⟨by omega, by omega, by omega, by omega, by omega, h6⟩, ?_⟩, ?_⟩, X.book⟩
    · show T.heap.size + R'.cells ≤ e.platform.maxCells
      omega
    · show T.slotsUsed + R'.slots ≤ e.platform.maxSlots
      omega
  · rw [State.stackLimits_setFrames]; rfl
  · rw [State.stackBytes_setFrames]; rfl
  · refine ⟨?_, Nat.le_refl _, Nat.le_refl _, ?_, ?_, fun a c9 h9 => ⟨c9, h9, rfl, rfl, fun _ _ => rfl⟩⟩
    · obtain ⟨t, ht, -⟩ := State.frames_cons hr
      show T.setVm s.vm = { ((T.setVm s.vm).setFrames (.invoking m args :: below)).setFrames (T.setVm s.vm).frames with heap := T.heap, slotsUsed := T.slotsUsed }
      rw [State.setFrames_setFrames, State.setFrames_self ht]
      rfl
    · show T.slotsUsed = T.slotsUsed + ((T.heap.toList.drop T.heap.size).map (·.slots.size)).sum
      rw [List.drop_eq_nil_of_le (Nat.le_of_eq Array.length_toList)]
      rfl
    · show ((T.heap.toList.drop T.heap.size).map (·.slots.size)).sum ≤ 0
      rw [List.drop_eq_nil_of_le (Nat.le_of_eq Array.length_toList)]
      exact Nat.le_refl _
/-- 'throw new E()': new; dup; invokespecial; athrow -/
theorem vx_throw0 {cc : ByteArray} {pc : Nat} (hexec : p.tables.exec = Jvm.exec) (hb : c.code = cc) (hl : l.stackTraces = false) {own cls : String} {names : List String} {ik ic mc ms : Nat} {A : Nat → Prop}
    (hown : s.vm.findClass own = some m.cls) (hcls : Bundle.fit cls = true) (hnames : ∀ n ∈ names, Bundle.fit n = true)
    (hk : (Cond.classLink own ik cls).before args s = true) (hini : (Cond.initialized cls).before args s = true) (hat : ∀ w ∈ vx_at0 own ic cls names, w.before args s = true)
    (hgood : ∀ w ∈ Cond.classLink own ik cls :: Cond.initialized cls :: vx_at0 own ic cls names, vx_ot w = true)
    (hU : vx_Zq Bundle.tN "UNASSIGNED_STACK" Bundle.steD A s s.heap) (hN : vx_Zq Bundle.tN "SUPPRESSED_SENTINEL" Bundle.listD A s s.heap) (hS : va_S A s.heap H locs) (hsize : ls.size = c.maxLocals)
    (d0 : decode cc pc = .ok (.new ik, 3)) (d3 : decode cc (pc + 3) = .ok (.dup, 1)) (d4 : decode cc (pc + 4) = .ok (.invokespecial ic, 3)) (d7 : decode cc (pc + 7) = .ok (.athrow, 1))
    (hout : ∀ x ∈ c.exceptionTable.toList, covers x (pc + 7) = false)
    (hRframes : names.length + 3 < R.frames) (hRlocals : (rest.map fun v => v.category).sum + (13 * (names.length + 1) + 42) ≤ R.locals) (hRcells : cells + 1 ≤ R.cells) (hRslots : slots + 6 ≤ R.slots) (hlocks : meth.locks = false)
    (hx : ∀ t : State, s.vm.Alike t.vm → H.size ≤ t.heap.size → (∀ q : Nat, q < H.size → t.heap[q]? = H[q]?) → XC cls s t)
    (hf : ∀ z ∈ locs, free z.base) (hc : cells + 1 ≤ mc) (hs : slots + 6 ≤ ms) :
    W p l e R s m args below meth c H locs cells slots (vx_MQ below Qc XC args s mc ms free) (F0 m pc ls rest) := by
  intro T hT X
  have htr : e.platform.stackTraces = false := (show e.platform.stackTraces = l.stackTraces by rw [X.admits.platform]).trans hl
  have Y := vx_rebase X (R' := { frames := R.frames, locals := R.locals, cells := 1, slots := 6 }) (Nat.le_refl _) (Nat.le_refl _) hRcells hRslots
  obtain ⟨s', hA⟩ : ∃ z, z = (T.setVm s.vm).setFrames (.invoking m args :: below) := ⟨_, rfl⟩
  rw [← hA] at Y
  have hvm : s'.vm = s.vm := by rw [hA]; rfl
  have hhp : s'.heap = H := by rw [hA]; exact hT
  have hW0 : s.WarmedH s'.vm := by rw [hvm]; exact State.WarmedH.refl s
  have hat' : ∀ w ∈ vx_at0 own ic cls names, w.before args s' = true := fun w hw => vx_ot_at hW0 hvm.symm (hgood w (List.mem_cons_of_mem _ (List.mem_cons_of_mem _ hw))) (hat w hw)
  have hk' : (Cond.classLink own ik cls).before args s' = true := vx_ot_at hW0 hvm.symm (hgood _ List.mem_cons_self) hk
  have hini' : (Cond.initialized cls).before args s' = true := vx_ot_at hW0 hvm.symm (hgood _ (List.mem_cons_of_mem _ List.mem_cons_self)) hini
  have hU' : vx_Zq Bundle.tN "UNASSIGNED_STACK" Bundle.steD A s' s'.heap := by rw [hhp]; exact vx_Zq.moved hW0.alike (hU.kept hS.2.1)
  have hN' : vx_Zq Bundle.tN "SUPPRESSED_SENTINEL" Bundle.listD A s' s'.heap := by rw [hhp]; exact vx_Zq.moved hW0.alike (hN.kept hS.2.1)
  have h : ∀ w ∈ Bundle.ownAtoms0 own ic cls names, w.before args s' = true := vx_own hat' (vx_isRefq hU'.1) (vx_isRefq hN'.1) hU'.2.word hN'.2.word
  have hown' : s'.vm.findClass own = some m.cls := by rw [hvm]; exact hown
  have hins : (Cond.instantiable cls 6).before args s' = true := h _ (by simp [Bundle.ownAtoms0])
  obtain ⟨vm₁, cX, kX, hfX, hkX, -, -, X₁, st1⟩ := Y.newCold hexec (own := own) (C := cls) (index := ik) (n := 6) hown' hk' hins hini'
    (g := F0 m pc ls rest) rfl (by rw [hb]; exact d0) (Nat.le_refl _) (Nat.le_refl _)
  generalize hT1 : (T.setVm vm₁).pushCell { cls := cX, slots := kX.instanceTypes.map defaultValue, vm := .none } = T1 at X₁ st1
  have hcat : (Value.ref T.heap.size).category = 1 := rfl
  have hcellA : T1.heap[T.heap.size]? = some (freshCell cX kX) := by rw [← hT1]; exact State.heap_pushCell_size _ _
  have d3' : decode c.code (pc + 3) = .ok (.dup, 1) := by rw [hb]; exact d3
  obtain ⟨U, hsteps, hrun, hend, hW, hsame, ce, hce, hO⟩ := X₁.ctorThrow0 hexec htr (own := own) (cls := cls) (names := names) (ic := ic) hown' hcls hnames h (fun x hx => nomatch hx) hfX hkX hcellA (by rw [hhp, hT]; exact Nat.le_refl _)
    (g := { method := m, pc := pc + 4, locals := ls, stack := .ref T.heap.size :: .ref T.heap.size :: rest, locked := none }) rfl hsize rfl rfl (rest := rest) rfl
    (by rw [hb]; exact d4) (by rw [hb]; exact d7) hout hRframes (by simp only [List.map_cons, List.sum_cons, hcat]; omega) hlocks
  obtain ⟨f1, f2⟩ := vx_frame hsame
  rw [hhp] at f1 f2
  have hWs : s.WarmedH U.vm := State.WarmedH.trans hW0 hW
  have hcl : s.vm.findClass cls = some ce.cls := by
    have h9 := hO.cls
    rw [hvm] at h9
    exact h9
  have hall : s.sameButNew ({ U with vm := s.vm } : State) locs mc ms := by
    subst hA
    obtain ⟨e1, e2⟩ := hsame
    rw [State.setFrames_setFrames] at e1
    have h2 : (T.setVm s.vm).sameButNew ({ U with vm := s.vm } : State) [] (0 + 1) (0 + 6) := ⟨e1, e2⟩
    have h3 := X.same.trans h2
    rw [List.append_nil] at h3
    exact h3.mono hc hs
  refine ⟨U, ?_, .threw T.heap.size, hrun, hend, Or.inr ⟨T.heap.size, rfl, cls, ce, locs, hx U hWs.alike f1 (fun q hq => f2 q hq (fun z hz => nomatch hz)), hce, hO.vm, hcl, hWs, hall, hf⟩⟩
  refine st1 _ ?_
  show Steps p.tables e below (T1.setTop { method := m, pc := pc + 3, locals := ls, stack := .ref T.heap.size :: rest, locked := none }) _
  jvm_step X₁.here [X₁.here.top, hexec, d3', Value.category]
  exact hsteps
/-- 'throw new E("text")': new; dup; ldc; invokespecial; athrow -/
theorem vx_throwS {cc : ByteArray} {pc : Nat} (hexec : p.tables.exec = Jvm.exec) (hb : c.code = cc) (hl : l.stackTraces = false) {own cls text : String} {names : List String} {ik is ic mc ms sa : Nat} {A : Nat → Prop}
    (hown : s.vm.findClass own = some m.cls) (hcls : Bundle.fit cls = true) (hnames : ∀ n ∈ names, Bundle.fit n = true)
    (hk : (Cond.classLink own ik cls).before args s = true) (hini : (Cond.initialized cls).before args s = true) (hstr : vk_R own is text sa s) (hat : ∀ w ∈ vx_atS own ic cls names, w.before args s = true)
    (hgood : ∀ w ∈ Cond.classLink own ik cls :: Cond.initialized cls :: vx_atS own ic cls names, vx_ot w = true)
    (hU : vx_Zq Bundle.tN "UNASSIGNED_STACK" Bundle.steD A s s.heap) (hN : vx_Zq Bundle.tN "SUPPRESSED_SENTINEL" Bundle.listD A s s.heap) (hS : va_S A s.heap H locs) (hsize : ls.size = c.maxLocals)
    (d0 : decode cc pc = .ok (.new ik, 3)) (d3 : decode cc (pc + 3) = .ok (.dup, 1)) (d4 : decode cc (pc + 4) = .ok (.ldc is, 2)) (d6 : decode cc (pc + 6) = .ok (.invokespecial ic, 3)) (d9 : decode cc (pc + 9) = .ok (.athrow, 1))
    (hout : ∀ x ∈ c.exceptionTable.toList, covers x (pc + 9) = false)
    (hRframes : names.length + 3 < R.frames) (hRlocals : (rest.map fun v => v.category).sum + (13 * (names.length + 1) + 43) ≤ R.locals) (hRcells : cells + 1 ≤ R.cells) (hRslots : slots + 6 ≤ R.slots) (hlocks : meth.locks = false)
    (hx : ∀ t : State, s.vm.Alike t.vm → H.size ≤ t.heap.size → (∀ q : Nat, q < H.size → t.heap[q]? = H[q]?) → XC cls s t)
    (hf : ∀ z ∈ locs, free z.base) (hc : cells + 1 ≤ mc) (hs : slots + 6 ≤ ms) :
    W p l e R s m args below meth c H locs cells slots (vx_MQ below Qc XC args s mc ms free) (F0 m pc ls rest) := by
  intro T hT X
  have htr : e.platform.stackTraces = false := (show e.platform.stackTraces = l.stackTraces by rw [X.admits.platform]).trans hl
  have Y := vx_rebase X (R' := { frames := R.frames, locals := R.locals, cells := 1, slots := 6 }) (Nat.le_refl _) (Nat.le_refl _) hRcells hRslots
  obtain ⟨s', hA⟩ : ∃ z, z = (T.setVm s.vm).setFrames (.invoking m args :: below) := ⟨_, rfl⟩
  rw [← hA] at Y
  have hvm : s'.vm = s.vm := by rw [hA]; rfl
  have hhp : s'.heap = H := by rw [hA]; exact hT
  have hW0 : s.WarmedH s'.vm := by rw [hvm]; exact State.WarmedH.refl s
  have hat' : ∀ w ∈ vx_atS own ic cls names, w.before args s' = true := fun w hw => vx_ot_at hW0 hvm.symm (hgood w (List.mem_cons_of_mem _ (List.mem_cons_of_mem _ hw))) (hat w hw)
  have hk' : (Cond.classLink own ik cls).before args s' = true := vx_ot_at hW0 hvm.symm (hgood _ List.mem_cons_self) hk
  have hini' : (Cond.initialized cls).before args s' = true := vx_ot_at hW0 hvm.symm (hgood _ (List.mem_cons_of_mem _ List.mem_cons_self)) hini
  have hU' : vx_Zq Bundle.tN "UNASSIGNED_STACK" Bundle.steD A s' s'.heap := by rw [hhp]; exact vx_Zq.moved hW0.alike (hU.kept hS.2.1)
  have hN' : vx_Zq Bundle.tN "SUPPRESSED_SENTINEL" Bundle.listD A s' s'.heap := by rw [hhp]; exact vx_Zq.moved hW0.alike (hN.kept hS.2.1)
  have h : ∀ w ∈ Bundle.ownAtoms own ic cls names, w.before args s' = true := vx_own hat' (vx_isRefq hU'.1) (vx_isRefq hN'.1) hU'.2.word hN'.2.word
  have hown' : s'.vm.findClass own = some m.cls := by rw [hvm]; exact hown
  have hins : (Cond.instantiable cls 6).before args s' = true := h _ (by simp [Bundle.ownAtoms])
  obtain ⟨vm₁, cX, kX, hfX, hkX, -, -, X₁, st1⟩ := Y.newCold hexec (own := own) (C := cls) (index := ik) (n := 6) hown' hk' hins hini'
    (g := F0 m pc ls rest) rfl (by rw [hb]; exact d0) (Nat.le_refl _) (Nat.le_refl _)
  generalize hT1 : (T.setVm vm₁).pushCell { cls := cX, slots := kX.instanceTypes.map defaultValue, vm := .none } = T1 at X₁ st1
  have hcat : (Value.ref T.heap.size).category = 1 := rfl
  have hcellA : T1.heap[T.heap.size]? = some (freshCell cX kX) := by rw [← hT1]; exact State.heap_pushCell_size _ _
  have d3' : decode c.code (pc + 3) = .ok (.dup, 1) := by rw [hb]; exact d3
  have d4' : decode c.code (pc + 4) = .ok (.ldc is, 2) := by rw [hb]; exact d4
  have hstr' : vk_R own is text sa s' := vk_R.warm hW0 hstr
  obtain ⟨U, hsteps, hrun, hend, hW, hsame, ce, hce, hO⟩ := X₁.ctorThrowS hexec htr (own := own) (cls := cls) (names := names) (ic := ic) hown' hcls hnames h (fun x hx => nomatch hx) hfX hkX hcellA (by rw [hhp, hT]; exact Nat.le_refl _) (msg := .ref sa) rfl
    (g := { method := m, pc := pc + 6, locals := ls, stack := .ref sa :: .ref T.heap.size :: .ref T.heap.size :: rest, locked := none }) rfl hsize rfl rfl (rest := rest) rfl
    (by rw [hb]; exact d6) (by rw [hb]; exact d9) hout hRframes (by simp only [List.map_cons, List.sum_cons, hcat]; omega) hlocks
  obtain ⟨f1, f2⟩ := vx_frame hsame
  rw [hhp] at f1 f2
  have hWs : s.WarmedH U.vm := State.WarmedH.trans hW0 hW
  have hcl : s.vm.findClass cls = some ce.cls := by
    have h9 := hO.cls
    rw [hvm] at h9
    exact h9
  have hall : s.sameButNew ({ U with vm := s.vm } : State) locs mc ms := by
    subst hA
    obtain ⟨e1, e2⟩ := hsame
    rw [State.setFrames_setFrames] at e1
    have h2 : (T.setVm s.vm).sameButNew ({ U with vm := s.vm } : State) [] (0 + 1) (0 + 6) := ⟨e1, e2⟩
    have h3 := X.same.trans h2
    rw [List.append_nil] at h3
    exact h3.mono hc hs
  refine ⟨U, ?_, .threw T.heap.size, hrun, hend, Or.inr ⟨T.heap.size, rfl, cls, ce, locs, hx U hWs.alike f1 (fun q hq => f2 q hq (fun z hz => nomatch hz)), hce, hO.vm, hcl, hWs, hall, hf⟩⟩
  refine st1 _ ?_
  show Steps p.tables e below (T1.setTop { method := m, pc := pc + 3, locals := ls, stack := .ref T.heap.size :: rest, locked := none }) _
  jvm_step X₁.here [X₁.here.top, hexec, d3', Value.category]
  exact X₁.ldcString hexec (own := own) (text := text) (index := is) (a := sa) hown' hstr'.1 hstr'.2
    (g := { method := m, pc := pc + 4, locals := ls, stack := .ref T.heap.size :: .ref T.heap.size :: rest, locked := none }) rfl d4' _ hsteps
/-- 'throw new E("text")', the text by a wide index -/
theorem vx_throwSW {cc : ByteArray} {pc : Nat} (hexec : p.tables.exec = Jvm.exec) (hb : c.code = cc) (hl : l.stackTraces = false) {own cls text : String} {names : List String} {ik is ic mc ms sa : Nat} {A : Nat → Prop}
    (hown : s.vm.findClass own = some m.cls) (hcls : Bundle.fit cls = true) (hnames : ∀ n ∈ names, Bundle.fit n = true)
    (hk : (Cond.classLink own ik cls).before args s = true) (hini : (Cond.initialized cls).before args s = true) (hstr : vk_R own is text sa s) (hat : ∀ w ∈ vx_atS own ic cls names, w.before args s = true)
    (hgood : ∀ w ∈ Cond.classLink own ik cls :: Cond.initialized cls :: vx_atS own ic cls names, vx_ot w = true)
    (hU : vx_Zq Bundle.tN "UNASSIGNED_STACK" Bundle.steD A s s.heap) (hN : vx_Zq Bundle.tN "SUPPRESSED_SENTINEL" Bundle.listD A s s.heap) (hS : va_S A s.heap H locs) (hsize : ls.size = c.maxLocals)
    (d0 : decode cc pc = .ok (.new ik, 3)) (d3 : decode cc (pc + 3) = .ok (.dup, 1)) (d4 : decode cc (pc + 4) = .ok (.ldc_w is, 3)) (d7 : decode cc (pc + 7) = .ok (.invokespecial ic, 3)) (d10 : decode cc (pc + 10) = .ok (.athrow, 1))
    (hout : ∀ x ∈ c.exceptionTable.toList, covers x (pc + 10) = false)
    (hRframes : names.length + 3 < R.frames) (hRlocals : (rest.map fun v => v.category).sum + (13 * (names.length + 1) + 43) ≤ R.locals) (hRcells : cells + 1 ≤ R.cells) (hRslots : slots + 6 ≤ R.slots) (hlocks : meth.locks = false)
    (hx : ∀ t : State, s.vm.Alike t.vm → H.size ≤ t.heap.size → (∀ q : Nat, q < H.size → t.heap[q]? = H[q]?) → XC cls s t)
    (hf : ∀ z ∈ locs, free z.base) (hc : cells + 1 ≤ mc) (hs : slots + 6 ≤ ms) :
    W p l e R s m args below meth c H locs cells slots (vx_MQ below Qc XC args s mc ms free) (F0 m pc ls rest) := by
  intro T hT X
  have htr : e.platform.stackTraces = false := (show e.platform.stackTraces = l.stackTraces by rw [X.admits.platform]).trans hl
  have Y := vx_rebase X (R' := { frames := R.frames, locals := R.locals, cells := 1, slots := 6 }) (Nat.le_refl _) (Nat.le_refl _) hRcells hRslots
  obtain ⟨s', hA⟩ : ∃ z, z = (T.setVm s.vm).setFrames (.invoking m args :: below) := ⟨_, rfl⟩
  rw [← hA] at Y
  have hvm : s'.vm = s.vm := by rw [hA]; rfl
  have hhp : s'.heap = H := by rw [hA]; exact hT
  have hW0 : s.WarmedH s'.vm := by rw [hvm]; exact State.WarmedH.refl s
  have hat' : ∀ w ∈ vx_atS own ic cls names, w.before args s' = true := fun w hw => vx_ot_at hW0 hvm.symm (hgood w (List.mem_cons_of_mem _ (List.mem_cons_of_mem _ hw))) (hat w hw)
  have hk' : (Cond.classLink own ik cls).before args s' = true := vx_ot_at hW0 hvm.symm (hgood _ List.mem_cons_self) hk
  have hini' : (Cond.initialized cls).before args s' = true := vx_ot_at hW0 hvm.symm (hgood _ (List.mem_cons_of_mem _ List.mem_cons_self)) hini
  have hU' : vx_Zq Bundle.tN "UNASSIGNED_STACK" Bundle.steD A s' s'.heap := by rw [hhp]; exact vx_Zq.moved hW0.alike (hU.kept hS.2.1)
  have hN' : vx_Zq Bundle.tN "SUPPRESSED_SENTINEL" Bundle.listD A s' s'.heap := by rw [hhp]; exact vx_Zq.moved hW0.alike (hN.kept hS.2.1)
  have h : ∀ w ∈ Bundle.ownAtoms own ic cls names, w.before args s' = true := vx_own hat' (vx_isRefq hU'.1) (vx_isRefq hN'.1) hU'.2.word hN'.2.word
  have hown' : s'.vm.findClass own = some m.cls := by rw [hvm]; exact hown
  have hins : (Cond.instantiable cls 6).before args s' = true := h _ (by simp [Bundle.ownAtoms])
  obtain ⟨vm₁, cX, kX, hfX, hkX, -, -, X₁, st1⟩ := Y.newCold hexec (own := own) (C := cls) (index := ik) (n := 6) hown' hk' hins hini'
    (g := F0 m pc ls rest) rfl (by rw [hb]; exact d0) (Nat.le_refl _) (Nat.le_refl _)
  generalize hT1 : (T.setVm vm₁).pushCell { cls := cX, slots := kX.instanceTypes.map defaultValue, vm := .none } = T1 at X₁ st1
  have hcat : (Value.ref T.heap.size).category = 1 := rfl
  have hcellA : T1.heap[T.heap.size]? = some (freshCell cX kX) := by rw [← hT1]; exact State.heap_pushCell_size _ _
  have d3' : decode c.code (pc + 3) = .ok (.dup, 1) := by rw [hb]; exact d3
  have d4' : decode c.code (pc + 4) = .ok (.ldc_w is, 3) := by rw [hb]; exact d4
  have hstr' : vk_R own is text sa s' := vk_R.warm hW0 hstr
  obtain ⟨U, hsteps, hrun, hend, hW, hsame, ce, hce, hO⟩ := X₁.ctorThrowS hexec htr (own := own) (cls := cls) (names := names) (ic := ic) hown' hcls hnames h (fun x hx => nomatch hx) hfX hkX hcellA (by rw [hhp, hT]; exact Nat.le_refl _) (msg := .ref sa) rfl
    (g := { method := m, pc := pc + 7, locals := ls, stack := .ref sa :: .ref T.heap.size :: .ref T.heap.size :: rest, locked := none }) rfl hsize rfl rfl (rest := rest) rfl
    (by rw [hb]; exact d7) (by rw [hb]; exact d10) hout hRframes (by simp only [List.map_cons, List.sum_cons, hcat]; omega) hlocks
  obtain ⟨f1, f2⟩ := vx_frame hsame
  rw [hhp] at f1 f2
  have hWs : s.WarmedH U.vm := State.WarmedH.trans hW0 hW
  have hcl : s.vm.findClass cls = some ce.cls := by
    have h9 := hO.cls
    rw [hvm] at h9
    exact h9
  have hall : s.sameButNew ({ U with vm := s.vm } : State) locs mc ms := by
    subst hA
    obtain ⟨e1, e2⟩ := hsame
    rw [State.setFrames_setFrames] at e1
    have h2 : (T.setVm s.vm).sameButNew ({ U with vm := s.vm } : State) [] (0 + 1) (0 + 6) := ⟨e1, e2⟩
    have h3 := X.same.trans h2
    rw [List.append_nil] at h3
    exact h3.mono hc hs
  refine ⟨U, ?_, .threw T.heap.size, hrun, hend, Or.inr ⟨T.heap.size, rfl, cls, ce, locs, hx U hWs.alike f1 (fun q hq => f2 q hq (fun z hz => nomatch hz)), hce, hO.vm, hcl, hWs, hall, hf⟩⟩
  refine st1 _ ?_
  show Steps p.tables e below (T1.setTop { method := m, pc := pc + 3, locals := ls, stack := .ref T.heap.size :: rest, locked := none }) _
  jvm_step X₁.here [X₁.here.top, hexec, d3', Value.category]
  exact X₁.ldcStringW hexec (own := own) (text := text) (index := is) (a := sa) hown' hstr'.1 hstr'.2
    (g := { method := m, pc := pc + 4, locals := ls, stack := .ref T.heap.size :: .ref T.heap.size :: rest, locked := none }) rfl d4' _ hsteps
end Ends
section Bodies
variable {l : Launch}
theorem vx_ofW {y : MethodName} {ws ws' : List Cond} {rm : Room} {Pc : Array Value → State → Prop} {Qc : Array Value → State → Outcome → State → Prop} {XC : String → State → State → Prop} {mc ms : Nat} {free : Addr → Prop} {cc : ByteArray} {maxL : Nat} {ret : Option FieldType}
    (hy : plainName y.cls = true) (hw : ws = Cond.code y cc maxL ret :: ws')
    (body : ∀ p e s m args below meth c s₁, BodyLoose p l y (headSpec ws rm) cc maxL ret e s m args below meth c s₁ → c.maxLocals = maxL → (∀ x ∈ c.exceptionTable.toList, False) → Pc args s →
      W p l e (headSpec ws rm).room s m args below meth c s.heap [] 0 0 (vx_MQ below Qc XC args s mc ms free) (entryFrame m args maxL)) : vx_Met l y ws rm Pc Qc XC mc ms free := by
  refine MetFree.of_bodyS (code := cc) (maxLocals := maxL) (ret := ret) hy ?_ ?_
  · intro args s m h hn
    obtain ⟨meth, c, h1, h2, h3, h4, h5, h6, -, -⟩ := Cond.code_spec hn (atoms_spec (ws := ws) h _ (by rw [hw]; exact List.mem_cons_self))
    exact ⟨meth, c, h1, h2, h3, h4, h5, h6⟩
  · intro p e s m args below meth c s₁ B hml hP _
    have hh0 : s₁.heap = s.heap := by rw [B.state]; rfl
    have ht : ∀ x ∈ c.exceptionTable.toList, False := by
      obtain ⟨meth9, c9, h1, h2, -, -, -, -, h7, -⟩ := Cond.code_spec B.named (atoms_spec (ws := ws) B.pre _ (by rw [hw]; exact List.mem_cons_self))
      cases Option.some.inj (h1.symm.trans B.method)
      cases Option.some.inj (h2.symm.trans (Stand.of_body B).code)
      intro x hx
      rw [Array.isEmpty_iff.mp h7] at hx
      cases hx
    obtain ⟨t, a1, o, b1, b2, b3⟩ := body p e s m args below meth c s₁ B hml ht hP s₁ hh0 (Stand.of_body B)
    exact ⟨t, o, a1, b1, b2, b3⟩
/-- the table of a body with handlers -/
theorem vx_table {p : Program} {x y : MethodName} {S : Spec} {cc bytes : ByteArray} {maxL maxL' : Nat} {ret ret' : Option FieldType} {e : Env} {s s₁ : State} {m : MethodId} {args : Array Value} {below : List Frame} {meth : Method} {c : Code} {hh : List (Nat × Nat × Nat × Nat)}
    (B : BodyLoose p l y S cc maxL ret e s m args below meth c s₁) (h : (Cond.codeWith y bytes maxL' ret' hh).before args s = true) : c.exceptionTable.toList = tableOf hh := by
  obtain ⟨m9, meth9, c9, hn9, h1, h2, -, -, h6, -⟩ := Cond.codeWith_spec h
  cases Option.some.inj (hn9.symm.trans B.named)
  cases Option.some.inj (h1.symm.trans B.method)
  cases Option.some.inj (h2.symm.trans (Stand.of_body B).code)
  rw [← h6, table_eq]
end Bodies
end VXA
/-! ===== END ===== -/
/-! ===== BEGIN a static call of a method with an exception table ===== -/
section VXS
variable {p : Program} {l : Launch} {e : Env} {R : Room} {s : State} {m : MethodId} {args : Array Value} {below : List Frame} {meth : Method} {c : Code} {T : State} {H : Heap} {locs : List Loc} {cells slots : Nat}
abbrev vx_CSW (R : Room) (s : State) (args : Array Value) (own : String) (index : Nat) (y : MethodName) (bytes : ByteArray) (maxL : Nat) (ret : Option FieldType) (hh : List (Nat × Nat × Nat × Nat)) (ws : List Cond) (rm : Room) (mc ms n : Nat) : Prop :=
  (rm.cells = mc ∧ rm.slots = ms ∧ rm.frames + 1 ≤ R.frames ∧ 8 + (maxL + 11) + rm.locals ≤ R.locals ∧ (∀ w ∈ ws, ∀ (a' : Array Value) (U : State), s.WarmedH U.vm → w.before a' U = true) ∧ Cond.codeWith y bytes maxL ret hh ∈ ws) ∧
  (Cond.codeWith y bytes maxL ret hh).before args s = true ∧ (Cond.initialized y.cls).before args s = true ∧ (y.cls ≠ "java/lang/invoke/MethodHandle" ∧ y.cls ≠ "java/lang/invoke/VarHandle") ∧
  (∀ sig, parseMethodDescriptor y.desc = some sig → n = sig.parameters.length) ∧ (Cond.methodLink own index y).before args s = true ∧ (Cond.static y).before args s = true
theorem vx_cwSW {own : String} {index maxL mc ms : Nat} {y : MethodName} {bytes : ByteArray} {ret : Option FieldType} {hh : List (Nat × Nat × Nat × Nat)} {Ts ws ws' : List Cond} {rm : Room} (n : Nat) (ht : ∀ w ∈ Ts, w.before args s = true) (hT : GoodIn Ts (va_wsS own index y ws)) (hw : ws = Cond.codeWith y bytes maxL ret hh :: ws') (hrc : rm.cells = mc) (hrs : rm.slots = ms)
    (hd : y.cls ≠ "java/lang/invoke/MethodHandle" ∧ y.cls ≠ "java/lang/invoke/VarHandle" ∧ (parseMethodDescriptor y.desc).map (fun d => d.parameters.length) = some n) (hR : rm.frames + 1 ≤ R.frames ∧ 8 + (maxL + 11) + rm.locals ≤ R.locals) :
    vx_CSW R s args own index y bytes maxL ret hh ws rm mc ms n := by
  have ok : ∀ w ∈ va_wsS own index y ws, w.before args s = true := fun w h => ht w (hT w h).1
  have hG : GoodIn Ts ws := fun w h => hT w (by unfold va_wsS; exact List.mem_append_right _ h)
  have hc : Cond.codeWith y bytes maxL ret hh ∈ ws := by rw [hw]; exact List.mem_cons_self
  refine ⟨⟨hrc, hrs, hR.1, hR.2, pay_in ht hG, hc⟩, ht _ (hG _ hc).1, ok _ (by simp [va_wsS]), ⟨hd.1, hd.2.1⟩, fun sig h => ?_, ok _ (by simp [va_wsS]), ok _ (by simp [va_wsS])⟩
  have h2 := hd.2.2
  rw [h] at h2
  exact (Option.some.inj h2).symm
theorem vx_callSW (X : Stand p l e R s m args below meth c T locs cells slots) (hexec : p.tables.exec = Jvm.exec) {own : String} {index : Nat} {y : MethodName} {bytes : ByteArray} {maxL : Nat} {ret : Option FieldType} {hh : List (Nat × Nat × Nat × Nat)}
    (hown : s.vm.findClass own = some m.cls) (hlink : (Cond.methodLink own index y).before args s = true) (hstat : (Cond.static y).before args s = true) (hinit : (Cond.initialized y.cls).before args s = true)
    (hcode : (Cond.codeWith y bytes maxL ret hh).before args s = true) (hy : y.cls ≠ "java/lang/invoke/MethodHandle" ∧ y.cls ≠ "java/lang/invoke/VarHandle")
    {W9 : Nat} {Pre : Pt → Array Value → Prop} {Post : Pt → Array Value → Option Value → Pt → Prop} (hK : Back l R p e below s args y 3 W9 Pre Post)
    {g : JFrame} (hg : g.method = m) (hsize : g.locals.size = c.maxLocals) {argsL rest : List Value} (hlen : ∀ sig, parseMethodDescriptor y.desc = some sig → argsL.length = sig.parameters.length)
    (hstack : g.stack = argsL.reverse ++ rest) (hW : 2 * g.monitorRoom + (rest.map fun v => v.category).sum ≤ W9) (hdg : decode c.code g.pc = .ok (.invokestatic index, 3))
    (hpre : ∀ vm₁, s.WarmedH vm₁ → Pre ⟨T.setVm vm₁, locs, cells, slots⟩ argsL.toArray) :
    ∃ (v : Option Value) (vm₁ : Vm) (B : Pt), s.WarmedH vm₁ ∧ Stand p l e R s m args below meth c B.U B.locs B.cells B.slots ∧ Post ⟨T.setVm vm₁, locs, cells, slots⟩ argsL.toArray v B ∧
      ∀ target, Steps p.tables e below (B.U.setTop { g with pc := g.pc + 3, stack := v.toList ++ rest }) target → Steps p.tables e below (T.setTop g) target := by
  obtain ⟨mk, methM, cM, hnamed, hmethM, -, -, -, -, -, -, hsigM⟩ := Cond.codeWith_spec hcode
  have hstatic : methM.isStatic = true := Cond.static_spec hnamed hmethM hstat
  obtain ⟨kP, hkP, -⟩ := className_of_methodNamed hnamed
  have hinitP : kP.init = .initialized := Cond.initialized_spec (findClass_of_methodNamed hnamed) hkP hinit
  obtain ⟨vm₁, X₁, hstep₁⟩ := X.invokestatic hexec hown hlink hnamed hmethM hstatic hkP hinitP hy (g := g) hg (argsL := argsL) (rest := rest) (hlen _ hsigM) hstack hdg
  obtain ⟨v, B, X', hpost, hsteps⟩ := hK m meth c ⟨T.setVm vm₁, locs, cells, slots⟩ { g with stack := rest } (.invokestatic index) mk argsL.toArray X₁ hg hsize hdg hW (X₁.named hnamed) (hpre vm₁ X₁.warmed)
  exact ⟨v, vm₁, B, X₁.warmed, X', hpost, fun target h => hstep₁ _ fun acts => by rw [doInvoke_state]; exact hsteps.trans h⟩
theorem vx_runSW {y : MethodName} {bytes cc : ByteArray} {maxL nL mc ms n index : Nat} {ret : Option FieldType} {hh : List (Nat × Nat × Nat × Nat)} {ws : List Cond} {rm : Room} {Pc : Array Value → State → Prop} {Qc : Array Value → State → Outcome → State → Prop} {free : Addr → Prop} {Ts : List Cond} {own : String} {As rest : List Value} {g : JFrame}
    (S : CallFix p m c cc nL s args Ts own) (hM : Met l y ws rm Pc Qc mc ms free) (cw : vx_CSW R s args own index y bytes maxL ret hh ws rm mc ms n) (hp : PreS s H Pc As)
    (hg : g.method = m) (hn : As.length = n) (hsize : g.locals.size = nL) (hstack : g.stack = As.reverse ++ rest) (hW : 2 * g.monitorRoom + (rest.map fun v => v.category).sum ≤ 8) (hdg : decode cc g.pc = .ok (.invokestatic index, 3)) (hf : cells + mc ≤ R.cells ∧ slots + ms ≤ R.slots) :
    va_Run p l e R s m args below meth c H locs cells slots mc ms g rest (Qc As.toArray) (free) := by
  obtain ⟨⟨hrc, hrs, hfr, hlo, hws, hcw⟩, hcode, hini, hy, hlen, hl, hstt⟩ := cw
  have hK : Back l R p e below s args y 3 8 (PreOf R mc ms Pc) (PostOf Qc mc ms free) := va_backW (hh := hh) (bytes := bytes) (maxL := maxL) (ret := ret) hM hp.1 hrc hrs hfr hlo hws hcw (fun a' U hW => word_at hW (Or.inl (by first | rfl | simp [Cond.onTables, Cond.keeps, Cond.steady])) hini)
  obtain ⟨hx, hb, hml, ho, -⟩ := S
  intro T hT X
  obtain ⟨v, vm₁, ⟨U', l2, c2, s2⟩, hW₁, X', ⟨g', mk, t, L, e1, e2, hq, h1, hL, h2, h3⟩, st⟩ := vx_callSW X hx (hh := hh) (bytes := bytes) (maxL := maxL) (ret := ret) ho hl hstt hini hcode hy hK hg (hsize.trans hml.symm) (argsL := As) (rest := rest) (fun sig h => hn.trans (hlen sig h)) hstack hW (by rw [hb]; exact hdg)
    (fun vm₁ hW₁ => ⟨hf.1, hf.2, hp.2 (T.setVm vm₁) hT hW₁⟩)
  dsimp only [Pt.U, Pt.locs, Pt.cells, Pt.slots] at X' e1 e2 h1 h2 h3 st
  subst h1; subst h2; subst h3
  exact ⟨v, (T.setVm vm₁).calling g' mk As.toArray, t, U', L, hT, X', hL, e1, e2, hq, st⟩
/-- not caught here, past rows that name other classes: it goes on to the caller -/
theorem vx_outP {p : Program} {l : Launch} {e : Env} {R : Room} {s : State} {m : MethodId} {args : Array Value} {below : List Frame} {meth : Method} {c : Code} {H : Heap} {locs : List Loc} {cells slots : Nat} {free : Addr → Prop} {ls : Array Slot} {rest : List Value} {Qc : Array Value → State → Outcome → State → Prop} {XC : String → State → State → Prop}
    {pc : Nat} {own E : String} {ce : Cell} {q : Addr} {mc ms : Nat} (hown : s.vm.findClass own = some m.cls) (hlocks : meth.locks = false)
    (hpass : ∀ z ∈ c.exceptionTable.toList, covers z pc = false ∨ (z.catchType ≠ 0 ∧ ∃ nm : String, (Cond.classLink own z.catchType nm).before args s = true ∧ va_Nc E nm s)) (hcell : H[q]? = some ce) (hv : ce.vm = .none) (hcl : s.vm.findClass E = some ce.cls)
    (hx : ∀ t : State, t.heap = H → s.vm.Alike t.vm → XC E s t) (hf : ∀ z ∈ locs, free z.base) (hc : cells ≤ mc) (hs : slots ≤ ms) :
    vx_W p l e R s m args below meth c H locs cells slots (vx_MQ below Qc XC args s mc ms free) (F0 m pc ls rest) q := by
  intro T hT X
  have hpl : e.platform.magicAccessors = ({} : Platform).magicAccessors := by rw [X.admits.platform]
  obtain ⟨vm', hW', X', st⟩ := X.outThrough hlocks q (g := F0 m pc ls rest) rfl rfl rfl (cell := ce) (by rw [hT]; exact hcell) (by rw [hv]; rfl)
    (by obtain ⟨k9, h9, -⟩ := Vm.findClass_spec hcl; exact ⟨k9, h9⟩) (fun z hz => by
      rcases hpass z hz with h | ⟨hz0, nm, hl1, hn1⟩
      · exact Or.inl h
      · obtain ⟨c6, hc6, hcl6⟩ := Cond.classLink_spec hown hl1 e.platform hpl
        obtain ⟨a8, b8, h1, h2, h3⟩ := hn1
        cases Option.some.inj (h1.symm.trans hcl)
        cases Option.some.inj (h2.symm.trans hc6)
        exact Or.inr ⟨hz0, _, hcl6, h3⟩)
  obtain ⟨g₀, hfr⟩ := X'.frames_eq
  have hcell9 : ((T.setVm vm').setFrames (.throwing q :: below)).heap[q]? = some ce := by
    show T.heap[q]? = some ce
    rw [hT]; exact hcell
  have hend : Ended ((T.setVm vm').setFrames (.throwing q :: below)) below (.threw q) := State.frames_setFrames _ (State.cur_lt_of_frames hfr)
  refine ⟨(T.setVm vm').setFrames (.throwing q :: below), ?_, .threw q, X'.here.running, hend, Or.inr ⟨q, rfl, E, ce, locs, hx _ hT (X'.ends _).1.alike, hcell9, hv, hcl, (X'.ends _).1, (X'.ends _).2.mono hc hs, hf⟩⟩
  rw [X.pushThrowing_eq]
  exact st
/-- a thing of a world lies in the heap -/
theorem vx_lt {D : va_G} {cl : List vw_C} {ws : va_W} {H1 : Heap} (h : va_P D cl ws H1) {k : Nat} {q : Nat × va_E} (hk : ws[k]? = some q) : q.1 < H1.size := (h k q hk).lt
end VXS
/-! ===== END ===== -/
/-! ===== BEGIN methods with a table of their own: called by a name, returning or throwing ===== -/
section VXH
/-! vx_backW, vx_callVX, vx_callSX, vx_callVW, vx_runVW, vx_runVX, vx_runSX, vx_ofWH follow the same proofs as their sisters above (Free/Laws.lean, Shelf42/LK1.lean); vx_outP calls Shelf42/NT130.lean (outThrough). -/
section
variable {l : Launch} {R : Room} {p : Program} {e : Env} {below : List Frame} {s : State} {sargs : Array Value} {y : MethodName} {len W9 : Nat}
theorem vx_backW {ws : List Cond} {rm : Room} {Pc : Array Value → State → Prop} {Qc : Array Value → State → Outcome → State → Prop} {XC : String → State → State → Prop} {mc ms : Nat} {free : Addr → Prop} {bytes : ByteArray} {maxL : Nat} {ret : Option FieldType} {hh : List (Nat × Nat × Nat × Nat)}
    (hM : vx_Met l y ws rm Pc Qc XC mc ms free) (hblind : FrameBlind Pc) (hrc : rm.cells = mc) (hrs : rm.slots = ms)
    (hframes : rm.frames + 1 ≤ R.frames) (hlocals : W9 + (maxL + 11) + rm.locals ≤ R.locals)
    (hws : ∀ w ∈ ws, ∀ a' U, s.WarmedH U.vm → w.before a' U = true) (hcode : Cond.codeWith y bytes maxL ret hh ∈ ws) (hinit : ∀ a' U, s.WarmedH U.vm → (Cond.initialized y.cls).before a' U = true) :
    vx_Back l R p e below s sargs y len W9 (PreOf R mc ms Pc) (PostOf Qc mc ms free) (vx_Post XC mc ms free) := by
  intro m meth c A g ig mk a X hg hsize hdg hW hn hp
  have h1 : (headSpec ws rm).pre.before a A.U = true := atoms_intro fun w hw => hws w hw _ _ X.warmed
  have h2 : (Cond.codeWith y bytes maxL ret hh).before a A.U = true := hws _ hcode _ _ X.warmed
  have h3 : (Cond.initialized y.cls).before a A.U = true := hinit _ _ X.warmed
  have h4 : A.cells + (headSpec ws rm).room.cells ≤ R.cells := by rw [show (headSpec ws rm).room.cells = mc from hrc]; exact hp.1
  have h5 : A.slots + (headSpec ws rm).room.slots ≤ R.slots := by rw [show (headSpec ws rm).room.slots = ms from hrs]; exact hp.2.1
  have hPc : Pc a (A.U.calling g mk a) := hblind _ _ _ _ hp.2.2
  obtain ⟨U, Ls, c0, s0⟩ := A
  dsimp only [Pt.U, Pt.locs, Pt.cells, Pt.slots] at h1 h2 h3 h4 h5 X hn hPc ⊢
  obtain ⟨m9, methY, cY, hn9, hmY, hcY, -, hlY, -⟩ := Cond.codeWith_spec h2
  cases Option.some.inj (hn9.symm.trans hn)
  obtain ⟨kY, hkY, -⟩ := className_of_methodNamed hn
  have hinitY : kY.init = .initialized := Cond.initialized_spec (findClass_of_methodNamed hn) hkY h3
  have h : At U g.method c below := by rw [hg]; exact X.here
  have hlocals9 : W9 + (maxL + 11) + (headSpec ws rm).room.locals ≤ R.locals := hlocals
  have happ : (headSpec ws rm).appliesLoose y e.platform (U.calling g mk a) = true :=
    Spec.appliesLoose_calling (g := g) h hdg hn hkY hinitY
      (X.room_calling (g := g) (R' := (headSpec ws rm).room) hsize hmY hcY hframes (by rw [hlY]; omega) h4 h5) h1
  obtain ⟨mid, hmid⟩ := h.above
  have hfr : (U.setTop g).frames = (.java g :: mid) ++ below := by rw [State.frames_setTop' g h.top, hmid]; rfl
  obtain ⟨o, s₂, hsteps, -, hend, hq⟩ := Steps.callFree hM p X.admits X.cas X.clock (acts := []) hfr happ hPc trivial
  have hq' : vx_Q Qc XC mc ms free a (U.calling g mk a) o s₂ := hq
  rw [State.frames_setTop' g h.top] at hend
  obtain ⟨g₀, hg0⟩ := Option.isSome_iff_exists.mp h.top
  obtain ⟨r, hr⟩ := State.topJava?_eq_some.mp hg0
  have hr' : (({ U with heap := s₂.heap, slotsUsed := s₂.slotsUsed } : State).setVm s₂.vm).frames = .java g₀ :: r := hr
  rcases hq' with ⟨hqc, L, hfe, hL⟩ | ⟨q, rfl, E, ce, L, hx, hce, hcv, hcl, hW₂, hsm, hL⟩
  · obtain ⟨⟨v, rfl⟩, hW₂, e2, q2, q3, q4, q5, q6⟩ := id hfe
    have e3 : s₂ = ({ (U.calling g mk a).setFrames s₂.frames with heap := s₂.heap, slotsUsed := s₂.slotsUsed } : State).setVm s₂.vm := by
      have : s₂ = ({ s₂ with vm := (U.calling g mk a).vm } : State).setVm s₂.vm := rfl
      rw [e2] at this
      exact this
    obtain ⟨c₂, i₂, len₂, hc₂, hd₂, hf₂⟩ := hend
    have hW' : U.WarmedH s₂.vm := hW₂
    have hcc : c₂ = c := by
      have h1 : s₂.code? g.method = U.code? g.method := by
        rw [State.code?_eq, State.code?_eq, hW'.alike.method?]
      exact Option.some.inj (hc₂.symm.trans (h1.trans h.code))
    subst hcc
    have hlen : len₂ = len := by rw [hdg] at hd₂; cases hd₂; rfl
    subst hlen
    have hs₂ : s₂ = (({ U with heap := s₂.heap, slotsUsed := s₂.slotsUsed } : State).setVm s₂.vm).setTop { g with pc := g.pc + len₂, stack := v.toList ++ g.stack } := by
      refine e3.trans ?_
      rw [hf₂, State.calling_eq h.top, State.setFrames_setFrames, State.setTop_of_frames _ hr', hr]
      rfl
    have hsame : U.sameButNew ({ U with heap := s₂.heap, slotsUsed := s₂.slotsUsed } : State) L mc ms := by
      refine ⟨?_, q2, q3, q4, q5, q6⟩
      obtain ⟨t, ht, -⟩ := State.frames_cons hr
      show ({ U with heap := s₂.heap, slotsUsed := s₂.slotsUsed } : State) = { U.setFrames U.frames with heap := s₂.heap, slotsUsed := s₂.slotsUsed }
      rw [State.setFrames_self ht]
    subst hg
    refine Or.inl ⟨v, ⟨(({ U with heap := s₂.heap, slotsUsed := s₂.slotsUsed } : State).setVm s₂.vm), Ls ++ L, c0 + mc, s0 + ms⟩,
      ⟨X.admits, X.cas, X.clock, X.frames, X.room, X.hears, X.method, X.code, (X.here.setHeapUsed s₂.heap s₂.slotsUsed).setVm hW'.alike, X.tail, State.WarmedH.trans X.warmed hW', X.limits, X.bytes, X.same.trans (hsame.setVm s.vm)⟩,
      ⟨g, mk, s₂, L, rfl, rfl, hqc, rfl, hL, rfl, rfl⟩, ?_⟩
    show Steps p.tables e below _ ((({ U with heap := s₂.heap, slotsUsed := s₂.slotsUsed } : State).setVm s₂.vm).setTop { g with pc := g.pc + len₂, stack := v.toList ++ g.stack })
    rw [← hs₂]
    exact hsteps
  · obtain ⟨e2, q2, q3, q4, q5, q6⟩ := id hsm
    have e3 : s₂ = ({ (U.calling g mk a).setFrames s₂.frames with heap := s₂.heap, slotsUsed := s₂.slotsUsed } : State).setVm s₂.vm := by
      have : s₂ = ({ s₂ with vm := (U.calling g mk a).vm } : State).setVm s₂.vm := rfl
      rw [e2] at this
      exact this
    have hf₂ : s₂.frames = .throwing q :: .java g :: U.frames.tail := hend
    have hW' : U.WarmedH s₂.vm := hW₂
    have hs₂ : s₂ = ((({ U with heap := s₂.heap, slotsUsed := s₂.slotsUsed } : State).setVm s₂.vm).setTop g).pushFrame (.throwing q) := by
      refine e3.trans ?_
      rw [hf₂, State.calling_eq h.top, State.setFrames_setFrames, State.pushFrame, State.frames_setTop _ hr', State.setTop_of_frames _ hr', State.setFrames_setFrames, hr]
      rfl
    have hsame : U.sameButNew ({ U with heap := s₂.heap, slotsUsed := s₂.slotsUsed } : State) L mc ms := by
      refine ⟨?_, q2, q3, q4, q5, q6⟩
      obtain ⟨t, ht, -⟩ := State.frames_cons hr
      show ({ U with heap := s₂.heap, slotsUsed := s₂.slotsUsed } : State) = { U.setFrames U.frames with heap := s₂.heap, slotsUsed := s₂.slotsUsed }
      rw [State.setFrames_self ht]
    subst hg
    refine Or.inr ⟨q, ⟨(({ U with heap := s₂.heap, slotsUsed := s₂.slotsUsed } : State).setVm s₂.vm), Ls ++ L, c0 + mc, s0 + ms⟩,
      ⟨X.admits, X.cas, X.clock, X.frames, X.room, X.hears, X.method, X.code, (X.here.setHeapUsed s₂.heap s₂.slotsUsed).setVm hW'.alike, X.tail, State.WarmedH.trans X.warmed hW', X.limits, X.bytes, X.same.trans (hsame.setVm s.vm)⟩,
      ⟨g, mk, s₂, L, E, ce, rfl, rfl, hx, hce, hcv, hcl, rfl, hL, rfl, rfl⟩, ?_⟩
    show Steps p.tables e below _ (((({ U with heap := s₂.heap, slotsUsed := s₂.slotsUsed } : State).setVm s₂.vm).setTop g).pushFrame (.throwing q))
    rw [← hs₂]
    exact hsteps
end
variable {p : Program} {l : Launch} {e : Env} {R : Room} {s : State} {m : MethodId} {args : Array Value} {below : List Frame} {meth : Method} {c : Code} {T : State} {H : Heap} {locs : List Loc} {cells slots : Nat}
theorem vx_callVX (X : Stand p l e R s m args below meth c T locs cells slots) (hexec : p.tables.exec = Jvm.exec) {own C : String} {index : Nat} {y : MethodName} {bytes : ByteArray} {maxL : Nat} {ret : Option FieldType} {hh : List (Nat × Nat × Nat × Nat)}
    (hown : s.vm.findClass own = some m.cls) (hlink : (Cond.methodLink own index y).before args s = true) (hinst : (Cond.instanceMethod y).before args s = true) (hsel : (Cond.selects C y y).before args s = true)
    (hcode : (Cond.codeWith y bytes maxL ret hh).before args s = true) (hy : y.cls ≠ "java/lang/invoke/MethodHandle" ∧ y.cls ≠ "java/lang/invoke/VarHandle")
    {W9 : Nat} {Pre : Pt → Array Value → Prop} {Post : Pt → Array Value → Option Value → Pt → Prop} {PostX : Pt → Array Value → Addr → Pt → Prop} (hK : vx_Back l R p e below s args y 3 W9 Pre Post PostX)
    {b : Addr} {cellB : Cell} (hcell : T.heap[b]? = some cellB) (hobj : cellB.vm.isStatics = false) (hcls : s.vm.findClass C = some cellB.cls)
    {g : JFrame} (hg : g.method = m) (hsize : g.locals.size = c.maxLocals) {argsL rest : List Value} (hlen : ∀ sig, parseMethodDescriptor y.desc = some sig → argsL.length = sig.parameters.length)
    (hstack : g.stack = argsL.reverse ++ .ref b :: rest) (hW : 2 * g.monitorRoom + (rest.map fun v => v.category).sum ≤ W9) (hdg : decode c.code g.pc = .ok (.invokevirtual index, 3))
    (hpre : ∀ vm₁, s.WarmedH vm₁ → Pre ⟨T.setVm vm₁, locs, cells, slots⟩ (Value.ref b :: argsL).toArray) :
    (∃ (v : Option Value) (vm₁ : Vm) (B : Pt), s.WarmedH vm₁ ∧ Stand p l e R s m args below meth c B.U B.locs B.cells B.slots ∧ Post ⟨T.setVm vm₁, locs, cells, slots⟩ (Value.ref b :: argsL).toArray v B ∧
      ∀ target, Steps p.tables e below (B.U.setTop { g with pc := g.pc + 3, stack := v.toList ++ rest }) target → Steps p.tables e below (T.setTop g) target) ∨
    (∃ (q : Addr) (vm₁ : Vm) (B : Pt), s.WarmedH vm₁ ∧ Stand p l e R s m args below meth c B.U B.locs B.cells B.slots ∧ PostX ⟨T.setVm vm₁, locs, cells, slots⟩ (Value.ref b :: argsL).toArray q B ∧
      Steps p.tables e below (T.setTop g) ((B.U.setTop { g with stack := rest }).pushFrame (.throwing q))) := by
  obtain ⟨mk, methM, hnamed, hmethM, hstM, habM⟩ := Cond.instanceMethod_spec hinst
  obtain ⟨m8, methM', cM, hn8, hmethM', -, -, -, -, -, -, hsigM⟩ := Cond.codeWith_spec hcode
  cases Option.some.inj (hn8.symm.trans hnamed)
  cases hmethM.symm.trans hmethM'
  obtain ⟨c2, r2, m2, q1, q2, q3, q4, kP, hkP, hkPi⟩ := Cond.selects_spec hsel
  cases hcls.symm.trans q1
  cases (State.methodFound?_of_named hnamed hy).symm.trans q2
  cases hnamed.symm.trans q3
  have hselP : selectMethod e.platform s.vm cellB.cls mk = .method mk := by rw [Launch.admits_selectMethod X.admits]; exact q4
  obtain ⟨vm₁, X₁, hstep₁⟩ := X.invokevirtual hexec hown hlink hnamed hmethM hstM hkP hkPi hy (a := b) (cell := cellB) hcell
    (fun z h => by rw [h] at hobj; cases hobj) hselP hmethM habM hkP hkPi (g := g) hg (argsL := argsL) (rest := rest) (hlen _ hsigM) hstack hdg
  rcases hK m meth c ⟨T.setVm vm₁, locs, cells, slots⟩ { g with stack := rest } (.invokevirtual index) mk (Value.ref b :: argsL).toArray X₁ hg hsize hdg hW (X₁.named hnamed) (hpre vm₁ X₁.warmed) with ⟨v, B, X', hpost, hsteps⟩ | ⟨q, B, X', hpost, hsteps⟩
  · exact Or.inl ⟨v, vm₁, B, X₁.warmed, X', hpost, fun target h => hstep₁ _ fun acts => by rw [doInvoke_state]; exact hsteps.trans h⟩
  · exact Or.inr ⟨q, vm₁, B, X₁.warmed, X', hpost, hstep₁ _ fun acts => by rw [doInvoke_state]; exact hsteps⟩
theorem vx_callSX (X : Stand p l e R s m args below meth c T locs cells slots) (hexec : p.tables.exec = Jvm.exec) {own : String} {index : Nat} {y : MethodName} {bytes : ByteArray} {maxL : Nat} {ret : Option FieldType} {hh : List (Nat × Nat × Nat × Nat)}
    (hown : s.vm.findClass own = some m.cls) (hlink : (Cond.methodLink own index y).before args s = true) (hstat : (Cond.static y).before args s = true) (hinit : (Cond.initialized y.cls).before args s = true)
    (hcode : (Cond.codeWith y bytes maxL ret hh).before args s = true) (hy : y.cls ≠ "java/lang/invoke/MethodHandle" ∧ y.cls ≠ "java/lang/invoke/VarHandle")
    {W9 : Nat} {Pre : Pt → Array Value → Prop} {Post : Pt → Array Value → Option Value → Pt → Prop} {PostX : Pt → Array Value → Addr → Pt → Prop} (hK : vx_Back l R p e below s args y 3 W9 Pre Post PostX)
    {g : JFrame} (hg : g.method = m) (hsize : g.locals.size = c.maxLocals) {argsL rest : List Value} (hlen : ∀ sig, parseMethodDescriptor y.desc = some sig → argsL.length = sig.parameters.length)
    (hstack : g.stack = argsL.reverse ++ rest) (hW : 2 * g.monitorRoom + (rest.map fun v => v.category).sum ≤ W9) (hdg : decode c.code g.pc = .ok (.invokestatic index, 3))
    (hpre : ∀ vm₁, s.WarmedH vm₁ → Pre ⟨T.setVm vm₁, locs, cells, slots⟩ argsL.toArray) :
    (∃ (v : Option Value) (vm₁ : Vm) (B : Pt), s.WarmedH vm₁ ∧ Stand p l e R s m args below meth c B.U B.locs B.cells B.slots ∧ Post ⟨T.setVm vm₁, locs, cells, slots⟩ argsL.toArray v B ∧
      ∀ target, Steps p.tables e below (B.U.setTop { g with pc := g.pc + 3, stack := v.toList ++ rest }) target → Steps p.tables e below (T.setTop g) target) ∨
    (∃ (q : Addr) (vm₁ : Vm) (B : Pt), s.WarmedH vm₁ ∧ Stand p l e R s m args below meth c B.U B.locs B.cells B.slots ∧ PostX ⟨T.setVm vm₁, locs, cells, slots⟩ argsL.toArray q B ∧
      Steps p.tables e below (T.setTop g) ((B.U.setTop { g with stack := rest }).pushFrame (.throwing q))) := by
  obtain ⟨mk, methM, cM, hnamed, hmethM, -, -, -, -, -, -, hsigM⟩ := Cond.codeWith_spec hcode
  have hstatic : methM.isStatic = true := Cond.static_spec hnamed hmethM hstat
  obtain ⟨kP, hkP, -⟩ := className_of_methodNamed hnamed
  have hinitP : kP.init = .initialized := Cond.initialized_spec (findClass_of_methodNamed hnamed) hkP hinit
  obtain ⟨vm₁, X₁, hstep₁⟩ := X.invokestatic hexec hown hlink hnamed hmethM hstatic hkP hinitP hy (g := g) hg (argsL := argsL) (rest := rest) (hlen _ hsigM) hstack hdg
  rcases hK m meth c ⟨T.setVm vm₁, locs, cells, slots⟩ { g with stack := rest } (.invokestatic index) mk argsL.toArray X₁ hg hsize hdg hW (X₁.named hnamed) (hpre vm₁ X₁.warmed) with ⟨v, B, X', hpost, hsteps⟩ | ⟨q, B, X', hpost, hsteps⟩
  · exact Or.inl ⟨v, vm₁, B, X₁.warmed, X', hpost, fun target h => hstep₁ _ fun acts => by rw [doInvoke_state]; exact hsteps.trans h⟩
  · exact Or.inr ⟨q, vm₁, B, X₁.warmed, X', hpost, hstep₁ _ fun acts => by rw [doInvoke_state]; exact hsteps⟩
theorem vx_callVW (X : Stand p l e R s m args below meth c T locs cells slots) (hexec : p.tables.exec = Jvm.exec) {own C : String} {index : Nat} {y : MethodName} {bytes : ByteArray} {maxL : Nat} {ret : Option FieldType} {hh : List (Nat × Nat × Nat × Nat)}
    (hown : s.vm.findClass own = some m.cls) (hlink : (Cond.methodLink own index y).before args s = true) (hinst : (Cond.instanceMethod y).before args s = true) (hsel : (Cond.selects C y y).before args s = true)
    (hcode : (Cond.codeWith y bytes maxL ret hh).before args s = true) (hy : y.cls ≠ "java/lang/invoke/MethodHandle" ∧ y.cls ≠ "java/lang/invoke/VarHandle")
    {W9 : Nat} {Pre : Pt → Array Value → Prop} {Post : Pt → Array Value → Option Value → Pt → Prop} (hK : Back l R p e below s args y 3 W9 Pre Post)
    {b : Addr} {cellB : Cell} (hcell : T.heap[b]? = some cellB) (hobj : cellB.vm.isStatics = false) (hcls : s.vm.findClass C = some cellB.cls)
    {g : JFrame} (hg : g.method = m) (hsize : g.locals.size = c.maxLocals) {argsL rest : List Value} (hlen : ∀ sig, parseMethodDescriptor y.desc = some sig → argsL.length = sig.parameters.length)
    (hstack : g.stack = argsL.reverse ++ .ref b :: rest) (hW : 2 * g.monitorRoom + (rest.map fun v => v.category).sum ≤ W9) (hdg : decode c.code g.pc = .ok (.invokevirtual index, 3))
    (hpre : ∀ vm₁, s.WarmedH vm₁ → Pre ⟨T.setVm vm₁, locs, cells, slots⟩ (Value.ref b :: argsL).toArray) :
    ∃ (v : Option Value) (vm₁ : Vm) (B : Pt), s.WarmedH vm₁ ∧ Stand p l e R s m args below meth c B.U B.locs B.cells B.slots ∧ Post ⟨T.setVm vm₁, locs, cells, slots⟩ (Value.ref b :: argsL).toArray v B ∧
      ∀ target, Steps p.tables e below (B.U.setTop { g with pc := g.pc + 3, stack := v.toList ++ rest }) target → Steps p.tables e below (T.setTop g) target := by
  obtain ⟨mk, methM, hnamed, hmethM, hstM, habM⟩ := Cond.instanceMethod_spec hinst
  obtain ⟨m8, methM', cM, hn8, hmethM', -, -, -, -, -, -, hsigM⟩ := Cond.codeWith_spec hcode
  cases Option.some.inj (hn8.symm.trans hnamed)
  cases hmethM.symm.trans hmethM'
  obtain ⟨c2, r2, m2, q1, q2, q3, q4, kP, hkP, hkPi⟩ := Cond.selects_spec hsel
  cases hcls.symm.trans q1
  cases (State.methodFound?_of_named hnamed hy).symm.trans q2
  cases hnamed.symm.trans q3
  have hselP : selectMethod e.platform s.vm cellB.cls mk = .method mk := by rw [Launch.admits_selectMethod X.admits]; exact q4
  obtain ⟨vm₁, X₁, hstep₁⟩ := X.invokevirtual hexec hown hlink hnamed hmethM hstM hkP hkPi hy (a := b) (cell := cellB) hcell
    (fun z h => by rw [h] at hobj; cases hobj) hselP hmethM habM hkP hkPi (g := g) hg (argsL := argsL) (rest := rest) (hlen _ hsigM) hstack hdg
  obtain ⟨v, B, X', hpost, hsteps⟩ := hK m meth c ⟨T.setVm vm₁, locs, cells, slots⟩ { g with stack := rest } (.invokevirtual index) mk (Value.ref b :: argsL).toArray X₁ hg hsize hdg hW (X₁.named hnamed) (hpre vm₁ X₁.warmed)
  exact ⟨v, vm₁, B, X₁.warmed, X', hpost, fun target h => hstep₁ _ fun acts => by rw [doInvoke_state]; exact hsteps.trans h⟩
abbrev vx_CVW (R : Room) (s : State) (args : Array Value) (own C : String) (index : Nat) (y : MethodName) (bytes : ByteArray) (maxL : Nat) (ret : Option FieldType) (hh : List (Nat × Nat × Nat × Nat)) (ws : List Cond) (rm : Room) (mc ms n : Nat) : Prop :=
  (rm.cells = mc ∧ rm.slots = ms ∧ rm.frames + 1 ≤ R.frames ∧ 8 + (maxL + 11) + rm.locals ≤ R.locals ∧ (∀ w ∈ ws, ∀ (a' : Array Value) (U : State), s.WarmedH U.vm → w.before a' U = true) ∧ Cond.codeWith y bytes maxL ret hh ∈ ws) ∧
  (Cond.codeWith y bytes maxL ret hh).before args s = true ∧ (Cond.initialized y.cls).before args s = true ∧ (y.cls ≠ "java/lang/invoke/MethodHandle" ∧ y.cls ≠ "java/lang/invoke/VarHandle") ∧
  (∀ sig, parseMethodDescriptor y.desc = some sig → n = sig.parameters.length) ∧ (Cond.methodLink own index y).before args s = true ∧ (Cond.instanceMethod y).before args s = true ∧ (Cond.selects C y y).before args s = true
theorem vx_cwVW {own C : String} {index maxL mc ms : Nat} {y : MethodName} {bytes : ByteArray} {ret : Option FieldType} {hh : List (Nat × Nat × Nat × Nat)} {Ts ws ws' : List Cond} {rm : Room} (n : Nat) (ht : ∀ w ∈ Ts, w.before args s = true) (hT : GoodIn Ts (wsV own index C y ws)) (hw : ws = Cond.codeWith y bytes maxL ret hh :: ws') (hrc : rm.cells = mc) (hrs : rm.slots = ms)
    (hd : y.cls = C ∧ y.cls ≠ "java/lang/invoke/MethodHandle" ∧ y.cls ≠ "java/lang/invoke/VarHandle" ∧ (parseMethodDescriptor y.desc).map (fun d => d.parameters.length) = some n) (hR : rm.frames + 1 ≤ R.frames ∧ 8 + (maxL + 11) + rm.locals ≤ R.locals) :
    vx_CVW R s args own C index y bytes maxL ret hh ws rm mc ms n := by
  obtain ⟨hC, hd⟩ := hd
  subst hC
  have ok : ∀ w ∈ wsV own index y.cls y ws, w.before args s = true := fun w h => ht w (hT w h).1
  have hG : GoodIn Ts ws := fun w h => hT w (by unfold wsV; exact List.mem_append_right _ h)
  have hc : Cond.codeWith y bytes maxL ret hh ∈ ws := by rw [hw]; exact List.mem_cons_self
  refine ⟨⟨hrc, hrs, hR.1, hR.2, pay_in ht hG, hc⟩, ht _ (hG _ hc).1, ok _ (by simp [wsV]), ⟨hd.1, hd.2.1⟩, fun sig h => ?_, ok _ (by simp [wsV]), ok _ (by simp [wsV]), ok _ (by simp [wsV])⟩
  have h2 := hd.2.2
  rw [h] at h2
  exact (Option.some.inj h2).symm
theorem vx_runVW {y : MethodName} {bytes cc : ByteArray} {maxL nL mc ms n index : Nat} {ret : Option FieldType} {hh : List (Nat × Nat × Nat × Nat)} {ws : List Cond} {rm : Room} {Pc : Array Value → State → Prop} {Qc : Array Value → State → Outcome → State → Prop} {free : Addr → Prop} {Ts : List Cond} {own C : String} {b : Addr} {As rest : List Value} {g : JFrame}
    (S : CallFix p m c cc nL s args Ts own) (hM : Met l y ws rm Pc Qc mc ms free) (cw : vx_CVW R s args own C index y bytes maxL ret hh ws rm mc ms n) (hp : PreV s H C b Pc As)
    (hg : g.method = m) (hn : As.length = n) (hsize : g.locals.size = nL) (hstack : g.stack = As.reverse ++ .ref b :: rest) (hW : 2 * g.monitorRoom + (rest.map fun v => v.category).sum ≤ 8) (hdg : decode cc g.pc = .ok (.invokevirtual index, 3)) (hf : cells + mc ≤ R.cells ∧ slots + ms ≤ R.slots) :
    va_Run p l e R s m args below meth c H locs cells slots mc ms g rest (Qc (Value.ref b :: As).toArray) free := by
  obtain ⟨⟨hrc, hrs, hfr, hlo, hws, hcw⟩, hcode, hini, hy, hlen, hl, hin, hse⟩ := cw
  have hK : Back l R p e below s args y 3 8 (PreOf R mc ms Pc) (PostOf Qc mc ms free) := va_backW (hh := hh) (bytes := bytes) (maxL := maxL) (ret := ret) hM hp.1 hrc hrs hfr hlo hws hcw (fun a' U hW => word_at hW (Or.inl (by first | rfl | simp [Cond.onTables, Cond.keeps, Cond.steady])) hini)
  obtain ⟨hx, hb, hml, ho, -⟩ := S
  obtain ⟨-, ⟨cellB, hcB, hoB, hclB⟩, hPc⟩ := hp
  intro T hT X
  obtain ⟨v, vm₁, ⟨U', l2, c2, s2⟩, hW₁, X', ⟨g', mk, t, L, e1, e2, hq, h1, hL, h2, h3⟩, st⟩ := vx_callVW X hx (C := C) (hh := hh) (bytes := bytes) (maxL := maxL) (ret := ret) ho hl hin hse hcode hy hK (by rw [hT]; exact hcB) hoB hclB hg (hsize.trans hml.symm) (argsL := As) (rest := rest) (fun sig h => hn.trans (hlen sig h)) hstack hW (by rw [hb]; exact hdg)
    (fun vm₁ hW₁ => ⟨hf.1, hf.2, hPc (T.setVm vm₁) hT hW₁⟩)
  dsimp only [Pt.U, Pt.locs, Pt.cells, Pt.slots] at X' e1 e2 h1 h2 h3 st
  subst h1; subst h2; subst h3
  exact ⟨v, (T.setVm vm₁).calling g' mk (Value.ref b :: As).toArray, t, U', L, hT, X', hL, e1, e2, hq, st⟩
section
variable {y : MethodName} {bytes cc : ByteArray} {maxL nL mc ms n index : Nat} {ret : Option FieldType} {ws : List Cond} {rm : Room} {Pc : Array Value → State → Prop} {Qc : Array Value → State → Outcome → State → Prop} {XC : String → State → State → Prop} {free : Addr → Prop} {Ts : List Cond} {own C : String} {b : Addr} {As rest : List Value} {g : JFrame}
theorem vx_runVX {hh : List (Nat × Nat × Nat × Nat)} (S : CallFix p m c cc nL s args Ts own) (hM : vx_Met l y ws rm Pc Qc XC mc ms free) (cw : vx_CVW R s args own C index y bytes maxL ret hh ws rm mc ms n) (hp : PreV s H C b Pc As)
    (hg : g.method = m) (hn : As.length = n) (hsize : g.locals.size = nL) (hstack : g.stack = As.reverse ++ .ref b :: rest) (hW : 2 * g.monitorRoom + (rest.map fun v => v.category).sum ≤ 8) (hdg : decode cc g.pc = .ok (.invokevirtual index, 3)) (hf : cells + mc ≤ R.cells ∧ slots + ms ≤ R.slots) :
    vx_Run p l e R s m args below meth c H locs cells slots mc ms g rest (Qc (Value.ref b :: As).toArray) XC free := by
  obtain ⟨⟨hrc, hrs, hfr, hlo, hws, hcw⟩, hcode, hini, hy, hlen, hl, hin, hse⟩ := cw
  have hK : vx_Back l R p e below s args y 3 8 (PreOf R mc ms Pc) (PostOf Qc mc ms free) (vx_Post XC mc ms free) := vx_backW (hh := hh) (bytes := bytes) (maxL := maxL) (ret := ret) hM hp.1 hrc hrs hfr hlo hws hcw (fun a' U hW => word_at hW (Or.inl (by first | rfl | simp [Cond.onTables, Cond.keeps, Cond.steady])) hini)
  obtain ⟨hx, hb, hml, ho, -⟩ := S
  obtain ⟨-, ⟨cellB, hcB, hoB, hclB⟩, hPc⟩ := hp
  intro T hT X
  rcases vx_callVX X hx (C := C) (hh := hh) (bytes := bytes) (maxL := maxL) (ret := ret) ho hl hin hse hcode hy hK (by rw [hT]; exact hcB) hoB hclB hg (hsize.trans hml.symm) (argsL := As) (rest := rest) (fun sig h => hn.trans (hlen sig h)) hstack hW (by rw [hb]; exact hdg)
    (fun vm₁ hW₁ => ⟨hf.1, hf.2, hPc (T.setVm vm₁) hT hW₁⟩) with ⟨v, vm₁, ⟨U', l2, c2, s2⟩, hW₁, X', ⟨g', mk, t, L, e1, e2, hq, h1, hL, h2, h3⟩, st⟩ | ⟨q, vm₁, ⟨U', l2, c2, s2⟩, hW₁, X', ⟨g', mk, t, L, E, ce, e1, e2, hq, hce, hcv, hcl, h1, hL, h2, h3⟩, st⟩
  · dsimp only [Pt.U, Pt.locs, Pt.cells, Pt.slots] at X' e1 e2 h1 h2 h3 st
    subst h1; subst h2; subst h3
    exact Or.inl ⟨v, (T.setVm vm₁).calling g' mk (Value.ref b :: As).toArray, t, U', L, hT, X', hL, e1, e2, hq, st⟩
  · dsimp only [Pt.U, Pt.locs, Pt.cells, Pt.slots] at X' e1 e2 h1 h2 h3 st hcl
    subst h1; subst h2; subst h3
    exact Or.inr ⟨q, (T.setVm vm₁).calling g' mk (Value.ref b :: As).toArray, t, U', L, E, ce, hT, X', hL, e1, e2, hq, hce, hcv, vx_cls hW₁ hcl, st⟩
theorem vx_runSX {hh : List (Nat × Nat × Nat × Nat)} (S : CallFix p m c cc nL s args Ts own) (hM : vx_Met l y ws rm Pc Qc XC mc ms free) (cw : vx_CSW R s args own index y bytes maxL ret hh ws rm mc ms n) (hp : PreS s H Pc As)
    (hg : g.method = m) (hn : As.length = n) (hsize : g.locals.size = nL) (hstack : g.stack = As.reverse ++ rest) (hW : 2 * g.monitorRoom + (rest.map fun v => v.category).sum ≤ 8) (hdg : decode cc g.pc = .ok (.invokestatic index, 3)) (hf : cells + mc ≤ R.cells ∧ slots + ms ≤ R.slots) :
    vx_Run p l e R s m args below meth c H locs cells slots mc ms g rest (Qc As.toArray) XC free := by
  obtain ⟨⟨hrc, hrs, hfr, hlo, hws, hcw⟩, hcode, hini, hy, hlen, hl, hstt⟩ := cw
  have hK : vx_Back l R p e below s args y 3 8 (PreOf R mc ms Pc) (PostOf Qc mc ms free) (vx_Post XC mc ms free) := vx_backW (hh := hh) (bytes := bytes) (maxL := maxL) (ret := ret) hM hp.1 hrc hrs hfr hlo hws hcw (fun a' U hW => word_at hW (Or.inl (by first | rfl | simp [Cond.onTables, Cond.keeps, Cond.steady])) hini)
  obtain ⟨hx, hb, hml, ho, -⟩ := S
  intro T hT X
  rcases vx_callSX X hx (hh := hh) (bytes := bytes) (maxL := maxL) (ret := ret) ho hl hstt hini hcode hy hK hg (hsize.trans hml.symm) (argsL := As) (rest := rest) (fun sig h => hn.trans (hlen sig h)) hstack hW (by rw [hb]; exact hdg)
    (fun vm₁ hW₁ => ⟨hf.1, hf.2, hp.2 (T.setVm vm₁) hT hW₁⟩) with ⟨v, vm₁, ⟨U', l2, c2, s2⟩, hW₁, X', ⟨g', mk, t, L, e1, e2, hq, h1, hL, h2, h3⟩, st⟩ | ⟨q, vm₁, ⟨U', l2, c2, s2⟩, hW₁, X', ⟨g', mk, t, L, E, ce, e1, e2, hq, hce, hcv, hcl, h1, hL, h2, h3⟩, st⟩
  · dsimp only [Pt.U, Pt.locs, Pt.cells, Pt.slots] at X' e1 e2 h1 h2 h3 st
    subst h1; subst h2; subst h3
    exact Or.inl ⟨v, (T.setVm vm₁).calling g' mk As.toArray, t, U', L, hT, X', hL, e1, e2, hq, st⟩
  · dsimp only [Pt.U, Pt.locs, Pt.cells, Pt.slots] at X' e1 e2 h1 h2 h3 st hcl
    subst h1; subst h2; subst h3
    exact Or.inr ⟨q, (T.setVm vm₁).calling g' mk As.toArray, t, U', L, E, ce, hT, X', hL, e1, e2, hq, hce, hcv, vx_cls hW₁ hcl, st⟩
end
end VXH
theorem vx_ofWH {l : Launch} {y : MethodName} {ws ws' : List Cond} {rm : Room} {Pc : Array Value → State → Prop} {Qc : Array Value → State → Outcome → State → Prop} {XC : String → State → State → Prop} {mc ms : Nat} {free : Addr → Prop} {cc : ByteArray} {maxL : Nat} {ret : Option FieldType} {hh : List (Nat × Nat × Nat × Nat)}
    (hy : plainName y.cls = true) (hw : ws = Cond.codeWith y cc maxL ret hh :: ws')
    (body : ∀ p e s m args below meth c s₁, BodyLoose p l y (headSpec ws rm) cc maxL ret e s m args below meth c s₁ → c.maxLocals = maxL → Pc args s →
      W p l e (headSpec ws rm).room s m args below meth c s.heap [] 0 0 (vx_MQ below Qc XC args s mc ms free) (entryFrame m args maxL)) : vx_Met l y ws rm Pc Qc XC mc ms free := by
  refine MetFree.of_bodyS (code := cc) (maxLocals := maxL) (ret := ret) hy ?_ ?_
  · intro args s m h hn
    obtain ⟨m9, meth, c, hn9, h1, h2, h3, h4, -, h5, h6, -⟩ := Cond.codeWith_spec (atoms_spec (ws := ws) h _ (by rw [hw]; exact List.mem_cons_self))
    cases hn.symm.trans hn9
    exact ⟨meth, c, h1, h2, h3, h4, h5, h6⟩
  · intro p e s m args below meth c s₁ B hml hP _
    have hh0 : s₁.heap = s.heap := by rw [B.state]; rfl
    obtain ⟨t, a1, o, b1, b2, b3⟩ := body p e s m args below meth c s₁ B hml hP s₁ hh0 (Stand.of_body B)
    exact ⟨t, o, a1, b1, b2, b3⟩
/-! ===== END ===== -/
end
section
def RX0 : String := "AirValves$Action"
def TX0 : u_T := fun k => match k with
  | _ => ("", "", "", false)
def tyX0 : Nat → FieldType := fun k => match k with
  | _ => .int
abbrev wsX00 : List Cond := u_ws RX0 TX0 0
theorem nmX0 : ∀ a, a < 0 → ∀ b, b < 0 → a ≠ b → (TX0 a).2.1 ≠ (TX0 b).2.1 := by decide +kernel
theorem tyX0_ok : ∀ k, k < 0 → parseFieldDescriptor (TX0 k).2.2.1 = some (tyX0 k) := by decide +kernel
abbrev cX0_faultOfValve : ByteArray := prog_2_method_2_code
def yX0_faultOfValve : MethodName := ⟨RX0, "faultOfValve", "(LAirValves$Net;II)I"⟩
abbrev cX0_tryValve : ByteArray := prog_2_method_3_code
def yX0_tryValve : MethodName := ⟨RX0, "tryValve", "(LAirValves$Net;II)Z"⟩
abbrev cX0_faultOfDuct : ByteArray := prog_2_method_4_code
def yX0_faultOfDuct : MethodName := ⟨RX0, "faultOfDuct", "(LAirValves$Net;IIIII)I"⟩
abbrev cX0_tryDuct : ByteArray := prog_2_method_5_code
def yX0_tryDuct : MethodName := ⟨RX0, "tryDuct", "(LAirValves$Net;IIIII)Z"⟩
abbrev cX0_faultOfRemove : ByteArray := prog_2_method_6_code
def yX0_faultOfRemove : MethodName := ⟨RX0, "faultOfRemove", "(LAirValves$Net;I)I"⟩
abbrev cX0_tryRemove : ByteArray := prog_2_method_7_code
def yX0_tryRemove : MethodName := ⟨RX0, "tryRemove", "(LAirValves$Net;I)Z"⟩
abbrev cX0_faultOfPress : ByteArray := prog_2_method_8_code
def yX0_faultOfPress : MethodName := ⟨RX0, "faultOfPress", "(LAirValves$Net;I)I"⟩
abbrev cX0_tryPress : ByteArray := prog_2_method_9_code
def yX0_tryPress : MethodName := ⟨RX0, "tryPress", "(LAirValves$Net;IZ)Z"⟩
abbrev cX0_faultOfLeak : ByteArray := prog_2_method_10_code
def yX0_faultOfLeak : MethodName := ⟨RX0, "faultOfLeak", "(LAirValves$Net;II)I"⟩
abbrev cX0_tryLeak : ByteArray := prog_2_method_11_code
def yX0_tryLeak : MethodName := ⟨RX0, "tryLeak", "(LAirValves$Net;II)Z"⟩
abbrev cX0_faultOfFeed : ByteArray := prog_2_method_12_code
def yX0_faultOfFeed : MethodName := ⟨RX0, "faultOfFeed", "(LAirValves$Net;II)I"⟩
abbrev cX0_tryFeed : ByteArray := prog_2_method_13_code
def yX0_tryFeed : MethodName := ⟨RX0, "tryFeed", "(LAirValves$Net;II)Z"⟩
abbrev cX0_faultOfSet : ByteArray := prog_2_method_14_code
def yX0_faultOfSet : MethodName := ⟨RX0, "faultOfSet", "(II)I"⟩
abbrev cX0_trySet : ByteArray := prog_2_method_15_code
def yX0_trySet : MethodName := ⟨RX0, "trySet", "(LAirValves$Net;II)Z"⟩
abbrev cX0_faultOfTicks : ByteArray := prog_2_method_16_code
def yX0_faultOfTicks : MethodName := ⟨RX0, "faultOfTicks", "(I)I"⟩
abbrev cX0_tryTicks : ByteArray := prog_2_method_17_code
def yX0_tryTicks : MethodName := ⟨RX0, "tryTicks", "(LAirValves$Net;I)Z"⟩
def RX1 : String := "AirValves$Memory"
def TX1 : u_T := fun k => match k with
  | 0 => ("AirValves$Memory", "count", "I", false)
  | 1 => ("AirValves$Memory", "oldest", "I", false)
  | _ => ("AirValves$Memory", "states", "[LAirValves$Net;", true)
def tyX1 : Nat → FieldType := fun k => match k with
  | 0 => .int
  | 1 => .int
  | _ => .array (.object "AirValves$Net")
abbrev wsX10 : List Cond := u_ws RX1 TX1 3
theorem nmX1 : ∀ a, a < 3 → ∀ b, b < 3 → a ≠ b → (TX1 a).2.1 ≠ (TX1 b).2.1 := by decide +kernel
theorem tyX1_ok : ∀ k, k < 3 → parseFieldDescriptor (TX1 k).2.2.1 = some (tyX1 k) := by decide +kernel
abbrev cX1_init : ByteArray := prog_3_method_1_code
def yX1_init : MethodName := ⟨RX1, "<init>", "()V"⟩
abbrev cX1_keep : ByteArray := prog_3_method_2_code
def yX1_keep : MethodName := ⟨RX1, "keep", "(LAirValves$Net;)V"⟩
abbrev cX1_takeBack : ByteArray := prog_3_method_3_code
def yX1_takeBack : MethodName := ⟨RX1, "takeBack", "(LAirValves$Net;)V"⟩
abbrev cX1_forgetAll : ByteArray := prog_3_method_4_code
def yX1_forgetAll : MethodName := ⟨RX1, "forgetAll", "()V"⟩
def RX2 : String := "AirValves$Net"
def TX2 : u_T := fun k => match k with
  | 0 => ("AirValves$Net", "time", "I", false)
  | 1 => ("AirValves$Net", "crossings", "I", false)
  | 2 => ("AirValves$Net", "valves", "I", false)
  | 3 => ("AirValves$Net", "ducts", "I", false)
  | 4 => ("AirValves$Net", "settings", "[I", true)
  | 5 => ("AirValves$Net", "kinds", "[I", true)
  | 6 => ("AirValves$Net", "supplies", "[I", true)
  | 7 => ("AirValves$Net", "sides", "[I", true)
  | 8 => ("AirValves$Net", "legs", "[I", true)
  | 9 => ("AirValves$Net", "pushes", "[I", true)
  | 10 => ("AirValves$Net", "sources", "[I", true)
  | 11 => ("AirValves$Net", "targets", "[I", true)
  | 12 => ("AirValves$Net", "lengths", "[I", true)
  | 13 => ("AirValves$Net", "leaks", "[I", true)
  | 14 => ("AirValves$Net", "air", "[I", true)
  | _ => ("AirValves$Net", "arriving", "[I", true)
def tyX2 : Nat → FieldType := fun k => match k with
  | 0 => .int
  | 1 => .int
  | 2 => .int
  | 3 => .int
  | 4 => .array .int
  | 5 => .array .int
  | 6 => .array .int
  | 7 => .array .int
  | 8 => .array .int
  | 9 => .array .int
  | 10 => .array .int
  | 11 => .array .int
  | 12 => .array .int
  | 13 => .array .int
  | 14 => .array .int
  | _ => .array .int
abbrev wsX20 : List Cond := u_ws RX2 TX2 16
theorem nmX2 : ∀ a, a < 16 → ∀ b, b < 16 → a ≠ b → (TX2 a).2.1 ≠ (TX2 b).2.1 := by decide +kernel
theorem tyX2_ok : ∀ k, k < 16 → parseFieldDescriptor (TX2 k).2.2.1 = some (tyX2 k) := by decide +kernel
abbrev cX2_init : ByteArray := prog_4_method_1_code
def yX2_init : MethodName := ⟨RX2, "<init>", "()V"⟩
abbrev cX2_startAnew : ByteArray := prog_4_method_2_code
def yX2_startAnew : MethodName := ⟨RX2, "startAnew", "()V"⟩
abbrev cX2_copyFrom : ByteArray := prog_4_method_3_code
def yX2_copyFrom : MethodName := ⟨RX2, "copyFrom", "(LAirValves$Net;)V"⟩
abbrev cX2_hasValve : ByteArray := prog_4_method_4_code
def yX2_hasValve : MethodName := ⟨RX2, "hasValve", "(I)Z"⟩
abbrev cX2_hasEnd : ByteArray := prog_4_method_5_code
def yX2_hasEnd : MethodName := ⟨RX2, "hasEnd", "(II)Z"⟩
abbrev cX2_hasDuct : ByteArray := prog_4_method_6_code
def yX2_hasDuct : MethodName := ⟨RX2, "hasDuct", "(I)Z"⟩
abbrev cX2_addValve : ByteArray := prog_4_method_7_code
def yX2_addValve : MethodName := ⟨RX2, "addValve", "(II)V"⟩
abbrev cX2_addDuct : ByteArray := prog_4_method_8_code
def yX2_addDuct : MethodName := ⟨RX2, "addDuct", "(III)V"⟩
abbrev cX2_removeDuct : ByteArray := prog_4_method_9_code
def yX2_removeDuct : MethodName := ⟨RX2, "removeDuct", "(I)V"⟩
abbrev cX2_legsUnderPressure : ByteArray := prog_4_method_10_code
def yX2_legsUnderPressure : MethodName := ⟨RX2, "legsUnderPressure", "()I"⟩
abbrev cX2_pressureOfAllLegs : ByteArray := prog_4_method_11_code
def yX2_pressureOfAllLegs : MethodName := ⟨RX2, "pressureOfAllLegs", "()I"⟩
abbrev cX2_legsUnlike : ByteArray := prog_4_method_12_code
def yX2_legsUnlike : MethodName := ⟨RX2, "legsUnlike", "(LAirValves$Net;)I"⟩
abbrev cX2_pressedKeys : ByteArray := prog_4_method_13_code
def yX2_pressedKeys : MethodName := ⟨RX2, "pressedKeys", "()I"⟩
abbrev cX2_ductsFrom : ByteArray := prog_4_method_14_code
def yX2_ductsFrom : MethodName := ⟨RX2, "ductsFrom", "(I)I"⟩
abbrev cX2_ductsTo : ByteArray := prog_4_method_15_code
def yX2_ductsTo : MethodName := ⟨RX2, "ductsTo", "(I)I"⟩
abbrev cX2_works : ByteArray := prog_4_method_16_code
def yX2_works : MethodName := ⟨RX2, "works", "(I)Z"⟩
abbrev cX2_lostIn : ByteArray := prog_4_method_17_code
def yX2_lostIn : MethodName := ⟨RX2, "lostIn", "(I)I"⟩
abbrev cX2_nextOutOf : ByteArray := prog_4_method_18_code
def yX2_nextOutOf : MethodName := ⟨RX2, "nextOutOf", "(I)I"⟩
abbrev cX2_enoughFor : ByteArray := prog_4_method_19_code
def yX2_enoughFor : MethodName := ⟨RX2, "enoughFor", "(I)I"⟩
abbrev cX2_spareOf : ByteArray := prog_4_method_20_code
def yX2_spareOf : MethodName := ⟨RX2, "spareOf", "(I)I"⟩
abbrev cX2_passTick : ByteArray := prog_4_method_21_code
def yX2_passTick : MethodName := ⟨RX2, "passTick", "()Z"⟩
abbrev cX2_fillPushes : ByteArray := prog_4_method_22_code
def yX2_fillPushes : MethodName := ⟨RX2, "fillPushes", "()Z"⟩
abbrev cX2_turnValve : ByteArray := prog_4_method_23_code
def yX2_turnValve : MethodName := ⟨RX2, "turnValve", "(I)Z"⟩
abbrev cX2_turnWallJet : ByteArray := prog_4_method_24_code
def yX2_turnWallJet : MethodName := ⟨RX2, "turnWallJet", "(I)I"⟩
abbrev cX2_supplyLeg : ByteArray := prog_4_method_25_code
def yX2_supplyLeg : MethodName := ⟨RX2, "supplyLeg", "(II)Z"⟩
abbrev cX2_putLegs : ByteArray := prog_4_method_26_code
def yX2_putLegs : MethodName := ⟨RX2, "putLegs", "(III)Z"⟩
abbrev cX2_moveAir : ByteArray := prog_4_method_27_code
def yX2_moveAir : MethodName := ⟨RX2, "moveAir", "(I)Z"⟩
abbrev cX2_findBeat : ByteArray := prog_4_method_28_code
def yX2_findBeat : MethodName := ⟨RX2, "findBeat", "(I)I"⟩
def RX3 : String := "AirValves$Script"
def TX3 : u_T := fun k => match k with
  | _ => ("", "", "", false)
def tyX3 : Nat → FieldType := fun k => match k with
  | _ => .int
abbrev wsX30 : List Cond := u_ws RX3 TX3 0
theorem nmX3 : ∀ a, a < 0 → ∀ b, b < 0 → a ≠ b → (TX3 a).2.1 ≠ (TX3 b).2.1 := by decide +kernel
theorem tyX3_ok : ∀ k, k < 0 → parseFieldDescriptor (TX3 k).2.2.1 = some (tyX3 k) := by decide +kernel
abbrev cX3_succeeds : ByteArray := prog_5_method_2_code
def yX3_succeeds : MethodName := ⟨RX3, "succeeds", "(LAirValves$Net;LAirValves$Net;I)Z"⟩
abbrev cX3_isAtRest : ByteArray := prog_5_method_3_code
def yX3_isAtRest : MethodName := ⟨RX3, "isAtRest", "(LAirValves$Net;LAirValves$Net;)Z"⟩
abbrev cX3_doTurn : ByteArray := prog_5_method_4_code
def yX3_doTurn : MethodName := ⟨RX3, "doTurn", "(LAirValves$Net;I)V"⟩
def RX4 : String := "AirValves$Text"
def TX4 : u_T := fun k => match k with
  | 0 => ("AirValves$Text", "signs", "[C", true)
  | 1 => ("AirValves$Text", "length", "I", false)
  | 2 => ("AirValves$Text", "at", "I", false)
  | 3 => ("AirValves$Text", "letter", "I", false)
  | _ => ("AirValves$Text", "numbers", "[I", true)
def tyX4 : Nat → FieldType := fun k => match k with
  | 0 => .array .char
  | 1 => .int
  | 2 => .int
  | 3 => .int
  | _ => .array .int
abbrev wsX40 : List Cond := u_ws RX4 TX4 5
theorem nmX4 : ∀ a, a < 5 → ∀ b, b < 5 → a ≠ b → (TX4 a).2.1 ≠ (TX4 b).2.1 := by decide +kernel
theorem tyX4_ok : ∀ k, k < 5 → parseFieldDescriptor (TX4 k).2.2.1 = some (tyX4 k) := by decide +kernel
abbrev cX4_init : ByteArray := prog_6_method_1_code
def yX4_init : MethodName := ⟨RX4, "<init>", "()V"⟩
abbrev cX4_firstError : ByteArray := prog_6_method_2_code
def yX4_firstError : MethodName := ⟨RX4, "firstError", "()I"⟩
abbrev cX4_readStart : ByteArray := prog_6_method_3_code
def yX4_readStart : MethodName := ⟨RX4, "readStart", "()Z"⟩
abbrev cX4_hasMore : ByteArray := prog_6_method_4_code
def yX4_hasMore : MethodName := ⟨RX4, "hasMore", "()Z"⟩
abbrev cX4_readCommand : ByteArray := prog_6_method_5_code
def yX4_readCommand : MethodName := ⟨RX4, "readCommand", "()Z"⟩
abbrev cX4_boundsOf : ByteArray := prog_6_method_6_code
def yX4_boundsOf : MethodName := ⟨RX4, "boundsOf", "(I)[I"⟩
abbrev cX4_readNumber : ByteArray := prog_6_method_7_code
def yX4_readNumber : MethodName := ⟨RX4, "readNumber", "(III)Z"⟩
abbrev cX4_doCommand : ByteArray := prog_6_method_8_code
def yX4_doCommand : MethodName := ⟨RX4, "doCommand", "(LAirValves$Net;)Z"⟩
def RX5 : String := "AirValves"
def TX5 : u_T := fun k => match k with
  | 0 => ("AirValves", "text", "LAirValves$Text;", true)
  | 1 => ("AirValves", "now", "LAirValves$Net;", true)
  | 2 => ("AirValves", "memory", "LAirValves$Memory;", true)
  | 3 => ("AirValves", "slots", "[LAirValves$Net;", true)
  | 4 => ("AirValves", "saved", "[Z", true)
  | 5 => ("AirValves", "trial", "LAirValves$Net;", true)
  | _ => ("AirValves", "probe", "LAirValves$Net;", true)
def tyX5 : Nat → FieldType := fun k => match k with
  | 0 => .object "AirValves$Text"
  | 1 => .object "AirValves$Net"
  | 2 => .object "AirValves$Memory"
  | 3 => .array (.object "AirValves$Net")
  | 4 => .array .boolean
  | 5 => .object "AirValves$Net"
  | _ => .object "AirValves$Net"
abbrev wsX50 : List Cond := u_ws RX5 TX5 7
theorem nmX5 : ∀ a, a < 7 → ∀ b, b < 7 → a ≠ b → (TX5 a).2.1 ≠ (TX5 b).2.1 := by decide +kernel
theorem tyX5_ok : ∀ k, k < 7 → parseFieldDescriptor (TX5 k).2.2.1 = some (tyX5 k) := by decide +kernel
abbrev cX5_init : ByteArray := prog_1_method_1_code
def yX5_init : MethodName := ⟨RX5, "<init>", "()V"⟩
abbrev cX5_append : ByteArray := prog_1_method_2_code
def yX5_append : MethodName := ⟨RX5, "append", "(I)I"⟩
abbrev cX5_clearText : ByteArray := prog_1_method_3_code
def yX5_clearText : MethodName := ⟨RX5, "clearText", "()I"⟩
abbrev cX5_errorPosition : ByteArray := prog_1_method_4_code
def yX5_errorPosition : MethodName := ⟨RX5, "errorPosition", "()I"⟩
abbrev cX5_load : ByteArray := prog_1_method_5_code
def yX5_load : MethodName := ⟨RX5, "load", "()I"⟩
abbrev cX5_about : ByteArray := prog_1_method_6_code
def yX5_about : MethodName := ⟨RX5, "about", "(I)I"⟩
abbrev cX5_valveOf : ByteArray := prog_1_method_7_code
def yX5_valveOf : MethodName := ⟨RX5, "valveOf", "(II)I"⟩
abbrev cX5_leg : ByteArray := prog_1_method_8_code
def yX5_leg : MethodName := ⟨RX5, "leg", "(II)I"⟩
abbrev cX5_push : ByteArray := prog_1_method_9_code
def yX5_push : MethodName := ⟨RX5, "push", "(III)I"⟩
abbrev cX5_ductOf : ByteArray := prog_1_method_10_code
def yX5_ductOf : MethodName := ⟨RX5, "ductOf", "(II)I"⟩
abbrev cX5_setting : ByteArray := prog_1_method_11_code
def yX5_setting : MethodName := ⟨RX5, "setting", "(I)I"⟩
abbrev cX5_valve : ByteArray := prog_1_method_12_code
def yX5_valve : MethodName := ⟨RX5, "valve", "(II)I"⟩
abbrev cX5_duct : ByteArray := prog_1_method_13_code
def yX5_duct : MethodName := ⟨RX5, "duct", "(IIIII)I"⟩
abbrev cX5_remove : ByteArray := prog_1_method_14_code
def yX5_remove : MethodName := ⟨RX5, "remove", "(I)I"⟩
abbrev cX5_press : ByteArray := prog_1_method_15_code
def yX5_press : MethodName := ⟨RX5, "press", "(IZ)I"⟩
abbrev cX5_leak : ByteArray := prog_1_method_16_code
def yX5_leak : MethodName := ⟨RX5, "leak", "(II)I"⟩
abbrev cX5_feed : ByteArray := prog_1_method_17_code
def yX5_feed : MethodName := ⟨RX5, "feed", "(II)I"⟩
abbrev cX5_set : ByteArray := prog_1_method_18_code
def yX5_set : MethodName := ⟨RX5, "set", "(II)I"⟩
abbrev cX5_ticks : ByteArray := prog_1_method_19_code
def yX5_ticks : MethodName := ⟨RX5, "ticks", "(I)I"⟩
abbrev cX5_undo : ByteArray := prog_1_method_20_code
def yX5_undo : MethodName := ⟨RX5, "undo", "()I"⟩
abbrev cX5_restIn : ByteArray := prog_1_method_21_code
def yX5_restIn : MethodName := ⟨RX5, "restIn", "()I"⟩
abbrev cX5_beat : ByteArray := prog_1_method_22_code
def yX5_beat : MethodName := ⟨RX5, "beat", "(I)I"⟩
abbrev cX5_rule : ByteArray := prog_1_method_23_code
def yX5_rule : MethodName := ⟨RX5, "rule", "(III)I"⟩
abbrev cX5_ifLeak : ByteArray := prog_1_method_24_code
def yX5_ifLeak : MethodName := ⟨RX5, "ifLeak", "(III)I"⟩
abbrev cX5_suspect : ByteArray := prog_1_method_25_code
def yX5_suspect : MethodName := ⟨RX5, "suspect", "(II)I"⟩
abbrev cX5_tightest : ByteArray := prog_1_method_26_code
def yX5_tightest : MethodName := ⟨RX5, "tightest", "()I"⟩
abbrev cX5_runScript : ByteArray := prog_1_method_27_code
def yX5_runScript : MethodName := ⟨RX5, "runScript", "(IJ)I"⟩
abbrev cX5_simulate : ByteArray := prog_1_method_28_code
def yX5_simulate : MethodName := ⟨RX5, "simulate", "(JI)I"⟩
abbrev cX5_save : ByteArray := prog_1_method_29_code
def yX5_save : MethodName := ⟨RX5, "save", "(I)I"⟩
abbrev cX5_restore : ByteArray := prog_1_method_30_code
def yX5_restore : MethodName := ⟨RX5, "restore", "(I)I"⟩
abbrev cX5_isIn : ByteArray := prog_1_method_31_code
def yX5_isIn : MethodName := ⟨RX5, "isIn", "(III)Z"⟩
abbrev cX5_endOf : ByteArray := prog_1_method_32_code
def yX5_endOf : MethodName := ⟨RX5, "endOf", "(II)I"⟩
abbrev cX5_refuse : ByteArray := prog_1_method_33_code
def yX5_refuse : MethodName := ⟨RX5, "refuse", "(I)V"⟩
abbrev cX5_emptySlots : ByteArray := prog_1_method_34_code
def yX5_emptySlots : MethodName := ⟨RX5, "emptySlots", "()V"⟩
abbrev cX5_withoutGroups : ByteArray := prog_1_method_35_code
def yX5_withoutGroups : MethodName := ⟨RX5, "withoutGroups", "(JI)J"⟩
abbrev cX5_findBeatWithLeak : ByteArray := prog_1_method_36_code
def yX5_findBeatWithLeak : MethodName := ⟨RX5, "findBeatWithLeak", "(III)I"⟩
def RX6 : String := "AirValvesModel"
def TX6 : u_T := fun k => match k with
  | 0 => ("AirValvesModel", "refusal", "I", false)
  | 1 => ("AirValvesModel", "text", "[I", true)
  | 2 => ("AirValvesModel", "size", "I", false)
  | 3 => ("AirValvesModel", "now", "[I", true)
  | 4 => ("AirValvesModel", "trial", "[I", true)
  | 5 => ("AirValvesModel", "further", "[I", true)
  | 6 => ("AirValvesModel", "diary", "[I", true)
  | 7 => ("AirValvesModel", "acts", "I", false)
  | 8 => ("AirValvesModel", "kept", "[I", true)
  | 9 => ("AirValvesModel", "isKept", "[Z", true)
  | 10 => ("AirValvesModel", "spot", "I", false)
  | _ => ("AirValvesModel", "out", "I", false)
def tyX6 : Nat → FieldType := fun k => match k with
  | 0 => .int
  | 1 => .array .int
  | 2 => .int
  | 3 => .array .int
  | 4 => .array .int
  | 5 => .array .int
  | 6 => .array .int
  | 7 => .int
  | 8 => .array .int
  | 9 => .array .boolean
  | 10 => .int
  | _ => .int
abbrev wsX60 : List Cond := u_ws RX6 TX6 12
theorem nmX6 : ∀ a, a < 12 → ∀ b, b < 12 → a ≠ b → (TX6 a).2.1 ≠ (TX6 b).2.1 := by decide +kernel
theorem tyX6_ok : ∀ k, k < 12 → parseFieldDescriptor (TX6 k).2.2.1 = some (tyX6 k) := by decide +kernel
abbrev cX6_init : ByteArray := prog_8_method_1_code
def yX6_init : MethodName := ⟨RX6, "<init>", "()V"⟩
abbrev cX6_thrown : ByteArray := prog_8_method_2_code
def yX6_thrown : MethodName := ⟨RX6, "thrown", "()I"⟩
abbrev cX6_refused : ByteArray := prog_8_method_3_code
def yX6_refused : MethodName := ⟨RX6, "refused", "(I)Z"⟩
abbrev cX6_in : ByteArray := prog_8_method_4_code
def yX6_in : MethodName := ⟨RX6, "in", "(JJJ)Z"⟩
abbrev cX6_copyState : ByteArray := prog_8_method_5_code
def yX6_copyState : MethodName := ⟨RX6, "copyState", "([II[II)V"⟩
abbrev cX6_clear : ByteArray := prog_8_method_6_code
def yX6_clear : MethodName := ⟨RX6, "clear", "([I)V"⟩
abbrev cX6_of : ByteArray := prog_8_method_7_code
def yX6_of : MethodName := ⟨RX6, "of", "([III)I"⟩
abbrev cX6_ofDuct : ByteArray := prog_8_method_8_code
def yX6_ofDuct : MethodName := ⟨RX6, "ofDuct", "([III)I"⟩
abbrev cX6_isValve : ByteArray := prog_8_method_9_code
def yX6_isValve : MethodName := ⟨RX6, "isValve", "([II)Z"⟩
abbrev cX6_isDuct : ByteArray := prog_8_method_10_code
def yX6_isDuct : MethodName := ⟨RX6, "isDuct", "([II)Z"⟩
abbrev cX6_isSide : ByteArray := prog_8_method_11_code
def yX6_isSide : MethodName := ⟨RX6, "isSide", "(I)Z"⟩
abbrev cX6_isKey : ByteArray := prog_8_method_12_code
def yX6_isKey : MethodName := ⟨RX6, "isKey", "([II)Z"⟩
abbrev cX6_isSetting : ByteArray := prog_8_method_13_code
def yX6_isSetting : MethodName := ⟨RX6, "isSetting", "(II)Z"⟩
abbrev cX6_isStrong : ByteArray := prog_8_method_14_code
def yX6_isStrong : MethodName := ⟨RX6, "isStrong", "([III)Z"⟩
abbrev cX6_works : ByteArray := prog_8_method_15_code
def yX6_works : MethodName := ⟨RX6, "works", "([III)Z"⟩
abbrev cX6_comesOut : ByteArray := prog_8_method_16_code
def yX6_comesOut : MethodName := ⟨RX6, "comesOut", "([II)I"⟩
abbrev cX6_pushAll : ByteArray := prog_8_method_17_code
def yX6_pushAll : MethodName := ⟨RX6, "pushAll", "([I)V"⟩
abbrev cX6_layLegs : ByteArray := prog_8_method_18_code
def yX6_layLegs : MethodName := ⟨RX6, "layLegs", "([IIII)V"⟩
abbrev cX6_goesOver : ByteArray := prog_8_method_19_code
def yX6_goesOver : MethodName := ⟨RX6, "goesOver", "([III)V"⟩
abbrev cX6_reckon : ByteArray := prog_8_method_20_code
def yX6_reckon : MethodName := ⟨RX6, "reckon", "([II)V"⟩
abbrev cX6_enter : ByteArray := prog_8_method_21_code
def yX6_enter : MethodName := ⟨RX6, "enter", "([II)V"⟩
abbrev cX6_tick : ByteArray := prog_8_method_22_code
def yX6_tick : MethodName := ⟨RX6, "tick", "([I)V"⟩
abbrev cX6_run : ByteArray := prog_8_method_23_code
def yX6_run : MethodName := ⟨RX6, "run", "([II)V"⟩
abbrev cX6_runOn : ByteArray := prog_8_method_24_code
def yX6_runOn : MethodName := ⟨RX6, "runOn", "([II)I"⟩
abbrev cX6_rests : ByteArray := prog_8_method_25_code
def yX6_rests : MethodName := ⟨RX6, "rests", "([I)Z"⟩
abbrev cX6_valveOn : ByteArray := prog_8_method_26_code
def yX6_valveOn : MethodName := ⟨RX6, "valveOn", "([III)I"⟩
abbrev cX6_isValveWord : ByteArray := prog_8_method_27_code
def yX6_isValveWord : MethodName := ⟨RX6, "isValveWord", "(II)Z"⟩
abbrev cX6_areEnds : ByteArray := prog_8_method_28_code
def yX6_areEnds : MethodName := ⟨RX6, "areEnds", "([IIIII)Z"⟩
abbrev cX6_canDuct : ByteArray := prog_8_method_29_code
def yX6_canDuct : MethodName := ⟨RX6, "canDuct", "([IIIIII)Z"⟩
abbrev cX6_ductOn : ByteArray := prog_8_method_30_code
def yX6_ductOn : MethodName := ⟨RX6, "ductOn", "([IIIIII)I"⟩
abbrev cX6_removeOn : ByteArray := prog_8_method_31_code
def yX6_removeOn : MethodName := ⟨RX6, "removeOn", "([II)I"⟩
abbrev cX6_change : ByteArray := prog_8_method_32_code
def yX6_change : MethodName := ⟨RX6, "change", "([III)I"⟩
abbrev cX6_pressOn : ByteArray := prog_8_method_33_code
def yX6_pressOn : MethodName := ⟨RX6, "pressOn", "([IIZ)I"⟩
abbrev cX6_append : ByteArray := prog_8_method_34_code
def yX6_append : MethodName := ⟨RX6, "append", "(I)I"⟩
abbrev cX6_clearText : ByteArray := prog_8_method_35_code
def yX6_clearText : MethodName := ⟨RX6, "clearText", "()I"⟩
abbrev cX6_figures : ByteArray := prog_8_method_36_code
def yX6_figures : MethodName := ⟨RX6, "figures", "(IIII)I"⟩
abbrev cX6_done : ByteArray := prog_8_method_37_code
def yX6_done : MethodName := ⟨RX6, "done", "(Z)Z"⟩
abbrev cX6_who : ByteArray := prog_8_method_38_code
def yX6_who : MethodName := ⟨RX6, "who", "(I)I"⟩
abbrev cX6_readDuct : ByteArray := prog_8_method_39_code
def yX6_readDuct : MethodName := ⟨RX6, "readDuct", "([I)Z"⟩
abbrev cX6_readCommand : ByteArray := prog_8_method_40_code
def yX6_readCommand : MethodName := ⟨RX6, "readCommand", "([I)Z"⟩
abbrev cX6_readText : ByteArray := prog_8_method_41_code
def yX6_readText : MethodName := ⟨RX6, "readText", "([I)I"⟩
abbrev cX6_errorPosition : ByteArray := prog_8_method_42_code
def yX6_errorPosition : MethodName := ⟨RX6, "errorPosition", "()I"⟩
abbrev cX6_load : ByteArray := prog_8_method_43_code
def yX6_load : MethodName := ⟨RX6, "load", "()I"⟩
abbrev cX6_livelyLegs : ByteArray := prog_8_method_44_code
def yX6_livelyLegs : MethodName := ⟨RX6, "livelyLegs", "([I)I"⟩
abbrev cX6_allPressures : ByteArray := prog_8_method_45_code
def yX6_allPressures : MethodName := ⟨RX6, "allPressures", "([I)I"⟩
abbrev cX6_about : ByteArray := prog_8_method_46_code
def yX6_about : MethodName := ⟨RX6, "about", "(I)I"⟩
abbrev cX6_valveOf : ByteArray := prog_8_method_47_code
def yX6_valveOf : MethodName := ⟨RX6, "valveOf", "(II)I"⟩
abbrev cX6_leg : ByteArray := prog_8_method_48_code
def yX6_leg : MethodName := ⟨RX6, "leg", "(II)I"⟩
abbrev cX6_push : ByteArray := prog_8_method_49_code
def yX6_push : MethodName := ⟨RX6, "push", "(III)I"⟩
abbrev cX6_needs : ByteArray := prog_8_method_50_code
def yX6_needs : MethodName := ⟨RX6, "needs", "([II)I"⟩
abbrev cX6_ductOf : ByteArray := prog_8_method_51_code
def yX6_ductOf : MethodName := ⟨RX6, "ductOf", "(II)I"⟩
abbrev cX6_setting : ByteArray := prog_8_method_52_code
def yX6_setting : MethodName := ⟨RX6, "setting", "(I)I"⟩
abbrev cX6_remember : ByteArray := prog_8_method_53_code
def yX6_remember : MethodName := ⟨RX6, "remember", "()V"⟩
abbrev cX6_valve : ByteArray := prog_8_method_54_code
def yX6_valve : MethodName := ⟨RX6, "valve", "(II)I"⟩
abbrev cX6_duct : ByteArray := prog_8_method_55_code
def yX6_duct : MethodName := ⟨RX6, "duct", "(IIIII)I"⟩
abbrev cX6_remove : ByteArray := prog_8_method_56_code
def yX6_remove : MethodName := ⟨RX6, "remove", "(I)I"⟩
abbrev cX6_press : ByteArray := prog_8_method_57_code
def yX6_press : MethodName := ⟨RX6, "press", "(IZ)I"⟩
abbrev cX6_leak : ByteArray := prog_8_method_58_code
def yX6_leak : MethodName := ⟨RX6, "leak", "(II)I"⟩
abbrev cX6_feed : ByteArray := prog_8_method_59_code
def yX6_feed : MethodName := ⟨RX6, "feed", "(II)I"⟩
abbrev cX6_set : ByteArray := prog_8_method_60_code
def yX6_set : MethodName := ⟨RX6, "set", "(II)I"⟩
abbrev cX6_ticks : ByteArray := prog_8_method_61_code
def yX6_ticks : MethodName := ⟨RX6, "ticks", "(I)I"⟩
abbrev cX6_undo : ByteArray := prog_8_method_62_code
def yX6_undo : MethodName := ⟨RX6, "undo", "()I"⟩
abbrev cX6_restIn : ByteArray := prog_8_method_63_code
def yX6_restIn : MethodName := ⟨RX6, "restIn", "()I"⟩
abbrev cX6_beatOf : ByteArray := prog_8_method_64_code
def yX6_beatOf : MethodName := ⟨RX6, "beatOf", "(I)I"⟩
abbrev cX6_beat : ByteArray := prog_8_method_65_code
def yX6_beat : MethodName := ⟨RX6, "beat", "(I)I"⟩
abbrev cX6_rule : ByteArray := prog_8_method_66_code
def yX6_rule : MethodName := ⟨RX6, "rule", "(III)I"⟩
abbrev cX6_beatWith : ByteArray := prog_8_method_67_code
def yX6_beatWith : MethodName := ⟨RX6, "beatWith", "(III)I"⟩
abbrev cX6_ifLeak : ByteArray := prog_8_method_68_code
def yX6_ifLeak : MethodName := ⟨RX6, "ifLeak", "(III)I"⟩
abbrev cX6_suspect : ByteArray := prog_8_method_69_code
def yX6_suspect : MethodName := ⟨RX6, "suspect", "(II)I"⟩
abbrev cX6_tightest : ByteArray := prog_8_method_70_code
def yX6_tightest : MethodName := ⟨RX6, "tightest", "()I"⟩
abbrev cX6_command : ByteArray := prog_8_method_71_code
def yX6_command : MethodName := ⟨RX6, "command", "(II)Z"⟩
abbrev cX6_runScript : ByteArray := prog_8_method_72_code
def yX6_runScript : MethodName := ⟨RX6, "runScript", "(IJ)I"⟩
abbrev cX6_turnDuct : ByteArray := prog_8_method_73_code
def yX6_turnDuct : MethodName := ⟨RX6, "turnDuct", "([II)V"⟩
abbrev cX6_turn : ByteArray := prog_8_method_74_code
def yX6_turn : MethodName := ⟨RX6, "turn", "([II)V"⟩
abbrev cX6_simulate : ByteArray := prog_8_method_75_code
def yX6_simulate : MethodName := ⟨RX6, "simulate", "(JI)I"⟩
abbrev cX6_save : ByteArray := prog_8_method_76_code
def yX6_save : MethodName := ⟨RX6, "save", "(I)I"⟩
abbrev cX6_restore : ByteArray := prog_8_method_77_code
def yX6_restore : MethodName := ⟨RX6, "restore", "(I)I"⟩
def RJ7 : String := "java/util/Arrays"
def TJ7 : u_T := fun k => match k with
  | _ => ("", "", "", false)
def tyJ7 : Nat → FieldType := fun k => match k with
  | _ => .int
abbrev cJ7_rangeCheck_23922 : ByteArray := prog_26_method_30_code
def yJ7_rangeCheck_23922 : MethodName := ⟨RJ7, "rangeCheck", "(III)V"⟩
abbrev cJ7_fill_53178 : ByteArray := prog_26_method_103_code
def yJ7_fill_53178 : MethodName := ⟨RJ7, "fill", "([II)V"⟩
abbrev cJ7_fill_fda19 : ByteArray := prog_26_method_104_code
def yJ7_fill_fda19 : MethodName := ⟨RJ7, "fill", "([IIII)V"⟩
def RL : String := "AirValvesLaw"
abbrev cL_append : ByteArray := method_3_code
def yL_append : MethodName := ⟨RL, "append", "(LAirValves;I[J)I"⟩
abbrev cL_load : ByteArray := method_4_code
def yL_load : MethodName := ⟨RL, "load", "(LAirValves;[J)I"⟩
abbrev cL_about : ByteArray := method_5_code
def yL_about : MethodName := ⟨RL, "about", "(LAirValves;I[J)I"⟩
abbrev cL_valveOf : ByteArray := method_6_code
def yL_valveOf : MethodName := ⟨RL, "valveOf", "(LAirValves;II[J)I"⟩
abbrev cL_leg : ByteArray := method_7_code
def yL_leg : MethodName := ⟨RL, "leg", "(LAirValves;II[J)I"⟩
abbrev cL_push : ByteArray := method_8_code
def yL_push : MethodName := ⟨RL, "push", "(LAirValves;III[J)I"⟩
abbrev cL_ductOf : ByteArray := method_9_code
def yL_ductOf : MethodName := ⟨RL, "ductOf", "(LAirValves;II[J)I"⟩
abbrev cL_setting : ByteArray := method_10_code
def yL_setting : MethodName := ⟨RL, "setting", "(LAirValves;I[J)I"⟩
abbrev cL_valve : ByteArray := method_11_code
def yL_valve : MethodName := ⟨RL, "valve", "(LAirValves;II[J)I"⟩
abbrev cL_duct : ByteArray := method_12_code
def yL_duct : MethodName := ⟨RL, "duct", "(LAirValves;IIIII[J)I"⟩
abbrev cL_remove : ByteArray := method_13_code
def yL_remove : MethodName := ⟨RL, "remove", "(LAirValves;I[J)I"⟩
abbrev cL_press : ByteArray := method_14_code
def yL_press : MethodName := ⟨RL, "press", "(LAirValves;IZ[J)I"⟩
abbrev cL_leak : ByteArray := method_15_code
def yL_leak : MethodName := ⟨RL, "leak", "(LAirValves;II[J)I"⟩
abbrev cL_feed : ByteArray := method_16_code
def yL_feed : MethodName := ⟨RL, "feed", "(LAirValves;II[J)I"⟩
abbrev cL_set : ByteArray := method_17_code
def yL_set : MethodName := ⟨RL, "set", "(LAirValves;II[J)I"⟩
abbrev cL_ticks : ByteArray := method_18_code
def yL_ticks : MethodName := ⟨RL, "ticks", "(LAirValves;I[J)I"⟩
abbrev cL_undo : ByteArray := method_19_code
def yL_undo : MethodName := ⟨RL, "undo", "(LAirValves;[J)I"⟩
abbrev cL_beat : ByteArray := method_20_code
def yL_beat : MethodName := ⟨RL, "beat", "(LAirValves;I[J)I"⟩
abbrev cL_rule : ByteArray := method_21_code
def yL_rule : MethodName := ⟨RL, "rule", "(LAirValves;III[J)I"⟩
abbrev cL_ifLeak : ByteArray := method_22_code
def yL_ifLeak : MethodName := ⟨RL, "ifLeak", "(LAirValves;III[J)I"⟩
abbrev cL_suspect : ByteArray := method_23_code
def yL_suspect : MethodName := ⟨RL, "suspect", "(LAirValves;II[J)I"⟩
abbrev cL_runScript : ByteArray := method_24_code
def yL_runScript : MethodName := ⟨RL, "runScript", "(LAirValves;IJ[J)I"⟩
abbrev cL_simulate : ByteArray := method_25_code
def yL_simulate : MethodName := ⟨RL, "simulate", "(LAirValves;JI[J)I"⟩
abbrev cL_save : ByteArray := method_26_code
def yL_save : MethodName := ⟨RL, "save", "(LAirValves;I[J)I"⟩
abbrev cL_restore : ByteArray := method_27_code
def yL_restore : MethodName := ⟨RL, "restore", "(LAirValves;I[J)I"⟩
abbrev cL_law : ByteArray := code
def yL_law : MethodName := ⟨RL, "law", "([I)Z"⟩
end
section
theorem dX0_faultOfValve_0 : decode cX0_faultOfValve 0 = .ok (.iload_n 1, 1) := by decide +kernel
theorem dX0_faultOfValve_1 : decode cX0_faultOfValve 1 = .ok (.iconst 0, 1) := by decide +kernel
theorem dX0_faultOfValve_2 : decode cX0_faultOfValve 2 = .ok (.iconst 4, 1) := by decide +kernel
theorem dX0_faultOfValve_3 : decode cX0_faultOfValve 3 = .ok (.invokestatic 9, 3) := by decide +kernel
theorem dX0_faultOfValve_6 : decode cX0_faultOfValve 6 = .ok (.ifCond .eq 14, 3) := by decide +kernel
theorem dX0_faultOfValve_9 : decode cX0_faultOfValve 9 = .ok (.iload_n 2, 1) := by decide +kernel
theorem dX0_faultOfValve_10 : decode cX0_faultOfValve 10 = .ok (.bipush 10, 2) := by decide +kernel
theorem dX0_faultOfValve_12 : decode cX0_faultOfValve 12 = .ok (.bipush 99, 2) := by decide +kernel
theorem dX0_faultOfValve_14 : decode cX0_faultOfValve 14 = .ok (.invokestatic 9, 3) := by decide +kernel
theorem dX0_faultOfValve_17 : decode cX0_faultOfValve 17 = .ok (.ifCond .ne 5, 3) := by decide +kernel
theorem dX0_faultOfValve_20 : decode cX0_faultOfValve 20 = .ok (.iconst 2, 1) := by decide +kernel
theorem dX0_faultOfValve_21 : decode cX0_faultOfValve 21 = .ok (.ireturn, 1) := by decide +kernel
theorem dX0_faultOfValve_22 : decode cX0_faultOfValve 22 = .ok (.aload_n 0, 1) := by decide +kernel
theorem dX0_faultOfValve_23 : decode cX0_faultOfValve 23 = .ok (.getfield 13, 3) := by decide +kernel
theorem dX0_faultOfValve_26 : decode cX0_faultOfValve 26 = .ok (.bipush 10, 2) := by decide +kernel
theorem dX0_faultOfValve_28 : decode cX0_faultOfValve 28 = .ok (.if_icmp .ge 7, 3) := by decide +kernel
theorem dX0_faultOfValve_31 : decode cX0_faultOfValve 31 = .ok (.iconst 0, 1) := by decide +kernel
theorem dX0_faultOfValve_32 : decode cX0_faultOfValve 32 = .ok (.goto 4, 3) := by decide +kernel
theorem dX0_faultOfValve_35 : decode cX0_faultOfValve 35 = .ok (.iconst 3, 1) := by decide +kernel
theorem dX0_faultOfValve_36 : decode cX0_faultOfValve 36 = .ok (.ireturn, 1) := by decide +kernel
theorem dX0_tryValve_0 : decode cX0_tryValve 0 = .ok (.aload_n 0, 1) := by decide +kernel
theorem dX0_tryValve_1 : decode cX0_tryValve 1 = .ok (.iload_n 1, 1) := by decide +kernel
theorem dX0_tryValve_2 : decode cX0_tryValve 2 = .ok (.iload_n 2, 1) := by decide +kernel
theorem dX0_tryValve_3 : decode cX0_tryValve 3 = .ok (.invokestatic 19, 3) := by decide +kernel
theorem dX0_tryValve_6 : decode cX0_tryValve 6 = .ok (.ifCond .eq 5, 3) := by decide +kernel
theorem dX0_tryValve_9 : decode cX0_tryValve 9 = .ok (.iconst 0, 1) := by decide +kernel
theorem dX0_tryValve_10 : decode cX0_tryValve 10 = .ok (.ireturn, 1) := by decide +kernel
theorem dX0_tryValve_11 : decode cX0_tryValve 11 = .ok (.aload_n 0, 1) := by decide +kernel
theorem dX0_tryValve_12 : decode cX0_tryValve 12 = .ok (.iload_n 1, 1) := by decide +kernel
theorem dX0_tryValve_13 : decode cX0_tryValve 13 = .ok (.iload_n 2, 1) := by decide +kernel
theorem dX0_tryValve_14 : decode cX0_tryValve 14 = .ok (.invokevirtual 25, 3) := by decide +kernel
theorem dX0_tryValve_17 : decode cX0_tryValve 17 = .ok (.iconst 1, 1) := by decide +kernel
theorem dX0_tryValve_18 : decode cX0_tryValve 18 = .ok (.ireturn, 1) := by decide +kernel
theorem dX0_faultOfDuct_0 : decode cX0_faultOfDuct 0 = .ok (.aload_n 0, 1) := by decide +kernel
theorem dX0_faultOfDuct_1 : decode cX0_faultOfDuct 1 = .ok (.iload_n 1, 1) := by decide +kernel
theorem dX0_faultOfDuct_2 : decode cX0_faultOfDuct 2 = .ok (.iload_n 2, 1) := by decide +kernel
theorem dX0_faultOfDuct_3 : decode cX0_faultOfDuct 3 = .ok (.invokevirtual 29, 3) := by decide +kernel
theorem dX0_faultOfDuct_6 : decode cX0_faultOfDuct 6 = .ok (.ifCond .eq 13, 3) := by decide +kernel
theorem dX0_faultOfDuct_9 : decode cX0_faultOfDuct 9 = .ok (.aload_n 0, 1) := by decide +kernel
theorem dX0_faultOfDuct_10 : decode cX0_faultOfDuct 10 = .ok (.iload_n 3, 1) := by decide +kernel
theorem dX0_faultOfDuct_11 : decode cX0_faultOfDuct 11 = .ok (.iload 4, 2) := by decide +kernel
theorem dX0_faultOfDuct_13 : decode cX0_faultOfDuct 13 = .ok (.invokevirtual 29, 3) := by decide +kernel
theorem dX0_faultOfDuct_16 : decode cX0_faultOfDuct 16 = .ok (.ifCond .ne 5, 3) := by decide +kernel
theorem dX0_faultOfDuct_19 : decode cX0_faultOfDuct 19 = .ok (.iconst 1, 1) := by decide +kernel
theorem dX0_faultOfDuct_20 : decode cX0_faultOfDuct 20 = .ok (.ireturn, 1) := by decide +kernel
theorem dX0_faultOfDuct_21 : decode cX0_faultOfDuct 21 = .ok (.iload 5, 2) := by decide +kernel
theorem dX0_faultOfDuct_23 : decode cX0_faultOfDuct 23 = .ok (.iconst 1, 1) := by decide +kernel
theorem dX0_faultOfDuct_24 : decode cX0_faultOfDuct 24 = .ok (.bipush 6, 2) := by decide +kernel
theorem dX0_faultOfDuct_26 : decode cX0_faultOfDuct 26 = .ok (.invokestatic 9, 3) := by decide +kernel
theorem dX0_faultOfDuct_29 : decode cX0_faultOfDuct 29 = .ok (.ifCond .ne 5, 3) := by decide +kernel
theorem dX0_faultOfDuct_32 : decode cX0_faultOfDuct 32 = .ok (.iconst 2, 1) := by decide +kernel
theorem dX0_faultOfDuct_33 : decode cX0_faultOfDuct 33 = .ok (.ireturn, 1) := by decide +kernel
theorem dX0_faultOfDuct_34 : decode cX0_faultOfDuct 34 = .ok (.aload_n 0, 1) := by decide +kernel
theorem dX0_faultOfDuct_35 : decode cX0_faultOfDuct 35 = .ok (.getfield 33, 3) := by decide +kernel
theorem dX0_faultOfDuct_38 : decode cX0_faultOfDuct 38 = .ok (.bipush 16, 2) := by decide +kernel
theorem dX0_faultOfDuct_40 : decode cX0_faultOfDuct 40 = .ok (.if_icmp .ge 7, 3) := by decide +kernel
theorem dX0_faultOfDuct_43 : decode cX0_faultOfDuct 43 = .ok (.iconst 0, 1) := by decide +kernel
theorem dX0_faultOfDuct_44 : decode cX0_faultOfDuct 44 = .ok (.goto 4, 3) := by decide +kernel
theorem dX0_faultOfDuct_47 : decode cX0_faultOfDuct 47 = .ok (.iconst 3, 1) := by decide +kernel
theorem dX0_faultOfDuct_48 : decode cX0_faultOfDuct 48 = .ok (.ireturn, 1) := by decide +kernel
theorem dX0_tryDuct_0 : decode cX0_tryDuct 0 = .ok (.aload_n 0, 1) := by decide +kernel
theorem dX0_tryDuct_1 : decode cX0_tryDuct 1 = .ok (.iload_n 1, 1) := by decide +kernel
theorem dX0_tryDuct_2 : decode cX0_tryDuct 2 = .ok (.iload_n 2, 1) := by decide +kernel
theorem dX0_tryDuct_3 : decode cX0_tryDuct 3 = .ok (.iload_n 3, 1) := by decide +kernel
theorem dX0_tryDuct_4 : decode cX0_tryDuct 4 = .ok (.iload 4, 2) := by decide +kernel
theorem dX0_tryDuct_6 : decode cX0_tryDuct 6 = .ok (.iload 5, 2) := by decide +kernel
theorem dX0_tryDuct_8 : decode cX0_tryDuct 8 = .ok (.invokestatic 36, 3) := by decide +kernel
theorem dX0_tryDuct_11 : decode cX0_tryDuct 11 = .ok (.ifCond .eq 5, 3) := by decide +kernel
theorem dX0_tryDuct_14 : decode cX0_tryDuct 14 = .ok (.iconst 0, 1) := by decide +kernel
theorem dX0_tryDuct_15 : decode cX0_tryDuct 15 = .ok (.ireturn, 1) := by decide +kernel
theorem dX0_tryDuct_16 : decode cX0_tryDuct 16 = .ok (.aload_n 0, 1) := by decide +kernel
theorem dX0_tryDuct_17 : decode cX0_tryDuct 17 = .ok (.iload_n 1, 1) := by decide +kernel
theorem dX0_tryDuct_18 : decode cX0_tryDuct 18 = .ok (.iload_n 2, 1) := by decide +kernel
theorem dX0_tryDuct_19 : decode cX0_tryDuct 19 = .ok (.invokestatic 40, 3) := by decide +kernel
theorem dX0_tryDuct_22 : decode cX0_tryDuct 22 = .ok (.iload_n 3, 1) := by decide +kernel
theorem dX0_tryDuct_23 : decode cX0_tryDuct 23 = .ok (.iload 4, 2) := by decide +kernel
theorem dX0_tryDuct_25 : decode cX0_tryDuct 25 = .ok (.invokestatic 40, 3) := by decide +kernel
theorem dX0_tryDuct_28 : decode cX0_tryDuct 28 = .ok (.iload 5, 2) := by decide +kernel
theorem dX0_tryDuct_30 : decode cX0_tryDuct 30 = .ok (.invokevirtual 44, 3) := by decide +kernel
theorem dX0_tryDuct_33 : decode cX0_tryDuct 33 = .ok (.iconst 1, 1) := by decide +kernel
theorem dX0_tryDuct_34 : decode cX0_tryDuct 34 = .ok (.ireturn, 1) := by decide +kernel
theorem dX0_faultOfRemove_0 : decode cX0_faultOfRemove 0 = .ok (.aload_n 0, 1) := by decide +kernel
theorem dX0_faultOfRemove_1 : decode cX0_faultOfRemove 1 = .ok (.iload_n 1, 1) := by decide +kernel
theorem dX0_faultOfRemove_2 : decode cX0_faultOfRemove 2 = .ok (.invokevirtual 48, 3) := by decide +kernel
theorem dX0_faultOfRemove_5 : decode cX0_faultOfRemove 5 = .ok (.ifCond .eq 7, 3) := by decide +kernel
theorem dX0_faultOfRemove_8 : decode cX0_faultOfRemove 8 = .ok (.iconst 0, 1) := by decide +kernel
theorem dX0_faultOfRemove_9 : decode cX0_faultOfRemove 9 = .ok (.goto 4, 3) := by decide +kernel
theorem dX0_faultOfRemove_12 : decode cX0_faultOfRemove 12 = .ok (.iconst 1, 1) := by decide +kernel
theorem dX0_faultOfRemove_13 : decode cX0_faultOfRemove 13 = .ok (.ireturn, 1) := by decide +kernel
theorem dX0_tryRemove_0 : decode cX0_tryRemove 0 = .ok (.aload_n 0, 1) := by decide +kernel
theorem dX0_tryRemove_1 : decode cX0_tryRemove 1 = .ok (.iload_n 1, 1) := by decide +kernel
theorem dX0_tryRemove_2 : decode cX0_tryRemove 2 = .ok (.invokestatic 52, 3) := by decide +kernel
theorem dX0_tryRemove_5 : decode cX0_tryRemove 5 = .ok (.ifCond .eq 5, 3) := by decide +kernel
theorem dX0_tryRemove_8 : decode cX0_tryRemove 8 = .ok (.iconst 0, 1) := by decide +kernel
theorem dX0_tryRemove_9 : decode cX0_tryRemove 9 = .ok (.ireturn, 1) := by decide +kernel
theorem dX0_tryRemove_10 : decode cX0_tryRemove 10 = .ok (.aload_n 0, 1) := by decide +kernel
theorem dX0_tryRemove_11 : decode cX0_tryRemove 11 = .ok (.iload_n 1, 1) := by decide +kernel
theorem dX0_tryRemove_12 : decode cX0_tryRemove 12 = .ok (.invokevirtual 56, 3) := by decide +kernel
theorem dX0_tryRemove_15 : decode cX0_tryRemove 15 = .ok (.iconst 1, 1) := by decide +kernel
theorem dX0_tryRemove_16 : decode cX0_tryRemove 16 = .ok (.ireturn, 1) := by decide +kernel
theorem dX0_faultOfPress_0 : decode cX0_faultOfPress 0 = .ok (.aload_n 0, 1) := by decide +kernel
theorem dX0_faultOfPress_1 : decode cX0_faultOfPress 1 = .ok (.iload_n 1, 1) := by decide +kernel
theorem dX0_faultOfPress_2 : decode cX0_faultOfPress 2 = .ok (.invokevirtual 60, 3) := by decide +kernel
theorem dX0_faultOfPress_5 : decode cX0_faultOfPress 5 = .ok (.ifCond .ne 5, 3) := by decide +kernel
theorem dX0_faultOfPress_8 : decode cX0_faultOfPress 8 = .ok (.iconst 1, 1) := by decide +kernel
theorem dX0_faultOfPress_9 : decode cX0_faultOfPress 9 = .ok (.ireturn, 1) := by decide +kernel
theorem dX0_faultOfPress_10 : decode cX0_faultOfPress 10 = .ok (.aload_n 0, 1) := by decide +kernel
theorem dX0_faultOfPress_11 : decode cX0_faultOfPress 11 = .ok (.getfield 63, 3) := by decide +kernel
theorem dX0_faultOfPress_14 : decode cX0_faultOfPress 14 = .ok (.iload_n 1, 1) := by decide +kernel
theorem dX0_faultOfPress_15 : decode cX0_faultOfPress 15 = .ok (.iaload, 1) := by decide +kernel
theorem dX0_faultOfPress_16 : decode cX0_faultOfPress 16 = .ok (.ifCond .ne 7, 3) := by decide +kernel
theorem dX0_faultOfPress_19 : decode cX0_faultOfPress 19 = .ok (.iconst 0, 1) := by decide +kernel
theorem dX0_faultOfPress_20 : decode cX0_faultOfPress 20 = .ok (.goto 4, 3) := by decide +kernel
theorem dX0_faultOfPress_23 : decode cX0_faultOfPress 23 = .ok (.iconst 3, 1) := by decide +kernel
theorem dX0_faultOfPress_24 : decode cX0_faultOfPress 24 = .ok (.ireturn, 1) := by decide +kernel
theorem dX0_tryPress_0 : decode cX0_tryPress 0 = .ok (.aload_n 0, 1) := by decide +kernel
theorem dX0_tryPress_1 : decode cX0_tryPress 1 = .ok (.iload_n 1, 1) := by decide +kernel
theorem dX0_tryPress_2 : decode cX0_tryPress 2 = .ok (.invokestatic 67, 3) := by decide +kernel
theorem dX0_tryPress_5 : decode cX0_tryPress 5 = .ok (.ifCond .eq 5, 3) := by decide +kernel
theorem dX0_tryPress_8 : decode cX0_tryPress 8 = .ok (.iconst 0, 1) := by decide +kernel
theorem dX0_tryPress_9 : decode cX0_tryPress 9 = .ok (.ireturn, 1) := by decide +kernel
theorem dX0_tryPress_10 : decode cX0_tryPress 10 = .ok (.aload_n 0, 1) := by decide +kernel
theorem dX0_tryPress_11 : decode cX0_tryPress 11 = .ok (.getfield 70, 3) := by decide +kernel
theorem dX0_tryPress_14 : decode cX0_tryPress 14 = .ok (.iload_n 1, 1) := by decide +kernel
theorem dX0_tryPress_15 : decode cX0_tryPress 15 = .ok (.iload_n 2, 1) := by decide +kernel
theorem dX0_tryPress_16 : decode cX0_tryPress 16 = .ok (.ifCond .eq 7, 3) := by decide +kernel
theorem dX0_tryPress_19 : decode cX0_tryPress 19 = .ok (.iconst 1, 1) := by decide +kernel
theorem dX0_tryPress_20 : decode cX0_tryPress 20 = .ok (.goto 4, 3) := by decide +kernel
theorem dX0_tryPress_23 : decode cX0_tryPress 23 = .ok (.iconst 0, 1) := by decide +kernel
theorem dX0_tryPress_24 : decode cX0_tryPress 24 = .ok (.iastore, 1) := by decide +kernel
theorem dX0_tryPress_25 : decode cX0_tryPress 25 = .ok (.iconst 1, 1) := by decide +kernel
theorem dX0_tryPress_26 : decode cX0_tryPress 26 = .ok (.ireturn, 1) := by decide +kernel
theorem dX0_faultOfLeak_0 : decode cX0_faultOfLeak 0 = .ok (.aload_n 0, 1) := by decide +kernel
theorem dX0_faultOfLeak_1 : decode cX0_faultOfLeak 1 = .ok (.iload_n 1, 1) := by decide +kernel
theorem dX0_faultOfLeak_2 : decode cX0_faultOfLeak 2 = .ok (.invokevirtual 48, 3) := by decide +kernel
theorem dX0_faultOfLeak_5 : decode cX0_faultOfLeak 5 = .ok (.ifCond .ne 5, 3) := by decide +kernel
theorem dX0_faultOfLeak_8 : decode cX0_faultOfLeak 8 = .ok (.iconst 1, 1) := by decide +kernel
theorem dX0_faultOfLeak_9 : decode cX0_faultOfLeak 9 = .ok (.ireturn, 1) := by decide +kernel
theorem dX0_faultOfLeak_10 : decode cX0_faultOfLeak 10 = .ok (.iload_n 2, 1) := by decide +kernel
theorem dX0_faultOfLeak_11 : decode cX0_faultOfLeak 11 = .ok (.iconst 0, 1) := by decide +kernel
theorem dX0_faultOfLeak_12 : decode cX0_faultOfLeak 12 = .ok (.bipush 30, 2) := by decide +kernel
theorem dX0_faultOfLeak_14 : decode cX0_faultOfLeak 14 = .ok (.invokestatic 9, 3) := by decide +kernel
theorem dX0_faultOfLeak_17 : decode cX0_faultOfLeak 17 = .ok (.ifCond .eq 7, 3) := by decide +kernel
theorem dX0_faultOfLeak_20 : decode cX0_faultOfLeak 20 = .ok (.iconst 0, 1) := by decide +kernel
theorem dX0_faultOfLeak_21 : decode cX0_faultOfLeak 21 = .ok (.goto 4, 3) := by decide +kernel
theorem dX0_faultOfLeak_24 : decode cX0_faultOfLeak 24 = .ok (.iconst 2, 1) := by decide +kernel
theorem dX0_faultOfLeak_25 : decode cX0_faultOfLeak 25 = .ok (.ireturn, 1) := by decide +kernel
theorem dX0_tryLeak_0 : decode cX0_tryLeak 0 = .ok (.aload_n 0, 1) := by decide +kernel
theorem dX0_tryLeak_1 : decode cX0_tryLeak 1 = .ok (.iload_n 1, 1) := by decide +kernel
theorem dX0_tryLeak_2 : decode cX0_tryLeak 2 = .ok (.iload_n 2, 1) := by decide +kernel
theorem dX0_tryLeak_3 : decode cX0_tryLeak 3 = .ok (.invokestatic 73, 3) := by decide +kernel
theorem dX0_tryLeak_6 : decode cX0_tryLeak 6 = .ok (.ifCond .eq 5, 3) := by decide +kernel
theorem dX0_tryLeak_9 : decode cX0_tryLeak 9 = .ok (.iconst 0, 1) := by decide +kernel
theorem dX0_tryLeak_10 : decode cX0_tryLeak 10 = .ok (.ireturn, 1) := by decide +kernel
theorem dX0_tryLeak_11 : decode cX0_tryLeak 11 = .ok (.aload_n 0, 1) := by decide +kernel
theorem dX0_tryLeak_12 : decode cX0_tryLeak 12 = .ok (.getfield 76, 3) := by decide +kernel
theorem dX0_tryLeak_15 : decode cX0_tryLeak 15 = .ok (.iload_n 1, 1) := by decide +kernel
theorem dX0_tryLeak_16 : decode cX0_tryLeak 16 = .ok (.iload_n 2, 1) := by decide +kernel
theorem dX0_tryLeak_17 : decode cX0_tryLeak 17 = .ok (.iastore, 1) := by decide +kernel
theorem dX0_tryLeak_18 : decode cX0_tryLeak 18 = .ok (.iconst 1, 1) := by decide +kernel
theorem dX0_tryLeak_19 : decode cX0_tryLeak 19 = .ok (.ireturn, 1) := by decide +kernel
theorem dX0_faultOfFeed_0 : decode cX0_faultOfFeed 0 = .ok (.aload_n 0, 1) := by decide +kernel
theorem dX0_faultOfFeed_1 : decode cX0_faultOfFeed 1 = .ok (.iload_n 1, 1) := by decide +kernel
theorem dX0_faultOfFeed_2 : decode cX0_faultOfFeed 2 = .ok (.invokevirtual 60, 3) := by decide +kernel
theorem dX0_faultOfFeed_5 : decode cX0_faultOfFeed 5 = .ok (.ifCond .ne 5, 3) := by decide +kernel
theorem dX0_faultOfFeed_8 : decode cX0_faultOfFeed 8 = .ok (.iconst 1, 1) := by decide +kernel
theorem dX0_faultOfFeed_9 : decode cX0_faultOfFeed 9 = .ok (.ireturn, 1) := by decide +kernel
theorem dX0_faultOfFeed_10 : decode cX0_faultOfFeed 10 = .ok (.iload_n 2, 1) := by decide +kernel
theorem dX0_faultOfFeed_11 : decode cX0_faultOfFeed 11 = .ok (.bipush 10, 2) := by decide +kernel
theorem dX0_faultOfFeed_13 : decode cX0_faultOfFeed 13 = .ok (.bipush 99, 2) := by decide +kernel
theorem dX0_faultOfFeed_15 : decode cX0_faultOfFeed 15 = .ok (.invokestatic 9, 3) := by decide +kernel
theorem dX0_faultOfFeed_18 : decode cX0_faultOfFeed 18 = .ok (.ifCond .eq 7, 3) := by decide +kernel
theorem dX0_faultOfFeed_21 : decode cX0_faultOfFeed 21 = .ok (.iconst 0, 1) := by decide +kernel
theorem dX0_faultOfFeed_22 : decode cX0_faultOfFeed 22 = .ok (.goto 4, 3) := by decide +kernel
theorem dX0_faultOfFeed_25 : decode cX0_faultOfFeed 25 = .ok (.iconst 2, 1) := by decide +kernel
theorem dX0_faultOfFeed_26 : decode cX0_faultOfFeed 26 = .ok (.ireturn, 1) := by decide +kernel
theorem dX0_tryFeed_0 : decode cX0_tryFeed 0 = .ok (.aload_n 0, 1) := by decide +kernel
theorem dX0_tryFeed_1 : decode cX0_tryFeed 1 = .ok (.iload_n 1, 1) := by decide +kernel
theorem dX0_tryFeed_2 : decode cX0_tryFeed 2 = .ok (.iload_n 2, 1) := by decide +kernel
theorem dX0_tryFeed_3 : decode cX0_tryFeed 3 = .ok (.invokestatic 79, 3) := by decide +kernel
theorem dX0_tryFeed_6 : decode cX0_tryFeed 6 = .ok (.ifCond .eq 5, 3) := by decide +kernel
theorem dX0_tryFeed_9 : decode cX0_tryFeed 9 = .ok (.iconst 0, 1) := by decide +kernel
theorem dX0_tryFeed_10 : decode cX0_tryFeed 10 = .ok (.ireturn, 1) := by decide +kernel
theorem dX0_tryFeed_11 : decode cX0_tryFeed 11 = .ok (.aload_n 0, 1) := by decide +kernel
theorem dX0_tryFeed_12 : decode cX0_tryFeed 12 = .ok (.getfield 82, 3) := by decide +kernel
theorem dX0_tryFeed_15 : decode cX0_tryFeed 15 = .ok (.iload_n 1, 1) := by decide +kernel
theorem dX0_tryFeed_16 : decode cX0_tryFeed 16 = .ok (.iload_n 2, 1) := by decide +kernel
theorem dX0_tryFeed_17 : decode cX0_tryFeed 17 = .ok (.iastore, 1) := by decide +kernel
theorem dX0_tryFeed_18 : decode cX0_tryFeed 18 = .ok (.iconst 1, 1) := by decide +kernel
theorem dX0_tryFeed_19 : decode cX0_tryFeed 19 = .ok (.ireturn, 1) := by decide +kernel
theorem dX0_faultOfSet_0 : decode cX0_faultOfSet 0 = .ok (.iload_n 0, 1) := by decide +kernel
theorem dX0_faultOfSet_1 : decode cX0_faultOfSet 1 = .ok (.ifCond .ne 13, 3) := by decide +kernel
theorem dX0_faultOfSet_4 : decode cX0_faultOfSet 4 = .ok (.iload_n 1, 1) := by decide +kernel
theorem dX0_faultOfSet_5 : decode cX0_faultOfSet 5 = .ok (.iconst 0, 1) := by decide +kernel
theorem dX0_faultOfSet_6 : decode cX0_faultOfSet 6 = .ok (.bipush 9, 2) := by decide +kernel
theorem dX0_faultOfSet_8 : decode cX0_faultOfSet 8 = .ok (.invokestatic 9, 3) := by decide +kernel
theorem dX0_faultOfSet_11 : decode cX0_faultOfSet 11 = .ok (.ifCond .ne 18, 3) := by decide +kernel
theorem dX0_faultOfSet_14 : decode cX0_faultOfSet 14 = .ok (.iload_n 0, 1) := by decide +kernel
theorem dX0_faultOfSet_15 : decode cX0_faultOfSet 15 = .ok (.iconst 1, 1) := by decide +kernel
theorem dX0_faultOfSet_16 : decode cX0_faultOfSet 16 = .ok (.if_icmp .ne 17, 3) := by decide +kernel
theorem dX0_faultOfSet_19 : decode cX0_faultOfSet 19 = .ok (.iload_n 1, 1) := by decide +kernel
theorem dX0_faultOfSet_20 : decode cX0_faultOfSet 20 = .ok (.iconst 5, 1) := by decide +kernel
theorem dX0_faultOfSet_21 : decode cX0_faultOfSet 21 = .ok (.bipush 90, 2) := by decide +kernel
theorem dX0_faultOfSet_23 : decode cX0_faultOfSet 23 = .ok (.invokestatic 9, 3) := by decide +kernel
theorem dX0_faultOfSet_26 : decode cX0_faultOfSet 26 = .ok (.ifCond .eq 7, 3) := by decide +kernel
theorem dX0_faultOfSet_29 : decode cX0_faultOfSet 29 = .ok (.iconst 1, 1) := by decide +kernel
theorem dX0_faultOfSet_30 : decode cX0_faultOfSet 30 = .ok (.goto 4, 3) := by decide +kernel
theorem dX0_faultOfSet_33 : decode cX0_faultOfSet 33 = .ok (.iconst 0, 1) := by decide +kernel
theorem dX0_faultOfSet_34 : decode cX0_faultOfSet 34 = .ok (.istore_n 2, 1) := by decide +kernel
theorem dX0_faultOfSet_35 : decode cX0_faultOfSet 35 = .ok (.iload_n 2, 1) := by decide +kernel
theorem dX0_faultOfSet_36 : decode cX0_faultOfSet 36 = .ok (.ifCond .eq 7, 3) := by decide +kernel
theorem dX0_faultOfSet_39 : decode cX0_faultOfSet 39 = .ok (.iconst 0, 1) := by decide +kernel
theorem dX0_faultOfSet_40 : decode cX0_faultOfSet 40 = .ok (.goto 4, 3) := by decide +kernel
theorem dX0_faultOfSet_43 : decode cX0_faultOfSet 43 = .ok (.iconst 2, 1) := by decide +kernel
theorem dX0_faultOfSet_44 : decode cX0_faultOfSet 44 = .ok (.ireturn, 1) := by decide +kernel
theorem dX0_trySet_0 : decode cX0_trySet 0 = .ok (.iload_n 1, 1) := by decide +kernel
theorem dX0_trySet_1 : decode cX0_trySet 1 = .ok (.iload_n 2, 1) := by decide +kernel
theorem dX0_trySet_2 : decode cX0_trySet 2 = .ok (.invokestatic 85, 3) := by decide +kernel
theorem dX0_trySet_5 : decode cX0_trySet 5 = .ok (.ifCond .eq 5, 3) := by decide +kernel
theorem dX0_trySet_8 : decode cX0_trySet 8 = .ok (.iconst 0, 1) := by decide +kernel
theorem dX0_trySet_9 : decode cX0_trySet 9 = .ok (.ireturn, 1) := by decide +kernel
theorem dX0_trySet_10 : decode cX0_trySet 10 = .ok (.aload_n 0, 1) := by decide +kernel
theorem dX0_trySet_11 : decode cX0_trySet 11 = .ok (.getfield 88, 3) := by decide +kernel
theorem dX0_trySet_14 : decode cX0_trySet 14 = .ok (.iload_n 1, 1) := by decide +kernel
theorem dX0_trySet_15 : decode cX0_trySet 15 = .ok (.iload_n 2, 1) := by decide +kernel
theorem dX0_trySet_16 : decode cX0_trySet 16 = .ok (.iastore, 1) := by decide +kernel
theorem dX0_trySet_17 : decode cX0_trySet 17 = .ok (.iconst 1, 1) := by decide +kernel
theorem dX0_trySet_18 : decode cX0_trySet 18 = .ok (.ireturn, 1) := by decide +kernel
theorem dX0_faultOfTicks_0 : decode cX0_faultOfTicks 0 = .ok (.iload_n 0, 1) := by decide +kernel
theorem dX0_faultOfTicks_1 : decode cX0_faultOfTicks 1 = .ok (.iconst 1, 1) := by decide +kernel
theorem dX0_faultOfTicks_2 : decode cX0_faultOfTicks 2 = .ok (.bipush 99, 2) := by decide +kernel
theorem dX0_faultOfTicks_4 : decode cX0_faultOfTicks 4 = .ok (.invokestatic 9, 3) := by decide +kernel
theorem dX0_faultOfTicks_7 : decode cX0_faultOfTicks 7 = .ok (.ifCond .eq 7, 3) := by decide +kernel
theorem dX0_faultOfTicks_10 : decode cX0_faultOfTicks 10 = .ok (.iconst 0, 1) := by decide +kernel
theorem dX0_faultOfTicks_11 : decode cX0_faultOfTicks 11 = .ok (.goto 4, 3) := by decide +kernel
theorem dX0_faultOfTicks_14 : decode cX0_faultOfTicks 14 = .ok (.iconst 2, 1) := by decide +kernel
theorem dX0_faultOfTicks_15 : decode cX0_faultOfTicks 15 = .ok (.ireturn, 1) := by decide +kernel
theorem dX0_tryTicks_0 : decode cX0_tryTicks 0 = .ok (.iload_n 1, 1) := by decide +kernel
theorem dX0_tryTicks_1 : decode cX0_tryTicks 1 = .ok (.invokestatic 91, 3) := by decide +kernel
theorem dX0_tryTicks_4 : decode cX0_tryTicks 4 = .ok (.ifCond .eq 5, 3) := by decide +kernel
theorem dX0_tryTicks_7 : decode cX0_tryTicks 7 = .ok (.iconst 0, 1) := by decide +kernel
theorem dX0_tryTicks_8 : decode cX0_tryTicks 8 = .ok (.ireturn, 1) := by decide +kernel
theorem dX0_tryTicks_9 : decode cX0_tryTicks 9 = .ok (.iconst 0, 1) := by decide +kernel
theorem dX0_tryTicks_10 : decode cX0_tryTicks 10 = .ok (.istore_n 2, 1) := by decide +kernel
theorem dX0_tryTicks_11 : decode cX0_tryTicks 11 = .ok (.iload_n 2, 1) := by decide +kernel
theorem dX0_tryTicks_12 : decode cX0_tryTicks 12 = .ok (.iload_n 1, 1) := by decide +kernel
theorem dX0_tryTicks_13 : decode cX0_tryTicks 13 = .ok (.if_icmp .ge 14, 3) := by decide +kernel
theorem dX0_tryTicks_16 : decode cX0_tryTicks 16 = .ok (.aload_n 0, 1) := by decide +kernel
theorem dX0_tryTicks_17 : decode cX0_tryTicks 17 = .ok (.invokevirtual 95, 3) := by decide +kernel
theorem dX0_tryTicks_20 : decode cX0_tryTicks 20 = .ok (.pop, 1) := by decide +kernel
theorem dX0_tryTicks_21 : decode cX0_tryTicks 21 = .ok (.iinc 2 1, 3) := by decide +kernel
theorem dX0_tryTicks_24 : decode cX0_tryTicks 24 = .ok (.goto (-13), 3) := by decide +kernel
theorem dX0_tryTicks_27 : decode cX0_tryTicks 27 = .ok (.iconst 1, 1) := by decide +kernel
theorem dX0_tryTicks_28 : decode cX0_tryTicks 28 = .ok (.ireturn, 1) := by decide +kernel
theorem dX1_init_0 : decode cX1_init 0 = .ok (.aload_n 0, 1) := by decide +kernel
theorem dX1_init_1 : decode cX1_init 1 = .ok (.invokespecial 3, 3) := by decide +kernel
theorem dX1_init_4 : decode cX1_init 4 = .ok (.aload_n 0, 1) := by decide +kernel
theorem dX1_init_5 : decode cX1_init 5 = .ok (.bipush 14, 2) := by decide +kernel
theorem dX1_init_7 : decode cX1_init 7 = .ok (.anewarray 9, 3) := by decide +kernel
theorem dX1_init_10 : decode cX1_init 10 = .ok (.putfield 11, 3) := by decide +kernel
theorem dX1_init_13 : decode cX1_init 13 = .ok (.iconst 0, 1) := by decide +kernel
theorem dX1_init_14 : decode cX1_init 14 = .ok (.istore_n 1, 1) := by decide +kernel
theorem dX1_init_15 : decode cX1_init 15 = .ok (.iload_n 1, 1) := by decide +kernel
theorem dX1_init_16 : decode cX1_init 16 = .ok (.bipush 14, 2) := by decide +kernel
theorem dX1_init_18 : decode cX1_init 18 = .ok (.if_icmp .ge 22, 3) := by decide +kernel
theorem dX1_init_21 : decode cX1_init 21 = .ok (.aload_n 0, 1) := by decide +kernel
theorem dX1_init_22 : decode cX1_init 22 = .ok (.getfield 11, 3) := by decide +kernel
theorem dX1_init_25 : decode cX1_init 25 = .ok (.iload_n 1, 1) := by decide +kernel
theorem dX1_init_26 : decode cX1_init 26 = .ok (.new 9, 3) := by decide +kernel
theorem dX1_init_29 : decode cX1_init 29 = .ok (.dup, 1) := by decide +kernel
theorem dX1_init_30 : decode cX1_init 30 = .ok (.invokespecial 17, 3) := by decide +kernel
theorem dX1_init_33 : decode cX1_init 33 = .ok (.aastore, 1) := by decide +kernel
theorem dX1_init_34 : decode cX1_init 34 = .ok (.iinc 1 1, 3) := by decide +kernel
theorem dX1_init_37 : decode cX1_init 37 = .ok (.goto (-22), 3) := by decide +kernel
theorem dX1_init_40 : decode cX1_init 40 = .ok (.return_, 1) := by decide +kernel
theorem dX1_keep_0 : decode cX1_keep 0 = .ok (.aload_n 0, 1) := by decide +kernel
theorem dX1_keep_1 : decode cX1_keep 1 = .ok (.getfield 11, 3) := by decide +kernel
theorem dX1_keep_4 : decode cX1_keep 4 = .ok (.aload_n 0, 1) := by decide +kernel
theorem dX1_keep_5 : decode cX1_keep 5 = .ok (.getfield 18, 3) := by decide +kernel
theorem dX1_keep_8 : decode cX1_keep 8 = .ok (.aload_n 0, 1) := by decide +kernel
theorem dX1_keep_9 : decode cX1_keep 9 = .ok (.getfield 22, 3) := by decide +kernel
theorem dX1_keep_12 : decode cX1_keep 12 = .ok (.iadd, 1) := by decide +kernel
theorem dX1_keep_13 : decode cX1_keep 13 = .ok (.bipush 14, 2) := by decide +kernel
theorem dX1_keep_15 : decode cX1_keep 15 = .ok (.irem, 1) := by decide +kernel
theorem dX1_keep_16 : decode cX1_keep 16 = .ok (.aaload, 1) := by decide +kernel
theorem dX1_keep_17 : decode cX1_keep 17 = .ok (.aload_n 1, 1) := by decide +kernel
theorem dX1_keep_18 : decode cX1_keep 18 = .ok (.invokevirtual 25, 3) := by decide +kernel
theorem dX1_keep_21 : decode cX1_keep 21 = .ok (.aload_n 0, 1) := by decide +kernel
theorem dX1_keep_22 : decode cX1_keep 22 = .ok (.getfield 22, 3) := by decide +kernel
theorem dX1_keep_25 : decode cX1_keep 25 = .ok (.bipush 14, 2) := by decide +kernel
theorem dX1_keep_27 : decode cX1_keep 27 = .ok (.if_icmp .ge 16, 3) := by decide +kernel
theorem dX1_keep_30 : decode cX1_keep 30 = .ok (.aload_n 0, 1) := by decide +kernel
theorem dX1_keep_31 : decode cX1_keep 31 = .ok (.dup, 1) := by decide +kernel
theorem dX1_keep_32 : decode cX1_keep 32 = .ok (.getfield 22, 3) := by decide +kernel
theorem dX1_keep_35 : decode cX1_keep 35 = .ok (.iconst 1, 1) := by decide +kernel
theorem dX1_keep_36 : decode cX1_keep 36 = .ok (.iadd, 1) := by decide +kernel
theorem dX1_keep_37 : decode cX1_keep 37 = .ok (.putfield 22, 3) := by decide +kernel
theorem dX1_keep_40 : decode cX1_keep 40 = .ok (.goto 16, 3) := by decide +kernel
theorem dX1_keep_43 : decode cX1_keep 43 = .ok (.aload_n 0, 1) := by decide +kernel
theorem dX1_keep_44 : decode cX1_keep 44 = .ok (.aload_n 0, 1) := by decide +kernel
theorem dX1_keep_45 : decode cX1_keep 45 = .ok (.getfield 18, 3) := by decide +kernel
theorem dX1_keep_48 : decode cX1_keep 48 = .ok (.iconst 1, 1) := by decide +kernel
theorem dX1_keep_49 : decode cX1_keep 49 = .ok (.iadd, 1) := by decide +kernel
theorem dX1_keep_50 : decode cX1_keep 50 = .ok (.bipush 14, 2) := by decide +kernel
theorem dX1_keep_52 : decode cX1_keep 52 = .ok (.irem, 1) := by decide +kernel
theorem dX1_keep_53 : decode cX1_keep 53 = .ok (.putfield 18, 3) := by decide +kernel
theorem dX1_keep_56 : decode cX1_keep 56 = .ok (.return_, 1) := by decide +kernel
theorem dX1_takeBack_0 : decode cX1_takeBack 0 = .ok (.aload_n 0, 1) := by decide +kernel
theorem dX1_takeBack_1 : decode cX1_takeBack 1 = .ok (.dup, 1) := by decide +kernel
theorem dX1_takeBack_2 : decode cX1_takeBack 2 = .ok (.getfield 22, 3) := by decide +kernel
theorem dX1_takeBack_5 : decode cX1_takeBack 5 = .ok (.iconst 1, 1) := by decide +kernel
theorem dX1_takeBack_6 : decode cX1_takeBack 6 = .ok (.isub, 1) := by decide +kernel
theorem dX1_takeBack_7 : decode cX1_takeBack 7 = .ok (.putfield 22, 3) := by decide +kernel
theorem dX1_takeBack_10 : decode cX1_takeBack 10 = .ok (.aload_n 1, 1) := by decide +kernel
theorem dX1_takeBack_11 : decode cX1_takeBack 11 = .ok (.aload_n 0, 1) := by decide +kernel
theorem dX1_takeBack_12 : decode cX1_takeBack 12 = .ok (.getfield 11, 3) := by decide +kernel
theorem dX1_takeBack_15 : decode cX1_takeBack 15 = .ok (.aload_n 0, 1) := by decide +kernel
theorem dX1_takeBack_16 : decode cX1_takeBack 16 = .ok (.getfield 18, 3) := by decide +kernel
theorem dX1_takeBack_19 : decode cX1_takeBack 19 = .ok (.aload_n 0, 1) := by decide +kernel
theorem dX1_takeBack_20 : decode cX1_takeBack 20 = .ok (.getfield 22, 3) := by decide +kernel
theorem dX1_takeBack_23 : decode cX1_takeBack 23 = .ok (.iadd, 1) := by decide +kernel
theorem dX1_takeBack_24 : decode cX1_takeBack 24 = .ok (.bipush 14, 2) := by decide +kernel
theorem dX1_takeBack_26 : decode cX1_takeBack 26 = .ok (.irem, 1) := by decide +kernel
theorem dX1_takeBack_27 : decode cX1_takeBack 27 = .ok (.aaload, 1) := by decide +kernel
theorem dX1_takeBack_28 : decode cX1_takeBack 28 = .ok (.invokevirtual 25, 3) := by decide +kernel
theorem dX1_takeBack_31 : decode cX1_takeBack 31 = .ok (.return_, 1) := by decide +kernel
theorem dX1_forgetAll_0 : decode cX1_forgetAll 0 = .ok (.aload_n 0, 1) := by decide +kernel
theorem dX1_forgetAll_1 : decode cX1_forgetAll 1 = .ok (.iconst 0, 1) := by decide +kernel
theorem dX1_forgetAll_2 : decode cX1_forgetAll 2 = .ok (.putfield 22, 3) := by decide +kernel
theorem dX1_forgetAll_5 : decode cX1_forgetAll 5 = .ok (.aload_n 0, 1) := by decide +kernel
theorem dX1_forgetAll_6 : decode cX1_forgetAll 6 = .ok (.iconst 0, 1) := by decide +kernel
theorem dX1_forgetAll_7 : decode cX1_forgetAll 7 = .ok (.putfield 18, 3) := by decide +kernel
theorem dX1_forgetAll_10 : decode cX1_forgetAll 10 = .ok (.return_, 1) := by decide +kernel
theorem dX2_init_0 : decode cX2_init 0 = .ok (.aload_n 0, 1) := by decide +kernel
theorem dX2_init_1 : decode cX2_init 1 = .ok (.invokespecial 3, 3) := by decide +kernel
theorem dX2_init_4 : decode cX2_init 4 = .ok (.aload_n 0, 1) := by decide +kernel
theorem dX2_init_5 : decode cX2_init 5 = .ok (.iconst 2, 1) := by decide +kernel
theorem dX2_init_6 : decode cX2_init 6 = .ok (.newarray .int, 2) := by decide +kernel
theorem dX2_init_8 : decode cX2_init 8 = .ok (.dup, 1) := by decide +kernel
theorem dX2_init_9 : decode cX2_init 9 = .ok (.iconst 0, 1) := by decide +kernel
theorem dX2_init_10 : decode cX2_init 10 = .ok (.iconst 2, 1) := by decide +kernel
theorem dX2_init_11 : decode cX2_init 11 = .ok (.iastore, 1) := by decide +kernel
theorem dX2_init_12 : decode cX2_init 12 = .ok (.dup, 1) := by decide +kernel
theorem dX2_init_13 : decode cX2_init 13 = .ok (.iconst 1, 1) := by decide +kernel
theorem dX2_init_14 : decode cX2_init 14 = .ok (.bipush 30, 2) := by decide +kernel
theorem dX2_init_16 : decode cX2_init 16 = .ok (.iastore, 1) := by decide +kernel
theorem dX2_init_17 : decode cX2_init 17 = .ok (.putfield 9, 3) := by decide +kernel
theorem dX2_init_20 : decode cX2_init 20 = .ok (.aload_n 0, 1) := by decide +kernel
theorem dX2_init_21 : decode cX2_init 21 = .ok (.bipush 10, 2) := by decide +kernel
theorem dX2_init_23 : decode cX2_init 23 = .ok (.newarray .int, 2) := by decide +kernel
theorem dX2_init_25 : decode cX2_init 25 = .ok (.putfield 15, 3) := by decide +kernel
theorem dX2_init_28 : decode cX2_init 28 = .ok (.aload_n 0, 1) := by decide +kernel
theorem dX2_init_29 : decode cX2_init 29 = .ok (.bipush 10, 2) := by decide +kernel
theorem dX2_init_31 : decode cX2_init 31 = .ok (.newarray .int, 2) := by decide +kernel
theorem dX2_init_33 : decode cX2_init 33 = .ok (.putfield 18, 3) := by decide +kernel
theorem dX2_init_36 : decode cX2_init 36 = .ok (.aload_n 0, 1) := by decide +kernel
theorem dX2_init_37 : decode cX2_init 37 = .ok (.bipush 10, 2) := by decide +kernel
theorem dX2_init_39 : decode cX2_init 39 = .ok (.newarray .int, 2) := by decide +kernel
theorem dX2_init_41 : decode cX2_init 41 = .ok (.putfield 21, 3) := by decide +kernel
theorem dX2_init_44 : decode cX2_init 44 = .ok (.aload_n 0, 1) := by decide +kernel
theorem dX2_init_45 : decode cX2_init 45 = .ok (.bipush 20, 2) := by decide +kernel
theorem dX2_init_47 : decode cX2_init 47 = .ok (.newarray .int, 2) := by decide +kernel
theorem dX2_init_49 : decode cX2_init 49 = .ok (.putfield 24, 3) := by decide +kernel
theorem dX2_init_52 : decode cX2_init 52 = .ok (.aload_n 0, 1) := by decide +kernel
theorem dX2_init_53 : decode cX2_init 53 = .ok (.bipush 20, 2) := by decide +kernel
theorem dX2_init_55 : decode cX2_init 55 = .ok (.newarray .int, 2) := by decide +kernel
theorem dX2_init_57 : decode cX2_init 57 = .ok (.putfield 27, 3) := by decide +kernel
theorem dX2_init_60 : decode cX2_init 60 = .ok (.aload_n 0, 1) := by decide +kernel
theorem dX2_init_61 : decode cX2_init 61 = .ok (.bipush 16, 2) := by decide +kernel
theorem dX2_init_63 : decode cX2_init 63 = .ok (.newarray .int, 2) := by decide +kernel
theorem dX2_init_65 : decode cX2_init 65 = .ok (.putfield 30, 3) := by decide +kernel
theorem dX2_init_68 : decode cX2_init 68 = .ok (.aload_n 0, 1) := by decide +kernel
theorem dX2_init_69 : decode cX2_init 69 = .ok (.bipush 16, 2) := by decide +kernel
theorem dX2_init_71 : decode cX2_init 71 = .ok (.newarray .int, 2) := by decide +kernel
theorem dX2_init_73 : decode cX2_init 73 = .ok (.putfield 33, 3) := by decide +kernel
theorem dX2_init_76 : decode cX2_init 76 = .ok (.aload_n 0, 1) := by decide +kernel
theorem dX2_init_77 : decode cX2_init 77 = .ok (.bipush 16, 2) := by decide +kernel
theorem dX2_init_79 : decode cX2_init 79 = .ok (.newarray .int, 2) := by decide +kernel
theorem dX2_init_81 : decode cX2_init 81 = .ok (.putfield 36, 3) := by decide +kernel
theorem dX2_init_84 : decode cX2_init 84 = .ok (.aload_n 0, 1) := by decide +kernel
theorem dX2_init_85 : decode cX2_init 85 = .ok (.bipush 16, 2) := by decide +kernel
theorem dX2_init_87 : decode cX2_init 87 = .ok (.newarray .int, 2) := by decide +kernel
theorem dX2_init_89 : decode cX2_init 89 = .ok (.putfield 39, 3) := by decide +kernel
theorem dX2_init_92 : decode cX2_init 92 = .ok (.aload_n 0, 1) := by decide +kernel
theorem dX2_init_93 : decode cX2_init 93 = .ok (.bipush 96, 2) := by decide +kernel
theorem dX2_init_95 : decode cX2_init 95 = .ok (.newarray .int, 2) := by decide +kernel
theorem dX2_init_97 : decode cX2_init 97 = .ok (.putfield 42, 3) := by decide +kernel
theorem dX2_init_100 : decode cX2_init 100 = .ok (.aload_n 0, 1) := by decide +kernel
theorem dX2_init_101 : decode cX2_init 101 = .ok (.bipush 20, 2) := by decide +kernel
theorem dX2_init_103 : decode cX2_init 103 = .ok (.newarray .int, 2) := by decide +kernel
theorem dX2_init_105 : decode cX2_init 105 = .ok (.putfield 45, 3) := by decide +kernel
theorem dX2_init_108 : decode cX2_init 108 = .ok (.return_, 1) := by decide +kernel
theorem dX2_startAnew_0 : decode cX2_startAnew 0 = .ok (.aload_n 0, 1) := by decide +kernel
theorem dX2_startAnew_1 : decode cX2_startAnew 1 = .ok (.iconst 0, 1) := by decide +kernel
theorem dX2_startAnew_2 : decode cX2_startAnew 2 = .ok (.putfield 48, 3) := by decide +kernel
theorem dX2_startAnew_5 : decode cX2_startAnew 5 = .ok (.aload_n 0, 1) := by decide +kernel
theorem dX2_startAnew_6 : decode cX2_startAnew 6 = .ok (.iconst 0, 1) := by decide +kernel
theorem dX2_startAnew_7 : decode cX2_startAnew 7 = .ok (.putfield 52, 3) := by decide +kernel
theorem dX2_startAnew_10 : decode cX2_startAnew 10 = .ok (.aload_n 0, 1) := by decide +kernel
theorem dX2_startAnew_11 : decode cX2_startAnew 11 = .ok (.iconst 0, 1) := by decide +kernel
theorem dX2_startAnew_12 : decode cX2_startAnew 12 = .ok (.putfield 55, 3) := by decide +kernel
theorem dX2_startAnew_15 : decode cX2_startAnew 15 = .ok (.aload_n 0, 1) := by decide +kernel
theorem dX2_startAnew_16 : decode cX2_startAnew 16 = .ok (.iconst 0, 1) := by decide +kernel
theorem dX2_startAnew_17 : decode cX2_startAnew 17 = .ok (.putfield 58, 3) := by decide +kernel
theorem dX2_startAnew_20 : decode cX2_startAnew 20 = .ok (.aload_n 0, 1) := by decide +kernel
theorem dX2_startAnew_21 : decode cX2_startAnew 21 = .ok (.getfield 9, 3) := by decide +kernel
theorem dX2_startAnew_24 : decode cX2_startAnew 24 = .ok (.iconst 0, 1) := by decide +kernel
theorem dX2_startAnew_25 : decode cX2_startAnew 25 = .ok (.iconst 2, 1) := by decide +kernel
theorem dX2_startAnew_26 : decode cX2_startAnew 26 = .ok (.iastore, 1) := by decide +kernel
theorem dX2_startAnew_27 : decode cX2_startAnew 27 = .ok (.aload_n 0, 1) := by decide +kernel
theorem dX2_startAnew_28 : decode cX2_startAnew 28 = .ok (.getfield 9, 3) := by decide +kernel
theorem dX2_startAnew_31 : decode cX2_startAnew 31 = .ok (.iconst 1, 1) := by decide +kernel
theorem dX2_startAnew_32 : decode cX2_startAnew 32 = .ok (.bipush 30, 2) := by decide +kernel
theorem dX2_startAnew_34 : decode cX2_startAnew 34 = .ok (.iastore, 1) := by decide +kernel
theorem dX2_startAnew_35 : decode cX2_startAnew 35 = .ok (.return_, 1) := by decide +kernel
theorem dX2_copyFrom_0 : decode cX2_copyFrom 0 = .ok (.aload_n 0, 1) := by decide +kernel
theorem dX2_copyFrom_1 : decode cX2_copyFrom 1 = .ok (.aload_n 1, 1) := by decide +kernel
theorem dX2_copyFrom_2 : decode cX2_copyFrom 2 = .ok (.getfield 48, 3) := by decide +kernel
theorem dX2_copyFrom_5 : decode cX2_copyFrom 5 = .ok (.putfield 48, 3) := by decide +kernel
theorem dX2_copyFrom_8 : decode cX2_copyFrom 8 = .ok (.aload_n 0, 1) := by decide +kernel
theorem dX2_copyFrom_9 : decode cX2_copyFrom 9 = .ok (.aload_n 1, 1) := by decide +kernel
theorem dX2_copyFrom_10 : decode cX2_copyFrom 10 = .ok (.getfield 52, 3) := by decide +kernel
theorem dX2_copyFrom_13 : decode cX2_copyFrom 13 = .ok (.putfield 52, 3) := by decide +kernel
theorem dX2_copyFrom_16 : decode cX2_copyFrom 16 = .ok (.aload_n 0, 1) := by decide +kernel
theorem dX2_copyFrom_17 : decode cX2_copyFrom 17 = .ok (.aload_n 1, 1) := by decide +kernel
theorem dX2_copyFrom_18 : decode cX2_copyFrom 18 = .ok (.getfield 55, 3) := by decide +kernel
theorem dX2_copyFrom_21 : decode cX2_copyFrom 21 = .ok (.putfield 55, 3) := by decide +kernel
theorem dX2_copyFrom_24 : decode cX2_copyFrom 24 = .ok (.aload_n 0, 1) := by decide +kernel
theorem dX2_copyFrom_25 : decode cX2_copyFrom 25 = .ok (.aload_n 1, 1) := by decide +kernel
theorem dX2_copyFrom_26 : decode cX2_copyFrom 26 = .ok (.getfield 58, 3) := by decide +kernel
theorem dX2_copyFrom_29 : decode cX2_copyFrom 29 = .ok (.putfield 58, 3) := by decide +kernel
theorem dX2_copyFrom_32 : decode cX2_copyFrom 32 = .ok (.aload_n 1, 1) := by decide +kernel
theorem dX2_copyFrom_33 : decode cX2_copyFrom 33 = .ok (.getfield 9, 3) := by decide +kernel
theorem dX2_copyFrom_36 : decode cX2_copyFrom 36 = .ok (.iconst 0, 1) := by decide +kernel
theorem dX2_copyFrom_37 : decode cX2_copyFrom 37 = .ok (.aload_n 0, 1) := by decide +kernel
theorem dX2_copyFrom_38 : decode cX2_copyFrom 38 = .ok (.getfield 9, 3) := by decide +kernel
theorem dX2_copyFrom_41 : decode cX2_copyFrom 41 = .ok (.iconst 0, 1) := by decide +kernel
theorem dX2_copyFrom_42 : decode cX2_copyFrom 42 = .ok (.aload_n 0, 1) := by decide +kernel
theorem dX2_copyFrom_43 : decode cX2_copyFrom 43 = .ok (.getfield 9, 3) := by decide +kernel
theorem dX2_copyFrom_46 : decode cX2_copyFrom 46 = .ok (.arraylength, 1) := by decide +kernel
theorem dX2_copyFrom_47 : decode cX2_copyFrom 47 = .ok (.invokestatic 61, 3) := by decide +kernel
theorem dX2_copyFrom_50 : decode cX2_copyFrom 50 = .ok (.aload_n 1, 1) := by decide +kernel
theorem dX2_copyFrom_51 : decode cX2_copyFrom 51 = .ok (.getfield 15, 3) := by decide +kernel
theorem dX2_copyFrom_54 : decode cX2_copyFrom 54 = .ok (.iconst 0, 1) := by decide +kernel
theorem dX2_copyFrom_55 : decode cX2_copyFrom 55 = .ok (.aload_n 0, 1) := by decide +kernel
theorem dX2_copyFrom_56 : decode cX2_copyFrom 56 = .ok (.getfield 15, 3) := by decide +kernel
theorem dX2_copyFrom_59 : decode cX2_copyFrom 59 = .ok (.iconst 0, 1) := by decide +kernel
theorem dX2_copyFrom_60 : decode cX2_copyFrom 60 = .ok (.bipush 10, 2) := by decide +kernel
theorem dX2_copyFrom_62 : decode cX2_copyFrom 62 = .ok (.invokestatic 61, 3) := by decide +kernel
theorem dX2_copyFrom_65 : decode cX2_copyFrom 65 = .ok (.aload_n 1, 1) := by decide +kernel
theorem dX2_copyFrom_66 : decode cX2_copyFrom 66 = .ok (.getfield 18, 3) := by decide +kernel
theorem dX2_copyFrom_69 : decode cX2_copyFrom 69 = .ok (.iconst 0, 1) := by decide +kernel
theorem dX2_copyFrom_70 : decode cX2_copyFrom 70 = .ok (.aload_n 0, 1) := by decide +kernel
theorem dX2_copyFrom_71 : decode cX2_copyFrom 71 = .ok (.getfield 18, 3) := by decide +kernel
theorem dX2_copyFrom_74 : decode cX2_copyFrom 74 = .ok (.iconst 0, 1) := by decide +kernel
theorem dX2_copyFrom_75 : decode cX2_copyFrom 75 = .ok (.bipush 10, 2) := by decide +kernel
theorem dX2_copyFrom_77 : decode cX2_copyFrom 77 = .ok (.invokestatic 61, 3) := by decide +kernel
theorem dX2_copyFrom_80 : decode cX2_copyFrom 80 = .ok (.aload_n 1, 1) := by decide +kernel
theorem dX2_copyFrom_81 : decode cX2_copyFrom 81 = .ok (.getfield 21, 3) := by decide +kernel
theorem dX2_copyFrom_84 : decode cX2_copyFrom 84 = .ok (.iconst 0, 1) := by decide +kernel
theorem dX2_copyFrom_85 : decode cX2_copyFrom 85 = .ok (.aload_n 0, 1) := by decide +kernel
theorem dX2_copyFrom_86 : decode cX2_copyFrom 86 = .ok (.getfield 21, 3) := by decide +kernel
theorem dX2_copyFrom_89 : decode cX2_copyFrom 89 = .ok (.iconst 0, 1) := by decide +kernel
theorem dX2_copyFrom_90 : decode cX2_copyFrom 90 = .ok (.bipush 10, 2) := by decide +kernel
theorem dX2_copyFrom_92 : decode cX2_copyFrom 92 = .ok (.invokestatic 61, 3) := by decide +kernel
theorem dX2_copyFrom_95 : decode cX2_copyFrom 95 = .ok (.aload_n 1, 1) := by decide +kernel
theorem dX2_copyFrom_96 : decode cX2_copyFrom 96 = .ok (.getfield 24, 3) := by decide +kernel
theorem dX2_copyFrom_99 : decode cX2_copyFrom 99 = .ok (.iconst 0, 1) := by decide +kernel
theorem dX2_copyFrom_100 : decode cX2_copyFrom 100 = .ok (.aload_n 0, 1) := by decide +kernel
theorem dX2_copyFrom_101 : decode cX2_copyFrom 101 = .ok (.getfield 24, 3) := by decide +kernel
theorem dX2_copyFrom_104 : decode cX2_copyFrom 104 = .ok (.iconst 0, 1) := by decide +kernel
theorem dX2_copyFrom_105 : decode cX2_copyFrom 105 = .ok (.bipush 20, 2) := by decide +kernel
theorem dX2_copyFrom_107 : decode cX2_copyFrom 107 = .ok (.invokestatic 61, 3) := by decide +kernel
theorem dX2_copyFrom_110 : decode cX2_copyFrom 110 = .ok (.aload_n 1, 1) := by decide +kernel
theorem dX2_copyFrom_111 : decode cX2_copyFrom 111 = .ok (.getfield 27, 3) := by decide +kernel
theorem dX2_copyFrom_114 : decode cX2_copyFrom 114 = .ok (.iconst 0, 1) := by decide +kernel
theorem dX2_copyFrom_115 : decode cX2_copyFrom 115 = .ok (.aload_n 0, 1) := by decide +kernel
theorem dX2_copyFrom_116 : decode cX2_copyFrom 116 = .ok (.getfield 27, 3) := by decide +kernel
theorem dX2_copyFrom_119 : decode cX2_copyFrom 119 = .ok (.iconst 0, 1) := by decide +kernel
theorem dX2_copyFrom_120 : decode cX2_copyFrom 120 = .ok (.bipush 20, 2) := by decide +kernel
theorem dX2_copyFrom_122 : decode cX2_copyFrom 122 = .ok (.invokestatic 61, 3) := by decide +kernel
theorem dX2_copyFrom_125 : decode cX2_copyFrom 125 = .ok (.aload_n 1, 1) := by decide +kernel
theorem dX2_copyFrom_126 : decode cX2_copyFrom 126 = .ok (.getfield 30, 3) := by decide +kernel
theorem dX2_copyFrom_129 : decode cX2_copyFrom 129 = .ok (.iconst 0, 1) := by decide +kernel
theorem dX2_copyFrom_130 : decode cX2_copyFrom 130 = .ok (.aload_n 0, 1) := by decide +kernel
theorem dX2_copyFrom_131 : decode cX2_copyFrom 131 = .ok (.getfield 30, 3) := by decide +kernel
theorem dX2_copyFrom_134 : decode cX2_copyFrom 134 = .ok (.iconst 0, 1) := by decide +kernel
theorem dX2_copyFrom_135 : decode cX2_copyFrom 135 = .ok (.bipush 16, 2) := by decide +kernel
theorem dX2_copyFrom_137 : decode cX2_copyFrom 137 = .ok (.invokestatic 61, 3) := by decide +kernel
theorem dX2_copyFrom_140 : decode cX2_copyFrom 140 = .ok (.aload_n 1, 1) := by decide +kernel
theorem dX2_copyFrom_141 : decode cX2_copyFrom 141 = .ok (.getfield 33, 3) := by decide +kernel
theorem dX2_copyFrom_144 : decode cX2_copyFrom 144 = .ok (.iconst 0, 1) := by decide +kernel
theorem dX2_copyFrom_145 : decode cX2_copyFrom 145 = .ok (.aload_n 0, 1) := by decide +kernel
theorem dX2_copyFrom_146 : decode cX2_copyFrom 146 = .ok (.getfield 33, 3) := by decide +kernel
theorem dX2_copyFrom_149 : decode cX2_copyFrom 149 = .ok (.iconst 0, 1) := by decide +kernel
theorem dX2_copyFrom_150 : decode cX2_copyFrom 150 = .ok (.bipush 16, 2) := by decide +kernel
theorem dX2_copyFrom_152 : decode cX2_copyFrom 152 = .ok (.invokestatic 61, 3) := by decide +kernel
theorem dX2_copyFrom_155 : decode cX2_copyFrom 155 = .ok (.aload_n 1, 1) := by decide +kernel
theorem dX2_copyFrom_156 : decode cX2_copyFrom 156 = .ok (.getfield 36, 3) := by decide +kernel
theorem dX2_copyFrom_159 : decode cX2_copyFrom 159 = .ok (.iconst 0, 1) := by decide +kernel
theorem dX2_copyFrom_160 : decode cX2_copyFrom 160 = .ok (.aload_n 0, 1) := by decide +kernel
theorem dX2_copyFrom_161 : decode cX2_copyFrom 161 = .ok (.getfield 36, 3) := by decide +kernel
theorem dX2_copyFrom_164 : decode cX2_copyFrom 164 = .ok (.iconst 0, 1) := by decide +kernel
theorem dX2_copyFrom_165 : decode cX2_copyFrom 165 = .ok (.bipush 16, 2) := by decide +kernel
theorem dX2_copyFrom_167 : decode cX2_copyFrom 167 = .ok (.invokestatic 61, 3) := by decide +kernel
theorem dX2_copyFrom_170 : decode cX2_copyFrom 170 = .ok (.aload_n 1, 1) := by decide +kernel
theorem dX2_copyFrom_171 : decode cX2_copyFrom 171 = .ok (.getfield 39, 3) := by decide +kernel
theorem dX2_copyFrom_174 : decode cX2_copyFrom 174 = .ok (.iconst 0, 1) := by decide +kernel
theorem dX2_copyFrom_175 : decode cX2_copyFrom 175 = .ok (.aload_n 0, 1) := by decide +kernel
theorem dX2_copyFrom_176 : decode cX2_copyFrom 176 = .ok (.getfield 39, 3) := by decide +kernel
theorem dX2_copyFrom_179 : decode cX2_copyFrom 179 = .ok (.iconst 0, 1) := by decide +kernel
theorem dX2_copyFrom_180 : decode cX2_copyFrom 180 = .ok (.bipush 16, 2) := by decide +kernel
theorem dX2_copyFrom_182 : decode cX2_copyFrom 182 = .ok (.invokestatic 61, 3) := by decide +kernel
theorem dX2_copyFrom_185 : decode cX2_copyFrom 185 = .ok (.aload_n 1, 1) := by decide +kernel
theorem dX2_copyFrom_186 : decode cX2_copyFrom 186 = .ok (.getfield 42, 3) := by decide +kernel
theorem dX2_copyFrom_189 : decode cX2_copyFrom 189 = .ok (.iconst 0, 1) := by decide +kernel
theorem dX2_copyFrom_190 : decode cX2_copyFrom 190 = .ok (.aload_n 0, 1) := by decide +kernel
theorem dX2_copyFrom_191 : decode cX2_copyFrom 191 = .ok (.getfield 42, 3) := by decide +kernel
theorem dX2_copyFrom_194 : decode cX2_copyFrom 194 = .ok (.iconst 0, 1) := by decide +kernel
theorem dX2_copyFrom_195 : decode cX2_copyFrom 195 = .ok (.bipush 96, 2) := by decide +kernel
theorem dX2_copyFrom_197 : decode cX2_copyFrom 197 = .ok (.invokestatic 61, 3) := by decide +kernel
theorem dX2_copyFrom_200 : decode cX2_copyFrom 200 = .ok (.return_, 1) := by decide +kernel
theorem dX2_hasValve_0 : decode cX2_hasValve 0 = .ok (.iload_n 1, 1) := by decide +kernel
theorem dX2_hasValve_1 : decode cX2_hasValve 1 = .ok (.ifCond .lt 15, 3) := by decide +kernel
theorem dX2_hasValve_4 : decode cX2_hasValve 4 = .ok (.iload_n 1, 1) := by decide +kernel
theorem dX2_hasValve_5 : decode cX2_hasValve 5 = .ok (.aload_n 0, 1) := by decide +kernel
theorem dX2_hasValve_6 : decode cX2_hasValve 6 = .ok (.getfield 55, 3) := by decide +kernel
theorem dX2_hasValve_9 : decode cX2_hasValve 9 = .ok (.if_icmp .ge 7, 3) := by decide +kernel
theorem dX2_hasValve_12 : decode cX2_hasValve 12 = .ok (.iconst 1, 1) := by decide +kernel
theorem dX2_hasValve_13 : decode cX2_hasValve 13 = .ok (.goto 4, 3) := by decide +kernel
theorem dX2_hasValve_16 : decode cX2_hasValve 16 = .ok (.iconst 0, 1) := by decide +kernel
theorem dX2_hasValve_17 : decode cX2_hasValve 17 = .ok (.ireturn, 1) := by decide +kernel
theorem dX2_hasEnd_0 : decode cX2_hasEnd 0 = .ok (.aload_n 0, 1) := by decide +kernel
theorem dX2_hasEnd_1 : decode cX2_hasEnd 1 = .ok (.iload_n 1, 1) := by decide +kernel
theorem dX2_hasEnd_2 : decode cX2_hasEnd 2 = .ok (.invokevirtual 67, 3) := by decide +kernel
theorem dX2_hasEnd_5 : decode cX2_hasEnd 5 = .ok (.ifCond .eq 16, 3) := by decide +kernel
theorem dX2_hasEnd_8 : decode cX2_hasEnd 8 = .ok (.iload_n 2, 1) := by decide +kernel
theorem dX2_hasEnd_9 : decode cX2_hasEnd 9 = .ok (.iconst 0, 1) := by decide +kernel
theorem dX2_hasEnd_10 : decode cX2_hasEnd 10 = .ok (.iconst 1, 1) := by decide +kernel
theorem dX2_hasEnd_11 : decode cX2_hasEnd 11 = .ok (.invokestatic 71, 3) := by decide +kernel
theorem dX2_hasEnd_14 : decode cX2_hasEnd 14 = .ok (.ifCond .eq 7, 3) := by decide +kernel
theorem dX2_hasEnd_17 : decode cX2_hasEnd 17 = .ok (.iconst 1, 1) := by decide +kernel
theorem dX2_hasEnd_18 : decode cX2_hasEnd 18 = .ok (.goto 4, 3) := by decide +kernel
theorem dX2_hasEnd_21 : decode cX2_hasEnd 21 = .ok (.iconst 0, 1) := by decide +kernel
theorem dX2_hasEnd_22 : decode cX2_hasEnd 22 = .ok (.ireturn, 1) := by decide +kernel
theorem dX2_hasDuct_0 : decode cX2_hasDuct 0 = .ok (.iload_n 1, 1) := by decide +kernel
theorem dX2_hasDuct_1 : decode cX2_hasDuct 1 = .ok (.ifCond .lt 15, 3) := by decide +kernel
theorem dX2_hasDuct_4 : decode cX2_hasDuct 4 = .ok (.iload_n 1, 1) := by decide +kernel
theorem dX2_hasDuct_5 : decode cX2_hasDuct 5 = .ok (.aload_n 0, 1) := by decide +kernel
theorem dX2_hasDuct_6 : decode cX2_hasDuct 6 = .ok (.getfield 58, 3) := by decide +kernel
theorem dX2_hasDuct_9 : decode cX2_hasDuct 9 = .ok (.if_icmp .ge 7, 3) := by decide +kernel
theorem dX2_hasDuct_12 : decode cX2_hasDuct 12 = .ok (.iconst 1, 1) := by decide +kernel
theorem dX2_hasDuct_13 : decode cX2_hasDuct 13 = .ok (.goto 4, 3) := by decide +kernel
theorem dX2_hasDuct_16 : decode cX2_hasDuct 16 = .ok (.iconst 0, 1) := by decide +kernel
theorem dX2_hasDuct_17 : decode cX2_hasDuct 17 = .ok (.ireturn, 1) := by decide +kernel
theorem dX2_addValve_0 : decode cX2_addValve 0 = .ok (.aload_n 0, 1) := by decide +kernel
theorem dX2_addValve_1 : decode cX2_addValve 1 = .ok (.getfield 15, 3) := by decide +kernel
theorem dX2_addValve_4 : decode cX2_addValve 4 = .ok (.aload_n 0, 1) := by decide +kernel
theorem dX2_addValve_5 : decode cX2_addValve 5 = .ok (.getfield 55, 3) := by decide +kernel
theorem dX2_addValve_8 : decode cX2_addValve 8 = .ok (.iload_n 1, 1) := by decide +kernel
theorem dX2_addValve_9 : decode cX2_addValve 9 = .ok (.iastore, 1) := by decide +kernel
theorem dX2_addValve_10 : decode cX2_addValve 10 = .ok (.aload_n 0, 1) := by decide +kernel
theorem dX2_addValve_11 : decode cX2_addValve 11 = .ok (.getfield 18, 3) := by decide +kernel
theorem dX2_addValve_14 : decode cX2_addValve 14 = .ok (.aload_n 0, 1) := by decide +kernel
theorem dX2_addValve_15 : decode cX2_addValve 15 = .ok (.getfield 55, 3) := by decide +kernel
theorem dX2_addValve_18 : decode cX2_addValve 18 = .ok (.iload_n 2, 1) := by decide +kernel
theorem dX2_addValve_19 : decode cX2_addValve 19 = .ok (.iastore, 1) := by decide +kernel
theorem dX2_addValve_20 : decode cX2_addValve 20 = .ok (.aload_n 0, 1) := by decide +kernel
theorem dX2_addValve_21 : decode cX2_addValve 21 = .ok (.getfield 21, 3) := by decide +kernel
theorem dX2_addValve_24 : decode cX2_addValve 24 = .ok (.aload_n 0, 1) := by decide +kernel
theorem dX2_addValve_25 : decode cX2_addValve 25 = .ok (.getfield 55, 3) := by decide +kernel
theorem dX2_addValve_28 : decode cX2_addValve 28 = .ok (.iconst 0, 1) := by decide +kernel
theorem dX2_addValve_29 : decode cX2_addValve 29 = .ok (.iastore, 1) := by decide +kernel
theorem dX2_addValve_30 : decode cX2_addValve 30 = .ok (.aload_n 0, 1) := by decide +kernel
theorem dX2_addValve_31 : decode cX2_addValve 31 = .ok (.getfield 24, 3) := by decide +kernel
theorem dX2_addValve_34 : decode cX2_addValve 34 = .ok (.aload_n 0, 1) := by decide +kernel
theorem dX2_addValve_35 : decode cX2_addValve 35 = .ok (.getfield 55, 3) := by decide +kernel
theorem dX2_addValve_38 : decode cX2_addValve 38 = .ok (.iconst 0, 1) := by decide +kernel
theorem dX2_addValve_39 : decode cX2_addValve 39 = .ok (.invokestatic 75, 3) := by decide +kernel
theorem dX2_addValve_42 : decode cX2_addValve 42 = .ok (.aload_n 0, 1) := by decide +kernel
theorem dX2_addValve_43 : decode cX2_addValve 43 = .ok (.getfield 55, 3) := by decide +kernel
theorem dX2_addValve_46 : decode cX2_addValve 46 = .ok (.iconst 2, 1) := by decide +kernel
theorem dX2_addValve_47 : decode cX2_addValve 47 = .ok (.invokestatic 75, 3) := by decide +kernel
theorem dX2_addValve_50 : decode cX2_addValve 50 = .ok (.iconst 0, 1) := by decide +kernel
theorem dX2_addValve_51 : decode cX2_addValve 51 = .ok (.invokestatic 79, 3) := by decide +kernel
theorem dX2_addValve_54 : decode cX2_addValve 54 = .ok (.aload_n 0, 1) := by decide +kernel
theorem dX2_addValve_55 : decode cX2_addValve 55 = .ok (.getfield 27, 3) := by decide +kernel
theorem dX2_addValve_58 : decode cX2_addValve 58 = .ok (.aload_n 0, 1) := by decide +kernel
theorem dX2_addValve_59 : decode cX2_addValve 59 = .ok (.getfield 55, 3) := by decide +kernel
theorem dX2_addValve_62 : decode cX2_addValve 62 = .ok (.iconst 0, 1) := by decide +kernel
theorem dX2_addValve_63 : decode cX2_addValve 63 = .ok (.invokestatic 75, 3) := by decide +kernel
theorem dX2_addValve_66 : decode cX2_addValve 66 = .ok (.aload_n 0, 1) := by decide +kernel
theorem dX2_addValve_67 : decode cX2_addValve 67 = .ok (.getfield 55, 3) := by decide +kernel
theorem dX2_addValve_70 : decode cX2_addValve 70 = .ok (.iconst 2, 1) := by decide +kernel
theorem dX2_addValve_71 : decode cX2_addValve 71 = .ok (.invokestatic 75, 3) := by decide +kernel
theorem dX2_addValve_74 : decode cX2_addValve 74 = .ok (.iconst 0, 1) := by decide +kernel
theorem dX2_addValve_75 : decode cX2_addValve 75 = .ok (.invokestatic 79, 3) := by decide +kernel
theorem dX2_addValve_78 : decode cX2_addValve 78 = .ok (.aload_n 0, 1) := by decide +kernel
theorem dX2_addValve_79 : decode cX2_addValve 79 = .ok (.dup, 1) := by decide +kernel
theorem dX2_addValve_80 : decode cX2_addValve 80 = .ok (.getfield 55, 3) := by decide +kernel
theorem dX2_addValve_83 : decode cX2_addValve 83 = .ok (.iconst 1, 1) := by decide +kernel
theorem dX2_addValve_84 : decode cX2_addValve 84 = .ok (.iadd, 1) := by decide +kernel
theorem dX2_addValve_85 : decode cX2_addValve 85 = .ok (.putfield 55, 3) := by decide +kernel
theorem dX2_addValve_88 : decode cX2_addValve 88 = .ok (.return_, 1) := by decide +kernel
theorem dX2_addDuct_0 : decode cX2_addDuct 0 = .ok (.aload_n 0, 1) := by decide +kernel
theorem dX2_addDuct_1 : decode cX2_addDuct 1 = .ok (.getfield 30, 3) := by decide +kernel
theorem dX2_addDuct_4 : decode cX2_addDuct 4 = .ok (.aload_n 0, 1) := by decide +kernel
theorem dX2_addDuct_5 : decode cX2_addDuct 5 = .ok (.getfield 58, 3) := by decide +kernel
theorem dX2_addDuct_8 : decode cX2_addDuct 8 = .ok (.iload_n 1, 1) := by decide +kernel
theorem dX2_addDuct_9 : decode cX2_addDuct 9 = .ok (.iastore, 1) := by decide +kernel
theorem dX2_addDuct_10 : decode cX2_addDuct 10 = .ok (.aload_n 0, 1) := by decide +kernel
theorem dX2_addDuct_11 : decode cX2_addDuct 11 = .ok (.getfield 33, 3) := by decide +kernel
theorem dX2_addDuct_14 : decode cX2_addDuct 14 = .ok (.aload_n 0, 1) := by decide +kernel
theorem dX2_addDuct_15 : decode cX2_addDuct 15 = .ok (.getfield 58, 3) := by decide +kernel
theorem dX2_addDuct_18 : decode cX2_addDuct 18 = .ok (.iload_n 2, 1) := by decide +kernel
theorem dX2_addDuct_19 : decode cX2_addDuct 19 = .ok (.iastore, 1) := by decide +kernel
theorem dX2_addDuct_20 : decode cX2_addDuct 20 = .ok (.aload_n 0, 1) := by decide +kernel
theorem dX2_addDuct_21 : decode cX2_addDuct 21 = .ok (.getfield 36, 3) := by decide +kernel
theorem dX2_addDuct_24 : decode cX2_addDuct 24 = .ok (.aload_n 0, 1) := by decide +kernel
theorem dX2_addDuct_25 : decode cX2_addDuct 25 = .ok (.getfield 58, 3) := by decide +kernel
theorem dX2_addDuct_28 : decode cX2_addDuct 28 = .ok (.iload_n 3, 1) := by decide +kernel
theorem dX2_addDuct_29 : decode cX2_addDuct 29 = .ok (.iastore, 1) := by decide +kernel
theorem dX2_addDuct_30 : decode cX2_addDuct 30 = .ok (.aload_n 0, 1) := by decide +kernel
theorem dX2_addDuct_31 : decode cX2_addDuct 31 = .ok (.getfield 39, 3) := by decide +kernel
theorem dX2_addDuct_34 : decode cX2_addDuct 34 = .ok (.aload_n 0, 1) := by decide +kernel
theorem dX2_addDuct_35 : decode cX2_addDuct 35 = .ok (.getfield 58, 3) := by decide +kernel
theorem dX2_addDuct_38 : decode cX2_addDuct 38 = .ok (.iconst 0, 1) := by decide +kernel
theorem dX2_addDuct_39 : decode cX2_addDuct 39 = .ok (.iastore, 1) := by decide +kernel
theorem dX2_addDuct_40 : decode cX2_addDuct 40 = .ok (.aload_n 0, 1) := by decide +kernel
theorem dX2_addDuct_41 : decode cX2_addDuct 41 = .ok (.getfield 42, 3) := by decide +kernel
theorem dX2_addDuct_44 : decode cX2_addDuct 44 = .ok (.aload_n 0, 1) := by decide +kernel
theorem dX2_addDuct_45 : decode cX2_addDuct 45 = .ok (.getfield 58, 3) := by decide +kernel
theorem dX2_addDuct_48 : decode cX2_addDuct 48 = .ok (.bipush 6, 2) := by decide +kernel
theorem dX2_addDuct_50 : decode cX2_addDuct 50 = .ok (.imul, 1) := by decide +kernel
theorem dX2_addDuct_51 : decode cX2_addDuct 51 = .ok (.aload_n 0, 1) := by decide +kernel
theorem dX2_addDuct_52 : decode cX2_addDuct 52 = .ok (.getfield 58, 3) := by decide +kernel
theorem dX2_addDuct_55 : decode cX2_addDuct 55 = .ok (.iconst 1, 1) := by decide +kernel
theorem dX2_addDuct_56 : decode cX2_addDuct 56 = .ok (.iadd, 1) := by decide +kernel
theorem dX2_addDuct_57 : decode cX2_addDuct 57 = .ok (.bipush 6, 2) := by decide +kernel
theorem dX2_addDuct_59 : decode cX2_addDuct 59 = .ok (.imul, 1) := by decide +kernel
theorem dX2_addDuct_60 : decode cX2_addDuct 60 = .ok (.iconst 0, 1) := by decide +kernel
theorem dX2_addDuct_61 : decode cX2_addDuct 61 = .ok (.invokestatic 79, 3) := by decide +kernel
theorem dX2_addDuct_64 : decode cX2_addDuct 64 = .ok (.aload_n 0, 1) := by decide +kernel
theorem dX2_addDuct_65 : decode cX2_addDuct 65 = .ok (.dup, 1) := by decide +kernel
theorem dX2_addDuct_66 : decode cX2_addDuct 66 = .ok (.getfield 58, 3) := by decide +kernel
theorem dX2_addDuct_69 : decode cX2_addDuct 69 = .ok (.iconst 1, 1) := by decide +kernel
theorem dX2_addDuct_70 : decode cX2_addDuct 70 = .ok (.iadd, 1) := by decide +kernel
theorem dX2_addDuct_71 : decode cX2_addDuct 71 = .ok (.putfield 58, 3) := by decide +kernel
theorem dX2_addDuct_74 : decode cX2_addDuct 74 = .ok (.return_, 1) := by decide +kernel
theorem dX2_removeDuct_0 : decode cX2_removeDuct 0 = .ok (.aload_n 0, 1) := by decide +kernel
theorem dX2_removeDuct_1 : decode cX2_removeDuct 1 = .ok (.getfield 58, 3) := by decide +kernel
theorem dX2_removeDuct_4 : decode cX2_removeDuct 4 = .ok (.iconst 1, 1) := by decide +kernel
theorem dX2_removeDuct_5 : decode cX2_removeDuct 5 = .ok (.isub, 1) := by decide +kernel
theorem dX2_removeDuct_6 : decode cX2_removeDuct 6 = .ok (.iload_n 1, 1) := by decide +kernel
theorem dX2_removeDuct_7 : decode cX2_removeDuct 7 = .ok (.isub, 1) := by decide +kernel
theorem dX2_removeDuct_8 : decode cX2_removeDuct 8 = .ok (.istore_n 2, 1) := by decide +kernel
theorem dX2_removeDuct_9 : decode cX2_removeDuct 9 = .ok (.aload_n 0, 1) := by decide +kernel
theorem dX2_removeDuct_10 : decode cX2_removeDuct 10 = .ok (.getfield 30, 3) := by decide +kernel
theorem dX2_removeDuct_13 : decode cX2_removeDuct 13 = .ok (.iload_n 1, 1) := by decide +kernel
theorem dX2_removeDuct_14 : decode cX2_removeDuct 14 = .ok (.iconst 1, 1) := by decide +kernel
theorem dX2_removeDuct_15 : decode cX2_removeDuct 15 = .ok (.iadd, 1) := by decide +kernel
theorem dX2_removeDuct_16 : decode cX2_removeDuct 16 = .ok (.aload_n 0, 1) := by decide +kernel
theorem dX2_removeDuct_17 : decode cX2_removeDuct 17 = .ok (.getfield 30, 3) := by decide +kernel
theorem dX2_removeDuct_20 : decode cX2_removeDuct 20 = .ok (.iload_n 1, 1) := by decide +kernel
theorem dX2_removeDuct_21 : decode cX2_removeDuct 21 = .ok (.iload_n 2, 1) := by decide +kernel
theorem dX2_removeDuct_22 : decode cX2_removeDuct 22 = .ok (.invokestatic 61, 3) := by decide +kernel
theorem dX2_removeDuct_25 : decode cX2_removeDuct 25 = .ok (.aload_n 0, 1) := by decide +kernel
theorem dX2_removeDuct_26 : decode cX2_removeDuct 26 = .ok (.getfield 33, 3) := by decide +kernel
theorem dX2_removeDuct_29 : decode cX2_removeDuct 29 = .ok (.iload_n 1, 1) := by decide +kernel
theorem dX2_removeDuct_30 : decode cX2_removeDuct 30 = .ok (.iconst 1, 1) := by decide +kernel
theorem dX2_removeDuct_31 : decode cX2_removeDuct 31 = .ok (.iadd, 1) := by decide +kernel
theorem dX2_removeDuct_32 : decode cX2_removeDuct 32 = .ok (.aload_n 0, 1) := by decide +kernel
theorem dX2_removeDuct_33 : decode cX2_removeDuct 33 = .ok (.getfield 33, 3) := by decide +kernel
theorem dX2_removeDuct_36 : decode cX2_removeDuct 36 = .ok (.iload_n 1, 1) := by decide +kernel
theorem dX2_removeDuct_37 : decode cX2_removeDuct 37 = .ok (.iload_n 2, 1) := by decide +kernel
theorem dX2_removeDuct_38 : decode cX2_removeDuct 38 = .ok (.invokestatic 61, 3) := by decide +kernel
theorem dX2_removeDuct_41 : decode cX2_removeDuct 41 = .ok (.aload_n 0, 1) := by decide +kernel
theorem dX2_removeDuct_42 : decode cX2_removeDuct 42 = .ok (.getfield 36, 3) := by decide +kernel
theorem dX2_removeDuct_45 : decode cX2_removeDuct 45 = .ok (.iload_n 1, 1) := by decide +kernel
theorem dX2_removeDuct_46 : decode cX2_removeDuct 46 = .ok (.iconst 1, 1) := by decide +kernel
theorem dX2_removeDuct_47 : decode cX2_removeDuct 47 = .ok (.iadd, 1) := by decide +kernel
theorem dX2_removeDuct_48 : decode cX2_removeDuct 48 = .ok (.aload_n 0, 1) := by decide +kernel
theorem dX2_removeDuct_49 : decode cX2_removeDuct 49 = .ok (.getfield 36, 3) := by decide +kernel
theorem dX2_removeDuct_52 : decode cX2_removeDuct 52 = .ok (.iload_n 1, 1) := by decide +kernel
theorem dX2_removeDuct_53 : decode cX2_removeDuct 53 = .ok (.iload_n 2, 1) := by decide +kernel
theorem dX2_removeDuct_54 : decode cX2_removeDuct 54 = .ok (.invokestatic 61, 3) := by decide +kernel
theorem dX2_removeDuct_57 : decode cX2_removeDuct 57 = .ok (.aload_n 0, 1) := by decide +kernel
theorem dX2_removeDuct_58 : decode cX2_removeDuct 58 = .ok (.getfield 39, 3) := by decide +kernel
theorem dX2_removeDuct_61 : decode cX2_removeDuct 61 = .ok (.iload_n 1, 1) := by decide +kernel
theorem dX2_removeDuct_62 : decode cX2_removeDuct 62 = .ok (.iconst 1, 1) := by decide +kernel
theorem dX2_removeDuct_63 : decode cX2_removeDuct 63 = .ok (.iadd, 1) := by decide +kernel
theorem dX2_removeDuct_64 : decode cX2_removeDuct 64 = .ok (.aload_n 0, 1) := by decide +kernel
theorem dX2_removeDuct_65 : decode cX2_removeDuct 65 = .ok (.getfield 39, 3) := by decide +kernel
theorem dX2_removeDuct_68 : decode cX2_removeDuct 68 = .ok (.iload_n 1, 1) := by decide +kernel
theorem dX2_removeDuct_69 : decode cX2_removeDuct 69 = .ok (.iload_n 2, 1) := by decide +kernel
theorem dX2_removeDuct_70 : decode cX2_removeDuct 70 = .ok (.invokestatic 61, 3) := by decide +kernel
theorem dX2_removeDuct_73 : decode cX2_removeDuct 73 = .ok (.aload_n 0, 1) := by decide +kernel
theorem dX2_removeDuct_74 : decode cX2_removeDuct 74 = .ok (.getfield 42, 3) := by decide +kernel
theorem dX2_removeDuct_77 : decode cX2_removeDuct 77 = .ok (.iload_n 1, 1) := by decide +kernel
theorem dX2_removeDuct_78 : decode cX2_removeDuct 78 = .ok (.iconst 1, 1) := by decide +kernel
theorem dX2_removeDuct_79 : decode cX2_removeDuct 79 = .ok (.iadd, 1) := by decide +kernel
theorem dX2_removeDuct_80 : decode cX2_removeDuct 80 = .ok (.bipush 6, 2) := by decide +kernel
theorem dX2_removeDuct_82 : decode cX2_removeDuct 82 = .ok (.imul, 1) := by decide +kernel
theorem dX2_removeDuct_83 : decode cX2_removeDuct 83 = .ok (.aload_n 0, 1) := by decide +kernel
theorem dX2_removeDuct_84 : decode cX2_removeDuct 84 = .ok (.getfield 42, 3) := by decide +kernel
theorem dX2_removeDuct_87 : decode cX2_removeDuct 87 = .ok (.iload_n 1, 1) := by decide +kernel
theorem dX2_removeDuct_88 : decode cX2_removeDuct 88 = .ok (.bipush 6, 2) := by decide +kernel
theorem dX2_removeDuct_90 : decode cX2_removeDuct 90 = .ok (.imul, 1) := by decide +kernel
theorem dX2_removeDuct_91 : decode cX2_removeDuct 91 = .ok (.iload_n 2, 1) := by decide +kernel
theorem dX2_removeDuct_92 : decode cX2_removeDuct 92 = .ok (.bipush 6, 2) := by decide +kernel
theorem dX2_removeDuct_94 : decode cX2_removeDuct 94 = .ok (.imul, 1) := by decide +kernel
theorem dX2_removeDuct_95 : decode cX2_removeDuct 95 = .ok (.invokestatic 61, 3) := by decide +kernel
theorem dX2_removeDuct_98 : decode cX2_removeDuct 98 = .ok (.aload_n 0, 1) := by decide +kernel
theorem dX2_removeDuct_99 : decode cX2_removeDuct 99 = .ok (.dup, 1) := by decide +kernel
theorem dX2_removeDuct_100 : decode cX2_removeDuct 100 = .ok (.getfield 58, 3) := by decide +kernel
theorem dX2_removeDuct_103 : decode cX2_removeDuct 103 = .ok (.iconst 1, 1) := by decide +kernel
theorem dX2_removeDuct_104 : decode cX2_removeDuct 104 = .ok (.isub, 1) := by decide +kernel
theorem dX2_removeDuct_105 : decode cX2_removeDuct 105 = .ok (.putfield 58, 3) := by decide +kernel
theorem dX2_removeDuct_108 : decode cX2_removeDuct 108 = .ok (.return_, 1) := by decide +kernel
theorem dX2_legsUnderPressure_0 : decode cX2_legsUnderPressure 0 = .ok (.iconst 0, 1) := by decide +kernel
theorem dX2_legsUnderPressure_1 : decode cX2_legsUnderPressure 1 = .ok (.istore_n 1, 1) := by decide +kernel
theorem dX2_legsUnderPressure_2 : decode cX2_legsUnderPressure 2 = .ok (.iconst 0, 1) := by decide +kernel
theorem dX2_legsUnderPressure_3 : decode cX2_legsUnderPressure 3 = .ok (.istore_n 2, 1) := by decide +kernel
theorem dX2_legsUnderPressure_4 : decode cX2_legsUnderPressure 4 = .ok (.iload_n 2, 1) := by decide +kernel
theorem dX2_legsUnderPressure_5 : decode cX2_legsUnderPressure 5 = .ok (.iconst 2, 1) := by decide +kernel
theorem dX2_legsUnderPressure_6 : decode cX2_legsUnderPressure 6 = .ok (.aload_n 0, 1) := by decide +kernel
theorem dX2_legsUnderPressure_7 : decode cX2_legsUnderPressure 7 = .ok (.getfield 55, 3) := by decide +kernel
theorem dX2_legsUnderPressure_10 : decode cX2_legsUnderPressure 10 = .ok (.imul, 1) := by decide +kernel
theorem dX2_legsUnderPressure_11 : decode cX2_legsUnderPressure 11 = .ok (.if_icmp .ge 21, 3) := by decide +kernel
theorem dX2_legsUnderPressure_14 : decode cX2_legsUnderPressure 14 = .ok (.aload_n 0, 1) := by decide +kernel
theorem dX2_legsUnderPressure_15 : decode cX2_legsUnderPressure 15 = .ok (.getfield 24, 3) := by decide +kernel
theorem dX2_legsUnderPressure_18 : decode cX2_legsUnderPressure 18 = .ok (.iload_n 2, 1) := by decide +kernel
theorem dX2_legsUnderPressure_19 : decode cX2_legsUnderPressure 19 = .ok (.iaload, 1) := by decide +kernel
theorem dX2_legsUnderPressure_20 : decode cX2_legsUnderPressure 20 = .ok (.ifCond .le 6, 3) := by decide +kernel
theorem dX2_legsUnderPressure_23 : decode cX2_legsUnderPressure 23 = .ok (.iinc 1 1, 3) := by decide +kernel
theorem dX2_legsUnderPressure_26 : decode cX2_legsUnderPressure 26 = .ok (.iinc 2 1, 3) := by decide +kernel
theorem dX2_legsUnderPressure_29 : decode cX2_legsUnderPressure 29 = .ok (.goto (-25), 3) := by decide +kernel
theorem dX2_legsUnderPressure_32 : decode cX2_legsUnderPressure 32 = .ok (.iload_n 1, 1) := by decide +kernel
theorem dX2_legsUnderPressure_33 : decode cX2_legsUnderPressure 33 = .ok (.ireturn, 1) := by decide +kernel
theorem dX2_pressureOfAllLegs_0 : decode cX2_pressureOfAllLegs 0 = .ok (.iconst 0, 1) := by decide +kernel
theorem dX2_pressureOfAllLegs_1 : decode cX2_pressureOfAllLegs 1 = .ok (.istore_n 1, 1) := by decide +kernel
theorem dX2_pressureOfAllLegs_2 : decode cX2_pressureOfAllLegs 2 = .ok (.iconst 0, 1) := by decide +kernel
theorem dX2_pressureOfAllLegs_3 : decode cX2_pressureOfAllLegs 3 = .ok (.istore_n 2, 1) := by decide +kernel
theorem dX2_pressureOfAllLegs_4 : decode cX2_pressureOfAllLegs 4 = .ok (.iload_n 2, 1) := by decide +kernel
theorem dX2_pressureOfAllLegs_5 : decode cX2_pressureOfAllLegs 5 = .ok (.iconst 2, 1) := by decide +kernel
theorem dX2_pressureOfAllLegs_6 : decode cX2_pressureOfAllLegs 6 = .ok (.aload_n 0, 1) := by decide +kernel
theorem dX2_pressureOfAllLegs_7 : decode cX2_pressureOfAllLegs 7 = .ok (.getfield 55, 3) := by decide +kernel
theorem dX2_pressureOfAllLegs_10 : decode cX2_pressureOfAllLegs 10 = .ok (.imul, 1) := by decide +kernel
theorem dX2_pressureOfAllLegs_11 : decode cX2_pressureOfAllLegs 11 = .ok (.if_icmp .ge 18, 3) := by decide +kernel
theorem dX2_pressureOfAllLegs_14 : decode cX2_pressureOfAllLegs 14 = .ok (.iload_n 1, 1) := by decide +kernel
theorem dX2_pressureOfAllLegs_15 : decode cX2_pressureOfAllLegs 15 = .ok (.aload_n 0, 1) := by decide +kernel
theorem dX2_pressureOfAllLegs_16 : decode cX2_pressureOfAllLegs 16 = .ok (.getfield 24, 3) := by decide +kernel
theorem dX2_pressureOfAllLegs_19 : decode cX2_pressureOfAllLegs 19 = .ok (.iload_n 2, 1) := by decide +kernel
theorem dX2_pressureOfAllLegs_20 : decode cX2_pressureOfAllLegs 20 = .ok (.iaload, 1) := by decide +kernel
theorem dX2_pressureOfAllLegs_21 : decode cX2_pressureOfAllLegs 21 = .ok (.iadd, 1) := by decide +kernel
theorem dX2_pressureOfAllLegs_22 : decode cX2_pressureOfAllLegs 22 = .ok (.istore_n 1, 1) := by decide +kernel
theorem dX2_pressureOfAllLegs_23 : decode cX2_pressureOfAllLegs 23 = .ok (.iinc 2 1, 3) := by decide +kernel
theorem dX2_pressureOfAllLegs_26 : decode cX2_pressureOfAllLegs 26 = .ok (.goto (-22), 3) := by decide +kernel
theorem dX2_pressureOfAllLegs_29 : decode cX2_pressureOfAllLegs 29 = .ok (.iload_n 1, 1) := by decide +kernel
theorem dX2_pressureOfAllLegs_30 : decode cX2_pressureOfAllLegs 30 = .ok (.ireturn, 1) := by decide +kernel
theorem dX2_legsUnlike_0 : decode cX2_legsUnlike 0 = .ok (.iconst 0, 1) := by decide +kernel
theorem dX2_legsUnlike_1 : decode cX2_legsUnlike 1 = .ok (.istore_n 2, 1) := by decide +kernel
theorem dX2_legsUnlike_2 : decode cX2_legsUnlike 2 = .ok (.iconst 0, 1) := by decide +kernel
theorem dX2_legsUnlike_3 : decode cX2_legsUnlike 3 = .ok (.istore_n 3, 1) := by decide +kernel
theorem dX2_legsUnlike_4 : decode cX2_legsUnlike 4 = .ok (.iload_n 3, 1) := by decide +kernel
theorem dX2_legsUnlike_5 : decode cX2_legsUnlike 5 = .ok (.iconst 2, 1) := by decide +kernel
theorem dX2_legsUnlike_6 : decode cX2_legsUnlike 6 = .ok (.aload_n 0, 1) := by decide +kernel
theorem dX2_legsUnlike_7 : decode cX2_legsUnlike 7 = .ok (.getfield 55, 3) := by decide +kernel
theorem dX2_legsUnlike_10 : decode cX2_legsUnlike 10 = .ok (.imul, 1) := by decide +kernel
theorem dX2_legsUnlike_11 : decode cX2_legsUnlike 11 = .ok (.if_icmp .ge 27, 3) := by decide +kernel
theorem dX2_legsUnlike_14 : decode cX2_legsUnlike 14 = .ok (.aload_n 0, 1) := by decide +kernel
theorem dX2_legsUnlike_15 : decode cX2_legsUnlike 15 = .ok (.getfield 24, 3) := by decide +kernel
theorem dX2_legsUnlike_18 : decode cX2_legsUnlike 18 = .ok (.iload_n 3, 1) := by decide +kernel
theorem dX2_legsUnlike_19 : decode cX2_legsUnlike 19 = .ok (.iaload, 1) := by decide +kernel
theorem dX2_legsUnlike_20 : decode cX2_legsUnlike 20 = .ok (.aload_n 1, 1) := by decide +kernel
theorem dX2_legsUnlike_21 : decode cX2_legsUnlike 21 = .ok (.getfield 24, 3) := by decide +kernel
theorem dX2_legsUnlike_24 : decode cX2_legsUnlike 24 = .ok (.iload_n 3, 1) := by decide +kernel
theorem dX2_legsUnlike_25 : decode cX2_legsUnlike 25 = .ok (.iaload, 1) := by decide +kernel
theorem dX2_legsUnlike_26 : decode cX2_legsUnlike 26 = .ok (.if_icmp .eq 6, 3) := by decide +kernel
theorem dX2_legsUnlike_29 : decode cX2_legsUnlike 29 = .ok (.iinc 2 1, 3) := by decide +kernel
theorem dX2_legsUnlike_32 : decode cX2_legsUnlike 32 = .ok (.iinc 3 1, 3) := by decide +kernel
theorem dX2_legsUnlike_35 : decode cX2_legsUnlike 35 = .ok (.goto (-31), 3) := by decide +kernel
theorem dX2_legsUnlike_38 : decode cX2_legsUnlike 38 = .ok (.iload_n 2, 1) := by decide +kernel
theorem dX2_legsUnlike_39 : decode cX2_legsUnlike 39 = .ok (.ireturn, 1) := by decide +kernel
theorem dX2_pressedKeys_0 : decode cX2_pressedKeys 0 = .ok (.iconst 0, 1) := by decide +kernel
theorem dX2_pressedKeys_1 : decode cX2_pressedKeys 1 = .ok (.istore_n 1, 1) := by decide +kernel
theorem dX2_pressedKeys_2 : decode cX2_pressedKeys 2 = .ok (.iconst 0, 1) := by decide +kernel
theorem dX2_pressedKeys_3 : decode cX2_pressedKeys 3 = .ok (.istore_n 2, 1) := by decide +kernel
theorem dX2_pressedKeys_4 : decode cX2_pressedKeys 4 = .ok (.iload_n 2, 1) := by decide +kernel
theorem dX2_pressedKeys_5 : decode cX2_pressedKeys 5 = .ok (.aload_n 0, 1) := by decide +kernel
theorem dX2_pressedKeys_6 : decode cX2_pressedKeys 6 = .ok (.getfield 55, 3) := by decide +kernel
theorem dX2_pressedKeys_9 : decode cX2_pressedKeys 9 = .ok (.if_icmp .ge 34, 3) := by decide +kernel
theorem dX2_pressedKeys_12 : decode cX2_pressedKeys 12 = .ok (.aload_n 0, 1) := by decide +kernel
theorem dX2_pressedKeys_13 : decode cX2_pressedKeys 13 = .ok (.getfield 15, 3) := by decide +kernel
theorem dX2_pressedKeys_16 : decode cX2_pressedKeys 16 = .ok (.iload_n 2, 1) := by decide +kernel
theorem dX2_pressedKeys_17 : decode cX2_pressedKeys 17 = .ok (.iaload, 1) := by decide +kernel
theorem dX2_pressedKeys_18 : decode cX2_pressedKeys 18 = .ok (.ifCond .ne 19, 3) := by decide +kernel
theorem dX2_pressedKeys_21 : decode cX2_pressedKeys 21 = .ok (.aload_n 0, 1) := by decide +kernel
theorem dX2_pressedKeys_22 : decode cX2_pressedKeys 22 = .ok (.getfield 21, 3) := by decide +kernel
theorem dX2_pressedKeys_25 : decode cX2_pressedKeys 25 = .ok (.iload_n 2, 1) := by decide +kernel
theorem dX2_pressedKeys_26 : decode cX2_pressedKeys 26 = .ok (.iaload, 1) := by decide +kernel
theorem dX2_pressedKeys_27 : decode cX2_pressedKeys 27 = .ok (.iconst 1, 1) := by decide +kernel
theorem dX2_pressedKeys_28 : decode cX2_pressedKeys 28 = .ok (.if_icmp .ne 9, 3) := by decide +kernel
theorem dX2_pressedKeys_31 : decode cX2_pressedKeys 31 = .ok (.iload_n 1, 1) := by decide +kernel
theorem dX2_pressedKeys_32 : decode cX2_pressedKeys 32 = .ok (.iconst 1, 1) := by decide +kernel
theorem dX2_pressedKeys_33 : decode cX2_pressedKeys 33 = .ok (.iload_n 2, 1) := by decide +kernel
theorem dX2_pressedKeys_34 : decode cX2_pressedKeys 34 = .ok (.ishl, 1) := by decide +kernel
theorem dX2_pressedKeys_35 : decode cX2_pressedKeys 35 = .ok (.ior, 1) := by decide +kernel
theorem dX2_pressedKeys_36 : decode cX2_pressedKeys 36 = .ok (.istore_n 1, 1) := by decide +kernel
theorem dX2_pressedKeys_37 : decode cX2_pressedKeys 37 = .ok (.iinc 2 1, 3) := by decide +kernel
theorem dX2_pressedKeys_40 : decode cX2_pressedKeys 40 = .ok (.goto (-36), 3) := by decide +kernel
theorem dX2_pressedKeys_43 : decode cX2_pressedKeys 43 = .ok (.iload_n 1, 1) := by decide +kernel
theorem dX2_pressedKeys_44 : decode cX2_pressedKeys 44 = .ok (.ireturn, 1) := by decide +kernel
theorem dX2_ductsFrom_0 : decode cX2_ductsFrom 0 = .ok (.iconst 0, 1) := by decide +kernel
theorem dX2_ductsFrom_1 : decode cX2_ductsFrom 1 = .ok (.istore_n 2, 1) := by decide +kernel
theorem dX2_ductsFrom_2 : decode cX2_ductsFrom 2 = .ok (.iconst 0, 1) := by decide +kernel
theorem dX2_ductsFrom_3 : decode cX2_ductsFrom 3 = .ok (.istore_n 3, 1) := by decide +kernel
theorem dX2_ductsFrom_4 : decode cX2_ductsFrom 4 = .ok (.iload_n 3, 1) := by decide +kernel
theorem dX2_ductsFrom_5 : decode cX2_ductsFrom 5 = .ok (.aload_n 0, 1) := by decide +kernel
theorem dX2_ductsFrom_6 : decode cX2_ductsFrom 6 = .ok (.getfield 58, 3) := by decide +kernel
theorem dX2_ductsFrom_9 : decode cX2_ductsFrom 9 = .ok (.if_icmp .ge 24, 3) := by decide +kernel
theorem dX2_ductsFrom_12 : decode cX2_ductsFrom 12 = .ok (.aload_n 0, 1) := by decide +kernel
theorem dX2_ductsFrom_13 : decode cX2_ductsFrom 13 = .ok (.getfield 30, 3) := by decide +kernel
theorem dX2_ductsFrom_16 : decode cX2_ductsFrom 16 = .ok (.iload_n 3, 1) := by decide +kernel
theorem dX2_ductsFrom_17 : decode cX2_ductsFrom 17 = .ok (.iaload, 1) := by decide +kernel
theorem dX2_ductsFrom_18 : decode cX2_ductsFrom 18 = .ok (.iconst 2, 1) := by decide +kernel
theorem dX2_ductsFrom_19 : decode cX2_ductsFrom 19 = .ok (.idiv, 1) := by decide +kernel
theorem dX2_ductsFrom_20 : decode cX2_ductsFrom 20 = .ok (.iload_n 1, 1) := by decide +kernel
theorem dX2_ductsFrom_21 : decode cX2_ductsFrom 21 = .ok (.if_icmp .ne 6, 3) := by decide +kernel
theorem dX2_ductsFrom_24 : decode cX2_ductsFrom 24 = .ok (.iinc 2 1, 3) := by decide +kernel
theorem dX2_ductsFrom_27 : decode cX2_ductsFrom 27 = .ok (.iinc 3 1, 3) := by decide +kernel
theorem dX2_ductsFrom_30 : decode cX2_ductsFrom 30 = .ok (.goto (-26), 3) := by decide +kernel
theorem dX2_ductsFrom_33 : decode cX2_ductsFrom 33 = .ok (.iload_n 2, 1) := by decide +kernel
theorem dX2_ductsFrom_34 : decode cX2_ductsFrom 34 = .ok (.ireturn, 1) := by decide +kernel
theorem dX2_ductsTo_0 : decode cX2_ductsTo 0 = .ok (.iconst 0, 1) := by decide +kernel
theorem dX2_ductsTo_1 : decode cX2_ductsTo 1 = .ok (.istore_n 2, 1) := by decide +kernel
theorem dX2_ductsTo_2 : decode cX2_ductsTo 2 = .ok (.iconst 0, 1) := by decide +kernel
theorem dX2_ductsTo_3 : decode cX2_ductsTo 3 = .ok (.istore_n 3, 1) := by decide +kernel
theorem dX2_ductsTo_4 : decode cX2_ductsTo 4 = .ok (.iload_n 3, 1) := by decide +kernel
theorem dX2_ductsTo_5 : decode cX2_ductsTo 5 = .ok (.aload_n 0, 1) := by decide +kernel
theorem dX2_ductsTo_6 : decode cX2_ductsTo 6 = .ok (.getfield 58, 3) := by decide +kernel
theorem dX2_ductsTo_9 : decode cX2_ductsTo 9 = .ok (.if_icmp .ge 24, 3) := by decide +kernel
theorem dX2_ductsTo_12 : decode cX2_ductsTo 12 = .ok (.aload_n 0, 1) := by decide +kernel
theorem dX2_ductsTo_13 : decode cX2_ductsTo 13 = .ok (.getfield 33, 3) := by decide +kernel
theorem dX2_ductsTo_16 : decode cX2_ductsTo 16 = .ok (.iload_n 3, 1) := by decide +kernel
theorem dX2_ductsTo_17 : decode cX2_ductsTo 17 = .ok (.iaload, 1) := by decide +kernel
theorem dX2_ductsTo_18 : decode cX2_ductsTo 18 = .ok (.iconst 2, 1) := by decide +kernel
theorem dX2_ductsTo_19 : decode cX2_ductsTo 19 = .ok (.idiv, 1) := by decide +kernel
theorem dX2_ductsTo_20 : decode cX2_ductsTo 20 = .ok (.iload_n 1, 1) := by decide +kernel
theorem dX2_ductsTo_21 : decode cX2_ductsTo 21 = .ok (.if_icmp .ne 6, 3) := by decide +kernel
theorem dX2_ductsTo_24 : decode cX2_ductsTo 24 = .ok (.iinc 2 1, 3) := by decide +kernel
theorem dX2_ductsTo_27 : decode cX2_ductsTo 27 = .ok (.iinc 3 1, 3) := by decide +kernel
theorem dX2_ductsTo_30 : decode cX2_ductsTo 30 = .ok (.goto (-26), 3) := by decide +kernel
theorem dX2_ductsTo_33 : decode cX2_ductsTo 33 = .ok (.iload_n 2, 1) := by decide +kernel
theorem dX2_ductsTo_34 : decode cX2_ductsTo 34 = .ok (.ireturn, 1) := by decide +kernel
theorem dX2_works_0 : decode cX2_works 0 = .ok (.aload_n 0, 1) := by decide +kernel
theorem dX2_works_1 : decode cX2_works 1 = .ok (.getfield 27, 3) := by decide +kernel
theorem dX2_works_4 : decode cX2_works 4 = .ok (.iload_n 1, 1) := by decide +kernel
theorem dX2_works_5 : decode cX2_works 5 = .ok (.iaload, 1) := by decide +kernel
theorem dX2_works_6 : decode cX2_works 6 = .ok (.ifCond .eq 34, 3) := by decide +kernel
theorem dX2_works_9 : decode cX2_works 9 = .ok (.bipush 100, 2) := by decide +kernel
theorem dX2_works_11 : decode cX2_works 11 = .ok (.aload_n 0, 1) := by decide +kernel
theorem dX2_works_12 : decode cX2_works 12 = .ok (.getfield 27, 3) := by decide +kernel
theorem dX2_works_15 : decode cX2_works 15 = .ok (.iload_n 1, 1) := by decide +kernel
theorem dX2_works_16 : decode cX2_works 16 = .ok (.iaload, 1) := by decide +kernel
theorem dX2_works_17 : decode cX2_works 17 = .ok (.imul, 1) := by decide +kernel
theorem dX2_works_18 : decode cX2_works 18 = .ok (.aload_n 0, 1) := by decide +kernel
theorem dX2_works_19 : decode cX2_works 19 = .ok (.getfield 18, 3) := by decide +kernel
theorem dX2_works_22 : decode cX2_works 22 = .ok (.iload_n 1, 1) := by decide +kernel
theorem dX2_works_23 : decode cX2_works 23 = .ok (.iconst 2, 1) := by decide +kernel
theorem dX2_works_24 : decode cX2_works 24 = .ok (.idiv, 1) := by decide +kernel
theorem dX2_works_25 : decode cX2_works 25 = .ok (.iaload, 1) := by decide +kernel
theorem dX2_works_26 : decode cX2_works 26 = .ok (.aload_n 0, 1) := by decide +kernel
theorem dX2_works_27 : decode cX2_works 27 = .ok (.getfield 9, 3) := by decide +kernel
theorem dX2_works_30 : decode cX2_works 30 = .ok (.iconst 1, 1) := by decide +kernel
theorem dX2_works_31 : decode cX2_works 31 = .ok (.iaload, 1) := by decide +kernel
theorem dX2_works_32 : decode cX2_works 32 = .ok (.imul, 1) := by decide +kernel
theorem dX2_works_33 : decode cX2_works 33 = .ok (.if_icmp .lt 7, 3) := by decide +kernel
theorem dX2_works_36 : decode cX2_works 36 = .ok (.iconst 1, 1) := by decide +kernel
theorem dX2_works_37 : decode cX2_works 37 = .ok (.goto 4, 3) := by decide +kernel
theorem dX2_works_40 : decode cX2_works 40 = .ok (.iconst 0, 1) := by decide +kernel
theorem dX2_works_41 : decode cX2_works 41 = .ok (.ireturn, 1) := by decide +kernel
theorem dX2_lostIn_0 : decode cX2_lostIn 0 = .ok (.aload_n 0, 1) := by decide +kernel
theorem dX2_lostIn_1 : decode cX2_lostIn 1 = .ok (.getfield 36, 3) := by decide +kernel
theorem dX2_lostIn_4 : decode cX2_lostIn 4 = .ok (.iload_n 1, 1) := by decide +kernel
theorem dX2_lostIn_5 : decode cX2_lostIn 5 = .ok (.iaload, 1) := by decide +kernel
theorem dX2_lostIn_6 : decode cX2_lostIn 6 = .ok (.aload_n 0, 1) := by decide +kernel
theorem dX2_lostIn_7 : decode cX2_lostIn 7 = .ok (.getfield 9, 3) := by decide +kernel
theorem dX2_lostIn_10 : decode cX2_lostIn 10 = .ok (.iconst 0, 1) := by decide +kernel
theorem dX2_lostIn_11 : decode cX2_lostIn 11 = .ok (.iaload, 1) := by decide +kernel
theorem dX2_lostIn_12 : decode cX2_lostIn 12 = .ok (.imul, 1) := by decide +kernel
theorem dX2_lostIn_13 : decode cX2_lostIn 13 = .ok (.aload_n 0, 1) := by decide +kernel
theorem dX2_lostIn_14 : decode cX2_lostIn 14 = .ok (.getfield 39, 3) := by decide +kernel
theorem dX2_lostIn_17 : decode cX2_lostIn 17 = .ok (.iload_n 1, 1) := by decide +kernel
theorem dX2_lostIn_18 : decode cX2_lostIn 18 = .ok (.iaload, 1) := by decide +kernel
theorem dX2_lostIn_19 : decode cX2_lostIn 19 = .ok (.iadd, 1) := by decide +kernel
theorem dX2_lostIn_20 : decode cX2_lostIn 20 = .ok (.ireturn, 1) := by decide +kernel
theorem dX2_nextOutOf_0 : decode cX2_nextOutOf 0 = .ok (.iconst 0, 1) := by decide +kernel
theorem dX2_nextOutOf_1 : decode cX2_nextOutOf 1 = .ok (.aload_n 0, 1) := by decide +kernel
theorem dX2_nextOutOf_2 : decode cX2_nextOutOf 2 = .ok (.getfield 42, 3) := by decide +kernel
theorem dX2_nextOutOf_5 : decode cX2_nextOutOf 5 = .ok (.iload_n 1, 1) := by decide +kernel
theorem dX2_nextOutOf_6 : decode cX2_nextOutOf 6 = .ok (.bipush 6, 2) := by decide +kernel
theorem dX2_nextOutOf_8 : decode cX2_nextOutOf 8 = .ok (.imul, 1) := by decide +kernel
theorem dX2_nextOutOf_9 : decode cX2_nextOutOf 9 = .ok (.iaload, 1) := by decide +kernel
theorem dX2_nextOutOf_10 : decode cX2_nextOutOf 10 = .ok (.aload_n 0, 1) := by decide +kernel
theorem dX2_nextOutOf_11 : decode cX2_nextOutOf 11 = .ok (.iload_n 1, 1) := by decide +kernel
theorem dX2_nextOutOf_12 : decode cX2_nextOutOf 12 = .ok (.invokevirtual 85, 3) := by decide +kernel
theorem dX2_nextOutOf_15 : decode cX2_nextOutOf 15 = .ok (.isub, 1) := by decide +kernel
theorem dX2_nextOutOf_16 : decode cX2_nextOutOf 16 = .ok (.invokestatic 89, 3) := by decide +kernel
theorem dX2_nextOutOf_19 : decode cX2_nextOutOf 19 = .ok (.ireturn, 1) := by decide +kernel
theorem dX2_enoughFor_0 : decode cX2_enoughFor 0 = .ok (.aload_n 0, 1) := by decide +kernel
theorem dX2_enoughFor_1 : decode cX2_enoughFor 1 = .ok (.getfield 18, 3) := by decide +kernel
theorem dX2_enoughFor_4 : decode cX2_enoughFor 4 = .ok (.aload_n 0, 1) := by decide +kernel
theorem dX2_enoughFor_5 : decode cX2_enoughFor 5 = .ok (.getfield 33, 3) := by decide +kernel
theorem dX2_enoughFor_8 : decode cX2_enoughFor 8 = .ok (.iload_n 1, 1) := by decide +kernel
theorem dX2_enoughFor_9 : decode cX2_enoughFor 9 = .ok (.iaload, 1) := by decide +kernel
theorem dX2_enoughFor_10 : decode cX2_enoughFor 10 = .ok (.iconst 2, 1) := by decide +kernel
theorem dX2_enoughFor_11 : decode cX2_enoughFor 11 = .ok (.idiv, 1) := by decide +kernel
theorem dX2_enoughFor_12 : decode cX2_enoughFor 12 = .ok (.iaload, 1) := by decide +kernel
theorem dX2_enoughFor_13 : decode cX2_enoughFor 13 = .ok (.aload_n 0, 1) := by decide +kernel
theorem dX2_enoughFor_14 : decode cX2_enoughFor 14 = .ok (.getfield 9, 3) := by decide +kernel
theorem dX2_enoughFor_17 : decode cX2_enoughFor 17 = .ok (.iconst 1, 1) := by decide +kernel
theorem dX2_enoughFor_18 : decode cX2_enoughFor 18 = .ok (.iaload, 1) := by decide +kernel
theorem dX2_enoughFor_19 : decode cX2_enoughFor 19 = .ok (.imul, 1) := by decide +kernel
theorem dX2_enoughFor_20 : decode cX2_enoughFor 20 = .ok (.bipush 99, 2) := by decide +kernel
theorem dX2_enoughFor_22 : decode cX2_enoughFor 22 = .ok (.iadd, 1) := by decide +kernel
theorem dX2_enoughFor_23 : decode cX2_enoughFor 23 = .ok (.bipush 100, 2) := by decide +kernel
theorem dX2_enoughFor_25 : decode cX2_enoughFor 25 = .ok (.idiv, 1) := by decide +kernel
theorem dX2_enoughFor_26 : decode cX2_enoughFor 26 = .ok (.istore_n 2, 1) := by decide +kernel
theorem dX2_enoughFor_27 : decode cX2_enoughFor 27 = .ok (.iload_n 2, 1) := by decide +kernel
theorem dX2_enoughFor_28 : decode cX2_enoughFor 28 = .ok (.aload_n 0, 1) := by decide +kernel
theorem dX2_enoughFor_29 : decode cX2_enoughFor 29 = .ok (.iload_n 1, 1) := by decide +kernel
theorem dX2_enoughFor_30 : decode cX2_enoughFor 30 = .ok (.invokevirtual 85, 3) := by decide +kernel
theorem dX2_enoughFor_33 : decode cX2_enoughFor 33 = .ok (.iadd, 1) := by decide +kernel
theorem dX2_enoughFor_34 : decode cX2_enoughFor 34 = .ok (.istore_n 3, 1) := by decide +kernel
theorem dX2_enoughFor_35 : decode cX2_enoughFor 35 = .ok (.iload_n 3, 1) := by decide +kernel
theorem dX2_enoughFor_36 : decode cX2_enoughFor 36 = .ok (.bipush 99, 2) := by decide +kernel
theorem dX2_enoughFor_38 : decode cX2_enoughFor 38 = .ok (.if_icmp .gt 7, 3) := by decide +kernel
theorem dX2_enoughFor_41 : decode cX2_enoughFor 41 = .ok (.iload_n 3, 1) := by decide +kernel
theorem dX2_enoughFor_42 : decode cX2_enoughFor 42 = .ok (.goto 4, 3) := by decide +kernel
theorem dX2_enoughFor_45 : decode cX2_enoughFor 45 = .ok (.iconst (-1), 1) := by decide +kernel
theorem dX2_enoughFor_46 : decode cX2_enoughFor 46 = .ok (.ireturn, 1) := by decide +kernel
theorem dX2_spareOf_0 : decode cX2_spareOf 0 = .ok (.aload_n 0, 1) := by decide +kernel
theorem dX2_spareOf_1 : decode cX2_spareOf 1 = .ok (.iload_n 1, 1) := by decide +kernel
theorem dX2_spareOf_2 : decode cX2_spareOf 2 = .ok (.invokevirtual 94, 3) := by decide +kernel
theorem dX2_spareOf_5 : decode cX2_spareOf 5 = .ok (.istore_n 2, 1) := by decide +kernel
theorem dX2_spareOf_6 : decode cX2_spareOf 6 = .ok (.iload_n 2, 1) := by decide +kernel
theorem dX2_spareOf_7 : decode cX2_spareOf 7 = .ok (.iconst (-1), 1) := by decide +kernel
theorem dX2_spareOf_8 : decode cX2_spareOf 8 = .ok (.if_icmp .ne 8, 3) := by decide +kernel
theorem dX2_spareOf_11 : decode cX2_spareOf 11 = .ok (.bipush (-99), 2) := by decide +kernel
theorem dX2_spareOf_13 : decode cX2_spareOf 13 = .ok (.goto 16, 3) := by decide +kernel
theorem dX2_spareOf_16 : decode cX2_spareOf 16 = .ok (.aload_n 0, 1) := by decide +kernel
theorem dX2_spareOf_17 : decode cX2_spareOf 17 = .ok (.getfield 24, 3) := by decide +kernel
theorem dX2_spareOf_20 : decode cX2_spareOf 20 = .ok (.aload_n 0, 1) := by decide +kernel
theorem dX2_spareOf_21 : decode cX2_spareOf 21 = .ok (.getfield 30, 3) := by decide +kernel
theorem dX2_spareOf_24 : decode cX2_spareOf 24 = .ok (.iload_n 1, 1) := by decide +kernel
theorem dX2_spareOf_25 : decode cX2_spareOf 25 = .ok (.iaload, 1) := by decide +kernel
theorem dX2_spareOf_26 : decode cX2_spareOf 26 = .ok (.iaload, 1) := by decide +kernel
theorem dX2_spareOf_27 : decode cX2_spareOf 27 = .ok (.iload_n 2, 1) := by decide +kernel
theorem dX2_spareOf_28 : decode cX2_spareOf 28 = .ok (.isub, 1) := by decide +kernel
theorem dX2_spareOf_29 : decode cX2_spareOf 29 = .ok (.ireturn, 1) := by decide +kernel
theorem dX2_passTick_0 : decode cX2_passTick 0 = .ok (.aload_n 0, 1) := by decide +kernel
theorem dX2_passTick_1 : decode cX2_passTick 1 = .ok (.dup, 1) := by decide +kernel
theorem dX2_passTick_2 : decode cX2_passTick 2 = .ok (.getfield 48, 3) := by decide +kernel
theorem dX2_passTick_5 : decode cX2_passTick 5 = .ok (.iconst 1, 1) := by decide +kernel
theorem dX2_passTick_6 : decode cX2_passTick 6 = .ok (.iadd, 1) := by decide +kernel
theorem dX2_passTick_7 : decode cX2_passTick 7 = .ok (.putfield 48, 3) := by decide +kernel
theorem dX2_passTick_10 : decode cX2_passTick 10 = .ok (.aload_n 0, 1) := by decide +kernel
theorem dX2_passTick_11 : decode cX2_passTick 11 = .ok (.invokevirtual 97, 3) := by decide +kernel
theorem dX2_passTick_14 : decode cX2_passTick 14 = .ok (.istore_n 1, 1) := by decide +kernel
theorem dX2_passTick_15 : decode cX2_passTick 15 = .ok (.iconst 0, 1) := by decide +kernel
theorem dX2_passTick_16 : decode cX2_passTick 16 = .ok (.istore_n 2, 1) := by decide +kernel
theorem dX2_passTick_17 : decode cX2_passTick 17 = .ok (.iload_n 2, 1) := by decide +kernel
theorem dX2_passTick_18 : decode cX2_passTick 18 = .ok (.aload_n 0, 1) := by decide +kernel
theorem dX2_passTick_19 : decode cX2_passTick 19 = .ok (.getfield 55, 3) := by decide +kernel
theorem dX2_passTick_22 : decode cX2_passTick 22 = .ok (.if_icmp .ge 19, 3) := by decide +kernel
theorem dX2_passTick_25 : decode cX2_passTick 25 = .ok (.aload_n 0, 1) := by decide +kernel
theorem dX2_passTick_26 : decode cX2_passTick 26 = .ok (.iload_n 2, 1) := by decide +kernel
theorem dX2_passTick_27 : decode cX2_passTick 27 = .ok (.invokevirtual 101, 3) := by decide +kernel
theorem dX2_passTick_30 : decode cX2_passTick 30 = .ok (.ifCond .eq 5, 3) := by decide +kernel
theorem dX2_passTick_33 : decode cX2_passTick 33 = .ok (.iconst 1, 1) := by decide +kernel
theorem dX2_passTick_34 : decode cX2_passTick 34 = .ok (.istore_n 1, 1) := by decide +kernel
theorem dX2_passTick_35 : decode cX2_passTick 35 = .ok (.iinc 2 1, 3) := by decide +kernel
theorem dX2_passTick_38 : decode cX2_passTick 38 = .ok (.goto (-21), 3) := by decide +kernel
theorem dX2_passTick_41 : decode cX2_passTick 41 = .ok (.iconst 0, 1) := by decide +kernel
theorem dX2_passTick_42 : decode cX2_passTick 42 = .ok (.istore_n 2, 1) := by decide +kernel
theorem dX2_passTick_43 : decode cX2_passTick 43 = .ok (.iload_n 2, 1) := by decide +kernel
theorem dX2_passTick_44 : decode cX2_passTick 44 = .ok (.aload_n 0, 1) := by decide +kernel
theorem dX2_passTick_45 : decode cX2_passTick 45 = .ok (.getfield 58, 3) := by decide +kernel
theorem dX2_passTick_48 : decode cX2_passTick 48 = .ok (.if_icmp .ge 19, 3) := by decide +kernel
theorem dX2_passTick_51 : decode cX2_passTick 51 = .ok (.aload_n 0, 1) := by decide +kernel
theorem dX2_passTick_52 : decode cX2_passTick 52 = .ok (.iload_n 2, 1) := by decide +kernel
theorem dX2_passTick_53 : decode cX2_passTick 53 = .ok (.invokevirtual 104, 3) := by decide +kernel
theorem dX2_passTick_56 : decode cX2_passTick 56 = .ok (.ifCond .eq 5, 3) := by decide +kernel
theorem dX2_passTick_59 : decode cX2_passTick 59 = .ok (.iconst 1, 1) := by decide +kernel
theorem dX2_passTick_60 : decode cX2_passTick 60 = .ok (.istore_n 1, 1) := by decide +kernel
theorem dX2_passTick_61 : decode cX2_passTick 61 = .ok (.iinc 2 1, 3) := by decide +kernel
theorem dX2_passTick_64 : decode cX2_passTick 64 = .ok (.goto (-21), 3) := by decide +kernel
theorem dX2_passTick_67 : decode cX2_passTick 67 = .ok (.iload_n 1, 1) := by decide +kernel
theorem dX2_passTick_68 : decode cX2_passTick 68 = .ok (.ireturn, 1) := by decide +kernel
theorem dX2_fillPushes_0 : decode cX2_fillPushes 0 = .ok (.aload_n 0, 1) := by decide +kernel
theorem dX2_fillPushes_1 : decode cX2_fillPushes 1 = .ok (.getfield 45, 3) := by decide +kernel
theorem dX2_fillPushes_4 : decode cX2_fillPushes 4 = .ok (.iconst 0, 1) := by decide +kernel
theorem dX2_fillPushes_5 : decode cX2_fillPushes 5 = .ok (.invokestatic 107, 3) := by decide +kernel
theorem dX2_fillPushes_8 : decode cX2_fillPushes 8 = .ok (.iconst 0, 1) := by decide +kernel
theorem dX2_fillPushes_9 : decode cX2_fillPushes 9 = .ok (.istore_n 1, 1) := by decide +kernel
theorem dX2_fillPushes_10 : decode cX2_fillPushes 10 = .ok (.iload_n 1, 1) := by decide +kernel
theorem dX2_fillPushes_11 : decode cX2_fillPushes 11 = .ok (.aload_n 0, 1) := by decide +kernel
theorem dX2_fillPushes_12 : decode cX2_fillPushes 12 = .ok (.getfield 58, 3) := by decide +kernel
theorem dX2_fillPushes_15 : decode cX2_fillPushes 15 = .ok (.if_icmp .ge 36, 3) := by decide +kernel
theorem dX2_fillPushes_18 : decode cX2_fillPushes 18 = .ok (.aload_n 0, 1) := by decide +kernel
theorem dX2_fillPushes_19 : decode cX2_fillPushes 19 = .ok (.getfield 33, 3) := by decide +kernel
theorem dX2_fillPushes_22 : decode cX2_fillPushes 22 = .ok (.iload_n 1, 1) := by decide +kernel
theorem dX2_fillPushes_23 : decode cX2_fillPushes 23 = .ok (.iaload, 1) := by decide +kernel
theorem dX2_fillPushes_24 : decode cX2_fillPushes 24 = .ok (.istore_n 2, 1) := by decide +kernel
theorem dX2_fillPushes_25 : decode cX2_fillPushes 25 = .ok (.aload_n 0, 1) := by decide +kernel
theorem dX2_fillPushes_26 : decode cX2_fillPushes 26 = .ok (.getfield 45, 3) := by decide +kernel
theorem dX2_fillPushes_29 : decode cX2_fillPushes 29 = .ok (.iload_n 2, 1) := by decide +kernel
theorem dX2_fillPushes_30 : decode cX2_fillPushes 30 = .ok (.aload_n 0, 1) := by decide +kernel
theorem dX2_fillPushes_31 : decode cX2_fillPushes 31 = .ok (.getfield 45, 3) := by decide +kernel
theorem dX2_fillPushes_34 : decode cX2_fillPushes 34 = .ok (.iload_n 2, 1) := by decide +kernel
theorem dX2_fillPushes_35 : decode cX2_fillPushes 35 = .ok (.iaload, 1) := by decide +kernel
theorem dX2_fillPushes_36 : decode cX2_fillPushes 36 = .ok (.aload_n 0, 1) := by decide +kernel
theorem dX2_fillPushes_37 : decode cX2_fillPushes 37 = .ok (.iload_n 1, 1) := by decide +kernel
theorem dX2_fillPushes_38 : decode cX2_fillPushes 38 = .ok (.invokevirtual 110, 3) := by decide +kernel
theorem dX2_fillPushes_41 : decode cX2_fillPushes 41 = .ok (.invokestatic 89, 3) := by decide +kernel
theorem dX2_fillPushes_44 : decode cX2_fillPushes 44 = .ok (.iastore, 1) := by decide +kernel
theorem dX2_fillPushes_45 : decode cX2_fillPushes 45 = .ok (.iinc 1 1, 3) := by decide +kernel
theorem dX2_fillPushes_48 : decode cX2_fillPushes 48 = .ok (.goto (-38), 3) := by decide +kernel
theorem dX2_fillPushes_51 : decode cX2_fillPushes 51 = .ok (.iconst 0, 1) := by decide +kernel
theorem dX2_fillPushes_52 : decode cX2_fillPushes 52 = .ok (.istore_n 1, 1) := by decide +kernel
theorem dX2_fillPushes_53 : decode cX2_fillPushes 53 = .ok (.iconst 0, 1) := by decide +kernel
theorem dX2_fillPushes_54 : decode cX2_fillPushes 54 = .ok (.istore_n 2, 1) := by decide +kernel
theorem dX2_fillPushes_55 : decode cX2_fillPushes 55 = .ok (.iload_n 2, 1) := by decide +kernel
theorem dX2_fillPushes_56 : decode cX2_fillPushes 56 = .ok (.iconst 2, 1) := by decide +kernel
theorem dX2_fillPushes_57 : decode cX2_fillPushes 57 = .ok (.aload_n 0, 1) := by decide +kernel
theorem dX2_fillPushes_58 : decode cX2_fillPushes 58 = .ok (.getfield 55, 3) := by decide +kernel
theorem dX2_fillPushes_61 : decode cX2_fillPushes 61 = .ok (.imul, 1) := by decide +kernel
theorem dX2_fillPushes_62 : decode cX2_fillPushes 62 = .ok (.if_icmp .ge 38, 3) := by decide +kernel
theorem dX2_fillPushes_65 : decode cX2_fillPushes 65 = .ok (.aload_n 0, 1) := by decide +kernel
theorem dX2_fillPushes_66 : decode cX2_fillPushes 66 = .ok (.getfield 27, 3) := by decide +kernel
theorem dX2_fillPushes_69 : decode cX2_fillPushes 69 = .ok (.iload_n 2, 1) := by decide +kernel
theorem dX2_fillPushes_70 : decode cX2_fillPushes 70 = .ok (.iaload, 1) := by decide +kernel
theorem dX2_fillPushes_71 : decode cX2_fillPushes 71 = .ok (.aload_n 0, 1) := by decide +kernel
theorem dX2_fillPushes_72 : decode cX2_fillPushes 72 = .ok (.getfield 45, 3) := by decide +kernel
theorem dX2_fillPushes_75 : decode cX2_fillPushes 75 = .ok (.iload_n 2, 1) := by decide +kernel
theorem dX2_fillPushes_76 : decode cX2_fillPushes 76 = .ok (.iaload, 1) := by decide +kernel
theorem dX2_fillPushes_77 : decode cX2_fillPushes 77 = .ok (.if_icmp .eq 17, 3) := by decide +kernel
theorem dX2_fillPushes_80 : decode cX2_fillPushes 80 = .ok (.aload_n 0, 1) := by decide +kernel
theorem dX2_fillPushes_81 : decode cX2_fillPushes 81 = .ok (.getfield 27, 3) := by decide +kernel
theorem dX2_fillPushes_84 : decode cX2_fillPushes 84 = .ok (.iload_n 2, 1) := by decide +kernel
theorem dX2_fillPushes_85 : decode cX2_fillPushes 85 = .ok (.aload_n 0, 1) := by decide +kernel
theorem dX2_fillPushes_86 : decode cX2_fillPushes 86 = .ok (.getfield 45, 3) := by decide +kernel
theorem dX2_fillPushes_89 : decode cX2_fillPushes 89 = .ok (.iload_n 2, 1) := by decide +kernel
theorem dX2_fillPushes_90 : decode cX2_fillPushes 90 = .ok (.iaload, 1) := by decide +kernel
theorem dX2_fillPushes_91 : decode cX2_fillPushes 91 = .ok (.iastore, 1) := by decide +kernel
theorem dX2_fillPushes_92 : decode cX2_fillPushes 92 = .ok (.iconst 1, 1) := by decide +kernel
theorem dX2_fillPushes_93 : decode cX2_fillPushes 93 = .ok (.istore_n 1, 1) := by decide +kernel
theorem dX2_fillPushes_94 : decode cX2_fillPushes 94 = .ok (.iinc 2 1, 3) := by decide +kernel
theorem dX2_fillPushes_97 : decode cX2_fillPushes 97 = .ok (.goto (-42), 3) := by decide +kernel
theorem dX2_fillPushes_100 : decode cX2_fillPushes 100 = .ok (.iload_n 1, 1) := by decide +kernel
theorem dX2_fillPushes_101 : decode cX2_fillPushes 101 = .ok (.ireturn, 1) := by decide +kernel
theorem dX2_turnValve_0 : decode cX2_turnValve 0 = .ok (.aload_n 0, 1) := by decide +kernel
theorem dX2_turnValve_1 : decode cX2_turnValve 1 = .ok (.getfield 27, 3) := by decide +kernel
theorem dX2_turnValve_4 : decode cX2_turnValve 4 = .ok (.iload_n 1, 1) := by decide +kernel
theorem dX2_turnValve_5 : decode cX2_turnValve 5 = .ok (.iconst 0, 1) := by decide +kernel
theorem dX2_turnValve_6 : decode cX2_turnValve 6 = .ok (.invokestatic 75, 3) := by decide +kernel
theorem dX2_turnValve_9 : decode cX2_turnValve 9 = .ok (.iaload, 1) := by decide +kernel
theorem dX2_turnValve_10 : decode cX2_turnValve 10 = .ok (.istore_n 2, 1) := by decide +kernel
theorem dX2_turnValve_11 : decode cX2_turnValve 11 = .ok (.aload_n 0, 1) := by decide +kernel
theorem dX2_turnValve_12 : decode cX2_turnValve 12 = .ok (.getfield 27, 3) := by decide +kernel
theorem dX2_turnValve_15 : decode cX2_turnValve 15 = .ok (.iload_n 1, 1) := by decide +kernel
theorem dX2_turnValve_16 : decode cX2_turnValve 16 = .ok (.iconst 1, 1) := by decide +kernel
theorem dX2_turnValve_17 : decode cX2_turnValve 17 = .ok (.invokestatic 75, 3) := by decide +kernel
theorem dX2_turnValve_20 : decode cX2_turnValve 20 = .ok (.iaload, 1) := by decide +kernel
theorem dX2_turnValve_21 : decode cX2_turnValve 21 = .ok (.istore_n 3, 1) := by decide +kernel
theorem dX2_turnValve_22 : decode cX2_turnValve 22 = .ok (.iload_n 2, 1) := by decide +kernel
theorem dX2_turnValve_23 : decode cX2_turnValve 23 = .ok (.iload_n 3, 1) := by decide +kernel
theorem dX2_turnValve_24 : decode cX2_turnValve 24 = .ok (.invokestatic 113, 3) := by decide +kernel
theorem dX2_turnValve_27 : decode cX2_turnValve 27 = .ok (.istore 4, 2) := by decide +kernel
theorem dX2_turnValve_29 : decode cX2_turnValve 29 = .ok (.iload_n 2, 1) := by decide +kernel
theorem dX2_turnValve_30 : decode cX2_turnValve 30 = .ok (.iload_n 3, 1) := by decide +kernel
theorem dX2_turnValve_31 : decode cX2_turnValve 31 = .ok (.invokestatic 89, 3) := by decide +kernel
theorem dX2_turnValve_34 : decode cX2_turnValve 34 = .ok (.istore 5, 2) := by decide +kernel
theorem dX2_turnValve_36 : decode cX2_turnValve 36 = .ok (.aload_n 0, 1) := by decide +kernel
theorem dX2_turnValve_37 : decode cX2_turnValve 37 = .ok (.getfield 15, 3) := by decide +kernel
theorem dX2_turnValve_40 : decode cX2_turnValve 40 = .ok (.iload_n 1, 1) := by decide +kernel
theorem dX2_turnValve_41 : decode cX2_turnValve 41 = .ok (.iaload, 1) := by decide +kernel
theorem dX2_turnValve_42 : decode cX2_turnValve 42 = .ok (.tableswitch 113 0 3 #[30, 44, 79, 90], 30) := by decide +kernel
theorem dX2_turnValve_72 : decode cX2_turnValve 72 = .ok (.aload_n 0, 1) := by decide +kernel
theorem dX2_turnValve_73 : decode cX2_turnValve 73 = .ok (.iload_n 1, 1) := by decide +kernel
theorem dX2_turnValve_74 : decode cX2_turnValve 74 = .ok (.iconst 1, 1) := by decide +kernel
theorem dX2_turnValve_75 : decode cX2_turnValve 75 = .ok (.aload_n 0, 1) := by decide +kernel
theorem dX2_turnValve_76 : decode cX2_turnValve 76 = .ok (.getfield 21, 3) := by decide +kernel
theorem dX2_turnValve_79 : decode cX2_turnValve 79 = .ok (.iload_n 1, 1) := by decide +kernel
theorem dX2_turnValve_80 : decode cX2_turnValve 80 = .ok (.iaload, 1) := by decide +kernel
theorem dX2_turnValve_81 : decode cX2_turnValve 81 = .ok (.isub, 1) := by decide +kernel
theorem dX2_turnValve_82 : decode cX2_turnValve 82 = .ok (.invokevirtual 116, 3) := by decide +kernel
theorem dX2_turnValve_85 : decode cX2_turnValve 85 = .ok (.ireturn, 1) := by decide +kernel
theorem dX2_turnValve_86 : decode cX2_turnValve 86 = .ok (.aload_n 0, 1) := by decide +kernel
theorem dX2_turnValve_87 : decode cX2_turnValve 87 = .ok (.iload_n 1, 1) := by decide +kernel
theorem dX2_turnValve_88 : decode cX2_turnValve 88 = .ok (.aload_n 0, 1) := by decide +kernel
theorem dX2_turnValve_89 : decode cX2_turnValve 89 = .ok (.iload_n 1, 1) := by decide +kernel
theorem dX2_turnValve_90 : decode cX2_turnValve 90 = .ok (.iconst 0, 1) := by decide +kernel
theorem dX2_turnValve_91 : decode cX2_turnValve 91 = .ok (.invokestatic 75, 3) := by decide +kernel
theorem dX2_turnValve_94 : decode cX2_turnValve 94 = .ok (.invokevirtual 120, 3) := by decide +kernel
theorem dX2_turnValve_97 : decode cX2_turnValve 97 = .ok (.ifCond .ne 15, 3) := by decide +kernel
theorem dX2_turnValve_100 : decode cX2_turnValve 100 = .ok (.aload_n 0, 1) := by decide +kernel
theorem dX2_turnValve_101 : decode cX2_turnValve 101 = .ok (.iload_n 1, 1) := by decide +kernel
theorem dX2_turnValve_102 : decode cX2_turnValve 102 = .ok (.iconst 1, 1) := by decide +kernel
theorem dX2_turnValve_103 : decode cX2_turnValve 103 = .ok (.invokestatic 75, 3) := by decide +kernel
theorem dX2_turnValve_106 : decode cX2_turnValve 106 = .ok (.invokevirtual 120, 3) := by decide +kernel
theorem dX2_turnValve_109 : decode cX2_turnValve 109 = .ok (.ifCond .eq 7, 3) := by decide +kernel
theorem dX2_turnValve_112 : decode cX2_turnValve 112 = .ok (.iconst 1, 1) := by decide +kernel
theorem dX2_turnValve_113 : decode cX2_turnValve 113 = .ok (.goto 4, 3) := by decide +kernel
theorem dX2_turnValve_116 : decode cX2_turnValve 116 = .ok (.iconst 0, 1) := by decide +kernel
theorem dX2_turnValve_117 : decode cX2_turnValve 117 = .ok (.invokevirtual 116, 3) := by decide +kernel
theorem dX2_turnValve_120 : decode cX2_turnValve 120 = .ok (.ireturn, 1) := by decide +kernel
theorem dX2_turnValve_121 : decode cX2_turnValve 121 = .ok (.aload_n 0, 1) := by decide +kernel
theorem dX2_turnValve_122 : decode cX2_turnValve 122 = .ok (.iload_n 1, 1) := by decide +kernel
theorem dX2_turnValve_123 : decode cX2_turnValve 123 = .ok (.aload_n 0, 1) := by decide +kernel
theorem dX2_turnValve_124 : decode cX2_turnValve 124 = .ok (.iload_n 1, 1) := by decide +kernel
theorem dX2_turnValve_125 : decode cX2_turnValve 125 = .ok (.invokevirtual 123, 3) := by decide +kernel
theorem dX2_turnValve_128 : decode cX2_turnValve 128 = .ok (.invokevirtual 116, 3) := by decide +kernel
theorem dX2_turnValve_131 : decode cX2_turnValve 131 = .ok (.ireturn, 1) := by decide +kernel
theorem dX2_turnValve_132 : decode cX2_turnValve 132 = .ok (.aload_n 0, 1) := by decide +kernel
theorem dX2_turnValve_133 : decode cX2_turnValve 133 = .ok (.iload_n 1, 1) := by decide +kernel
theorem dX2_turnValve_134 : decode cX2_turnValve 134 = .ok (.iconst 0, 1) := by decide +kernel
theorem dX2_turnValve_135 : decode cX2_turnValve 135 = .ok (.invokestatic 75, 3) := by decide +kernel
theorem dX2_turnValve_138 : decode cX2_turnValve 138 = .ok (.iload 4, 2) := by decide +kernel
theorem dX2_turnValve_140 : decode cX2_turnValve 140 = .ok (.iload 4, 2) := by decide +kernel
theorem dX2_turnValve_142 : decode cX2_turnValve 142 = .ok (.ifCond .ne 8, 3) := by decide +kernel
theorem dX2_turnValve_145 : decode cX2_turnValve 145 = .ok (.iload 5, 2) := by decide +kernel
theorem dX2_turnValve_147 : decode cX2_turnValve 147 = .ok (.goto 4, 3) := by decide +kernel
theorem dX2_turnValve_150 : decode cX2_turnValve 150 = .ok (.iconst 0, 1) := by decide +kernel
theorem dX2_turnValve_151 : decode cX2_turnValve 151 = .ok (.invokevirtual 126, 3) := by decide +kernel
theorem dX2_turnValve_154 : decode cX2_turnValve 154 = .ok (.ireturn, 1) := by decide +kernel
theorem dX2_turnValve_155 : decode cX2_turnValve 155 = .ok (.aload_n 0, 1) := by decide +kernel
theorem dX2_turnValve_156 : decode cX2_turnValve 156 = .ok (.iload_n 1, 1) := by decide +kernel
theorem dX2_turnValve_157 : decode cX2_turnValve 157 = .ok (.iload 5, 2) := by decide +kernel
theorem dX2_turnValve_159 : decode cX2_turnValve 159 = .ok (.iconst 5, 1) := by decide +kernel
theorem dX2_turnValve_160 : decode cX2_turnValve 160 = .ok (.if_icmp .lt 7, 3) := by decide +kernel
theorem dX2_turnValve_163 : decode cX2_turnValve 163 = .ok (.iconst 0, 1) := by decide +kernel
theorem dX2_turnValve_164 : decode cX2_turnValve 164 = .ok (.goto 4, 3) := by decide +kernel
theorem dX2_turnValve_167 : decode cX2_turnValve 167 = .ok (.iconst 1, 1) := by decide +kernel
theorem dX2_turnValve_168 : decode cX2_turnValve 168 = .ok (.invokevirtual 116, 3) := by decide +kernel
theorem dX2_turnValve_171 : decode cX2_turnValve 171 = .ok (.ireturn, 1) := by decide +kernel
theorem dX2_turnWallJet_0 : decode cX2_turnWallJet 0 = .ok (.aload_n 0, 1) := by decide +kernel
theorem dX2_turnWallJet_1 : decode cX2_turnWallJet 1 = .ok (.iload_n 1, 1) := by decide +kernel
theorem dX2_turnWallJet_2 : decode cX2_turnWallJet 2 = .ok (.iconst 0, 1) := by decide +kernel
theorem dX2_turnWallJet_3 : decode cX2_turnWallJet 3 = .ok (.invokestatic 75, 3) := by decide +kernel
theorem dX2_turnWallJet_6 : decode cX2_turnWallJet 6 = .ok (.invokevirtual 120, 3) := by decide +kernel
theorem dX2_turnWallJet_9 : decode cX2_turnWallJet 9 = .ok (.istore_n 2, 1) := by decide +kernel
theorem dX2_turnWallJet_10 : decode cX2_turnWallJet 10 = .ok (.aload_n 0, 1) := by decide +kernel
theorem dX2_turnWallJet_11 : decode cX2_turnWallJet 11 = .ok (.iload_n 1, 1) := by decide +kernel
theorem dX2_turnWallJet_12 : decode cX2_turnWallJet 12 = .ok (.iconst 1, 1) := by decide +kernel
theorem dX2_turnWallJet_13 : decode cX2_turnWallJet 13 = .ok (.invokestatic 75, 3) := by decide +kernel
theorem dX2_turnWallJet_16 : decode cX2_turnWallJet 16 = .ok (.invokevirtual 120, 3) := by decide +kernel
theorem dX2_turnWallJet_19 : decode cX2_turnWallJet 19 = .ok (.istore_n 3, 1) := by decide +kernel
theorem dX2_turnWallJet_20 : decode cX2_turnWallJet 20 = .ok (.iload_n 2, 1) := by decide +kernel
theorem dX2_turnWallJet_21 : decode cX2_turnWallJet 21 = .ok (.iload_n 3, 1) := by decide +kernel
theorem dX2_turnWallJet_22 : decode cX2_turnWallJet 22 = .ok (.if_icmp .eq 45, 3) := by decide +kernel
theorem dX2_turnWallJet_25 : decode cX2_turnWallJet 25 = .ok (.aload_n 0, 1) := by decide +kernel
theorem dX2_turnWallJet_26 : decode cX2_turnWallJet 26 = .ok (.getfield 21, 3) := by decide +kernel
theorem dX2_turnWallJet_29 : decode cX2_turnWallJet 29 = .ok (.iload_n 1, 1) := by decide +kernel
theorem dX2_turnWallJet_30 : decode cX2_turnWallJet 30 = .ok (.iaload, 1) := by decide +kernel
theorem dX2_turnWallJet_31 : decode cX2_turnWallJet 31 = .ok (.iload_n 2, 1) := by decide +kernel
theorem dX2_turnWallJet_32 : decode cX2_turnWallJet 32 = .ok (.ifCond .eq 7, 3) := by decide +kernel
theorem dX2_turnWallJet_35 : decode cX2_turnWallJet 35 = .ok (.iconst 1, 1) := by decide +kernel
theorem dX2_turnWallJet_36 : decode cX2_turnWallJet 36 = .ok (.goto 4, 3) := by decide +kernel
theorem dX2_turnWallJet_39 : decode cX2_turnWallJet 39 = .ok (.iconst 0, 1) := by decide +kernel
theorem dX2_turnWallJet_40 : decode cX2_turnWallJet 40 = .ok (.if_icmp .eq 27, 3) := by decide +kernel
theorem dX2_turnWallJet_43 : decode cX2_turnWallJet 43 = .ok (.aload_n 0, 1) := by decide +kernel
theorem dX2_turnWallJet_44 : decode cX2_turnWallJet 44 = .ok (.getfield 21, 3) := by decide +kernel
theorem dX2_turnWallJet_47 : decode cX2_turnWallJet 47 = .ok (.iload_n 1, 1) := by decide +kernel
theorem dX2_turnWallJet_48 : decode cX2_turnWallJet 48 = .ok (.iconst 1, 1) := by decide +kernel
theorem dX2_turnWallJet_49 : decode cX2_turnWallJet 49 = .ok (.aload_n 0, 1) := by decide +kernel
theorem dX2_turnWallJet_50 : decode cX2_turnWallJet 50 = .ok (.getfield 21, 3) := by decide +kernel
theorem dX2_turnWallJet_53 : decode cX2_turnWallJet 53 = .ok (.iload_n 1, 1) := by decide +kernel
theorem dX2_turnWallJet_54 : decode cX2_turnWallJet 54 = .ok (.iaload, 1) := by decide +kernel
theorem dX2_turnWallJet_55 : decode cX2_turnWallJet 55 = .ok (.isub, 1) := by decide +kernel
theorem dX2_turnWallJet_56 : decode cX2_turnWallJet 56 = .ok (.iastore, 1) := by decide +kernel
theorem dX2_turnWallJet_57 : decode cX2_turnWallJet 57 = .ok (.aload_n 0, 1) := by decide +kernel
theorem dX2_turnWallJet_58 : decode cX2_turnWallJet 58 = .ok (.dup, 1) := by decide +kernel
theorem dX2_turnWallJet_59 : decode cX2_turnWallJet 59 = .ok (.getfield 52, 3) := by decide +kernel
theorem dX2_turnWallJet_62 : decode cX2_turnWallJet 62 = .ok (.iconst 1, 1) := by decide +kernel
theorem dX2_turnWallJet_63 : decode cX2_turnWallJet 63 = .ok (.iadd, 1) := by decide +kernel
theorem dX2_turnWallJet_64 : decode cX2_turnWallJet 64 = .ok (.putfield 52, 3) := by decide +kernel
theorem dX2_turnWallJet_67 : decode cX2_turnWallJet 67 = .ok (.aload_n 0, 1) := by decide +kernel
theorem dX2_turnWallJet_68 : decode cX2_turnWallJet 68 = .ok (.getfield 21, 3) := by decide +kernel
theorem dX2_turnWallJet_71 : decode cX2_turnWallJet 71 = .ok (.iload_n 1, 1) := by decide +kernel
theorem dX2_turnWallJet_72 : decode cX2_turnWallJet 72 = .ok (.iaload, 1) := by decide +kernel
theorem dX2_turnWallJet_73 : decode cX2_turnWallJet 73 = .ok (.ireturn, 1) := by decide +kernel
theorem dX2_supplyLeg_0 : decode cX2_supplyLeg 0 = .ok (.iload_n 1, 1) := by decide +kernel
theorem dX2_supplyLeg_1 : decode cX2_supplyLeg 1 = .ok (.iconst 0, 1) := by decide +kernel
theorem dX2_supplyLeg_2 : decode cX2_supplyLeg 2 = .ok (.invokestatic 75, 3) := by decide +kernel
theorem dX2_supplyLeg_5 : decode cX2_supplyLeg 5 = .ok (.istore_n 3, 1) := by decide +kernel
theorem dX2_supplyLeg_6 : decode cX2_supplyLeg 6 = .ok (.iload_n 2, 1) := by decide +kernel
theorem dX2_supplyLeg_7 : decode cX2_supplyLeg 7 = .ok (.ifCond .ne 18, 3) := by decide +kernel
theorem dX2_supplyLeg_10 : decode cX2_supplyLeg 10 = .ok (.aload_n 0, 1) := by decide +kernel
theorem dX2_supplyLeg_11 : decode cX2_supplyLeg 11 = .ok (.iload_n 3, 1) := by decide +kernel
theorem dX2_supplyLeg_12 : decode cX2_supplyLeg 12 = .ok (.aload_n 0, 1) := by decide +kernel
theorem dX2_supplyLeg_13 : decode cX2_supplyLeg 13 = .ok (.getfield 18, 3) := by decide +kernel
theorem dX2_supplyLeg_16 : decode cX2_supplyLeg 16 = .ok (.iload_n 1, 1) := by decide +kernel
theorem dX2_supplyLeg_17 : decode cX2_supplyLeg 17 = .ok (.iaload, 1) := by decide +kernel
theorem dX2_supplyLeg_18 : decode cX2_supplyLeg 18 = .ok (.iconst 0, 1) := by decide +kernel
theorem dX2_supplyLeg_19 : decode cX2_supplyLeg 19 = .ok (.invokevirtual 126, 3) := by decide +kernel
theorem dX2_supplyLeg_22 : decode cX2_supplyLeg 22 = .ok (.goto 15, 3) := by decide +kernel
theorem dX2_supplyLeg_25 : decode cX2_supplyLeg 25 = .ok (.aload_n 0, 1) := by decide +kernel
theorem dX2_supplyLeg_26 : decode cX2_supplyLeg 26 = .ok (.iload_n 3, 1) := by decide +kernel
theorem dX2_supplyLeg_27 : decode cX2_supplyLeg 27 = .ok (.iconst 0, 1) := by decide +kernel
theorem dX2_supplyLeg_28 : decode cX2_supplyLeg 28 = .ok (.aload_n 0, 1) := by decide +kernel
theorem dX2_supplyLeg_29 : decode cX2_supplyLeg 29 = .ok (.getfield 18, 3) := by decide +kernel
theorem dX2_supplyLeg_32 : decode cX2_supplyLeg 32 = .ok (.iload_n 1, 1) := by decide +kernel
theorem dX2_supplyLeg_33 : decode cX2_supplyLeg 33 = .ok (.iaload, 1) := by decide +kernel
theorem dX2_supplyLeg_34 : decode cX2_supplyLeg 34 = .ok (.invokevirtual 126, 3) := by decide +kernel
theorem dX2_supplyLeg_37 : decode cX2_supplyLeg 37 = .ok (.ireturn, 1) := by decide +kernel
theorem dX2_putLegs_0 : decode cX2_putLegs 0 = .ok (.aload_n 0, 1) := by decide +kernel
theorem dX2_putLegs_1 : decode cX2_putLegs 1 = .ok (.getfield 24, 3) := by decide +kernel
theorem dX2_putLegs_4 : decode cX2_putLegs 4 = .ok (.iload_n 1, 1) := by decide +kernel
theorem dX2_putLegs_5 : decode cX2_putLegs 5 = .ok (.iaload, 1) := by decide +kernel
theorem dX2_putLegs_6 : decode cX2_putLegs 6 = .ok (.iload_n 2, 1) := by decide +kernel
theorem dX2_putLegs_7 : decode cX2_putLegs 7 = .ok (.if_icmp .ne 15, 3) := by decide +kernel
theorem dX2_putLegs_10 : decode cX2_putLegs 10 = .ok (.aload_n 0, 1) := by decide +kernel
theorem dX2_putLegs_11 : decode cX2_putLegs 11 = .ok (.getfield 24, 3) := by decide +kernel
theorem dX2_putLegs_14 : decode cX2_putLegs 14 = .ok (.iload_n 1, 1) := by decide +kernel
theorem dX2_putLegs_15 : decode cX2_putLegs 15 = .ok (.iconst 1, 1) := by decide +kernel
theorem dX2_putLegs_16 : decode cX2_putLegs 16 = .ok (.iadd, 1) := by decide +kernel
theorem dX2_putLegs_17 : decode cX2_putLegs 17 = .ok (.iaload, 1) := by decide +kernel
theorem dX2_putLegs_18 : decode cX2_putLegs 18 = .ok (.iload_n 3, 1) := by decide +kernel
theorem dX2_putLegs_19 : decode cX2_putLegs 19 = .ok (.if_icmp .eq 7, 3) := by decide +kernel
theorem dX2_putLegs_22 : decode cX2_putLegs 22 = .ok (.iconst 1, 1) := by decide +kernel
theorem dX2_putLegs_23 : decode cX2_putLegs 23 = .ok (.goto 4, 3) := by decide +kernel
theorem dX2_putLegs_26 : decode cX2_putLegs 26 = .ok (.iconst 0, 1) := by decide +kernel
theorem dX2_putLegs_27 : decode cX2_putLegs 27 = .ok (.istore 4, 2) := by decide +kernel
theorem dX2_putLegs_29 : decode cX2_putLegs 29 = .ok (.aload_n 0, 1) := by decide +kernel
theorem dX2_putLegs_30 : decode cX2_putLegs 30 = .ok (.getfield 24, 3) := by decide +kernel
theorem dX2_putLegs_33 : decode cX2_putLegs 33 = .ok (.iload_n 1, 1) := by decide +kernel
theorem dX2_putLegs_34 : decode cX2_putLegs 34 = .ok (.iload_n 2, 1) := by decide +kernel
theorem dX2_putLegs_35 : decode cX2_putLegs 35 = .ok (.iastore, 1) := by decide +kernel
theorem dX2_putLegs_36 : decode cX2_putLegs 36 = .ok (.aload_n 0, 1) := by decide +kernel
theorem dX2_putLegs_37 : decode cX2_putLegs 37 = .ok (.getfield 24, 3) := by decide +kernel
theorem dX2_putLegs_40 : decode cX2_putLegs 40 = .ok (.iload_n 1, 1) := by decide +kernel
theorem dX2_putLegs_41 : decode cX2_putLegs 41 = .ok (.iconst 1, 1) := by decide +kernel
theorem dX2_putLegs_42 : decode cX2_putLegs 42 = .ok (.iadd, 1) := by decide +kernel
theorem dX2_putLegs_43 : decode cX2_putLegs 43 = .ok (.iload_n 3, 1) := by decide +kernel
theorem dX2_putLegs_44 : decode cX2_putLegs 44 = .ok (.iastore, 1) := by decide +kernel
theorem dX2_putLegs_45 : decode cX2_putLegs 45 = .ok (.iload 4, 2) := by decide +kernel
theorem dX2_putLegs_47 : decode cX2_putLegs 47 = .ok (.ireturn, 1) := by decide +kernel
theorem dX2_moveAir_0 : decode cX2_moveAir 0 = .ok (.iload_n 1, 1) := by decide +kernel
theorem dX2_moveAir_1 : decode cX2_moveAir 1 = .ok (.bipush 6, 2) := by decide +kernel
theorem dX2_moveAir_3 : decode cX2_moveAir 3 = .ok (.imul, 1) := by decide +kernel
theorem dX2_moveAir_4 : decode cX2_moveAir 4 = .ok (.istore_n 2, 1) := by decide +kernel
theorem dX2_moveAir_5 : decode cX2_moveAir 5 = .ok (.iload_n 2, 1) := by decide +kernel
theorem dX2_moveAir_6 : decode cX2_moveAir 6 = .ok (.aload_n 0, 1) := by decide +kernel
theorem dX2_moveAir_7 : decode cX2_moveAir 7 = .ok (.getfield 36, 3) := by decide +kernel
theorem dX2_moveAir_10 : decode cX2_moveAir 10 = .ok (.iload_n 1, 1) := by decide +kernel
theorem dX2_moveAir_11 : decode cX2_moveAir 11 = .ok (.iaload, 1) := by decide +kernel
theorem dX2_moveAir_12 : decode cX2_moveAir 12 = .ok (.iadd, 1) := by decide +kernel
theorem dX2_moveAir_13 : decode cX2_moveAir 13 = .ok (.iconst 1, 1) := by decide +kernel
theorem dX2_moveAir_14 : decode cX2_moveAir 14 = .ok (.isub, 1) := by decide +kernel
theorem dX2_moveAir_15 : decode cX2_moveAir 15 = .ok (.istore_n 3, 1) := by decide +kernel
theorem dX2_moveAir_16 : decode cX2_moveAir 16 = .ok (.iconst 0, 1) := by decide +kernel
theorem dX2_moveAir_17 : decode cX2_moveAir 17 = .ok (.istore 4, 2) := by decide +kernel
theorem dX2_moveAir_19 : decode cX2_moveAir 19 = .ok (.iload_n 2, 1) := by decide +kernel
theorem dX2_moveAir_20 : decode cX2_moveAir 20 = .ok (.istore 5, 2) := by decide +kernel
theorem dX2_moveAir_22 : decode cX2_moveAir 22 = .ok (.iload 5, 2) := by decide +kernel
theorem dX2_moveAir_24 : decode cX2_moveAir 24 = .ok (.iload_n 3, 1) := by decide +kernel
theorem dX2_moveAir_25 : decode cX2_moveAir 25 = .ok (.if_icmp .gt 64, 3) := by decide +kernel
theorem dX2_moveAir_28 : decode cX2_moveAir 28 = .ok (.iload 5, 2) := by decide +kernel
theorem dX2_moveAir_30 : decode cX2_moveAir 30 = .ok (.iload_n 3, 1) := by decide +kernel
theorem dX2_moveAir_31 : decode cX2_moveAir 31 = .ok (.if_icmp .ge 15, 3) := by decide +kernel
theorem dX2_moveAir_34 : decode cX2_moveAir 34 = .ok (.aload_n 0, 1) := by decide +kernel
theorem dX2_moveAir_35 : decode cX2_moveAir 35 = .ok (.getfield 42, 3) := by decide +kernel
theorem dX2_moveAir_38 : decode cX2_moveAir 38 = .ok (.iload 5, 2) := by decide +kernel
theorem dX2_moveAir_40 : decode cX2_moveAir 40 = .ok (.iconst 1, 1) := by decide +kernel
theorem dX2_moveAir_41 : decode cX2_moveAir 41 = .ok (.iadd, 1) := by decide +kernel
theorem dX2_moveAir_42 : decode cX2_moveAir 42 = .ok (.iaload, 1) := by decide +kernel
theorem dX2_moveAir_43 : decode cX2_moveAir 43 = .ok (.goto 14, 3) := by decide +kernel
theorem dX2_moveAir_46 : decode cX2_moveAir 46 = .ok (.aload_n 0, 1) := by decide +kernel
theorem dX2_moveAir_47 : decode cX2_moveAir 47 = .ok (.getfield 24, 3) := by decide +kernel
theorem dX2_moveAir_50 : decode cX2_moveAir 50 = .ok (.aload_n 0, 1) := by decide +kernel
theorem dX2_moveAir_51 : decode cX2_moveAir 51 = .ok (.getfield 30, 3) := by decide +kernel
theorem dX2_moveAir_54 : decode cX2_moveAir 54 = .ok (.iload_n 1, 1) := by decide +kernel
theorem dX2_moveAir_55 : decode cX2_moveAir 55 = .ok (.iaload, 1) := by decide +kernel
theorem dX2_moveAir_56 : decode cX2_moveAir 56 = .ok (.iaload, 1) := by decide +kernel
theorem dX2_moveAir_57 : decode cX2_moveAir 57 = .ok (.istore 6, 2) := by decide +kernel
theorem dX2_moveAir_59 : decode cX2_moveAir 59 = .ok (.aload_n 0, 1) := by decide +kernel
theorem dX2_moveAir_60 : decode cX2_moveAir 60 = .ok (.getfield 42, 3) := by decide +kernel
theorem dX2_moveAir_63 : decode cX2_moveAir 63 = .ok (.iload 5, 2) := by decide +kernel
theorem dX2_moveAir_65 : decode cX2_moveAir 65 = .ok (.iaload, 1) := by decide +kernel
theorem dX2_moveAir_66 : decode cX2_moveAir 66 = .ok (.iload 6, 2) := by decide +kernel
theorem dX2_moveAir_68 : decode cX2_moveAir 68 = .ok (.if_icmp .eq 15, 3) := by decide +kernel
theorem dX2_moveAir_71 : decode cX2_moveAir 71 = .ok (.aload_n 0, 1) := by decide +kernel
theorem dX2_moveAir_72 : decode cX2_moveAir 72 = .ok (.getfield 42, 3) := by decide +kernel
theorem dX2_moveAir_75 : decode cX2_moveAir 75 = .ok (.iload 5, 2) := by decide +kernel
theorem dX2_moveAir_77 : decode cX2_moveAir 77 = .ok (.iload 6, 2) := by decide +kernel
theorem dX2_moveAir_79 : decode cX2_moveAir 79 = .ok (.iastore, 1) := by decide +kernel
theorem dX2_moveAir_80 : decode cX2_moveAir 80 = .ok (.iconst 1, 1) := by decide +kernel
theorem dX2_moveAir_81 : decode cX2_moveAir 81 = .ok (.istore 4, 2) := by decide +kernel
theorem dX2_moveAir_83 : decode cX2_moveAir 83 = .ok (.iinc 5 1, 3) := by decide +kernel
theorem dX2_moveAir_86 : decode cX2_moveAir 86 = .ok (.goto (-64), 3) := by decide +kernel
theorem dX2_moveAir_89 : decode cX2_moveAir 89 = .ok (.iload 4, 2) := by decide +kernel
theorem dX2_moveAir_91 : decode cX2_moveAir 91 = .ok (.ireturn, 1) := by decide +kernel
theorem dX2_findBeat_0 : decode cX2_findBeat 0 = .ok (.iconst 0, 1) := by decide +kernel
theorem dX2_findBeat_1 : decode cX2_findBeat 1 = .ok (.istore_n 2, 1) := by decide +kernel
theorem dX2_findBeat_2 : decode cX2_findBeat 2 = .ok (.iload_n 2, 1) := by decide +kernel
theorem dX2_findBeat_3 : decode cX2_findBeat 3 = .ok (.bipush 100, 2) := by decide +kernel
theorem dX2_findBeat_5 : decode cX2_findBeat 5 = .ok (.if_icmp .ge 18, 3) := by decide +kernel
theorem dX2_findBeat_8 : decode cX2_findBeat 8 = .ok (.aload_n 0, 1) := by decide +kernel
theorem dX2_findBeat_9 : decode cX2_findBeat 9 = .ok (.invokevirtual 129, 3) := by decide +kernel
theorem dX2_findBeat_12 : decode cX2_findBeat 12 = .ok (.ifCond .ne 5, 3) := by decide +kernel
theorem dX2_findBeat_15 : decode cX2_findBeat 15 = .ok (.iconst (-1), 1) := by decide +kernel
theorem dX2_findBeat_16 : decode cX2_findBeat 16 = .ok (.ireturn, 1) := by decide +kernel
theorem dX2_findBeat_17 : decode cX2_findBeat 17 = .ok (.iinc 2 1, 3) := by decide +kernel
theorem dX2_findBeat_20 : decode cX2_findBeat 20 = .ok (.goto (-18), 3) := by decide +kernel
theorem dX2_findBeat_23 : decode cX2_findBeat 23 = .ok (.iload_n 1, 1) := by decide +kernel
theorem dX2_findBeat_24 : decode cX2_findBeat 24 = .ok (.iconst 0, 1) := by decide +kernel
theorem dX2_findBeat_25 : decode cX2_findBeat 25 = .ok (.invokestatic 75, 3) := by decide +kernel
theorem dX2_findBeat_28 : decode cX2_findBeat 28 = .ok (.istore_n 2, 1) := by decide +kernel
theorem dX2_findBeat_29 : decode cX2_findBeat 29 = .ok (.iconst (-1), 1) := by decide +kernel
theorem dX2_findBeat_30 : decode cX2_findBeat 30 = .ok (.istore_n 3, 1) := by decide +kernel
theorem dX2_findBeat_31 : decode cX2_findBeat 31 = .ok (.iconst 0, 1) := by decide +kernel
theorem dX2_findBeat_32 : decode cX2_findBeat 32 = .ok (.istore 4, 2) := by decide +kernel
theorem dX2_findBeat_34 : decode cX2_findBeat 34 = .ok (.iload 4, 2) := by decide +kernel
theorem dX2_findBeat_36 : decode cX2_findBeat 36 = .ok (.sipush 200, 3) := by decide +kernel
theorem dX2_findBeat_39 : decode cX2_findBeat 39 = .ok (.if_icmp .ge 49, 3) := by decide +kernel
theorem dX2_findBeat_42 : decode cX2_findBeat 42 = .ok (.aload_n 0, 1) := by decide +kernel
theorem dX2_findBeat_43 : decode cX2_findBeat 43 = .ok (.getfield 24, 3) := by decide +kernel
theorem dX2_findBeat_46 : decode cX2_findBeat 46 = .ok (.iload_n 2, 1) := by decide +kernel
theorem dX2_findBeat_47 : decode cX2_findBeat 47 = .ok (.iaload, 1) := by decide +kernel
theorem dX2_findBeat_48 : decode cX2_findBeat 48 = .ok (.istore 5, 2) := by decide +kernel
theorem dX2_findBeat_50 : decode cX2_findBeat 50 = .ok (.aload_n 0, 1) := by decide +kernel
theorem dX2_findBeat_51 : decode cX2_findBeat 51 = .ok (.invokevirtual 129, 3) := by decide +kernel
theorem dX2_findBeat_54 : decode cX2_findBeat 54 = .ok (.pop, 1) := by decide +kernel
theorem dX2_findBeat_55 : decode cX2_findBeat 55 = .ok (.iload 5, 2) := by decide +kernel
theorem dX2_findBeat_57 : decode cX2_findBeat 57 = .ok (.ifCond .ne 25, 3) := by decide +kernel
theorem dX2_findBeat_60 : decode cX2_findBeat 60 = .ok (.aload_n 0, 1) := by decide +kernel
theorem dX2_findBeat_61 : decode cX2_findBeat 61 = .ok (.getfield 24, 3) := by decide +kernel
theorem dX2_findBeat_64 : decode cX2_findBeat 64 = .ok (.iload_n 2, 1) := by decide +kernel
theorem dX2_findBeat_65 : decode cX2_findBeat 65 = .ok (.iaload, 1) := by decide +kernel
theorem dX2_findBeat_66 : decode cX2_findBeat 66 = .ok (.ifCond .le 16, 3) := by decide +kernel
theorem dX2_findBeat_69 : decode cX2_findBeat 69 = .ok (.iload_n 3, 1) := by decide +kernel
theorem dX2_findBeat_70 : decode cX2_findBeat 70 = .ok (.iconst (-1), 1) := by decide +kernel
theorem dX2_findBeat_71 : decode cX2_findBeat 71 = .ok (.if_icmp .eq 8, 3) := by decide +kernel
theorem dX2_findBeat_74 : decode cX2_findBeat 74 = .ok (.iload 4, 2) := by decide +kernel
theorem dX2_findBeat_76 : decode cX2_findBeat 76 = .ok (.iload_n 3, 1) := by decide +kernel
theorem dX2_findBeat_77 : decode cX2_findBeat 77 = .ok (.isub, 1) := by decide +kernel
theorem dX2_findBeat_78 : decode cX2_findBeat 78 = .ok (.ireturn, 1) := by decide +kernel
theorem dX2_findBeat_79 : decode cX2_findBeat 79 = .ok (.iload 4, 2) := by decide +kernel
theorem dX2_findBeat_81 : decode cX2_findBeat 81 = .ok (.istore_n 3, 1) := by decide +kernel
theorem dX2_findBeat_82 : decode cX2_findBeat 82 = .ok (.iinc 4 1, 3) := by decide +kernel
theorem dX2_findBeat_85 : decode cX2_findBeat 85 = .ok (.goto (-51), 3) := by decide +kernel
theorem dX2_findBeat_88 : decode cX2_findBeat 88 = .ok (.iconst (-1), 1) := by decide +kernel
theorem dX2_findBeat_89 : decode cX2_findBeat 89 = .ok (.ireturn, 1) := by decide +kernel
theorem dX3_succeeds_0 : decode cX3_succeeds 0 = .ok (.iload_n 2, 1) := by decide +kernel
theorem dX3_succeeds_1 : decode cX3_succeeds 1 = .ok (.sipush 10000, 3) := by decide +kernel
theorem dX3_succeeds_4 : decode cX3_succeeds 4 = .ok (.idiv, 1) := by decide +kernel
theorem dX3_succeeds_5 : decode cX3_succeeds 5 = .ok (.bipush 10, 2) := by decide +kernel
theorem dX3_succeeds_7 : decode cX3_succeeds 7 = .ok (.irem, 1) := by decide +kernel
theorem dX3_succeeds_8 : decode cX3_succeeds 8 = .ok (.istore_n 3, 1) := by decide +kernel
theorem dX3_succeeds_9 : decode cX3_succeeds 9 = .ok (.iload_n 2, 1) := by decide +kernel
theorem dX3_succeeds_10 : decode cX3_succeeds 10 = .ok (.sipush 1000, 3) := by decide +kernel
theorem dX3_succeeds_13 : decode cX3_succeeds 13 = .ok (.idiv, 1) := by decide +kernel
theorem dX3_succeeds_14 : decode cX3_succeeds 14 = .ok (.bipush 10, 2) := by decide +kernel
theorem dX3_succeeds_16 : decode cX3_succeeds 16 = .ok (.irem, 1) := by decide +kernel
theorem dX3_succeeds_17 : decode cX3_succeeds 17 = .ok (.istore 4, 2) := by decide +kernel
theorem dX3_succeeds_19 : decode cX3_succeeds 19 = .ok (.iload_n 2, 1) := by decide +kernel
theorem dX3_succeeds_20 : decode cX3_succeeds 20 = .ok (.bipush 100, 2) := by decide +kernel
theorem dX3_succeeds_22 : decode cX3_succeeds 22 = .ok (.idiv, 1) := by decide +kernel
theorem dX3_succeeds_23 : decode cX3_succeeds 23 = .ok (.bipush 10, 2) := by decide +kernel
theorem dX3_succeeds_25 : decode cX3_succeeds 25 = .ok (.irem, 1) := by decide +kernel
theorem dX3_succeeds_26 : decode cX3_succeeds 26 = .ok (.istore 5, 2) := by decide +kernel
theorem dX3_succeeds_28 : decode cX3_succeeds 28 = .ok (.iload_n 2, 1) := by decide +kernel
theorem dX3_succeeds_29 : decode cX3_succeeds 29 = .ok (.bipush 10, 2) := by decide +kernel
theorem dX3_succeeds_31 : decode cX3_succeeds 31 = .ok (.idiv, 1) := by decide +kernel
theorem dX3_succeeds_32 : decode cX3_succeeds 32 = .ok (.bipush 10, 2) := by decide +kernel
theorem dX3_succeeds_34 : decode cX3_succeeds 34 = .ok (.irem, 1) := by decide +kernel
theorem dX3_succeeds_35 : decode cX3_succeeds 35 = .ok (.istore 6, 2) := by decide +kernel
theorem dX3_succeeds_37 : decode cX3_succeeds 37 = .ok (.iload_n 2, 1) := by decide +kernel
theorem dX3_succeeds_38 : decode cX3_succeeds 38 = .ok (.bipush 10, 2) := by decide +kernel
theorem dX3_succeeds_40 : decode cX3_succeeds 40 = .ok (.irem, 1) := by decide +kernel
theorem dX3_succeeds_41 : decode cX3_succeeds 41 = .ok (.istore 7, 2) := by decide +kernel
theorem dX3_succeeds_43 : decode cX3_succeeds 43 = .ok (.iload_n 2, 1) := by decide +kernel
theorem dX3_succeeds_44 : decode cX3_succeeds 44 = .ok (.bipush 100, 2) := by decide +kernel
theorem dX3_succeeds_46 : decode cX3_succeeds 46 = .ok (.irem, 1) := by decide +kernel
theorem dX3_succeeds_47 : decode cX3_succeeds 47 = .ok (.istore 8, 2) := by decide +kernel
theorem dX3_succeeds_49 : decode cX3_succeeds 49 = .ok (.iload_n 2, 1) := by decide +kernel
theorem dX3_succeeds_50 : decode cX3_succeeds 50 = .ok (.ldc 7, 2) := by decide +kernel
theorem dX3_succeeds_52 : decode cX3_succeeds 52 = .ok (.idiv, 1) := by decide +kernel
theorem dX3_succeeds_53 : decode cX3_succeeds 53 = .ok (.tableswitch 346 1 9 #[51, 80, 121, 148, 174, 200, 237, 286, 306], 51) := by decide +kernel
theorem dX3_succeeds_104 : decode cX3_succeeds 104 = .ok (.iload_n 3, 1) := by decide +kernel
theorem dX3_succeeds_105 : decode cX3_succeeds 105 = .ok (.ifCond .ne 26, 3) := by decide +kernel
theorem dX3_succeeds_108 : decode cX3_succeeds 108 = .ok (.iload 4, 2) := by decide +kernel
theorem dX3_succeeds_110 : decode cX3_succeeds 110 = .ok (.ifCond .ne 21, 3) := by decide +kernel
theorem dX3_succeeds_113 : decode cX3_succeeds 113 = .ok (.iload 5, 2) := by decide +kernel
theorem dX3_succeeds_115 : decode cX3_succeeds 115 = .ok (.ifCond .ne 16, 3) := by decide +kernel
theorem dX3_succeeds_118 : decode cX3_succeeds 118 = .ok (.aload_n 0, 1) := by decide +kernel
theorem dX3_succeeds_119 : decode cX3_succeeds 119 = .ok (.iload 8, 2) := by decide +kernel
theorem dX3_succeeds_121 : decode cX3_succeeds 121 = .ok (.invokestatic 8, 3) := by decide +kernel
theorem dX3_succeeds_124 : decode cX3_succeeds 124 = .ok (.ifCond .eq 7, 3) := by decide +kernel
theorem dX3_succeeds_127 : decode cX3_succeeds 127 = .ok (.iconst 1, 1) := by decide +kernel
theorem dX3_succeeds_128 : decode cX3_succeeds 128 = .ok (.goto 4, 3) := by decide +kernel
theorem dX3_succeeds_131 : decode cX3_succeeds 131 = .ok (.iconst 0, 1) := by decide +kernel
theorem dX3_succeeds_132 : decode cX3_succeeds 132 = .ok (.ireturn, 1) := by decide +kernel
theorem dX3_succeeds_133 : decode cX3_succeeds 133 = .ok (.iload 4, 2) := by decide +kernel
theorem dX3_succeeds_135 : decode cX3_succeeds 135 = .ok (.iconst 1, 1) := by decide +kernel
theorem dX3_succeeds_136 : decode cX3_succeeds 136 = .ok (.if_icmp .gt 36, 3) := by decide +kernel
theorem dX3_succeeds_139 : decode cX3_succeeds 139 = .ok (.iload 5, 2) := by decide +kernel
theorem dX3_succeeds_141 : decode cX3_succeeds 141 = .ok (.ifCond .ne 31, 3) := by decide +kernel
theorem dX3_succeeds_144 : decode cX3_succeeds 144 = .ok (.iload 8, 2) := by decide +kernel
theorem dX3_succeeds_146 : decode cX3_succeeds 146 = .ok (.ifCond .ne 26, 3) := by decide +kernel
theorem dX3_succeeds_149 : decode cX3_succeeds 149 = .ok (.aload_n 0, 1) := by decide +kernel
theorem dX3_succeeds_150 : decode cX3_succeeds 150 = .ok (.iload_n 3, 1) := by decide +kernel
theorem dX3_succeeds_151 : decode cX3_succeeds 151 = .ok (.iload 4, 2) := by decide +kernel
theorem dX3_succeeds_153 : decode cX3_succeeds 153 = .ok (.iconst 1, 1) := by decide +kernel
theorem dX3_succeeds_154 : decode cX3_succeeds 154 = .ok (.if_icmp .ne 7, 3) := by decide +kernel
theorem dX3_succeeds_157 : decode cX3_succeeds 157 = .ok (.iconst 1, 1) := by decide +kernel
theorem dX3_succeeds_158 : decode cX3_succeeds 158 = .ok (.goto 4, 3) := by decide +kernel
theorem dX3_succeeds_161 : decode cX3_succeeds 161 = .ok (.iconst 0, 1) := by decide +kernel
theorem dX3_succeeds_162 : decode cX3_succeeds 162 = .ok (.invokestatic 14, 3) := by decide +kernel
theorem dX3_succeeds_165 : decode cX3_succeeds 165 = .ok (.ifCond .eq 7, 3) := by decide +kernel
theorem dX3_succeeds_168 : decode cX3_succeeds 168 = .ok (.iconst 1, 1) := by decide +kernel
theorem dX3_succeeds_169 : decode cX3_succeeds 169 = .ok (.goto 4, 3) := by decide +kernel
theorem dX3_succeeds_172 : decode cX3_succeeds 172 = .ok (.iconst 0, 1) := by decide +kernel
theorem dX3_succeeds_173 : decode cX3_succeeds 173 = .ok (.ireturn, 1) := by decide +kernel
theorem dX3_succeeds_174 : decode cX3_succeeds 174 = .ok (.iload 5, 2) := by decide +kernel
theorem dX3_succeeds_176 : decode cX3_succeeds 176 = .ok (.ifCond .ne 23, 3) := by decide +kernel
theorem dX3_succeeds_179 : decode cX3_succeeds 179 = .ok (.aload_n 0, 1) := by decide +kernel
theorem dX3_succeeds_180 : decode cX3_succeeds 180 = .ok (.bipush 10, 2) := by decide +kernel
theorem dX3_succeeds_182 : decode cX3_succeeds 182 = .ok (.iload_n 3, 1) := by decide +kernel
theorem dX3_succeeds_183 : decode cX3_succeeds 183 = .ok (.imul, 1) := by decide +kernel
theorem dX3_succeeds_184 : decode cX3_succeeds 184 = .ok (.iload 4, 2) := by decide +kernel
theorem dX3_succeeds_186 : decode cX3_succeeds 186 = .ok (.iadd, 1) := by decide +kernel
theorem dX3_succeeds_187 : decode cX3_succeeds 187 = .ok (.iload 8, 2) := by decide +kernel
theorem dX3_succeeds_189 : decode cX3_succeeds 189 = .ok (.invokestatic 18, 3) := by decide +kernel
theorem dX3_succeeds_192 : decode cX3_succeeds 192 = .ok (.ifCond .eq 7, 3) := by decide +kernel
theorem dX3_succeeds_195 : decode cX3_succeeds 195 = .ok (.iconst 1, 1) := by decide +kernel
theorem dX3_succeeds_196 : decode cX3_succeeds 196 = .ok (.goto 4, 3) := by decide +kernel
theorem dX3_succeeds_199 : decode cX3_succeeds 199 = .ok (.iconst 0, 1) := by decide +kernel
theorem dX3_succeeds_200 : decode cX3_succeeds 200 = .ok (.ireturn, 1) := by decide +kernel
theorem dX3_succeeds_201 : decode cX3_succeeds 201 = .ok (.iload 4, 2) := by decide +kernel
theorem dX3_succeeds_203 : decode cX3_succeeds 203 = .ok (.ifCond .ne 22, 3) := by decide +kernel
theorem dX3_succeeds_206 : decode cX3_succeeds 206 = .ok (.iload 5, 2) := by decide +kernel
theorem dX3_succeeds_208 : decode cX3_succeeds 208 = .ok (.ifCond .ne 17, 3) := by decide +kernel
theorem dX3_succeeds_211 : decode cX3_succeeds 211 = .ok (.aload_n 0, 1) := by decide +kernel
theorem dX3_succeeds_212 : decode cX3_succeeds 212 = .ok (.iload_n 3, 1) := by decide +kernel
theorem dX3_succeeds_213 : decode cX3_succeeds 213 = .ok (.iload 8, 2) := by decide +kernel
theorem dX3_succeeds_215 : decode cX3_succeeds 215 = .ok (.invokestatic 22, 3) := by decide +kernel
theorem dX3_succeeds_218 : decode cX3_succeeds 218 = .ok (.ifCond .eq 7, 3) := by decide +kernel
theorem dX3_succeeds_221 : decode cX3_succeeds 221 = .ok (.iconst 1, 1) := by decide +kernel
theorem dX3_succeeds_222 : decode cX3_succeeds 222 = .ok (.goto 4, 3) := by decide +kernel
theorem dX3_succeeds_225 : decode cX3_succeeds 225 = .ok (.iconst 0, 1) := by decide +kernel
theorem dX3_succeeds_226 : decode cX3_succeeds 226 = .ok (.ireturn, 1) := by decide +kernel
theorem dX3_succeeds_227 : decode cX3_succeeds 227 = .ok (.iload 4, 2) := by decide +kernel
theorem dX3_succeeds_229 : decode cX3_succeeds 229 = .ok (.ifCond .ne 22, 3) := by decide +kernel
theorem dX3_succeeds_232 : decode cX3_succeeds 232 = .ok (.iload 5, 2) := by decide +kernel
theorem dX3_succeeds_234 : decode cX3_succeeds 234 = .ok (.ifCond .ne 17, 3) := by decide +kernel
theorem dX3_succeeds_237 : decode cX3_succeeds 237 = .ok (.aload_n 0, 1) := by decide +kernel
theorem dX3_succeeds_238 : decode cX3_succeeds 238 = .ok (.iload_n 3, 1) := by decide +kernel
theorem dX3_succeeds_239 : decode cX3_succeeds 239 = .ok (.iload 8, 2) := by decide +kernel
theorem dX3_succeeds_241 : decode cX3_succeeds 241 = .ok (.invokestatic 25, 3) := by decide +kernel
theorem dX3_succeeds_244 : decode cX3_succeeds 244 = .ok (.ifCond .eq 7, 3) := by decide +kernel
theorem dX3_succeeds_247 : decode cX3_succeeds 247 = .ok (.iconst 1, 1) := by decide +kernel
theorem dX3_succeeds_248 : decode cX3_succeeds 248 = .ok (.goto 4, 3) := by decide +kernel
theorem dX3_succeeds_251 : decode cX3_succeeds 251 = .ok (.iconst 0, 1) := by decide +kernel
theorem dX3_succeeds_252 : decode cX3_succeeds 252 = .ok (.ireturn, 1) := by decide +kernel
theorem dX3_succeeds_253 : decode cX3_succeeds 253 = .ok (.iload 5, 2) := by decide +kernel
theorem dX3_succeeds_255 : decode cX3_succeeds 255 = .ok (.ifCond .ne 33, 3) := by decide +kernel
theorem dX3_succeeds_258 : decode cX3_succeeds 258 = .ok (.aload_n 0, 1) := by decide +kernel
theorem dX3_succeeds_259 : decode cX3_succeeds 259 = .ok (.iload_n 3, 1) := by decide +kernel
theorem dX3_succeeds_260 : decode cX3_succeeds 260 = .ok (.iload 4, 2) := by decide +kernel
theorem dX3_succeeds_262 : decode cX3_succeeds 262 = .ok (.invokevirtual 28, 3) := by decide +kernel
theorem dX3_succeeds_265 : decode cX3_succeeds 265 = .ok (.ifCond .eq 23, 3) := by decide +kernel
theorem dX3_succeeds_268 : decode cX3_succeeds 268 = .ok (.aload_n 0, 1) := by decide +kernel
theorem dX3_succeeds_269 : decode cX3_succeeds 269 = .ok (.getfield 34, 3) := by decide +kernel
theorem dX3_succeeds_272 : decode cX3_succeeds 272 = .ok (.iload_n 3, 1) := by decide +kernel
theorem dX3_succeeds_273 : decode cX3_succeeds 273 = .ok (.iload 4, 2) := by decide +kernel
theorem dX3_succeeds_275 : decode cX3_succeeds 275 = .ok (.invokestatic 38, 3) := by decide +kernel
theorem dX3_succeeds_278 : decode cX3_succeeds 278 = .ok (.iaload, 1) := by decide +kernel
theorem dX3_succeeds_279 : decode cX3_succeeds 279 = .ok (.iload 8, 2) := by decide +kernel
theorem dX3_succeeds_281 : decode cX3_succeeds 281 = .ok (.if_icmp .lt 7, 3) := by decide +kernel
theorem dX3_succeeds_284 : decode cX3_succeeds 284 = .ok (.iconst 1, 1) := by decide +kernel
theorem dX3_succeeds_285 : decode cX3_succeeds 285 = .ok (.goto 4, 3) := by decide +kernel
theorem dX3_succeeds_288 : decode cX3_succeeds 288 = .ok (.iconst 0, 1) := by decide +kernel
theorem dX3_succeeds_289 : decode cX3_succeeds 289 = .ok (.ireturn, 1) := by decide +kernel
theorem dX3_succeeds_290 : decode cX3_succeeds 290 = .ok (.iload 5, 2) := by decide +kernel
theorem dX3_succeeds_292 : decode cX3_succeeds 292 = .ok (.ifCond .ne 45, 3) := by decide +kernel
theorem dX3_succeeds_295 : decode cX3_succeeds 295 = .ok (.iload 6, 2) := by decide +kernel
theorem dX3_succeeds_297 : decode cX3_succeeds 297 = .ok (.ifCond .ne 40, 3) := by decide +kernel
theorem dX3_succeeds_300 : decode cX3_succeeds 300 = .ok (.aload_n 0, 1) := by decide +kernel
theorem dX3_succeeds_301 : decode cX3_succeeds 301 = .ok (.iload_n 3, 1) := by decide +kernel
theorem dX3_succeeds_302 : decode cX3_succeeds 302 = .ok (.iload 4, 2) := by decide +kernel
theorem dX3_succeeds_304 : decode cX3_succeeds 304 = .ok (.invokevirtual 28, 3) := by decide +kernel
theorem dX3_succeeds_307 : decode cX3_succeeds 307 = .ok (.ifCond .eq 30, 3) := by decide +kernel
theorem dX3_succeeds_310 : decode cX3_succeeds 310 = .ok (.aload_n 0, 1) := by decide +kernel
theorem dX3_succeeds_311 : decode cX3_succeeds 311 = .ok (.iload_n 3, 1) := by decide +kernel
theorem dX3_succeeds_312 : decode cX3_succeeds 312 = .ok (.iload 4, 2) := by decide +kernel
theorem dX3_succeeds_314 : decode cX3_succeeds 314 = .ok (.invokestatic 38, 3) := by decide +kernel
theorem dX3_succeeds_317 : decode cX3_succeeds 317 = .ok (.invokevirtual 44, 3) := by decide +kernel
theorem dX3_succeeds_320 : decode cX3_succeeds 320 = .ok (.ifCond .eq 7, 3) := by decide +kernel
theorem dX3_succeeds_323 : decode cX3_succeeds 323 = .ok (.iconst 1, 1) := by decide +kernel
theorem dX3_succeeds_324 : decode cX3_succeeds 324 = .ok (.goto 4, 3) := by decide +kernel
theorem dX3_succeeds_327 : decode cX3_succeeds 327 = .ok (.iconst 0, 1) := by decide +kernel
theorem dX3_succeeds_328 : decode cX3_succeeds 328 = .ok (.iload 7, 2) := by decide +kernel
theorem dX3_succeeds_330 : decode cX3_succeeds 330 = .ok (.if_icmp .ne 7, 3) := by decide +kernel
theorem dX3_succeeds_333 : decode cX3_succeeds 333 = .ok (.iconst 1, 1) := by decide +kernel
theorem dX3_succeeds_334 : decode cX3_succeeds 334 = .ok (.goto 4, 3) := by decide +kernel
theorem dX3_succeeds_337 : decode cX3_succeeds 337 = .ok (.iconst 0, 1) := by decide +kernel
theorem dX3_succeeds_338 : decode cX3_succeeds 338 = .ok (.ireturn, 1) := by decide +kernel
theorem dX3_succeeds_339 : decode cX3_succeeds 339 = .ok (.iload_n 2, 1) := by decide +kernel
theorem dX3_succeeds_340 : decode cX3_succeeds 340 = .ok (.ldc 48, 2) := by decide +kernel
theorem dX3_succeeds_342 : decode cX3_succeeds 342 = .ok (.if_icmp .ne 15, 3) := by decide +kernel
theorem dX3_succeeds_345 : decode cX3_succeeds 345 = .ok (.aload_n 0, 1) := by decide +kernel
theorem dX3_succeeds_346 : decode cX3_succeeds 346 = .ok (.aload_n 1, 1) := by decide +kernel
theorem dX3_succeeds_347 : decode cX3_succeeds 347 = .ok (.invokestatic 49, 3) := by decide +kernel
theorem dX3_succeeds_350 : decode cX3_succeeds 350 = .ok (.ifCond .eq 7, 3) := by decide +kernel
theorem dX3_succeeds_353 : decode cX3_succeeds 353 = .ok (.iconst 1, 1) := by decide +kernel
theorem dX3_succeeds_354 : decode cX3_succeeds 354 = .ok (.goto 4, 3) := by decide +kernel
theorem dX3_succeeds_357 : decode cX3_succeeds 357 = .ok (.iconst 0, 1) := by decide +kernel
theorem dX3_succeeds_358 : decode cX3_succeeds 358 = .ok (.ireturn, 1) := by decide +kernel
theorem dX3_succeeds_359 : decode cX3_succeeds 359 = .ok (.iload 4, 2) := by decide +kernel
theorem dX3_succeeds_361 : decode cX3_succeeds 361 = .ok (.ifCond .ne 36, 3) := by decide +kernel
theorem dX3_succeeds_364 : decode cX3_succeeds 364 = .ok (.iload 5, 2) := by decide +kernel
theorem dX3_succeeds_366 : decode cX3_succeeds 366 = .ok (.ifCond .ne 31, 3) := by decide +kernel
theorem dX3_succeeds_369 : decode cX3_succeeds 369 = .ok (.iload 6, 2) := by decide +kernel
theorem dX3_succeeds_371 : decode cX3_succeeds 371 = .ok (.ifCond .ne 26, 3) := by decide +kernel
theorem dX3_succeeds_374 : decode cX3_succeeds 374 = .ok (.aload_n 0, 1) := by decide +kernel
theorem dX3_succeeds_375 : decode cX3_succeeds 375 = .ok (.iload_n 3, 1) := by decide +kernel
theorem dX3_succeeds_376 : decode cX3_succeeds 376 = .ok (.invokevirtual 55, 3) := by decide +kernel
theorem dX3_succeeds_379 : decode cX3_succeeds 379 = .ok (.ifCond .eq 18, 3) := by decide +kernel
theorem dX3_succeeds_382 : decode cX3_succeeds 382 = .ok (.aload_n 0, 1) := by decide +kernel
theorem dX3_succeeds_383 : decode cX3_succeeds 383 = .ok (.getfield 58, 3) := by decide +kernel
theorem dX3_succeeds_386 : decode cX3_succeeds 386 = .ok (.iload_n 3, 1) := by decide +kernel
theorem dX3_succeeds_387 : decode cX3_succeeds 387 = .ok (.iaload, 1) := by decide +kernel
theorem dX3_succeeds_388 : decode cX3_succeeds 388 = .ok (.iload 7, 2) := by decide +kernel
theorem dX3_succeeds_390 : decode cX3_succeeds 390 = .ok (.if_icmp .ne 7, 3) := by decide +kernel
theorem dX3_succeeds_393 : decode cX3_succeeds 393 = .ok (.iconst 1, 1) := by decide +kernel
theorem dX3_succeeds_394 : decode cX3_succeeds 394 = .ok (.goto 4, 3) := by decide +kernel
theorem dX3_succeeds_397 : decode cX3_succeeds 397 = .ok (.iconst 0, 1) := by decide +kernel
theorem dX3_succeeds_398 : decode cX3_succeeds 398 = .ok (.ireturn, 1) := by decide +kernel
theorem dX3_succeeds_399 : decode cX3_succeeds 399 = .ok (.iconst 0, 1) := by decide +kernel
theorem dX3_succeeds_400 : decode cX3_succeeds 400 = .ok (.ireturn, 1) := by decide +kernel
theorem dX3_isAtRest_0 : decode cX3_isAtRest 0 = .ok (.aload_n 1, 1) := by decide +kernel
theorem dX3_isAtRest_1 : decode cX3_isAtRest 1 = .ok (.aload_n 0, 1) := by decide +kernel
theorem dX3_isAtRest_2 : decode cX3_isAtRest 2 = .ok (.invokevirtual 61, 3) := by decide +kernel
theorem dX3_isAtRest_5 : decode cX3_isAtRest 5 = .ok (.aload_n 1, 1) := by decide +kernel
theorem dX3_isAtRest_6 : decode cX3_isAtRest 6 = .ok (.invokevirtual 65, 3) := by decide +kernel
theorem dX3_isAtRest_9 : decode cX3_isAtRest 9 = .ok (.ifCond .ne 7, 3) := by decide +kernel
theorem dX3_isAtRest_12 : decode cX3_isAtRest 12 = .ok (.iconst 1, 1) := by decide +kernel
theorem dX3_isAtRest_13 : decode cX3_isAtRest 13 = .ok (.goto 4, 3) := by decide +kernel
theorem dX3_isAtRest_16 : decode cX3_isAtRest 16 = .ok (.iconst 0, 1) := by decide +kernel
theorem dX3_isAtRest_17 : decode cX3_isAtRest 17 = .ok (.ireturn, 1) := by decide +kernel
theorem dX3_doTurn_0 : decode cX3_doTurn 0 = .ok (.iload_n 1, 1) := by decide +kernel
theorem dX3_doTurn_1 : decode cX3_doTurn 1 = .ok (.bipush 8, 2) := by decide +kernel
theorem dX3_doTurn_3 : decode cX3_doTurn 3 = .ok (.idiv, 1) := by decide +kernel
theorem dX3_doTurn_4 : decode cX3_doTurn 4 = .ok (.istore_n 2, 1) := by decide +kernel
theorem dX3_doTurn_5 : decode cX3_doTurn 5 = .ok (.iload_n 1, 1) := by decide +kernel
theorem dX3_doTurn_6 : decode cX3_doTurn 6 = .ok (.bipush 8, 2) := by decide +kernel
theorem dX3_doTurn_8 : decode cX3_doTurn 8 = .ok (.irem, 1) := by decide +kernel
theorem dX3_doTurn_9 : decode cX3_doTurn 9 = .ok (.tableswitch 192 0 5 #[39, 60, 60, 102, 129, 170], 39) := by decide +kernel
theorem dX3_doTurn_48 : decode cX3_doTurn 48 = .ok (.aload_n 0, 1) := by decide +kernel
theorem dX3_doTurn_49 : decode cX3_doTurn 49 = .ok (.iload_n 2, 1) := by decide +kernel
theorem dX3_doTurn_50 : decode cX3_doTurn 50 = .ok (.iconst 5, 1) := by decide +kernel
theorem dX3_doTurn_51 : decode cX3_doTurn 51 = .ok (.irem, 1) := by decide +kernel
theorem dX3_doTurn_52 : decode cX3_doTurn 52 = .ok (.bipush 10, 2) := by decide +kernel
theorem dX3_doTurn_54 : decode cX3_doTurn 54 = .ok (.iload_n 2, 1) := by decide +kernel
theorem dX3_doTurn_55 : decode cX3_doTurn 55 = .ok (.bipush 8, 2) := by decide +kernel
theorem dX3_doTurn_57 : decode cX3_doTurn 57 = .ok (.idiv, 1) := by decide +kernel
theorem dX3_doTurn_58 : decode cX3_doTurn 58 = .ok (.bipush 90, 2) := by decide +kernel
theorem dX3_doTurn_60 : decode cX3_doTurn 60 = .ok (.irem, 1) := by decide +kernel
theorem dX3_doTurn_61 : decode cX3_doTurn 61 = .ok (.iadd, 1) := by decide +kernel
theorem dX3_doTurn_62 : decode cX3_doTurn 62 = .ok (.invokestatic 69, 3) := by decide +kernel
theorem dX3_doTurn_65 : decode cX3_doTurn 65 = .ok (.pop, 1) := by decide +kernel
theorem dX3_doTurn_66 : decode cX3_doTurn 66 = .ok (.goto 146, 3) := by decide +kernel
theorem dX3_doTurn_69 : decode cX3_doTurn 69 = .ok (.aload_n 0, 1) := by decide +kernel
theorem dX3_doTurn_70 : decode cX3_doTurn 70 = .ok (.iload_n 2, 1) := by decide +kernel
theorem dX3_doTurn_71 : decode cX3_doTurn 71 = .ok (.bipush 10, 2) := by decide +kernel
theorem dX3_doTurn_73 : decode cX3_doTurn 73 = .ok (.irem, 1) := by decide +kernel
theorem dX3_doTurn_74 : decode cX3_doTurn 74 = .ok (.iload_n 2, 1) := by decide +kernel
theorem dX3_doTurn_75 : decode cX3_doTurn 75 = .ok (.bipush 16, 2) := by decide +kernel
theorem dX3_doTurn_77 : decode cX3_doTurn 77 = .ok (.idiv, 1) := by decide +kernel
theorem dX3_doTurn_78 : decode cX3_doTurn 78 = .ok (.iconst 2, 1) := by decide +kernel
theorem dX3_doTurn_79 : decode cX3_doTurn 79 = .ok (.irem, 1) := by decide +kernel
theorem dX3_doTurn_80 : decode cX3_doTurn 80 = .ok (.iload_n 2, 1) := by decide +kernel
theorem dX3_doTurn_81 : decode cX3_doTurn 81 = .ok (.bipush 32, 2) := by decide +kernel
theorem dX3_doTurn_83 : decode cX3_doTurn 83 = .ok (.idiv, 1) := by decide +kernel
theorem dX3_doTurn_84 : decode cX3_doTurn 84 = .ok (.bipush 10, 2) := by decide +kernel
theorem dX3_doTurn_86 : decode cX3_doTurn 86 = .ok (.irem, 1) := by decide +kernel
theorem dX3_doTurn_87 : decode cX3_doTurn 87 = .ok (.iload_n 2, 1) := by decide +kernel
theorem dX3_doTurn_88 : decode cX3_doTurn 88 = .ok (.sipush 512, 3) := by decide +kernel
theorem dX3_doTurn_91 : decode cX3_doTurn 91 = .ok (.idiv, 1) := by decide +kernel
theorem dX3_doTurn_92 : decode cX3_doTurn 92 = .ok (.iconst 2, 1) := by decide +kernel
theorem dX3_doTurn_93 : decode cX3_doTurn 93 = .ok (.irem, 1) := by decide +kernel
theorem dX3_doTurn_94 : decode cX3_doTurn 94 = .ok (.iconst 1, 1) := by decide +kernel
theorem dX3_doTurn_95 : decode cX3_doTurn 95 = .ok (.iload_n 2, 1) := by decide +kernel
theorem dX3_doTurn_96 : decode cX3_doTurn 96 = .ok (.sipush 1024, 3) := by decide +kernel
theorem dX3_doTurn_99 : decode cX3_doTurn 99 = .ok (.idiv, 1) := by decide +kernel
theorem dX3_doTurn_100 : decode cX3_doTurn 100 = .ok (.bipush 6, 2) := by decide +kernel
theorem dX3_doTurn_102 : decode cX3_doTurn 102 = .ok (.irem, 1) := by decide +kernel
theorem dX3_doTurn_103 : decode cX3_doTurn 103 = .ok (.iadd, 1) := by decide +kernel
theorem dX3_doTurn_104 : decode cX3_doTurn 104 = .ok (.invokestatic 72, 3) := by decide +kernel
theorem dX3_doTurn_107 : decode cX3_doTurn 107 = .ok (.pop, 1) := by decide +kernel
theorem dX3_doTurn_108 : decode cX3_doTurn 108 = .ok (.goto 104, 3) := by decide +kernel
theorem dX3_doTurn_111 : decode cX3_doTurn 111 = .ok (.aload_n 0, 1) := by decide +kernel
theorem dX3_doTurn_112 : decode cX3_doTurn 112 = .ok (.iload_n 2, 1) := by decide +kernel
theorem dX3_doTurn_113 : decode cX3_doTurn 113 = .ok (.bipush 10, 2) := by decide +kernel
theorem dX3_doTurn_115 : decode cX3_doTurn 115 = .ok (.irem, 1) := by decide +kernel
theorem dX3_doTurn_116 : decode cX3_doTurn 116 = .ok (.iload_n 2, 1) := by decide +kernel
theorem dX3_doTurn_117 : decode cX3_doTurn 117 = .ok (.bipush 16, 2) := by decide +kernel
theorem dX3_doTurn_119 : decode cX3_doTurn 119 = .ok (.idiv, 1) := by decide +kernel
theorem dX3_doTurn_120 : decode cX3_doTurn 120 = .ok (.iconst 2, 1) := by decide +kernel
theorem dX3_doTurn_121 : decode cX3_doTurn 121 = .ok (.irem, 1) := by decide +kernel
theorem dX3_doTurn_122 : decode cX3_doTurn 122 = .ok (.iconst 1, 1) := by decide +kernel
theorem dX3_doTurn_123 : decode cX3_doTurn 123 = .ok (.if_icmp .ne 7, 3) := by decide +kernel
theorem dX3_doTurn_126 : decode cX3_doTurn 126 = .ok (.iconst 1, 1) := by decide +kernel
theorem dX3_doTurn_127 : decode cX3_doTurn 127 = .ok (.goto 4, 3) := by decide +kernel
theorem dX3_doTurn_130 : decode cX3_doTurn 130 = .ok (.iconst 0, 1) := by decide +kernel
theorem dX3_doTurn_131 : decode cX3_doTurn 131 = .ok (.invokestatic 14, 3) := by decide +kernel
theorem dX3_doTurn_134 : decode cX3_doTurn 134 = .ok (.pop, 1) := by decide +kernel
theorem dX3_doTurn_135 : decode cX3_doTurn 135 = .ok (.goto 77, 3) := by decide +kernel
theorem dX3_doTurn_138 : decode cX3_doTurn 138 = .ok (.iload_n 2, 1) := by decide +kernel
theorem dX3_doTurn_139 : decode cX3_doTurn 139 = .ok (.sipush 512, 3) := by decide +kernel
theorem dX3_doTurn_142 : decode cX3_doTurn 142 = .ok (.idiv, 1) := by decide +kernel
theorem dX3_doTurn_143 : decode cX3_doTurn 143 = .ok (.iconst 2, 1) := by decide +kernel
theorem dX3_doTurn_144 : decode cX3_doTurn 144 = .ok (.irem, 1) := by decide +kernel
theorem dX3_doTurn_145 : decode cX3_doTurn 145 = .ok (.ifCond .ne 22, 3) := by decide +kernel
theorem dX3_doTurn_148 : decode cX3_doTurn 148 = .ok (.aload_n 0, 1) := by decide +kernel
theorem dX3_doTurn_149 : decode cX3_doTurn 149 = .ok (.iload_n 2, 1) := by decide +kernel
theorem dX3_doTurn_150 : decode cX3_doTurn 150 = .ok (.bipush 16, 2) := by decide +kernel
theorem dX3_doTurn_152 : decode cX3_doTurn 152 = .ok (.irem, 1) := by decide +kernel
theorem dX3_doTurn_153 : decode cX3_doTurn 153 = .ok (.iload_n 2, 1) := by decide +kernel
theorem dX3_doTurn_154 : decode cX3_doTurn 154 = .ok (.bipush 16, 2) := by decide +kernel
theorem dX3_doTurn_156 : decode cX3_doTurn 156 = .ok (.idiv, 1) := by decide +kernel
theorem dX3_doTurn_157 : decode cX3_doTurn 157 = .ok (.bipush 31, 2) := by decide +kernel
theorem dX3_doTurn_159 : decode cX3_doTurn 159 = .ok (.irem, 1) := by decide +kernel
theorem dX3_doTurn_160 : decode cX3_doTurn 160 = .ok (.invokestatic 18, 3) := by decide +kernel
theorem dX3_doTurn_163 : decode cX3_doTurn 163 = .ok (.pop, 1) := by decide +kernel
theorem dX3_doTurn_164 : decode cX3_doTurn 164 = .ok (.goto 48, 3) := by decide +kernel
theorem dX3_doTurn_167 : decode cX3_doTurn 167 = .ok (.aload_n 0, 1) := by decide +kernel
theorem dX3_doTurn_168 : decode cX3_doTurn 168 = .ok (.iload_n 2, 1) := by decide +kernel
theorem dX3_doTurn_169 : decode cX3_doTurn 169 = .ok (.bipush 16, 2) := by decide +kernel
theorem dX3_doTurn_171 : decode cX3_doTurn 171 = .ok (.irem, 1) := by decide +kernel
theorem dX3_doTurn_172 : decode cX3_doTurn 172 = .ok (.invokestatic 76, 3) := by decide +kernel
theorem dX3_doTurn_175 : decode cX3_doTurn 175 = .ok (.pop, 1) := by decide +kernel
theorem dX3_doTurn_176 : decode cX3_doTurn 176 = .ok (.goto 36, 3) := by decide +kernel
theorem dX3_doTurn_179 : decode cX3_doTurn 179 = .ok (.aload_n 0, 1) := by decide +kernel
theorem dX3_doTurn_180 : decode cX3_doTurn 180 = .ok (.iload_n 2, 1) := by decide +kernel
theorem dX3_doTurn_181 : decode cX3_doTurn 181 = .ok (.bipush 10, 2) := by decide +kernel
theorem dX3_doTurn_183 : decode cX3_doTurn 183 = .ok (.irem, 1) := by decide +kernel
theorem dX3_doTurn_184 : decode cX3_doTurn 184 = .ok (.bipush 10, 2) := by decide +kernel
theorem dX3_doTurn_186 : decode cX3_doTurn 186 = .ok (.iload_n 2, 1) := by decide +kernel
theorem dX3_doTurn_187 : decode cX3_doTurn 187 = .ok (.bipush 16, 2) := by decide +kernel
theorem dX3_doTurn_189 : decode cX3_doTurn 189 = .ok (.idiv, 1) := by decide +kernel
theorem dX3_doTurn_190 : decode cX3_doTurn 190 = .ok (.bipush 90, 2) := by decide +kernel
theorem dX3_doTurn_192 : decode cX3_doTurn 192 = .ok (.irem, 1) := by decide +kernel
theorem dX3_doTurn_193 : decode cX3_doTurn 193 = .ok (.iadd, 1) := by decide +kernel
theorem dX3_doTurn_194 : decode cX3_doTurn 194 = .ok (.invokestatic 22, 3) := by decide +kernel
theorem dX3_doTurn_197 : decode cX3_doTurn 197 = .ok (.pop, 1) := by decide +kernel
theorem dX3_doTurn_198 : decode cX3_doTurn 198 = .ok (.goto 14, 3) := by decide +kernel
theorem dX3_doTurn_201 : decode cX3_doTurn 201 = .ok (.aload_n 0, 1) := by decide +kernel
theorem dX3_doTurn_202 : decode cX3_doTurn 202 = .ok (.iconst 1, 1) := by decide +kernel
theorem dX3_doTurn_203 : decode cX3_doTurn 203 = .ok (.iload_n 2, 1) := by decide +kernel
theorem dX3_doTurn_204 : decode cX3_doTurn 204 = .ok (.bipush 20, 2) := by decide +kernel
theorem dX3_doTurn_206 : decode cX3_doTurn 206 = .ok (.irem, 1) := by decide +kernel
theorem dX3_doTurn_207 : decode cX3_doTurn 207 = .ok (.iadd, 1) := by decide +kernel
theorem dX3_doTurn_208 : decode cX3_doTurn 208 = .ok (.invokestatic 8, 3) := by decide +kernel
theorem dX3_doTurn_211 : decode cX3_doTurn 211 = .ok (.pop, 1) := by decide +kernel
theorem dX3_doTurn_212 : decode cX3_doTurn 212 = .ok (.return_, 1) := by decide +kernel
theorem dX4_init_0 : decode cX4_init 0 = .ok (.aload_n 0, 1) := by decide +kernel
theorem dX4_init_1 : decode cX4_init 1 = .ok (.invokespecial 3, 3) := by decide +kernel
theorem dX4_init_4 : decode cX4_init 4 = .ok (.aload_n 0, 1) := by decide +kernel
theorem dX4_init_5 : decode cX4_init 5 = .ok (.bipush 120, 2) := by decide +kernel
theorem dX4_init_7 : decode cX4_init 7 = .ok (.newarray .char, 2) := by decide +kernel
theorem dX4_init_9 : decode cX4_init 9 = .ok (.putfield 9, 3) := by decide +kernel
theorem dX4_init_12 : decode cX4_init 12 = .ok (.aload_n 0, 1) := by decide +kernel
theorem dX4_init_13 : decode cX4_init 13 = .ok (.iconst 5, 1) := by decide +kernel
theorem dX4_init_14 : decode cX4_init 14 = .ok (.newarray .int, 2) := by decide +kernel
theorem dX4_init_16 : decode cX4_init 16 = .ok (.putfield 15, 3) := by decide +kernel
theorem dX4_init_19 : decode cX4_init 19 = .ok (.return_, 1) := by decide +kernel
theorem dX4_firstError_0 : decode cX4_firstError 0 = .ok (.aload_n 0, 1) := by decide +kernel
theorem dX4_firstError_1 : decode cX4_firstError 1 = .ok (.invokevirtual 19, 3) := by decide +kernel
theorem dX4_firstError_4 : decode cX4_firstError 4 = .ok (.ifCond .ne 8, 3) := by decide +kernel
theorem dX4_firstError_7 : decode cX4_firstError 7 = .ok (.aload_n 0, 1) := by decide +kernel
theorem dX4_firstError_8 : decode cX4_firstError 8 = .ok (.getfield 23, 3) := by decide +kernel
theorem dX4_firstError_11 : decode cX4_firstError 11 = .ok (.ireturn, 1) := by decide +kernel
theorem dX4_firstError_12 : decode cX4_firstError 12 = .ok (.iconst 0, 1) := by decide +kernel
theorem dX4_firstError_13 : decode cX4_firstError 13 = .ok (.istore_n 1, 1) := by decide +kernel
theorem dX4_firstError_14 : decode cX4_firstError 14 = .ok (.iload_n 1, 1) := by decide +kernel
theorem dX4_firstError_15 : decode cX4_firstError 15 = .ok (.bipush 120, 2) := by decide +kernel
theorem dX4_firstError_17 : decode cX4_firstError 17 = .ok (.if_icmp .ge 28, 3) := by decide +kernel
theorem dX4_firstError_20 : decode cX4_firstError 20 = .ok (.aload_n 0, 1) := by decide +kernel
theorem dX4_firstError_21 : decode cX4_firstError 21 = .ok (.invokevirtual 27, 3) := by decide +kernel
theorem dX4_firstError_24 : decode cX4_firstError 24 = .ok (.ifCond .eq 21, 3) := by decide +kernel
theorem dX4_firstError_27 : decode cX4_firstError 27 = .ok (.aload_n 0, 1) := by decide +kernel
theorem dX4_firstError_28 : decode cX4_firstError 28 = .ok (.invokevirtual 30, 3) := by decide +kernel
theorem dX4_firstError_31 : decode cX4_firstError 31 = .ok (.ifCond .ne 8, 3) := by decide +kernel
theorem dX4_firstError_34 : decode cX4_firstError 34 = .ok (.aload_n 0, 1) := by decide +kernel
theorem dX4_firstError_35 : decode cX4_firstError 35 = .ok (.getfield 23, 3) := by decide +kernel
theorem dX4_firstError_38 : decode cX4_firstError 38 = .ok (.ireturn, 1) := by decide +kernel
theorem dX4_firstError_39 : decode cX4_firstError 39 = .ok (.iinc 1 1, 3) := by decide +kernel
theorem dX4_firstError_42 : decode cX4_firstError 42 = .ok (.goto (-28), 3) := by decide +kernel
theorem dX4_firstError_45 : decode cX4_firstError 45 = .ok (.iconst (-1), 1) := by decide +kernel
theorem dX4_firstError_46 : decode cX4_firstError 46 = .ok (.ireturn, 1) := by decide +kernel
theorem dX4_readStart_0 : decode cX4_readStart 0 = .ok (.aload_n 0, 1) := by decide +kernel
theorem dX4_readStart_1 : decode cX4_readStart 1 = .ok (.iconst 0, 1) := by decide +kernel
theorem dX4_readStart_2 : decode cX4_readStart 2 = .ok (.putfield 23, 3) := by decide +kernel
theorem dX4_readStart_5 : decode cX4_readStart 5 = .ok (.aload_n 0, 1) := by decide +kernel
theorem dX4_readStart_6 : decode cX4_readStart 6 = .ok (.getfield 33, 3) := by decide +kernel
theorem dX4_readStart_9 : decode cX4_readStart 9 = .ok (.ifCond .eq 14, 3) := by decide +kernel
theorem dX4_readStart_12 : decode cX4_readStart 12 = .ok (.aload_n 0, 1) := by decide +kernel
theorem dX4_readStart_13 : decode cX4_readStart 13 = .ok (.getfield 9, 3) := by decide +kernel
theorem dX4_readStart_16 : decode cX4_readStart 16 = .ok (.iconst 0, 1) := by decide +kernel
theorem dX4_readStart_17 : decode cX4_readStart 17 = .ok (.caload, 1) := by decide +kernel
theorem dX4_readStart_18 : decode cX4_readStart 18 = .ok (.bipush 87, 2) := by decide +kernel
theorem dX4_readStart_20 : decode cX4_readStart 20 = .ok (.if_icmp .eq 5, 3) := by decide +kernel
theorem dX4_readStart_23 : decode cX4_readStart 23 = .ok (.iconst 0, 1) := by decide +kernel
theorem dX4_readStart_24 : decode cX4_readStart 24 = .ok (.ireturn, 1) := by decide +kernel
theorem dX4_readStart_25 : decode cX4_readStart 25 = .ok (.aload_n 0, 1) := by decide +kernel
theorem dX4_readStart_26 : decode cX4_readStart 26 = .ok (.iconst 1, 1) := by decide +kernel
theorem dX4_readStart_27 : decode cX4_readStart 27 = .ok (.putfield 23, 3) := by decide +kernel
theorem dX4_readStart_30 : decode cX4_readStart 30 = .ok (.iconst 1, 1) := by decide +kernel
theorem dX4_readStart_31 : decode cX4_readStart 31 = .ok (.ireturn, 1) := by decide +kernel
theorem dX4_hasMore_0 : decode cX4_hasMore 0 = .ok (.aload_n 0, 1) := by decide +kernel
theorem dX4_hasMore_1 : decode cX4_hasMore 1 = .ok (.getfield 23, 3) := by decide +kernel
theorem dX4_hasMore_4 : decode cX4_hasMore 4 = .ok (.aload_n 0, 1) := by decide +kernel
theorem dX4_hasMore_5 : decode cX4_hasMore 5 = .ok (.getfield 33, 3) := by decide +kernel
theorem dX4_hasMore_8 : decode cX4_hasMore 8 = .ok (.if_icmp .ge 7, 3) := by decide +kernel
theorem dX4_hasMore_11 : decode cX4_hasMore 11 = .ok (.iconst 1, 1) := by decide +kernel
theorem dX4_hasMore_12 : decode cX4_hasMore 12 = .ok (.goto 4, 3) := by decide +kernel
theorem dX4_hasMore_15 : decode cX4_hasMore 15 = .ok (.iconst 0, 1) := by decide +kernel
theorem dX4_hasMore_16 : decode cX4_hasMore 16 = .ok (.ireturn, 1) := by decide +kernel
theorem dX4_readCommand_0 : decode cX4_readCommand 0 = .ok (.aload_n 0, 1) := by decide +kernel
theorem dX4_readCommand_1 : decode cX4_readCommand 1 = .ok (.invokevirtual 27, 3) := by decide +kernel
theorem dX4_readCommand_4 : decode cX4_readCommand 4 = .ok (.ifCond .ne 5, 3) := by decide +kernel
theorem dX4_readCommand_7 : decode cX4_readCommand 7 = .ok (.iconst 0, 1) := by decide +kernel
theorem dX4_readCommand_8 : decode cX4_readCommand 8 = .ok (.ireturn, 1) := by decide +kernel
theorem dX4_readCommand_9 : decode cX4_readCommand 9 = .ok (.aload_n 0, 1) := by decide +kernel
theorem dX4_readCommand_10 : decode cX4_readCommand 10 = .ok (.aload_n 0, 1) := by decide +kernel
theorem dX4_readCommand_11 : decode cX4_readCommand 11 = .ok (.getfield 9, 3) := by decide +kernel
theorem dX4_readCommand_14 : decode cX4_readCommand 14 = .ok (.aload_n 0, 1) := by decide +kernel
theorem dX4_readCommand_15 : decode cX4_readCommand 15 = .ok (.getfield 23, 3) := by decide +kernel
theorem dX4_readCommand_18 : decode cX4_readCommand 18 = .ok (.caload, 1) := by decide +kernel
theorem dX4_readCommand_19 : decode cX4_readCommand 19 = .ok (.putfield 36, 3) := by decide +kernel
theorem dX4_readCommand_22 : decode cX4_readCommand 22 = .ok (.aload_n 0, 1) := by decide +kernel
theorem dX4_readCommand_23 : decode cX4_readCommand 23 = .ok (.getfield 36, 3) := by decide +kernel
theorem dX4_readCommand_26 : decode cX4_readCommand 26 = .ok (.invokestatic 39, 3) := by decide +kernel
theorem dX4_readCommand_29 : decode cX4_readCommand 29 = .ok (.astore_n 1, 1) := by decide +kernel
theorem dX4_readCommand_30 : decode cX4_readCommand 30 = .ok (.aload_n 1, 1) := by decide +kernel
theorem dX4_readCommand_31 : decode cX4_readCommand 31 = .ok (.arraylength, 1) := by decide +kernel
theorem dX4_readCommand_32 : decode cX4_readCommand 32 = .ok (.ifCond .ne 5, 3) := by decide +kernel
theorem dX4_readCommand_35 : decode cX4_readCommand 35 = .ok (.iconst 0, 1) := by decide +kernel
theorem dX4_readCommand_36 : decode cX4_readCommand 36 = .ok (.ireturn, 1) := by decide +kernel
theorem dX4_readCommand_37 : decode cX4_readCommand 37 = .ok (.aload_n 0, 1) := by decide +kernel
theorem dX4_readCommand_38 : decode cX4_readCommand 38 = .ok (.dup, 1) := by decide +kernel
theorem dX4_readCommand_39 : decode cX4_readCommand 39 = .ok (.getfield 23, 3) := by decide +kernel
theorem dX4_readCommand_42 : decode cX4_readCommand 42 = .ok (.iconst 1, 1) := by decide +kernel
theorem dX4_readCommand_43 : decode cX4_readCommand 43 = .ok (.iadd, 1) := by decide +kernel
theorem dX4_readCommand_44 : decode cX4_readCommand 44 = .ok (.putfield 23, 3) := by decide +kernel
theorem dX4_readCommand_47 : decode cX4_readCommand 47 = .ok (.iconst 0, 1) := by decide +kernel
theorem dX4_readCommand_48 : decode cX4_readCommand 48 = .ok (.istore_n 2, 1) := by decide +kernel
theorem dX4_readCommand_49 : decode cX4_readCommand 49 = .ok (.iconst 2, 1) := by decide +kernel
theorem dX4_readCommand_50 : decode cX4_readCommand 50 = .ok (.iload_n 2, 1) := by decide +kernel
theorem dX4_readCommand_51 : decode cX4_readCommand 51 = .ok (.imul, 1) := by decide +kernel
theorem dX4_readCommand_52 : decode cX4_readCommand 52 = .ok (.iconst 1, 1) := by decide +kernel
theorem dX4_readCommand_53 : decode cX4_readCommand 53 = .ok (.iadd, 1) := by decide +kernel
theorem dX4_readCommand_54 : decode cX4_readCommand 54 = .ok (.aload_n 1, 1) := by decide +kernel
theorem dX4_readCommand_55 : decode cX4_readCommand 55 = .ok (.arraylength, 1) := by decide +kernel
theorem dX4_readCommand_56 : decode cX4_readCommand 56 = .ok (.if_icmp .ge 36, 3) := by decide +kernel
theorem dX4_readCommand_59 : decode cX4_readCommand 59 = .ok (.iload_n 2, 1) := by decide +kernel
theorem dX4_readCommand_60 : decode cX4_readCommand 60 = .ok (.iconst 5, 1) := by decide +kernel
theorem dX4_readCommand_61 : decode cX4_readCommand 61 = .ok (.if_icmp .ge 31, 3) := by decide +kernel
theorem dX4_readCommand_64 : decode cX4_readCommand 64 = .ok (.aload_n 0, 1) := by decide +kernel
theorem dX4_readCommand_65 : decode cX4_readCommand 65 = .ok (.iload_n 2, 1) := by decide +kernel
theorem dX4_readCommand_66 : decode cX4_readCommand 66 = .ok (.aload_n 1, 1) := by decide +kernel
theorem dX4_readCommand_67 : decode cX4_readCommand 67 = .ok (.iconst 2, 1) := by decide +kernel
theorem dX4_readCommand_68 : decode cX4_readCommand 68 = .ok (.iload_n 2, 1) := by decide +kernel
theorem dX4_readCommand_69 : decode cX4_readCommand 69 = .ok (.imul, 1) := by decide +kernel
theorem dX4_readCommand_70 : decode cX4_readCommand 70 = .ok (.iaload, 1) := by decide +kernel
theorem dX4_readCommand_71 : decode cX4_readCommand 71 = .ok (.aload_n 1, 1) := by decide +kernel
theorem dX4_readCommand_72 : decode cX4_readCommand 72 = .ok (.iconst 2, 1) := by decide +kernel
theorem dX4_readCommand_73 : decode cX4_readCommand 73 = .ok (.iload_n 2, 1) := by decide +kernel
theorem dX4_readCommand_74 : decode cX4_readCommand 74 = .ok (.imul, 1) := by decide +kernel
theorem dX4_readCommand_75 : decode cX4_readCommand 75 = .ok (.iconst 1, 1) := by decide +kernel
theorem dX4_readCommand_76 : decode cX4_readCommand 76 = .ok (.iadd, 1) := by decide +kernel
theorem dX4_readCommand_77 : decode cX4_readCommand 77 = .ok (.iaload, 1) := by decide +kernel
theorem dX4_readCommand_78 : decode cX4_readCommand 78 = .ok (.invokevirtual 43, 3) := by decide +kernel
theorem dX4_readCommand_81 : decode cX4_readCommand 81 = .ok (.ifCond .ne 5, 3) := by decide +kernel
theorem dX4_readCommand_84 : decode cX4_readCommand 84 = .ok (.iconst 0, 1) := by decide +kernel
theorem dX4_readCommand_85 : decode cX4_readCommand 85 = .ok (.ireturn, 1) := by decide +kernel
theorem dX4_readCommand_86 : decode cX4_readCommand 86 = .ok (.iinc 2 1, 3) := by decide +kernel
theorem dX4_readCommand_89 : decode cX4_readCommand 89 = .ok (.goto (-40), 3) := by decide +kernel
theorem dX4_readCommand_92 : decode cX4_readCommand 92 = .ok (.iconst 1, 1) := by decide +kernel
theorem dX4_readCommand_93 : decode cX4_readCommand 93 = .ok (.ireturn, 1) := by decide +kernel
theorem dX4_boundsOf_0 : decode cX4_boundsOf 0 = .ok (.iload_n 0, 1) := by decide +kernel
theorem dX4_boundsOf_1 : decode cX4_boundsOf 1 = .ok (.tableswitch 111 100 118 #[95, 111, 111, 111, 111, 111, 111, 99, 103, 111, 111, 111, 111, 111, 99, 111, 107, 111, 91], 91) := by decide +kernel
theorem dX4_boundsOf_92 : decode cX4_boundsOf 92 = .ok (.getstatic 47, 3) := by decide +kernel
theorem dX4_boundsOf_95 : decode cX4_boundsOf 95 = .ok (.areturn, 1) := by decide +kernel
theorem dX4_boundsOf_96 : decode cX4_boundsOf 96 = .ok (.getstatic 50, 3) := by decide +kernel
theorem dX4_boundsOf_99 : decode cX4_boundsOf 99 = .ok (.areturn, 1) := by decide +kernel
theorem dX4_boundsOf_100 : decode cX4_boundsOf 100 = .ok (.getstatic 53, 3) := by decide +kernel
theorem dX4_boundsOf_103 : decode cX4_boundsOf 103 = .ok (.areturn, 1) := by decide +kernel
theorem dX4_boundsOf_104 : decode cX4_boundsOf 104 = .ok (.getstatic 56, 3) := by decide +kernel
theorem dX4_boundsOf_107 : decode cX4_boundsOf 107 = .ok (.areturn, 1) := by decide +kernel
theorem dX4_boundsOf_108 : decode cX4_boundsOf 108 = .ok (.getstatic 59, 3) := by decide +kernel
theorem dX4_boundsOf_111 : decode cX4_boundsOf 111 = .ok (.areturn, 1) := by decide +kernel
theorem dX4_boundsOf_112 : decode cX4_boundsOf 112 = .ok (.getstatic 62, 3) := by decide +kernel
theorem dX4_boundsOf_115 : decode cX4_boundsOf 115 = .ok (.areturn, 1) := by decide +kernel
theorem dX4_readNumber_0 : decode cX4_readNumber 0 = .ok (.iload_n 3, 1) := by decide +kernel
theorem dX4_readNumber_1 : decode cX4_readNumber 1 = .ok (.bipush 9, 2) := by decide +kernel
theorem dX4_readNumber_3 : decode cX4_readNumber 3 = .ok (.if_icmp .le 7, 3) := by decide +kernel
theorem dX4_readNumber_6 : decode cX4_readNumber 6 = .ok (.iconst 2, 1) := by decide +kernel
theorem dX4_readNumber_7 : decode cX4_readNumber 7 = .ok (.goto 4, 3) := by decide +kernel
theorem dX4_readNumber_10 : decode cX4_readNumber 10 = .ok (.iconst 1, 1) := by decide +kernel
theorem dX4_readNumber_11 : decode cX4_readNumber 11 = .ok (.istore 4, 2) := by decide +kernel
theorem dX4_readNumber_13 : decode cX4_readNumber 13 = .ok (.iconst 0, 1) := by decide +kernel
theorem dX4_readNumber_14 : decode cX4_readNumber 14 = .ok (.istore 5, 2) := by decide +kernel
theorem dX4_readNumber_16 : decode cX4_readNumber 16 = .ok (.iconst 1, 1) := by decide +kernel
theorem dX4_readNumber_17 : decode cX4_readNumber 17 = .ok (.istore 6, 2) := by decide +kernel
theorem dX4_readNumber_19 : decode cX4_readNumber 19 = .ok (.iload 6, 2) := by decide +kernel
theorem dX4_readNumber_21 : decode cX4_readNumber 21 = .ok (.iload 4, 2) := by decide +kernel
theorem dX4_readNumber_23 : decode cX4_readNumber 23 = .ok (.if_icmp .gt 108, 3) := by decide +kernel
theorem dX4_readNumber_26 : decode cX4_readNumber 26 = .ok (.aload_n 0, 1) := by decide +kernel
theorem dX4_readNumber_27 : decode cX4_readNumber 27 = .ok (.invokevirtual 27, 3) := by decide +kernel
theorem dX4_readNumber_30 : decode cX4_readNumber 30 = .ok (.ifCond .eq 22, 3) := by decide +kernel
theorem dX4_readNumber_33 : decode cX4_readNumber 33 = .ok (.aload_n 0, 1) := by decide +kernel
theorem dX4_readNumber_34 : decode cX4_readNumber 34 = .ok (.getfield 9, 3) := by decide +kernel
theorem dX4_readNumber_37 : decode cX4_readNumber 37 = .ok (.aload_n 0, 1) := by decide +kernel
theorem dX4_readNumber_38 : decode cX4_readNumber 38 = .ok (.getfield 23, 3) := by decide +kernel
theorem dX4_readNumber_41 : decode cX4_readNumber 41 = .ok (.caload, 1) := by decide +kernel
theorem dX4_readNumber_42 : decode cX4_readNumber 42 = .ok (.bipush 48, 2) := by decide +kernel
theorem dX4_readNumber_44 : decode cX4_readNumber 44 = .ok (.bipush 57, 2) := by decide +kernel
theorem dX4_readNumber_46 : decode cX4_readNumber 46 = .ok (.invokestatic 65, 3) := by decide +kernel
theorem dX4_readNumber_49 : decode cX4_readNumber 49 = .ok (.ifCond .ne 5, 3) := by decide +kernel
theorem dX4_readNumber_52 : decode cX4_readNumber 52 = .ok (.iconst 0, 1) := by decide +kernel
theorem dX4_readNumber_53 : decode cX4_readNumber 53 = .ok (.ireturn, 1) := by decide +kernel
theorem dX4_readNumber_54 : decode cX4_readNumber 54 = .ok (.bipush 10, 2) := by decide +kernel
theorem dX4_readNumber_56 : decode cX4_readNumber 56 = .ok (.iload 5, 2) := by decide +kernel
theorem dX4_readNumber_58 : decode cX4_readNumber 58 = .ok (.imul, 1) := by decide +kernel
theorem dX4_readNumber_59 : decode cX4_readNumber 59 = .ok (.aload_n 0, 1) := by decide +kernel
theorem dX4_readNumber_60 : decode cX4_readNumber 60 = .ok (.getfield 9, 3) := by decide +kernel
theorem dX4_readNumber_63 : decode cX4_readNumber 63 = .ok (.aload_n 0, 1) := by decide +kernel
theorem dX4_readNumber_64 : decode cX4_readNumber 64 = .ok (.getfield 23, 3) := by decide +kernel
theorem dX4_readNumber_67 : decode cX4_readNumber 67 = .ok (.caload, 1) := by decide +kernel
theorem dX4_readNumber_68 : decode cX4_readNumber 68 = .ok (.iadd, 1) := by decide +kernel
theorem dX4_readNumber_69 : decode cX4_readNumber 69 = .ok (.bipush 48, 2) := by decide +kernel
theorem dX4_readNumber_71 : decode cX4_readNumber 71 = .ok (.isub, 1) := by decide +kernel
theorem dX4_readNumber_72 : decode cX4_readNumber 72 = .ok (.istore 5, 2) := by decide +kernel
theorem dX4_readNumber_74 : decode cX4_readNumber 74 = .ok (.iload 6, 2) := by decide +kernel
theorem dX4_readNumber_76 : decode cX4_readNumber 76 = .ok (.iload 4, 2) := by decide +kernel
theorem dX4_readNumber_78 : decode cX4_readNumber 78 = .ok (.if_icmp .ge 8, 3) := by decide +kernel
theorem dX4_readNumber_81 : decode cX4_readNumber 81 = .ok (.bipush 10, 2) := by decide +kernel
theorem dX4_readNumber_83 : decode cX4_readNumber 83 = .ok (.goto 4, 3) := by decide +kernel
theorem dX4_readNumber_86 : decode cX4_readNumber 86 = .ok (.iconst 1, 1) := by decide +kernel
theorem dX4_readNumber_87 : decode cX4_readNumber 87 = .ok (.istore 7, 2) := by decide +kernel
theorem dX4_readNumber_89 : decode cX4_readNumber 89 = .ok (.iload 5, 2) := by decide +kernel
theorem dX4_readNumber_91 : decode cX4_readNumber 91 = .ok (.iload 7, 2) := by decide +kernel
theorem dX4_readNumber_93 : decode cX4_readNumber 93 = .ok (.imul, 1) := by decide +kernel
theorem dX4_readNumber_94 : decode cX4_readNumber 94 = .ok (.istore 8, 2) := by decide +kernel
theorem dX4_readNumber_96 : decode cX4_readNumber 96 = .ok (.iload 8, 2) := by decide +kernel
theorem dX4_readNumber_98 : decode cX4_readNumber 98 = .ok (.iload_n 3, 1) := by decide +kernel
theorem dX4_readNumber_99 : decode cX4_readNumber 99 = .ok (.if_icmp .gt 14, 3) := by decide +kernel
theorem dX4_readNumber_102 : decode cX4_readNumber 102 = .ok (.iload 8, 2) := by decide +kernel
theorem dX4_readNumber_104 : decode cX4_readNumber 104 = .ok (.iload 7, 2) := by decide +kernel
theorem dX4_readNumber_106 : decode cX4_readNumber 106 = .ok (.iadd, 1) := by decide +kernel
theorem dX4_readNumber_107 : decode cX4_readNumber 107 = .ok (.iconst 1, 1) := by decide +kernel
theorem dX4_readNumber_108 : decode cX4_readNumber 108 = .ok (.isub, 1) := by decide +kernel
theorem dX4_readNumber_109 : decode cX4_readNumber 109 = .ok (.iload_n 2, 1) := by decide +kernel
theorem dX4_readNumber_110 : decode cX4_readNumber 110 = .ok (.if_icmp .ge 5, 3) := by decide +kernel
theorem dX4_readNumber_113 : decode cX4_readNumber 113 = .ok (.iconst 0, 1) := by decide +kernel
theorem dX4_readNumber_114 : decode cX4_readNumber 114 = .ok (.ireturn, 1) := by decide +kernel
theorem dX4_readNumber_115 : decode cX4_readNumber 115 = .ok (.aload_n 0, 1) := by decide +kernel
theorem dX4_readNumber_116 : decode cX4_readNumber 116 = .ok (.dup, 1) := by decide +kernel
theorem dX4_readNumber_117 : decode cX4_readNumber 117 = .ok (.getfield 23, 3) := by decide +kernel
theorem dX4_readNumber_120 : decode cX4_readNumber 120 = .ok (.iconst 1, 1) := by decide +kernel
theorem dX4_readNumber_121 : decode cX4_readNumber 121 = .ok (.iadd, 1) := by decide +kernel
theorem dX4_readNumber_122 : decode cX4_readNumber 122 = .ok (.putfield 23, 3) := by decide +kernel
theorem dX4_readNumber_125 : decode cX4_readNumber 125 = .ok (.iinc 6 1, 3) := by decide +kernel
theorem dX4_readNumber_128 : decode cX4_readNumber 128 = .ok (.goto (-109), 3) := by decide +kernel
theorem dX4_readNumber_131 : decode cX4_readNumber 131 = .ok (.aload_n 0, 1) := by decide +kernel
theorem dX4_readNumber_132 : decode cX4_readNumber 132 = .ok (.getfield 15, 3) := by decide +kernel
theorem dX4_readNumber_135 : decode cX4_readNumber 135 = .ok (.iload_n 1, 1) := by decide +kernel
theorem dX4_readNumber_136 : decode cX4_readNumber 136 = .ok (.iload 5, 2) := by decide +kernel
theorem dX4_readNumber_138 : decode cX4_readNumber 138 = .ok (.iastore, 1) := by decide +kernel
theorem dX4_readNumber_139 : decode cX4_readNumber 139 = .ok (.iconst 1, 1) := by decide +kernel
theorem dX4_readNumber_140 : decode cX4_readNumber 140 = .ok (.ireturn, 1) := by decide +kernel
theorem dX4_doCommand_0 : decode cX4_doCommand 0 = .ok (.aload_n 0, 1) := by decide +kernel
theorem dX4_doCommand_1 : decode cX4_doCommand 1 = .ok (.getfield 36, 3) := by decide +kernel
theorem dX4_doCommand_4 : decode cX4_doCommand 4 = .ok (.lookupswitch 145 #[(100, 69), (107, 104), (108, 128), (114, 116), (118, 52)], 52) := by decide +kernel
theorem dX4_doCommand_56 : decode cX4_doCommand 56 = .ok (.aload_n 1, 1) := by decide +kernel
theorem dX4_doCommand_57 : decode cX4_doCommand 57 = .ok (.aload_n 0, 1) := by decide +kernel
theorem dX4_doCommand_58 : decode cX4_doCommand 58 = .ok (.getfield 15, 3) := by decide +kernel
theorem dX4_doCommand_61 : decode cX4_doCommand 61 = .ok (.iconst 0, 1) := by decide +kernel
theorem dX4_doCommand_62 : decode cX4_doCommand 62 = .ok (.iaload, 1) := by decide +kernel
theorem dX4_doCommand_63 : decode cX4_doCommand 63 = .ok (.aload_n 0, 1) := by decide +kernel
theorem dX4_doCommand_64 : decode cX4_doCommand 64 = .ok (.getfield 15, 3) := by decide +kernel
theorem dX4_doCommand_67 : decode cX4_doCommand 67 = .ok (.iconst 1, 1) := by decide +kernel
theorem dX4_doCommand_68 : decode cX4_doCommand 68 = .ok (.iaload, 1) := by decide +kernel
theorem dX4_doCommand_69 : decode cX4_doCommand 69 = .ok (.invokestatic 68, 3) := by decide +kernel
theorem dX4_doCommand_72 : decode cX4_doCommand 72 = .ok (.ireturn, 1) := by decide +kernel
theorem dX4_doCommand_73 : decode cX4_doCommand 73 = .ok (.aload_n 1, 1) := by decide +kernel
theorem dX4_doCommand_74 : decode cX4_doCommand 74 = .ok (.aload_n 0, 1) := by decide +kernel
theorem dX4_doCommand_75 : decode cX4_doCommand 75 = .ok (.getfield 15, 3) := by decide +kernel
theorem dX4_doCommand_78 : decode cX4_doCommand 78 = .ok (.iconst 0, 1) := by decide +kernel
theorem dX4_doCommand_79 : decode cX4_doCommand 79 = .ok (.iaload, 1) := by decide +kernel
theorem dX4_doCommand_80 : decode cX4_doCommand 80 = .ok (.aload_n 0, 1) := by decide +kernel
theorem dX4_doCommand_81 : decode cX4_doCommand 81 = .ok (.getfield 15, 3) := by decide +kernel
theorem dX4_doCommand_84 : decode cX4_doCommand 84 = .ok (.iconst 1, 1) := by decide +kernel
theorem dX4_doCommand_85 : decode cX4_doCommand 85 = .ok (.iaload, 1) := by decide +kernel
theorem dX4_doCommand_86 : decode cX4_doCommand 86 = .ok (.aload_n 0, 1) := by decide +kernel
theorem dX4_doCommand_87 : decode cX4_doCommand 87 = .ok (.getfield 15, 3) := by decide +kernel
theorem dX4_doCommand_90 : decode cX4_doCommand 90 = .ok (.iconst 2, 1) := by decide +kernel
theorem dX4_doCommand_91 : decode cX4_doCommand 91 = .ok (.iaload, 1) := by decide +kernel
theorem dX4_doCommand_92 : decode cX4_doCommand 92 = .ok (.aload_n 0, 1) := by decide +kernel
theorem dX4_doCommand_93 : decode cX4_doCommand 93 = .ok (.getfield 15, 3) := by decide +kernel
theorem dX4_doCommand_96 : decode cX4_doCommand 96 = .ok (.iconst 3, 1) := by decide +kernel
theorem dX4_doCommand_97 : decode cX4_doCommand 97 = .ok (.iaload, 1) := by decide +kernel
theorem dX4_doCommand_98 : decode cX4_doCommand 98 = .ok (.aload_n 0, 1) := by decide +kernel
theorem dX4_doCommand_99 : decode cX4_doCommand 99 = .ok (.getfield 15, 3) := by decide +kernel
theorem dX4_doCommand_102 : decode cX4_doCommand 102 = .ok (.iconst 4, 1) := by decide +kernel
theorem dX4_doCommand_103 : decode cX4_doCommand 103 = .ok (.iaload, 1) := by decide +kernel
theorem dX4_doCommand_104 : decode cX4_doCommand 104 = .ok (.invokestatic 74, 3) := by decide +kernel
theorem dX4_doCommand_107 : decode cX4_doCommand 107 = .ok (.ireturn, 1) := by decide +kernel
theorem dX4_doCommand_108 : decode cX4_doCommand 108 = .ok (.aload_n 1, 1) := by decide +kernel
theorem dX4_doCommand_109 : decode cX4_doCommand 109 = .ok (.aload_n 0, 1) := by decide +kernel
theorem dX4_doCommand_110 : decode cX4_doCommand 110 = .ok (.getfield 15, 3) := by decide +kernel
theorem dX4_doCommand_113 : decode cX4_doCommand 113 = .ok (.iconst 0, 1) := by decide +kernel
theorem dX4_doCommand_114 : decode cX4_doCommand 114 = .ok (.iaload, 1) := by decide +kernel
theorem dX4_doCommand_115 : decode cX4_doCommand 115 = .ok (.iconst 1, 1) := by decide +kernel
theorem dX4_doCommand_116 : decode cX4_doCommand 116 = .ok (.invokestatic 78, 3) := by decide +kernel
theorem dX4_doCommand_119 : decode cX4_doCommand 119 = .ok (.ireturn, 1) := by decide +kernel
theorem dX4_doCommand_120 : decode cX4_doCommand 120 = .ok (.aload_n 1, 1) := by decide +kernel
theorem dX4_doCommand_121 : decode cX4_doCommand 121 = .ok (.aload_n 0, 1) := by decide +kernel
theorem dX4_doCommand_122 : decode cX4_doCommand 122 = .ok (.getfield 15, 3) := by decide +kernel
theorem dX4_doCommand_125 : decode cX4_doCommand 125 = .ok (.iconst 0, 1) := by decide +kernel
theorem dX4_doCommand_126 : decode cX4_doCommand 126 = .ok (.iaload, 1) := by decide +kernel
theorem dX4_doCommand_127 : decode cX4_doCommand 127 = .ok (.iconst 0, 1) := by decide +kernel
theorem dX4_doCommand_128 : decode cX4_doCommand 128 = .ok (.invokestatic 78, 3) := by decide +kernel
theorem dX4_doCommand_131 : decode cX4_doCommand 131 = .ok (.ireturn, 1) := by decide +kernel
theorem dX4_doCommand_132 : decode cX4_doCommand 132 = .ok (.aload_n 1, 1) := by decide +kernel
theorem dX4_doCommand_133 : decode cX4_doCommand 133 = .ok (.aload_n 0, 1) := by decide +kernel
theorem dX4_doCommand_134 : decode cX4_doCommand 134 = .ok (.getfield 15, 3) := by decide +kernel
theorem dX4_doCommand_137 : decode cX4_doCommand 137 = .ok (.iconst 0, 1) := by decide +kernel
theorem dX4_doCommand_138 : decode cX4_doCommand 138 = .ok (.iaload, 1) := by decide +kernel
theorem dX4_doCommand_139 : decode cX4_doCommand 139 = .ok (.aload_n 0, 1) := by decide +kernel
theorem dX4_doCommand_140 : decode cX4_doCommand 140 = .ok (.getfield 15, 3) := by decide +kernel
theorem dX4_doCommand_143 : decode cX4_doCommand 143 = .ok (.iconst 1, 1) := by decide +kernel
theorem dX4_doCommand_144 : decode cX4_doCommand 144 = .ok (.iaload, 1) := by decide +kernel
theorem dX4_doCommand_145 : decode cX4_doCommand 145 = .ok (.invokestatic 82, 3) := by decide +kernel
theorem dX4_doCommand_148 : decode cX4_doCommand 148 = .ok (.ireturn, 1) := by decide +kernel
theorem dX4_doCommand_149 : decode cX4_doCommand 149 = .ok (.aload_n 1, 1) := by decide +kernel
theorem dX4_doCommand_150 : decode cX4_doCommand 150 = .ok (.aload_n 0, 1) := by decide +kernel
theorem dX4_doCommand_151 : decode cX4_doCommand 151 = .ok (.getfield 15, 3) := by decide +kernel
theorem dX4_doCommand_154 : decode cX4_doCommand 154 = .ok (.iconst 0, 1) := by decide +kernel
theorem dX4_doCommand_155 : decode cX4_doCommand 155 = .ok (.iaload, 1) := by decide +kernel
theorem dX4_doCommand_156 : decode cX4_doCommand 156 = .ok (.invokestatic 85, 3) := by decide +kernel
theorem dX4_doCommand_159 : decode cX4_doCommand 159 = .ok (.ireturn, 1) := by decide +kernel
theorem dX5_init_0 : decode cX5_init 0 = .ok (.aload_n 0, 1) := by decide +kernel
theorem dX5_init_1 : decode cX5_init 1 = .ok (.invokespecial 1, 3) := by decide +kernel
theorem dX5_init_4 : decode cX5_init 4 = .ok (.aload_n 0, 1) := by decide +kernel
theorem dX5_init_5 : decode cX5_init 5 = .ok (.new 7, 3) := by decide +kernel
theorem dX5_init_8 : decode cX5_init 8 = .ok (.dup, 1) := by decide +kernel
theorem dX5_init_9 : decode cX5_init 9 = .ok (.invokespecial 9, 3) := by decide +kernel
theorem dX5_init_12 : decode cX5_init 12 = .ok (.putfield 10, 3) := by decide +kernel
theorem dX5_init_15 : decode cX5_init 15 = .ok (.aload_n 0, 1) := by decide +kernel
theorem dX5_init_16 : decode cX5_init 16 = .ok (.new 16, 3) := by decide +kernel
theorem dX5_init_19 : decode cX5_init 19 = .ok (.dup, 1) := by decide +kernel
theorem dX5_init_20 : decode cX5_init 20 = .ok (.invokespecial 18, 3) := by decide +kernel
theorem dX5_init_23 : decode cX5_init 23 = .ok (.putfield 19, 3) := by decide +kernel
theorem dX5_init_26 : decode cX5_init 26 = .ok (.aload_n 0, 1) := by decide +kernel
theorem dX5_init_27 : decode cX5_init 27 = .ok (.new 23, 3) := by decide +kernel
theorem dX5_init_30 : decode cX5_init 30 = .ok (.dup, 1) := by decide +kernel
theorem dX5_init_31 : decode cX5_init 31 = .ok (.invokespecial 25, 3) := by decide +kernel
theorem dX5_init_34 : decode cX5_init 34 = .ok (.putfield 26, 3) := by decide +kernel
theorem dX5_init_37 : decode cX5_init 37 = .ok (.aload_n 0, 1) := by decide +kernel
theorem dX5_init_38 : decode cX5_init 38 = .ok (.iconst 2, 1) := by decide +kernel
theorem dX5_init_39 : decode cX5_init 39 = .ok (.anewarray 16, 3) := by decide +kernel
theorem dX5_init_42 : decode cX5_init 42 = .ok (.putfield 30, 3) := by decide +kernel
theorem dX5_init_45 : decode cX5_init 45 = .ok (.aload_n 0, 1) := by decide +kernel
theorem dX5_init_46 : decode cX5_init 46 = .ok (.iconst 2, 1) := by decide +kernel
theorem dX5_init_47 : decode cX5_init 47 = .ok (.newarray .boolean, 2) := by decide +kernel
theorem dX5_init_49 : decode cX5_init 49 = .ok (.putfield 34, 3) := by decide +kernel
theorem dX5_init_52 : decode cX5_init 52 = .ok (.aload_n 0, 1) := by decide +kernel
theorem dX5_init_53 : decode cX5_init 53 = .ok (.new 16, 3) := by decide +kernel
theorem dX5_init_56 : decode cX5_init 56 = .ok (.dup, 1) := by decide +kernel
theorem dX5_init_57 : decode cX5_init 57 = .ok (.invokespecial 18, 3) := by decide +kernel
theorem dX5_init_60 : decode cX5_init 60 = .ok (.putfield 38, 3) := by decide +kernel
theorem dX5_init_63 : decode cX5_init 63 = .ok (.aload_n 0, 1) := by decide +kernel
theorem dX5_init_64 : decode cX5_init 64 = .ok (.new 16, 3) := by decide +kernel
theorem dX5_init_67 : decode cX5_init 67 = .ok (.dup, 1) := by decide +kernel
theorem dX5_init_68 : decode cX5_init 68 = .ok (.invokespecial 18, 3) := by decide +kernel
theorem dX5_init_71 : decode cX5_init 71 = .ok (.putfield 41, 3) := by decide +kernel
theorem dX5_init_74 : decode cX5_init 74 = .ok (.iconst 0, 1) := by decide +kernel
theorem dX5_init_75 : decode cX5_init 75 = .ok (.istore_n 1, 1) := by decide +kernel
theorem dX5_init_76 : decode cX5_init 76 = .ok (.iload_n 1, 1) := by decide +kernel
theorem dX5_init_77 : decode cX5_init 77 = .ok (.iconst 2, 1) := by decide +kernel
theorem dX5_init_78 : decode cX5_init 78 = .ok (.if_icmp .ge 22, 3) := by decide +kernel
theorem dX5_init_81 : decode cX5_init 81 = .ok (.aload_n 0, 1) := by decide +kernel
theorem dX5_init_82 : decode cX5_init 82 = .ok (.getfield 30, 3) := by decide +kernel
theorem dX5_init_85 : decode cX5_init 85 = .ok (.iload_n 1, 1) := by decide +kernel
theorem dX5_init_86 : decode cX5_init 86 = .ok (.new 16, 3) := by decide +kernel
theorem dX5_init_89 : decode cX5_init 89 = .ok (.dup, 1) := by decide +kernel
theorem dX5_init_90 : decode cX5_init 90 = .ok (.invokespecial 18, 3) := by decide +kernel
theorem dX5_init_93 : decode cX5_init 93 = .ok (.aastore, 1) := by decide +kernel
theorem dX5_init_94 : decode cX5_init 94 = .ok (.iinc 1 1, 3) := by decide +kernel
theorem dX5_init_97 : decode cX5_init 97 = .ok (.goto (-21), 3) := by decide +kernel
theorem dX5_init_100 : decode cX5_init 100 = .ok (.return_, 1) := by decide +kernel
theorem dX5_append_0 : decode cX5_append 0 = .ok (.iload_n 1, 1) := by decide +kernel
theorem dX5_append_1 : decode cX5_append 1 = .ok (.iconst 0, 1) := by decide +kernel
theorem dX5_append_2 : decode cX5_append 2 = .ok (.sipush 255, 3) := by decide +kernel
theorem dX5_append_5 : decode cX5_append 5 = .ok (.invokestatic 44, 3) := by decide +kernel
theorem dX5_append_8 : decode cX5_append 8 = .ok (.ifCond .ne 11, 3) := by decide +kernel
theorem dX5_append_11 : decode cX5_append 11 = .ok (.new 48, 3) := by decide +kernel
theorem dX5_append_14 : decode cX5_append 14 = .ok (.dup, 1) := by decide +kernel
theorem dX5_append_15 : decode cX5_append 15 = .ok (.invokespecial 50, 3) := by decide +kernel
theorem dX5_append_18 : decode cX5_append 18 = .ok (.athrow, 1) := by decide +kernel
theorem dX5_append_19 : decode cX5_append 19 = .ok (.aload_n 0, 1) := by decide +kernel
theorem dX5_append_20 : decode cX5_append 20 = .ok (.getfield 10, 3) := by decide +kernel
theorem dX5_append_23 : decode cX5_append 23 = .ok (.getfield 51, 3) := by decide +kernel
theorem dX5_append_26 : decode cX5_append 26 = .ok (.bipush 120, 2) := by decide +kernel
theorem dX5_append_28 : decode cX5_append 28 = .ok (.if_icmp .lt 11, 3) := by decide +kernel
theorem dX5_append_31 : decode cX5_append 31 = .ok (.new 55, 3) := by decide +kernel
theorem dX5_append_34 : decode cX5_append 34 = .ok (.dup, 1) := by decide +kernel
theorem dX5_append_35 : decode cX5_append 35 = .ok (.invokespecial 57, 3) := by decide +kernel
theorem dX5_append_38 : decode cX5_append 38 = .ok (.athrow, 1) := by decide +kernel
theorem dX5_append_39 : decode cX5_append 39 = .ok (.aload_n 0, 1) := by decide +kernel
theorem dX5_append_40 : decode cX5_append 40 = .ok (.getfield 10, 3) := by decide +kernel
theorem dX5_append_43 : decode cX5_append 43 = .ok (.getfield 58, 3) := by decide +kernel
theorem dX5_append_46 : decode cX5_append 46 = .ok (.aload_n 0, 1) := by decide +kernel
theorem dX5_append_47 : decode cX5_append 47 = .ok (.getfield 10, 3) := by decide +kernel
theorem dX5_append_50 : decode cX5_append 50 = .ok (.getfield 51, 3) := by decide +kernel
theorem dX5_append_53 : decode cX5_append 53 = .ok (.iload_n 1, 1) := by decide +kernel
theorem dX5_append_54 : decode cX5_append 54 = .ok (.i2c, 1) := by decide +kernel
theorem dX5_append_55 : decode cX5_append 55 = .ok (.castore, 1) := by decide +kernel
theorem dX5_append_56 : decode cX5_append 56 = .ok (.aload_n 0, 1) := by decide +kernel
theorem dX5_append_57 : decode cX5_append 57 = .ok (.getfield 10, 3) := by decide +kernel
theorem dX5_append_60 : decode cX5_append 60 = .ok (.dup, 1) := by decide +kernel
theorem dX5_append_61 : decode cX5_append 61 = .ok (.getfield 51, 3) := by decide +kernel
theorem dX5_append_64 : decode cX5_append 64 = .ok (.iconst 1, 1) := by decide +kernel
theorem dX5_append_65 : decode cX5_append 65 = .ok (.iadd, 1) := by decide +kernel
theorem dX5_append_66 : decode cX5_append 66 = .ok (.putfield 51, 3) := by decide +kernel
theorem dX5_append_69 : decode cX5_append 69 = .ok (.aload_n 0, 1) := by decide +kernel
theorem dX5_append_70 : decode cX5_append 70 = .ok (.getfield 10, 3) := by decide +kernel
theorem dX5_append_73 : decode cX5_append 73 = .ok (.getfield 51, 3) := by decide +kernel
theorem dX5_append_76 : decode cX5_append 76 = .ok (.ireturn, 1) := by decide +kernel
theorem dX5_clearText_0 : decode cX5_clearText 0 = .ok (.aload_n 0, 1) := by decide +kernel
theorem dX5_clearText_1 : decode cX5_clearText 1 = .ok (.getfield 10, 3) := by decide +kernel
theorem dX5_clearText_4 : decode cX5_clearText 4 = .ok (.getfield 51, 3) := by decide +kernel
theorem dX5_clearText_7 : decode cX5_clearText 7 = .ok (.istore_n 1, 1) := by decide +kernel
theorem dX5_clearText_8 : decode cX5_clearText 8 = .ok (.aload_n 0, 1) := by decide +kernel
theorem dX5_clearText_9 : decode cX5_clearText 9 = .ok (.getfield 10, 3) := by decide +kernel
theorem dX5_clearText_12 : decode cX5_clearText 12 = .ok (.iconst 0, 1) := by decide +kernel
theorem dX5_clearText_13 : decode cX5_clearText 13 = .ok (.putfield 51, 3) := by decide +kernel
theorem dX5_clearText_16 : decode cX5_clearText 16 = .ok (.iload_n 1, 1) := by decide +kernel
theorem dX5_clearText_17 : decode cX5_clearText 17 = .ok (.ireturn, 1) := by decide +kernel
theorem dX5_errorPosition_0 : decode cX5_errorPosition 0 = .ok (.aload_n 0, 1) := by decide +kernel
theorem dX5_errorPosition_1 : decode cX5_errorPosition 1 = .ok (.getfield 10, 3) := by decide +kernel
theorem dX5_errorPosition_4 : decode cX5_errorPosition 4 = .ok (.invokevirtual 62, 3) := by decide +kernel
theorem dX5_errorPosition_7 : decode cX5_errorPosition 7 = .ok (.ireturn, 1) := by decide +kernel
theorem dX5_load_0 : decode cX5_load 0 = .ok (.aload_n 0, 1) := by decide +kernel
theorem dX5_load_1 : decode cX5_load 1 = .ok (.getfield 10, 3) := by decide +kernel
theorem dX5_load_4 : decode cX5_load 4 = .ok (.invokevirtual 62, 3) := by decide +kernel
theorem dX5_load_7 : decode cX5_load 7 = .ok (.iconst (-1), 1) := by decide +kernel
theorem dX5_load_8 : decode cX5_load 8 = .ok (.if_icmp .eq 11, 3) := by decide +kernel
theorem dX5_load_11 : decode cX5_load 11 = .ok (.new 55, 3) := by decide +kernel
theorem dX5_load_14 : decode cX5_load 14 = .ok (.dup, 1) := by decide +kernel
theorem dX5_load_15 : decode cX5_load 15 = .ok (.invokespecial 57, 3) := by decide +kernel
theorem dX5_load_18 : decode cX5_load 18 = .ok (.athrow, 1) := by decide +kernel
theorem dX5_load_19 : decode cX5_load 19 = .ok (.aload_n 0, 1) := by decide +kernel
theorem dX5_load_20 : decode cX5_load 20 = .ok (.getfield 19, 3) := by decide +kernel
theorem dX5_load_23 : decode cX5_load 23 = .ok (.invokevirtual 66, 3) := by decide +kernel
theorem dX5_load_26 : decode cX5_load 26 = .ok (.aload_n 0, 1) := by decide +kernel
theorem dX5_load_27 : decode cX5_load 27 = .ok (.getfield 26, 3) := by decide +kernel
theorem dX5_load_30 : decode cX5_load 30 = .ok (.invokevirtual 69, 3) := by decide +kernel
theorem dX5_load_33 : decode cX5_load 33 = .ok (.aload_n 0, 1) := by decide +kernel
theorem dX5_load_34 : decode cX5_load 34 = .ok (.invokevirtual 72, 3) := by decide +kernel
theorem dX5_load_37 : decode cX5_load 37 = .ok (.iconst 0, 1) := by decide +kernel
theorem dX5_load_38 : decode cX5_load 38 = .ok (.istore_n 1, 1) := by decide +kernel
theorem dX5_load_39 : decode cX5_load 39 = .ok (.aload_n 0, 1) := by decide +kernel
theorem dX5_load_40 : decode cX5_load 40 = .ok (.getfield 10, 3) := by decide +kernel
theorem dX5_load_43 : decode cX5_load 43 = .ok (.invokevirtual 75, 3) := by decide +kernel
theorem dX5_load_46 : decode cX5_load 46 = .ok (.pop, 1) := by decide +kernel
theorem dX5_load_47 : decode cX5_load 47 = .ok (.iconst 0, 1) := by decide +kernel
theorem dX5_load_48 : decode cX5_load 48 = .ok (.istore_n 2, 1) := by decide +kernel
theorem dX5_load_49 : decode cX5_load 49 = .ok (.iload_n 2, 1) := by decide +kernel
theorem dX5_load_50 : decode cX5_load 50 = .ok (.bipush 120, 2) := by decide +kernel
theorem dX5_load_52 : decode cX5_load 52 = .ok (.if_icmp .ge 44, 3) := by decide +kernel
theorem dX5_load_55 : decode cX5_load 55 = .ok (.aload_n 0, 1) := by decide +kernel
theorem dX5_load_56 : decode cX5_load 56 = .ok (.getfield 10, 3) := by decide +kernel
theorem dX5_load_59 : decode cX5_load 59 = .ok (.invokevirtual 79, 3) := by decide +kernel
theorem dX5_load_62 : decode cX5_load 62 = .ok (.ifCond .eq 34, 3) := by decide +kernel
theorem dX5_load_65 : decode cX5_load 65 = .ok (.aload_n 0, 1) := by decide +kernel
theorem dX5_load_66 : decode cX5_load 66 = .ok (.getfield 10, 3) := by decide +kernel
theorem dX5_load_69 : decode cX5_load 69 = .ok (.invokevirtual 82, 3) := by decide +kernel
theorem dX5_load_72 : decode cX5_load 72 = .ok (.pop, 1) := by decide +kernel
theorem dX5_load_73 : decode cX5_load 73 = .ok (.aload_n 0, 1) := by decide +kernel
theorem dX5_load_74 : decode cX5_load 74 = .ok (.getfield 10, 3) := by decide +kernel
theorem dX5_load_77 : decode cX5_load 77 = .ok (.aload_n 0, 1) := by decide +kernel
theorem dX5_load_78 : decode cX5_load 78 = .ok (.getfield 19, 3) := by decide +kernel
theorem dX5_load_81 : decode cX5_load 81 = .ok (.invokevirtual 85, 3) := by decide +kernel
theorem dX5_load_84 : decode cX5_load 84 = .ok (.ifCond .ne 6, 3) := by decide +kernel
theorem dX5_load_87 : decode cX5_load 87 = .ok (.iinc 1 1, 3) := by decide +kernel
theorem dX5_load_90 : decode cX5_load 90 = .ok (.iinc 2 1, 3) := by decide +kernel
theorem dX5_load_93 : decode cX5_load 93 = .ok (.goto (-44), 3) := by decide +kernel
theorem dX5_load_96 : decode cX5_load 96 = .ok (.iload_n 1, 1) := by decide +kernel
theorem dX5_load_97 : decode cX5_load 97 = .ok (.ireturn, 1) := by decide +kernel
theorem dX5_about_0 : decode cX5_about 0 = .ok (.iload_n 1, 1) := by decide +kernel
theorem dX5_about_1 : decode cX5_about 1 = .ok (.tableswitch 99 0 6 #[43, 51, 59, 67, 75, 83, 91], 43) := by decide +kernel
theorem dX5_about_44 : decode cX5_about 44 = .ok (.aload_n 0, 1) := by decide +kernel
theorem dX5_about_45 : decode cX5_about 45 = .ok (.getfield 19, 3) := by decide +kernel
theorem dX5_about_48 : decode cX5_about 48 = .ok (.getfield 89, 3) := by decide +kernel
theorem dX5_about_51 : decode cX5_about 51 = .ok (.ireturn, 1) := by decide +kernel
theorem dX5_about_52 : decode cX5_about 52 = .ok (.aload_n 0, 1) := by decide +kernel
theorem dX5_about_53 : decode cX5_about 53 = .ok (.getfield 19, 3) := by decide +kernel
theorem dX5_about_56 : decode cX5_about 56 = .ok (.getfield 92, 3) := by decide +kernel
theorem dX5_about_59 : decode cX5_about 59 = .ok (.ireturn, 1) := by decide +kernel
theorem dX5_about_60 : decode cX5_about 60 = .ok (.aload_n 0, 1) := by decide +kernel
theorem dX5_about_61 : decode cX5_about 61 = .ok (.getfield 19, 3) := by decide +kernel
theorem dX5_about_64 : decode cX5_about 64 = .ok (.getfield 95, 3) := by decide +kernel
theorem dX5_about_67 : decode cX5_about 67 = .ok (.ireturn, 1) := by decide +kernel
theorem dX5_about_68 : decode cX5_about 68 = .ok (.aload_n 0, 1) := by decide +kernel
theorem dX5_about_69 : decode cX5_about 69 = .ok (.getfield 19, 3) := by decide +kernel
theorem dX5_about_72 : decode cX5_about 72 = .ok (.invokevirtual 98, 3) := by decide +kernel
theorem dX5_about_75 : decode cX5_about 75 = .ok (.ireturn, 1) := by decide +kernel
theorem dX5_about_76 : decode cX5_about 76 = .ok (.aload_n 0, 1) := by decide +kernel
theorem dX5_about_77 : decode cX5_about 77 = .ok (.getfield 19, 3) := by decide +kernel
theorem dX5_about_80 : decode cX5_about 80 = .ok (.invokevirtual 101, 3) := by decide +kernel
theorem dX5_about_83 : decode cX5_about 83 = .ok (.ireturn, 1) := by decide +kernel
theorem dX5_about_84 : decode cX5_about 84 = .ok (.aload_n 0, 1) := by decide +kernel
theorem dX5_about_85 : decode cX5_about 85 = .ok (.getfield 19, 3) := by decide +kernel
theorem dX5_about_88 : decode cX5_about 88 = .ok (.invokevirtual 104, 3) := by decide +kernel
theorem dX5_about_91 : decode cX5_about 91 = .ok (.ireturn, 1) := by decide +kernel
theorem dX5_about_92 : decode cX5_about 92 = .ok (.aload_n 0, 1) := by decide +kernel
theorem dX5_about_93 : decode cX5_about 93 = .ok (.getfield 19, 3) := by decide +kernel
theorem dX5_about_96 : decode cX5_about 96 = .ok (.getfield 107, 3) := by decide +kernel
theorem dX5_about_99 : decode cX5_about 99 = .ok (.ireturn, 1) := by decide +kernel
theorem dX5_about_100 : decode cX5_about 100 = .ok (.new 48, 3) := by decide +kernel
theorem dX5_about_103 : decode cX5_about 103 = .ok (.dup, 1) := by decide +kernel
theorem dX5_about_104 : decode cX5_about 104 = .ok (.invokespecial 50, 3) := by decide +kernel
theorem dX5_about_107 : decode cX5_about 107 = .ok (.athrow, 1) := by decide +kernel
theorem dX5_valveOf_0 : decode cX5_valveOf 0 = .ok (.aload_n 0, 1) := by decide +kernel
theorem dX5_valveOf_1 : decode cX5_valveOf 1 = .ok (.getfield 19, 3) := by decide +kernel
theorem dX5_valveOf_4 : decode cX5_valveOf 4 = .ok (.iload_n 1, 1) := by decide +kernel
theorem dX5_valveOf_5 : decode cX5_valveOf 5 = .ok (.invokevirtual 110, 3) := by decide +kernel
theorem dX5_valveOf_8 : decode cX5_valveOf 8 = .ok (.ifCond .ne 11, 3) := by decide +kernel
theorem dX5_valveOf_11 : decode cX5_valveOf 11 = .ok (.new 114, 3) := by decide +kernel
theorem dX5_valveOf_14 : decode cX5_valveOf 14 = .ok (.dup, 1) := by decide +kernel
theorem dX5_valveOf_15 : decode cX5_valveOf 15 = .ok (.invokespecial 116, 3) := by decide +kernel
theorem dX5_valveOf_18 : decode cX5_valveOf 18 = .ok (.athrow, 1) := by decide +kernel
theorem dX5_valveOf_19 : decode cX5_valveOf 19 = .ok (.iload_n 2, 1) := by decide +kernel
theorem dX5_valveOf_20 : decode cX5_valveOf 20 = .ok (.tableswitch 84 0 4 #[36, 46, 56, 66, 75], 36) := by decide +kernel
theorem dX5_valveOf_56 : decode cX5_valveOf 56 = .ok (.aload_n 0, 1) := by decide +kernel
theorem dX5_valveOf_57 : decode cX5_valveOf 57 = .ok (.getfield 19, 3) := by decide +kernel
theorem dX5_valveOf_60 : decode cX5_valveOf 60 = .ok (.getfield 117, 3) := by decide +kernel
theorem dX5_valveOf_63 : decode cX5_valveOf 63 = .ok (.iload_n 1, 1) := by decide +kernel
theorem dX5_valveOf_64 : decode cX5_valveOf 64 = .ok (.iaload, 1) := by decide +kernel
theorem dX5_valveOf_65 : decode cX5_valveOf 65 = .ok (.ireturn, 1) := by decide +kernel
theorem dX5_valveOf_66 : decode cX5_valveOf 66 = .ok (.aload_n 0, 1) := by decide +kernel
theorem dX5_valveOf_67 : decode cX5_valveOf 67 = .ok (.getfield 19, 3) := by decide +kernel
theorem dX5_valveOf_70 : decode cX5_valveOf 70 = .ok (.getfield 121, 3) := by decide +kernel
theorem dX5_valveOf_73 : decode cX5_valveOf 73 = .ok (.iload_n 1, 1) := by decide +kernel
theorem dX5_valveOf_74 : decode cX5_valveOf 74 = .ok (.iaload, 1) := by decide +kernel
theorem dX5_valveOf_75 : decode cX5_valveOf 75 = .ok (.ireturn, 1) := by decide +kernel
theorem dX5_valveOf_76 : decode cX5_valveOf 76 = .ok (.aload_n 0, 1) := by decide +kernel
theorem dX5_valveOf_77 : decode cX5_valveOf 77 = .ok (.getfield 19, 3) := by decide +kernel
theorem dX5_valveOf_80 : decode cX5_valveOf 80 = .ok (.getfield 124, 3) := by decide +kernel
theorem dX5_valveOf_83 : decode cX5_valveOf 83 = .ok (.iload_n 1, 1) := by decide +kernel
theorem dX5_valveOf_84 : decode cX5_valveOf 84 = .ok (.iaload, 1) := by decide +kernel
theorem dX5_valveOf_85 : decode cX5_valveOf 85 = .ok (.ireturn, 1) := by decide +kernel
theorem dX5_valveOf_86 : decode cX5_valveOf 86 = .ok (.aload_n 0, 1) := by decide +kernel
theorem dX5_valveOf_87 : decode cX5_valveOf 87 = .ok (.getfield 19, 3) := by decide +kernel
theorem dX5_valveOf_90 : decode cX5_valveOf 90 = .ok (.iload_n 1, 1) := by decide +kernel
theorem dX5_valveOf_91 : decode cX5_valveOf 91 = .ok (.invokevirtual 127, 3) := by decide +kernel
theorem dX5_valveOf_94 : decode cX5_valveOf 94 = .ok (.ireturn, 1) := by decide +kernel
theorem dX5_valveOf_95 : decode cX5_valveOf 95 = .ok (.aload_n 0, 1) := by decide +kernel
theorem dX5_valveOf_96 : decode cX5_valveOf 96 = .ok (.getfield 19, 3) := by decide +kernel
theorem dX5_valveOf_99 : decode cX5_valveOf 99 = .ok (.iload_n 1, 1) := by decide +kernel
theorem dX5_valveOf_100 : decode cX5_valveOf 100 = .ok (.invokevirtual 131, 3) := by decide +kernel
theorem dX5_valveOf_103 : decode cX5_valveOf 103 = .ok (.ireturn, 1) := by decide +kernel
theorem dX5_valveOf_104 : decode cX5_valveOf 104 = .ok (.new 48, 3) := by decide +kernel
theorem dX5_valveOf_107 : decode cX5_valveOf 107 = .ok (.dup, 1) := by decide +kernel
theorem dX5_valveOf_108 : decode cX5_valveOf 108 = .ok (.invokespecial 50, 3) := by decide +kernel
theorem dX5_valveOf_111 : decode cX5_valveOf 111 = .ok (.athrow, 1) := by decide +kernel
theorem dX5_leg_0 : decode cX5_leg 0 = .ok (.aload_n 0, 1) := by decide +kernel
theorem dX5_leg_1 : decode cX5_leg 1 = .ok (.getfield 19, 3) := by decide +kernel
theorem dX5_leg_4 : decode cX5_leg 4 = .ok (.iload_n 1, 1) := by decide +kernel
theorem dX5_leg_5 : decode cX5_leg 5 = .ok (.iload_n 2, 1) := by decide +kernel
theorem dX5_leg_6 : decode cX5_leg 6 = .ok (.invokevirtual 134, 3) := by decide +kernel
theorem dX5_leg_9 : decode cX5_leg 9 = .ok (.ifCond .ne 11, 3) := by decide +kernel
theorem dX5_leg_12 : decode cX5_leg 12 = .ok (.new 114, 3) := by decide +kernel
theorem dX5_leg_15 : decode cX5_leg 15 = .ok (.dup, 1) := by decide +kernel
theorem dX5_leg_16 : decode cX5_leg 16 = .ok (.invokespecial 116, 3) := by decide +kernel
theorem dX5_leg_19 : decode cX5_leg 19 = .ok (.athrow, 1) := by decide +kernel
theorem dX5_leg_20 : decode cX5_leg 20 = .ok (.aload_n 0, 1) := by decide +kernel
theorem dX5_leg_21 : decode cX5_leg 21 = .ok (.getfield 19, 3) := by decide +kernel
theorem dX5_leg_24 : decode cX5_leg 24 = .ok (.getfield 138, 3) := by decide +kernel
theorem dX5_leg_27 : decode cX5_leg 27 = .ok (.iload_n 1, 1) := by decide +kernel
theorem dX5_leg_28 : decode cX5_leg 28 = .ok (.iload_n 2, 1) := by decide +kernel
theorem dX5_leg_29 : decode cX5_leg 29 = .ok (.invokestatic 141, 3) := by decide +kernel
theorem dX5_leg_32 : decode cX5_leg 32 = .ok (.iaload, 1) := by decide +kernel
theorem dX5_leg_33 : decode cX5_leg 33 = .ok (.ireturn, 1) := by decide +kernel
theorem dX5_push_0 : decode cX5_push 0 = .ok (.aload_n 0, 1) := by decide +kernel
theorem dX5_push_1 : decode cX5_push 1 = .ok (.getfield 19, 3) := by decide +kernel
theorem dX5_push_4 : decode cX5_push 4 = .ok (.iload_n 1, 1) := by decide +kernel
theorem dX5_push_5 : decode cX5_push 5 = .ok (.iload_n 2, 1) := by decide +kernel
theorem dX5_push_6 : decode cX5_push 6 = .ok (.invokevirtual 134, 3) := by decide +kernel
theorem dX5_push_9 : decode cX5_push 9 = .ok (.ifCond .ne 11, 3) := by decide +kernel
theorem dX5_push_12 : decode cX5_push 12 = .ok (.new 114, 3) := by decide +kernel
theorem dX5_push_15 : decode cX5_push 15 = .ok (.dup, 1) := by decide +kernel
theorem dX5_push_16 : decode cX5_push 16 = .ok (.invokespecial 116, 3) := by decide +kernel
theorem dX5_push_19 : decode cX5_push 19 = .ok (.athrow, 1) := by decide +kernel
theorem dX5_push_20 : decode cX5_push 20 = .ok (.iload_n 3, 1) := by decide +kernel
theorem dX5_push_21 : decode cX5_push 21 = .ok (.lookupswitch 62 #[(0, 27), (1, 41)], 27) := by decide +kernel
theorem dX5_push_48 : decode cX5_push 48 = .ok (.aload_n 0, 1) := by decide +kernel
theorem dX5_push_49 : decode cX5_push 49 = .ok (.getfield 19, 3) := by decide +kernel
theorem dX5_push_52 : decode cX5_push 52 = .ok (.getfield 145, 3) := by decide +kernel
theorem dX5_push_55 : decode cX5_push 55 = .ok (.iload_n 1, 1) := by decide +kernel
theorem dX5_push_56 : decode cX5_push 56 = .ok (.iload_n 2, 1) := by decide +kernel
theorem dX5_push_57 : decode cX5_push 57 = .ok (.invokestatic 141, 3) := by decide +kernel
theorem dX5_push_60 : decode cX5_push 60 = .ok (.iaload, 1) := by decide +kernel
theorem dX5_push_61 : decode cX5_push 61 = .ok (.ireturn, 1) := by decide +kernel
theorem dX5_push_62 : decode cX5_push 62 = .ok (.aload_n 0, 1) := by decide +kernel
theorem dX5_push_63 : decode cX5_push 63 = .ok (.getfield 19, 3) := by decide +kernel
theorem dX5_push_66 : decode cX5_push 66 = .ok (.iload_n 1, 1) := by decide +kernel
theorem dX5_push_67 : decode cX5_push 67 = .ok (.iload_n 2, 1) := by decide +kernel
theorem dX5_push_68 : decode cX5_push 68 = .ok (.invokestatic 141, 3) := by decide +kernel
theorem dX5_push_71 : decode cX5_push 71 = .ok (.invokevirtual 148, 3) := by decide +kernel
theorem dX5_push_74 : decode cX5_push 74 = .ok (.ifCond .eq 7, 3) := by decide +kernel
theorem dX5_push_77 : decode cX5_push 77 = .ok (.iconst 1, 1) := by decide +kernel
theorem dX5_push_78 : decode cX5_push 78 = .ok (.goto 4, 3) := by decide +kernel
theorem dX5_push_81 : decode cX5_push 81 = .ok (.iconst 0, 1) := by decide +kernel
theorem dX5_push_82 : decode cX5_push 82 = .ok (.ireturn, 1) := by decide +kernel
theorem dX5_push_83 : decode cX5_push 83 = .ok (.new 48, 3) := by decide +kernel
theorem dX5_push_86 : decode cX5_push 86 = .ok (.dup, 1) := by decide +kernel
theorem dX5_push_87 : decode cX5_push 87 = .ok (.invokespecial 50, 3) := by decide +kernel
theorem dX5_push_90 : decode cX5_push 90 = .ok (.athrow, 1) := by decide +kernel
theorem dX5_ductOf_0 : decode cX5_ductOf 0 = .ok (.aload_n 0, 1) := by decide +kernel
theorem dX5_ductOf_1 : decode cX5_ductOf 1 = .ok (.getfield 19, 3) := by decide +kernel
theorem dX5_ductOf_4 : decode cX5_ductOf 4 = .ok (.iload_n 1, 1) := by decide +kernel
theorem dX5_ductOf_5 : decode cX5_ductOf 5 = .ok (.invokevirtual 151, 3) := by decide +kernel
theorem dX5_ductOf_8 : decode cX5_ductOf 8 = .ok (.ifCond .ne 11, 3) := by decide +kernel
theorem dX5_ductOf_11 : decode cX5_ductOf 11 = .ok (.new 114, 3) := by decide +kernel
theorem dX5_ductOf_14 : decode cX5_ductOf 14 = .ok (.dup, 1) := by decide +kernel
theorem dX5_ductOf_15 : decode cX5_ductOf 15 = .ok (.invokespecial 116, 3) := by decide +kernel
theorem dX5_ductOf_18 : decode cX5_ductOf 18 = .ok (.athrow, 1) := by decide +kernel
theorem dX5_ductOf_19 : decode cX5_ductOf 19 = .ok (.iload_n 2, 1) := by decide +kernel
theorem dX5_ductOf_20 : decode cX5_ductOf 20 = .ok (.tableswitch 134 0 7 #[48, 60, 72, 84, 96, 106, 116, 125], 48) := by decide +kernel
theorem dX5_ductOf_68 : decode cX5_ductOf 68 = .ok (.aload_n 0, 1) := by decide +kernel
theorem dX5_ductOf_69 : decode cX5_ductOf 69 = .ok (.getfield 19, 3) := by decide +kernel
theorem dX5_ductOf_72 : decode cX5_ductOf 72 = .ok (.getfield 154, 3) := by decide +kernel
theorem dX5_ductOf_75 : decode cX5_ductOf 75 = .ok (.iload_n 1, 1) := by decide +kernel
theorem dX5_ductOf_76 : decode cX5_ductOf 76 = .ok (.iaload, 1) := by decide +kernel
theorem dX5_ductOf_77 : decode cX5_ductOf 77 = .ok (.iconst 2, 1) := by decide +kernel
theorem dX5_ductOf_78 : decode cX5_ductOf 78 = .ok (.idiv, 1) := by decide +kernel
theorem dX5_ductOf_79 : decode cX5_ductOf 79 = .ok (.ireturn, 1) := by decide +kernel
theorem dX5_ductOf_80 : decode cX5_ductOf 80 = .ok (.aload_n 0, 1) := by decide +kernel
theorem dX5_ductOf_81 : decode cX5_ductOf 81 = .ok (.getfield 19, 3) := by decide +kernel
theorem dX5_ductOf_84 : decode cX5_ductOf 84 = .ok (.getfield 154, 3) := by decide +kernel
theorem dX5_ductOf_87 : decode cX5_ductOf 87 = .ok (.iload_n 1, 1) := by decide +kernel
theorem dX5_ductOf_88 : decode cX5_ductOf 88 = .ok (.iaload, 1) := by decide +kernel
theorem dX5_ductOf_89 : decode cX5_ductOf 89 = .ok (.iconst 2, 1) := by decide +kernel
theorem dX5_ductOf_90 : decode cX5_ductOf 90 = .ok (.irem, 1) := by decide +kernel
theorem dX5_ductOf_91 : decode cX5_ductOf 91 = .ok (.ireturn, 1) := by decide +kernel
theorem dX5_ductOf_92 : decode cX5_ductOf 92 = .ok (.aload_n 0, 1) := by decide +kernel
theorem dX5_ductOf_93 : decode cX5_ductOf 93 = .ok (.getfield 19, 3) := by decide +kernel
theorem dX5_ductOf_96 : decode cX5_ductOf 96 = .ok (.getfield 157, 3) := by decide +kernel
theorem dX5_ductOf_99 : decode cX5_ductOf 99 = .ok (.iload_n 1, 1) := by decide +kernel
theorem dX5_ductOf_100 : decode cX5_ductOf 100 = .ok (.iaload, 1) := by decide +kernel
theorem dX5_ductOf_101 : decode cX5_ductOf 101 = .ok (.iconst 2, 1) := by decide +kernel
theorem dX5_ductOf_102 : decode cX5_ductOf 102 = .ok (.idiv, 1) := by decide +kernel
theorem dX5_ductOf_103 : decode cX5_ductOf 103 = .ok (.ireturn, 1) := by decide +kernel
theorem dX5_ductOf_104 : decode cX5_ductOf 104 = .ok (.aload_n 0, 1) := by decide +kernel
theorem dX5_ductOf_105 : decode cX5_ductOf 105 = .ok (.getfield 19, 3) := by decide +kernel
theorem dX5_ductOf_108 : decode cX5_ductOf 108 = .ok (.getfield 157, 3) := by decide +kernel
theorem dX5_ductOf_111 : decode cX5_ductOf 111 = .ok (.iload_n 1, 1) := by decide +kernel
theorem dX5_ductOf_112 : decode cX5_ductOf 112 = .ok (.iaload, 1) := by decide +kernel
theorem dX5_ductOf_113 : decode cX5_ductOf 113 = .ok (.iconst 2, 1) := by decide +kernel
theorem dX5_ductOf_114 : decode cX5_ductOf 114 = .ok (.irem, 1) := by decide +kernel
theorem dX5_ductOf_115 : decode cX5_ductOf 115 = .ok (.ireturn, 1) := by decide +kernel
theorem dX5_ductOf_116 : decode cX5_ductOf 116 = .ok (.aload_n 0, 1) := by decide +kernel
theorem dX5_ductOf_117 : decode cX5_ductOf 117 = .ok (.getfield 19, 3) := by decide +kernel
theorem dX5_ductOf_120 : decode cX5_ductOf 120 = .ok (.getfield 160, 3) := by decide +kernel
theorem dX5_ductOf_123 : decode cX5_ductOf 123 = .ok (.iload_n 1, 1) := by decide +kernel
theorem dX5_ductOf_124 : decode cX5_ductOf 124 = .ok (.iaload, 1) := by decide +kernel
theorem dX5_ductOf_125 : decode cX5_ductOf 125 = .ok (.ireturn, 1) := by decide +kernel
theorem dX5_ductOf_126 : decode cX5_ductOf 126 = .ok (.aload_n 0, 1) := by decide +kernel
theorem dX5_ductOf_127 : decode cX5_ductOf 127 = .ok (.getfield 19, 3) := by decide +kernel
theorem dX5_ductOf_130 : decode cX5_ductOf 130 = .ok (.getfield 163, 3) := by decide +kernel
theorem dX5_ductOf_133 : decode cX5_ductOf 133 = .ok (.iload_n 1, 1) := by decide +kernel
theorem dX5_ductOf_134 : decode cX5_ductOf 134 = .ok (.iaload, 1) := by decide +kernel
theorem dX5_ductOf_135 : decode cX5_ductOf 135 = .ok (.ireturn, 1) := by decide +kernel
theorem dX5_ductOf_136 : decode cX5_ductOf 136 = .ok (.aload_n 0, 1) := by decide +kernel
theorem dX5_ductOf_137 : decode cX5_ductOf 137 = .ok (.getfield 19, 3) := by decide +kernel
theorem dX5_ductOf_140 : decode cX5_ductOf 140 = .ok (.iload_n 1, 1) := by decide +kernel
theorem dX5_ductOf_141 : decode cX5_ductOf 141 = .ok (.invokevirtual 166, 3) := by decide +kernel
theorem dX5_ductOf_144 : decode cX5_ductOf 144 = .ok (.ireturn, 1) := by decide +kernel
theorem dX5_ductOf_145 : decode cX5_ductOf 145 = .ok (.aload_n 0, 1) := by decide +kernel
theorem dX5_ductOf_146 : decode cX5_ductOf 146 = .ok (.getfield 19, 3) := by decide +kernel
theorem dX5_ductOf_149 : decode cX5_ductOf 149 = .ok (.iload_n 1, 1) := by decide +kernel
theorem dX5_ductOf_150 : decode cX5_ductOf 150 = .ok (.invokevirtual 169, 3) := by decide +kernel
theorem dX5_ductOf_153 : decode cX5_ductOf 153 = .ok (.ireturn, 1) := by decide +kernel
theorem dX5_ductOf_154 : decode cX5_ductOf 154 = .ok (.new 48, 3) := by decide +kernel
theorem dX5_ductOf_157 : decode cX5_ductOf 157 = .ok (.dup, 1) := by decide +kernel
theorem dX5_ductOf_158 : decode cX5_ductOf 158 = .ok (.invokespecial 50, 3) := by decide +kernel
theorem dX5_ductOf_161 : decode cX5_ductOf 161 = .ok (.athrow, 1) := by decide +kernel
theorem dX5_setting_0 : decode cX5_setting 0 = .ok (.iload_n 1, 1) := by decide +kernel
theorem dX5_setting_1 : decode cX5_setting 1 = .ok (.iconst 0, 1) := by decide +kernel
theorem dX5_setting_2 : decode cX5_setting 2 = .ok (.iconst 1, 1) := by decide +kernel
theorem dX5_setting_3 : decode cX5_setting 3 = .ok (.invokestatic 44, 3) := by decide +kernel
theorem dX5_setting_6 : decode cX5_setting 6 = .ok (.ifCond .ne 11, 3) := by decide +kernel
theorem dX5_setting_9 : decode cX5_setting 9 = .ok (.new 48, 3) := by decide +kernel
theorem dX5_setting_12 : decode cX5_setting 12 = .ok (.dup, 1) := by decide +kernel
theorem dX5_setting_13 : decode cX5_setting 13 = .ok (.invokespecial 50, 3) := by decide +kernel
theorem dX5_setting_16 : decode cX5_setting 16 = .ok (.athrow, 1) := by decide +kernel
theorem dX5_setting_17 : decode cX5_setting 17 = .ok (.aload_n 0, 1) := by decide +kernel
theorem dX5_setting_18 : decode cX5_setting 18 = .ok (.getfield 19, 3) := by decide +kernel
theorem dX5_setting_21 : decode cX5_setting 21 = .ok (.getfield 172, 3) := by decide +kernel
theorem dX5_setting_24 : decode cX5_setting 24 = .ok (.iload_n 1, 1) := by decide +kernel
theorem dX5_setting_25 : decode cX5_setting 25 = .ok (.iaload, 1) := by decide +kernel
theorem dX5_setting_26 : decode cX5_setting 26 = .ok (.ireturn, 1) := by decide +kernel
theorem dX5_valve_0 : decode cX5_valve 0 = .ok (.aload_n 0, 1) := by decide +kernel
theorem dX5_valve_1 : decode cX5_valve 1 = .ok (.getfield 19, 3) := by decide +kernel
theorem dX5_valve_4 : decode cX5_valve 4 = .ok (.iload_n 1, 1) := by decide +kernel
theorem dX5_valve_5 : decode cX5_valve 5 = .ok (.iload_n 2, 1) := by decide +kernel
theorem dX5_valve_6 : decode cX5_valve 6 = .ok (.invokestatic 175, 3) := by decide +kernel
theorem dX5_valve_9 : decode cX5_valve 9 = .ok (.invokestatic 181, 3) := by decide +kernel
theorem dX5_valve_12 : decode cX5_valve 12 = .ok (.aload_n 0, 1) := by decide +kernel
theorem dX5_valve_13 : decode cX5_valve 13 = .ok (.getfield 26, 3) := by decide +kernel
theorem dX5_valve_16 : decode cX5_valve 16 = .ok (.aload_n 0, 1) := by decide +kernel
theorem dX5_valve_17 : decode cX5_valve 17 = .ok (.getfield 19, 3) := by decide +kernel
theorem dX5_valve_20 : decode cX5_valve 20 = .ok (.invokevirtual 185, 3) := by decide +kernel
theorem dX5_valve_23 : decode cX5_valve 23 = .ok (.aload_n 0, 1) := by decide +kernel
theorem dX5_valve_24 : decode cX5_valve 24 = .ok (.getfield 19, 3) := by decide +kernel
theorem dX5_valve_27 : decode cX5_valve 27 = .ok (.iload_n 1, 1) := by decide +kernel
theorem dX5_valve_28 : decode cX5_valve 28 = .ok (.iload_n 2, 1) := by decide +kernel
theorem dX5_valve_29 : decode cX5_valve 29 = .ok (.invokestatic 189, 3) := by decide +kernel
theorem dX5_valve_32 : decode cX5_valve 32 = .ok (.pop, 1) := by decide +kernel
theorem dX5_valve_33 : decode cX5_valve 33 = .ok (.aload_n 0, 1) := by decide +kernel
theorem dX5_valve_34 : decode cX5_valve 34 = .ok (.getfield 19, 3) := by decide +kernel
theorem dX5_valve_37 : decode cX5_valve 37 = .ok (.getfield 89, 3) := by decide +kernel
theorem dX5_valve_40 : decode cX5_valve 40 = .ok (.iconst 1, 1) := by decide +kernel
theorem dX5_valve_41 : decode cX5_valve 41 = .ok (.isub, 1) := by decide +kernel
theorem dX5_valve_42 : decode cX5_valve 42 = .ok (.ireturn, 1) := by decide +kernel
theorem dX5_duct_0 : decode cX5_duct 0 = .ok (.aload_n 0, 1) := by decide +kernel
theorem dX5_duct_1 : decode cX5_duct 1 = .ok (.getfield 19, 3) := by decide +kernel
theorem dX5_duct_4 : decode cX5_duct 4 = .ok (.iload_n 1, 1) := by decide +kernel
theorem dX5_duct_5 : decode cX5_duct 5 = .ok (.iload_n 2, 1) := by decide +kernel
theorem dX5_duct_6 : decode cX5_duct 6 = .ok (.iload_n 3, 1) := by decide +kernel
theorem dX5_duct_7 : decode cX5_duct 7 = .ok (.iload 4, 2) := by decide +kernel
theorem dX5_duct_9 : decode cX5_duct 9 = .ok (.iload 5, 2) := by decide +kernel
theorem dX5_duct_11 : decode cX5_duct 11 = .ok (.invokestatic 193, 3) := by decide +kernel
theorem dX5_duct_14 : decode cX5_duct 14 = .ok (.invokestatic 181, 3) := by decide +kernel
theorem dX5_duct_17 : decode cX5_duct 17 = .ok (.aload_n 0, 1) := by decide +kernel
theorem dX5_duct_18 : decode cX5_duct 18 = .ok (.getfield 26, 3) := by decide +kernel
theorem dX5_duct_21 : decode cX5_duct 21 = .ok (.aload_n 0, 1) := by decide +kernel
theorem dX5_duct_22 : decode cX5_duct 22 = .ok (.getfield 19, 3) := by decide +kernel
theorem dX5_duct_25 : decode cX5_duct 25 = .ok (.invokevirtual 185, 3) := by decide +kernel
theorem dX5_duct_28 : decode cX5_duct 28 = .ok (.aload_n 0, 1) := by decide +kernel
theorem dX5_duct_29 : decode cX5_duct 29 = .ok (.getfield 19, 3) := by decide +kernel
theorem dX5_duct_32 : decode cX5_duct 32 = .ok (.iload_n 1, 1) := by decide +kernel
theorem dX5_duct_33 : decode cX5_duct 33 = .ok (.iload_n 2, 1) := by decide +kernel
theorem dX5_duct_34 : decode cX5_duct 34 = .ok (.iload_n 3, 1) := by decide +kernel
theorem dX5_duct_35 : decode cX5_duct 35 = .ok (.iload 4, 2) := by decide +kernel
theorem dX5_duct_37 : decode cX5_duct 37 = .ok (.iload 5, 2) := by decide +kernel
theorem dX5_duct_39 : decode cX5_duct 39 = .ok (.invokestatic 197, 3) := by decide +kernel
theorem dX5_duct_42 : decode cX5_duct 42 = .ok (.pop, 1) := by decide +kernel
theorem dX5_duct_43 : decode cX5_duct 43 = .ok (.aload_n 0, 1) := by decide +kernel
theorem dX5_duct_44 : decode cX5_duct 44 = .ok (.getfield 19, 3) := by decide +kernel
theorem dX5_duct_47 : decode cX5_duct 47 = .ok (.getfield 92, 3) := by decide +kernel
theorem dX5_duct_50 : decode cX5_duct 50 = .ok (.iconst 1, 1) := by decide +kernel
theorem dX5_duct_51 : decode cX5_duct 51 = .ok (.isub, 1) := by decide +kernel
theorem dX5_duct_52 : decode cX5_duct 52 = .ok (.ireturn, 1) := by decide +kernel
theorem dX5_remove_0 : decode cX5_remove 0 = .ok (.aload_n 0, 1) := by decide +kernel
theorem dX5_remove_1 : decode cX5_remove 1 = .ok (.getfield 19, 3) := by decide +kernel
theorem dX5_remove_4 : decode cX5_remove 4 = .ok (.iload_n 1, 1) := by decide +kernel
theorem dX5_remove_5 : decode cX5_remove 5 = .ok (.invokestatic 201, 3) := by decide +kernel
theorem dX5_remove_8 : decode cX5_remove 8 = .ok (.invokestatic 181, 3) := by decide +kernel
theorem dX5_remove_11 : decode cX5_remove 11 = .ok (.aload_n 0, 1) := by decide +kernel
theorem dX5_remove_12 : decode cX5_remove 12 = .ok (.getfield 26, 3) := by decide +kernel
theorem dX5_remove_15 : decode cX5_remove 15 = .ok (.aload_n 0, 1) := by decide +kernel
theorem dX5_remove_16 : decode cX5_remove 16 = .ok (.getfield 19, 3) := by decide +kernel
theorem dX5_remove_19 : decode cX5_remove 19 = .ok (.invokevirtual 185, 3) := by decide +kernel
theorem dX5_remove_22 : decode cX5_remove 22 = .ok (.aload_n 0, 1) := by decide +kernel
theorem dX5_remove_23 : decode cX5_remove 23 = .ok (.getfield 19, 3) := by decide +kernel
theorem dX5_remove_26 : decode cX5_remove 26 = .ok (.iload_n 1, 1) := by decide +kernel
theorem dX5_remove_27 : decode cX5_remove 27 = .ok (.invokestatic 205, 3) := by decide +kernel
theorem dX5_remove_30 : decode cX5_remove 30 = .ok (.pop, 1) := by decide +kernel
theorem dX5_remove_31 : decode cX5_remove 31 = .ok (.aload_n 0, 1) := by decide +kernel
theorem dX5_remove_32 : decode cX5_remove 32 = .ok (.getfield 19, 3) := by decide +kernel
theorem dX5_remove_35 : decode cX5_remove 35 = .ok (.getfield 92, 3) := by decide +kernel
theorem dX5_remove_38 : decode cX5_remove 38 = .ok (.ireturn, 1) := by decide +kernel
theorem dX5_press_0 : decode cX5_press 0 = .ok (.aload_n 0, 1) := by decide +kernel
theorem dX5_press_1 : decode cX5_press 1 = .ok (.getfield 19, 3) := by decide +kernel
theorem dX5_press_4 : decode cX5_press 4 = .ok (.iload_n 1, 1) := by decide +kernel
theorem dX5_press_5 : decode cX5_press 5 = .ok (.invokestatic 209, 3) := by decide +kernel
theorem dX5_press_8 : decode cX5_press 8 = .ok (.invokestatic 181, 3) := by decide +kernel
theorem dX5_press_11 : decode cX5_press 11 = .ok (.aload_n 0, 1) := by decide +kernel
theorem dX5_press_12 : decode cX5_press 12 = .ok (.getfield 26, 3) := by decide +kernel
theorem dX5_press_15 : decode cX5_press 15 = .ok (.aload_n 0, 1) := by decide +kernel
theorem dX5_press_16 : decode cX5_press 16 = .ok (.getfield 19, 3) := by decide +kernel
theorem dX5_press_19 : decode cX5_press 19 = .ok (.invokevirtual 185, 3) := by decide +kernel
theorem dX5_press_22 : decode cX5_press 22 = .ok (.aload_n 0, 1) := by decide +kernel
theorem dX5_press_23 : decode cX5_press 23 = .ok (.getfield 19, 3) := by decide +kernel
theorem dX5_press_26 : decode cX5_press 26 = .ok (.getfield 124, 3) := by decide +kernel
theorem dX5_press_29 : decode cX5_press 29 = .ok (.iload_n 1, 1) := by decide +kernel
theorem dX5_press_30 : decode cX5_press 30 = .ok (.iaload, 1) := by decide +kernel
theorem dX5_press_31 : decode cX5_press 31 = .ok (.istore_n 3, 1) := by decide +kernel
theorem dX5_press_32 : decode cX5_press 32 = .ok (.aload_n 0, 1) := by decide +kernel
theorem dX5_press_33 : decode cX5_press 33 = .ok (.getfield 19, 3) := by decide +kernel
theorem dX5_press_36 : decode cX5_press 36 = .ok (.iload_n 1, 1) := by decide +kernel
theorem dX5_press_37 : decode cX5_press 37 = .ok (.iload_n 2, 1) := by decide +kernel
theorem dX5_press_38 : decode cX5_press 38 = .ok (.invokestatic 212, 3) := by decide +kernel
theorem dX5_press_41 : decode cX5_press 41 = .ok (.pop, 1) := by decide +kernel
theorem dX5_press_42 : decode cX5_press 42 = .ok (.aload_n 0, 1) := by decide +kernel
theorem dX5_press_43 : decode cX5_press 43 = .ok (.getfield 19, 3) := by decide +kernel
theorem dX5_press_46 : decode cX5_press 46 = .ok (.getfield 124, 3) := by decide +kernel
theorem dX5_press_49 : decode cX5_press 49 = .ok (.iload_n 1, 1) := by decide +kernel
theorem dX5_press_50 : decode cX5_press 50 = .ok (.iaload, 1) := by decide +kernel
theorem dX5_press_51 : decode cX5_press 51 = .ok (.iload_n 3, 1) := by decide +kernel
theorem dX5_press_52 : decode cX5_press 52 = .ok (.if_icmp .ne 7, 3) := by decide +kernel
theorem dX5_press_55 : decode cX5_press 55 = .ok (.iconst 0, 1) := by decide +kernel
theorem dX5_press_56 : decode cX5_press 56 = .ok (.goto 4, 3) := by decide +kernel
theorem dX5_press_59 : decode cX5_press 59 = .ok (.iconst 1, 1) := by decide +kernel
theorem dX5_press_60 : decode cX5_press 60 = .ok (.ireturn, 1) := by decide +kernel
theorem dX5_leak_0 : decode cX5_leak 0 = .ok (.aload_n 0, 1) := by decide +kernel
theorem dX5_leak_1 : decode cX5_leak 1 = .ok (.getfield 19, 3) := by decide +kernel
theorem dX5_leak_4 : decode cX5_leak 4 = .ok (.iload_n 1, 1) := by decide +kernel
theorem dX5_leak_5 : decode cX5_leak 5 = .ok (.iload_n 2, 1) := by decide +kernel
theorem dX5_leak_6 : decode cX5_leak 6 = .ok (.invokestatic 216, 3) := by decide +kernel
theorem dX5_leak_9 : decode cX5_leak 9 = .ok (.invokestatic 181, 3) := by decide +kernel
theorem dX5_leak_12 : decode cX5_leak 12 = .ok (.aload_n 0, 1) := by decide +kernel
theorem dX5_leak_13 : decode cX5_leak 13 = .ok (.getfield 26, 3) := by decide +kernel
theorem dX5_leak_16 : decode cX5_leak 16 = .ok (.aload_n 0, 1) := by decide +kernel
theorem dX5_leak_17 : decode cX5_leak 17 = .ok (.getfield 19, 3) := by decide +kernel
theorem dX5_leak_20 : decode cX5_leak 20 = .ok (.invokevirtual 185, 3) := by decide +kernel
theorem dX5_leak_23 : decode cX5_leak 23 = .ok (.aload_n 0, 1) := by decide +kernel
theorem dX5_leak_24 : decode cX5_leak 24 = .ok (.getfield 19, 3) := by decide +kernel
theorem dX5_leak_27 : decode cX5_leak 27 = .ok (.getfield 163, 3) := by decide +kernel
theorem dX5_leak_30 : decode cX5_leak 30 = .ok (.iload_n 1, 1) := by decide +kernel
theorem dX5_leak_31 : decode cX5_leak 31 = .ok (.iaload, 1) := by decide +kernel
theorem dX5_leak_32 : decode cX5_leak 32 = .ok (.istore_n 3, 1) := by decide +kernel
theorem dX5_leak_33 : decode cX5_leak 33 = .ok (.aload_n 0, 1) := by decide +kernel
theorem dX5_leak_34 : decode cX5_leak 34 = .ok (.getfield 19, 3) := by decide +kernel
theorem dX5_leak_37 : decode cX5_leak 37 = .ok (.iload_n 1, 1) := by decide +kernel
theorem dX5_leak_38 : decode cX5_leak 38 = .ok (.iload_n 2, 1) := by decide +kernel
theorem dX5_leak_39 : decode cX5_leak 39 = .ok (.invokestatic 219, 3) := by decide +kernel
theorem dX5_leak_42 : decode cX5_leak 42 = .ok (.pop, 1) := by decide +kernel
theorem dX5_leak_43 : decode cX5_leak 43 = .ok (.iload_n 3, 1) := by decide +kernel
theorem dX5_leak_44 : decode cX5_leak 44 = .ok (.ireturn, 1) := by decide +kernel
theorem dX5_feed_0 : decode cX5_feed 0 = .ok (.aload_n 0, 1) := by decide +kernel
theorem dX5_feed_1 : decode cX5_feed 1 = .ok (.getfield 19, 3) := by decide +kernel
theorem dX5_feed_4 : decode cX5_feed 4 = .ok (.iload_n 1, 1) := by decide +kernel
theorem dX5_feed_5 : decode cX5_feed 5 = .ok (.iload_n 2, 1) := by decide +kernel
theorem dX5_feed_6 : decode cX5_feed 6 = .ok (.invokestatic 222, 3) := by decide +kernel
theorem dX5_feed_9 : decode cX5_feed 9 = .ok (.invokestatic 181, 3) := by decide +kernel
theorem dX5_feed_12 : decode cX5_feed 12 = .ok (.aload_n 0, 1) := by decide +kernel
theorem dX5_feed_13 : decode cX5_feed 13 = .ok (.getfield 26, 3) := by decide +kernel
theorem dX5_feed_16 : decode cX5_feed 16 = .ok (.aload_n 0, 1) := by decide +kernel
theorem dX5_feed_17 : decode cX5_feed 17 = .ok (.getfield 19, 3) := by decide +kernel
theorem dX5_feed_20 : decode cX5_feed 20 = .ok (.invokevirtual 185, 3) := by decide +kernel
theorem dX5_feed_23 : decode cX5_feed 23 = .ok (.aload_n 0, 1) := by decide +kernel
theorem dX5_feed_24 : decode cX5_feed 24 = .ok (.getfield 19, 3) := by decide +kernel
theorem dX5_feed_27 : decode cX5_feed 27 = .ok (.getfield 121, 3) := by decide +kernel
theorem dX5_feed_30 : decode cX5_feed 30 = .ok (.iload_n 1, 1) := by decide +kernel
theorem dX5_feed_31 : decode cX5_feed 31 = .ok (.iaload, 1) := by decide +kernel
theorem dX5_feed_32 : decode cX5_feed 32 = .ok (.istore_n 3, 1) := by decide +kernel
theorem dX5_feed_33 : decode cX5_feed 33 = .ok (.aload_n 0, 1) := by decide +kernel
theorem dX5_feed_34 : decode cX5_feed 34 = .ok (.getfield 19, 3) := by decide +kernel
theorem dX5_feed_37 : decode cX5_feed 37 = .ok (.iload_n 1, 1) := by decide +kernel
theorem dX5_feed_38 : decode cX5_feed 38 = .ok (.iload_n 2, 1) := by decide +kernel
theorem dX5_feed_39 : decode cX5_feed 39 = .ok (.invokestatic 225, 3) := by decide +kernel
theorem dX5_feed_42 : decode cX5_feed 42 = .ok (.pop, 1) := by decide +kernel
theorem dX5_feed_43 : decode cX5_feed 43 = .ok (.iload_n 3, 1) := by decide +kernel
theorem dX5_feed_44 : decode cX5_feed 44 = .ok (.ireturn, 1) := by decide +kernel
theorem dX5_set_0 : decode cX5_set 0 = .ok (.iload_n 1, 1) := by decide +kernel
theorem dX5_set_1 : decode cX5_set 1 = .ok (.iload_n 2, 1) := by decide +kernel
theorem dX5_set_2 : decode cX5_set 2 = .ok (.invokestatic 228, 3) := by decide +kernel
theorem dX5_set_5 : decode cX5_set 5 = .ok (.invokestatic 181, 3) := by decide +kernel
theorem dX5_set_8 : decode cX5_set 8 = .ok (.aload_n 0, 1) := by decide +kernel
theorem dX5_set_9 : decode cX5_set 9 = .ok (.getfield 26, 3) := by decide +kernel
theorem dX5_set_12 : decode cX5_set 12 = .ok (.aload_n 0, 1) := by decide +kernel
theorem dX5_set_13 : decode cX5_set 13 = .ok (.getfield 19, 3) := by decide +kernel
theorem dX5_set_16 : decode cX5_set 16 = .ok (.invokevirtual 185, 3) := by decide +kernel
theorem dX5_set_19 : decode cX5_set 19 = .ok (.aload_n 0, 1) := by decide +kernel
theorem dX5_set_20 : decode cX5_set 20 = .ok (.getfield 19, 3) := by decide +kernel
theorem dX5_set_23 : decode cX5_set 23 = .ok (.getfield 172, 3) := by decide +kernel
theorem dX5_set_26 : decode cX5_set 26 = .ok (.iload_n 1, 1) := by decide +kernel
theorem dX5_set_27 : decode cX5_set 27 = .ok (.iaload, 1) := by decide +kernel
theorem dX5_set_28 : decode cX5_set 28 = .ok (.istore_n 3, 1) := by decide +kernel
theorem dX5_set_29 : decode cX5_set 29 = .ok (.aload_n 0, 1) := by decide +kernel
theorem dX5_set_30 : decode cX5_set 30 = .ok (.getfield 19, 3) := by decide +kernel
theorem dX5_set_33 : decode cX5_set 33 = .ok (.iload_n 1, 1) := by decide +kernel
theorem dX5_set_34 : decode cX5_set 34 = .ok (.iload_n 2, 1) := by decide +kernel
theorem dX5_set_35 : decode cX5_set 35 = .ok (.invokestatic 231, 3) := by decide +kernel
theorem dX5_set_38 : decode cX5_set 38 = .ok (.pop, 1) := by decide +kernel
theorem dX5_set_39 : decode cX5_set 39 = .ok (.iload_n 3, 1) := by decide +kernel
theorem dX5_set_40 : decode cX5_set 40 = .ok (.ireturn, 1) := by decide +kernel
theorem dX5_ticks_0 : decode cX5_ticks 0 = .ok (.iload_n 1, 1) := by decide +kernel
theorem dX5_ticks_1 : decode cX5_ticks 1 = .ok (.invokestatic 234, 3) := by decide +kernel
theorem dX5_ticks_4 : decode cX5_ticks 4 = .ok (.invokestatic 181, 3) := by decide +kernel
theorem dX5_ticks_7 : decode cX5_ticks 7 = .ok (.aload_n 0, 1) := by decide +kernel
theorem dX5_ticks_8 : decode cX5_ticks 8 = .ok (.getfield 26, 3) := by decide +kernel
theorem dX5_ticks_11 : decode cX5_ticks 11 = .ok (.aload_n 0, 1) := by decide +kernel
theorem dX5_ticks_12 : decode cX5_ticks 12 = .ok (.getfield 19, 3) := by decide +kernel
theorem dX5_ticks_15 : decode cX5_ticks 15 = .ok (.invokevirtual 185, 3) := by decide +kernel
theorem dX5_ticks_18 : decode cX5_ticks 18 = .ok (.aload_n 0, 1) := by decide +kernel
theorem dX5_ticks_19 : decode cX5_ticks 19 = .ok (.getfield 38, 3) := by decide +kernel
theorem dX5_ticks_22 : decode cX5_ticks 22 = .ok (.aload_n 0, 1) := by decide +kernel
theorem dX5_ticks_23 : decode cX5_ticks 23 = .ok (.getfield 19, 3) := by decide +kernel
theorem dX5_ticks_26 : decode cX5_ticks 26 = .ok (.invokevirtual 237, 3) := by decide +kernel
theorem dX5_ticks_29 : decode cX5_ticks 29 = .ok (.aload_n 0, 1) := by decide +kernel
theorem dX5_ticks_30 : decode cX5_ticks 30 = .ok (.getfield 19, 3) := by decide +kernel
theorem dX5_ticks_33 : decode cX5_ticks 33 = .ok (.iload_n 1, 1) := by decide +kernel
theorem dX5_ticks_34 : decode cX5_ticks 34 = .ok (.invokestatic 240, 3) := by decide +kernel
theorem dX5_ticks_37 : decode cX5_ticks 37 = .ok (.pop, 1) := by decide +kernel
theorem dX5_ticks_38 : decode cX5_ticks 38 = .ok (.aload_n 0, 1) := by decide +kernel
theorem dX5_ticks_39 : decode cX5_ticks 39 = .ok (.getfield 19, 3) := by decide +kernel
theorem dX5_ticks_42 : decode cX5_ticks 42 = .ok (.aload_n 0, 1) := by decide +kernel
theorem dX5_ticks_43 : decode cX5_ticks 43 = .ok (.getfield 38, 3) := by decide +kernel
theorem dX5_ticks_46 : decode cX5_ticks 46 = .ok (.invokevirtual 243, 3) := by decide +kernel
theorem dX5_ticks_49 : decode cX5_ticks 49 = .ok (.ireturn, 1) := by decide +kernel
theorem dX5_undo_0 : decode cX5_undo 0 = .ok (.aload_n 0, 1) := by decide +kernel
theorem dX5_undo_1 : decode cX5_undo 1 = .ok (.getfield 26, 3) := by decide +kernel
theorem dX5_undo_4 : decode cX5_undo 4 = .ok (.getfield 247, 3) := by decide +kernel
theorem dX5_undo_7 : decode cX5_undo 7 = .ok (.ifCond .ne 11, 3) := by decide +kernel
theorem dX5_undo_10 : decode cX5_undo 10 = .ok (.new 55, 3) := by decide +kernel
theorem dX5_undo_13 : decode cX5_undo 13 = .ok (.dup, 1) := by decide +kernel
theorem dX5_undo_14 : decode cX5_undo 14 = .ok (.invokespecial 57, 3) := by decide +kernel
theorem dX5_undo_17 : decode cX5_undo 17 = .ok (.athrow, 1) := by decide +kernel
theorem dX5_undo_18 : decode cX5_undo 18 = .ok (.aload_n 0, 1) := by decide +kernel
theorem dX5_undo_19 : decode cX5_undo 19 = .ok (.getfield 26, 3) := by decide +kernel
theorem dX5_undo_22 : decode cX5_undo 22 = .ok (.aload_n 0, 1) := by decide +kernel
theorem dX5_undo_23 : decode cX5_undo 23 = .ok (.getfield 19, 3) := by decide +kernel
theorem dX5_undo_26 : decode cX5_undo 26 = .ok (.invokevirtual 250, 3) := by decide +kernel
theorem dX5_undo_29 : decode cX5_undo 29 = .ok (.aload_n 0, 1) := by decide +kernel
theorem dX5_undo_30 : decode cX5_undo 30 = .ok (.getfield 26, 3) := by decide +kernel
theorem dX5_undo_33 : decode cX5_undo 33 = .ok (.getfield 247, 3) := by decide +kernel
theorem dX5_undo_36 : decode cX5_undo 36 = .ok (.ireturn, 1) := by decide +kernel
theorem dX5_restIn_0 : decode cX5_restIn 0 = .ok (.aload_n 0, 1) := by decide +kernel
theorem dX5_restIn_1 : decode cX5_restIn 1 = .ok (.getfield 38, 3) := by decide +kernel
theorem dX5_restIn_4 : decode cX5_restIn 4 = .ok (.aload_n 0, 1) := by decide +kernel
theorem dX5_restIn_5 : decode cX5_restIn 5 = .ok (.getfield 19, 3) := by decide +kernel
theorem dX5_restIn_8 : decode cX5_restIn 8 = .ok (.invokevirtual 237, 3) := by decide +kernel
theorem dX5_restIn_11 : decode cX5_restIn 11 = .ok (.iconst 0, 1) := by decide +kernel
theorem dX5_restIn_12 : decode cX5_restIn 12 = .ok (.istore_n 1, 1) := by decide +kernel
theorem dX5_restIn_13 : decode cX5_restIn 13 = .ok (.iload_n 1, 1) := by decide +kernel
theorem dX5_restIn_14 : decode cX5_restIn 14 = .ok (.sipush 300, 3) := by decide +kernel
theorem dX5_restIn_17 : decode cX5_restIn 17 = .ok (.if_icmp .gt 21, 3) := by decide +kernel
theorem dX5_restIn_20 : decode cX5_restIn 20 = .ok (.aload_n 0, 1) := by decide +kernel
theorem dX5_restIn_21 : decode cX5_restIn 21 = .ok (.getfield 38, 3) := by decide +kernel
theorem dX5_restIn_24 : decode cX5_restIn 24 = .ok (.invokevirtual 253, 3) := by decide +kernel
theorem dX5_restIn_27 : decode cX5_restIn 27 = .ok (.ifCond .ne 5, 3) := by decide +kernel
theorem dX5_restIn_30 : decode cX5_restIn 30 = .ok (.iload_n 1, 1) := by decide +kernel
theorem dX5_restIn_31 : decode cX5_restIn 31 = .ok (.ireturn, 1) := by decide +kernel
theorem dX5_restIn_32 : decode cX5_restIn 32 = .ok (.iinc 1 1, 3) := by decide +kernel
theorem dX5_restIn_35 : decode cX5_restIn 35 = .ok (.goto (-22), 3) := by decide +kernel
theorem dX5_restIn_38 : decode cX5_restIn 38 = .ok (.iconst (-1), 1) := by decide +kernel
theorem dX5_restIn_39 : decode cX5_restIn 39 = .ok (.ireturn, 1) := by decide +kernel
theorem dX5_beat_0 : decode cX5_beat 0 = .ok (.aload_n 0, 1) := by decide +kernel
theorem dX5_beat_1 : decode cX5_beat 1 = .ok (.getfield 19, 3) := by decide +kernel
theorem dX5_beat_4 : decode cX5_beat 4 = .ok (.iload_n 1, 1) := by decide +kernel
theorem dX5_beat_5 : decode cX5_beat 5 = .ok (.invokevirtual 110, 3) := by decide +kernel
theorem dX5_beat_8 : decode cX5_beat 8 = .ok (.ifCond .ne 11, 3) := by decide +kernel
theorem dX5_beat_11 : decode cX5_beat 11 = .ok (.new 114, 3) := by decide +kernel
theorem dX5_beat_14 : decode cX5_beat 14 = .ok (.dup, 1) := by decide +kernel
theorem dX5_beat_15 : decode cX5_beat 15 = .ok (.invokespecial 116, 3) := by decide +kernel
theorem dX5_beat_18 : decode cX5_beat 18 = .ok (.athrow, 1) := by decide +kernel
theorem dX5_beat_19 : decode cX5_beat 19 = .ok (.aload_n 0, 1) := by decide +kernel
theorem dX5_beat_20 : decode cX5_beat 20 = .ok (.getfield 38, 3) := by decide +kernel
theorem dX5_beat_23 : decode cX5_beat 23 = .ok (.aload_n 0, 1) := by decide +kernel
theorem dX5_beat_24 : decode cX5_beat 24 = .ok (.getfield 19, 3) := by decide +kernel
theorem dX5_beat_27 : decode cX5_beat 27 = .ok (.invokevirtual 237, 3) := by decide +kernel
theorem dX5_beat_30 : decode cX5_beat 30 = .ok (.aload_n 0, 1) := by decide +kernel
theorem dX5_beat_31 : decode cX5_beat 31 = .ok (.getfield 38, 3) := by decide +kernel
theorem dX5_beat_34 : decode cX5_beat 34 = .ok (.iload_n 1, 1) := by decide +kernel
theorem dX5_beat_35 : decode cX5_beat 35 = .ok (.invokevirtual 256, 3) := by decide +kernel
theorem dX5_beat_38 : decode cX5_beat 38 = .ok (.ireturn, 1) := by decide +kernel
theorem dX5_rule_0 : decode cX5_rule 0 = .ok (.aload_n 0, 1) := by decide +kernel
theorem dX5_rule_1 : decode cX5_rule 1 = .ok (.getfield 19, 3) := by decide +kernel
theorem dX5_rule_4 : decode cX5_rule 4 = .ok (.iload_n 1, 1) := by decide +kernel
theorem dX5_rule_5 : decode cX5_rule 5 = .ok (.invokevirtual 110, 3) := by decide +kernel
theorem dX5_rule_8 : decode cX5_rule 8 = .ok (.ifCond .eq 25, 3) := by decide +kernel
theorem dX5_rule_11 : decode cX5_rule 11 = .ok (.aload_n 0, 1) := by decide +kernel
theorem dX5_rule_12 : decode cX5_rule 12 = .ok (.getfield 19, 3) := by decide +kernel
theorem dX5_rule_15 : decode cX5_rule 15 = .ok (.iload_n 2, 1) := by decide +kernel
theorem dX5_rule_16 : decode cX5_rule 16 = .ok (.invokevirtual 110, 3) := by decide +kernel
theorem dX5_rule_19 : decode cX5_rule 19 = .ok (.ifCond .eq 14, 3) := by decide +kernel
theorem dX5_rule_22 : decode cX5_rule 22 = .ok (.aload_n 0, 1) := by decide +kernel
theorem dX5_rule_23 : decode cX5_rule 23 = .ok (.getfield 19, 3) := by decide +kernel
theorem dX5_rule_26 : decode cX5_rule 26 = .ok (.iload_n 3, 1) := by decide +kernel
theorem dX5_rule_27 : decode cX5_rule 27 = .ok (.invokevirtual 110, 3) := by decide +kernel
theorem dX5_rule_30 : decode cX5_rule 30 = .ok (.ifCond .ne 11, 3) := by decide +kernel
theorem dX5_rule_33 : decode cX5_rule 33 = .ok (.new 114, 3) := by decide +kernel
theorem dX5_rule_36 : decode cX5_rule 36 = .ok (.dup, 1) := by decide +kernel
theorem dX5_rule_37 : decode cX5_rule 37 = .ok (.invokespecial 116, 3) := by decide +kernel
theorem dX5_rule_40 : decode cX5_rule 40 = .ok (.athrow, 1) := by decide +kernel
theorem dX5_rule_41 : decode cX5_rule 41 = .ok (.iload_n 1, 1) := by decide +kernel
theorem dX5_rule_42 : decode cX5_rule 42 = .ok (.iload_n 2, 1) := by decide +kernel
theorem dX5_rule_43 : decode cX5_rule 43 = .ok (.if_icmp .eq 27, 3) := by decide +kernel
theorem dX5_rule_46 : decode cX5_rule 46 = .ok (.aload_n 0, 1) := by decide +kernel
theorem dX5_rule_47 : decode cX5_rule 47 = .ok (.getfield 19, 3) := by decide +kernel
theorem dX5_rule_50 : decode cX5_rule 50 = .ok (.getfield 117, 3) := by decide +kernel
theorem dX5_rule_53 : decode cX5_rule 53 = .ok (.iload_n 1, 1) := by decide +kernel
theorem dX5_rule_54 : decode cX5_rule 54 = .ok (.iaload, 1) := by decide +kernel
theorem dX5_rule_55 : decode cX5_rule 55 = .ok (.ifCond .ne 15, 3) := by decide +kernel
theorem dX5_rule_58 : decode cX5_rule 58 = .ok (.aload_n 0, 1) := by decide +kernel
theorem dX5_rule_59 : decode cX5_rule 59 = .ok (.getfield 19, 3) := by decide +kernel
theorem dX5_rule_62 : decode cX5_rule 62 = .ok (.getfield 117, 3) := by decide +kernel
theorem dX5_rule_65 : decode cX5_rule 65 = .ok (.iload_n 2, 1) := by decide +kernel
theorem dX5_rule_66 : decode cX5_rule 66 = .ok (.iaload, 1) := by decide +kernel
theorem dX5_rule_67 : decode cX5_rule 67 = .ok (.ifCond .eq 11, 3) := by decide +kernel
theorem dX5_rule_70 : decode cX5_rule 70 = .ok (.new 48, 3) := by decide +kernel
theorem dX5_rule_73 : decode cX5_rule 73 = .ok (.dup, 1) := by decide +kernel
theorem dX5_rule_74 : decode cX5_rule 74 = .ok (.invokespecial 50, 3) := by decide +kernel
theorem dX5_rule_77 : decode cX5_rule 77 = .ok (.athrow, 1) := by decide +kernel
theorem dX5_rule_78 : decode cX5_rule 78 = .ok (.iconst 0, 1) := by decide +kernel
theorem dX5_rule_79 : decode cX5_rule 79 = .ok (.istore 4, 2) := by decide +kernel
theorem dX5_rule_81 : decode cX5_rule 81 = .ok (.iconst 0, 1) := by decide +kernel
theorem dX5_rule_82 : decode cX5_rule 82 = .ok (.istore 5, 2) := by decide +kernel
theorem dX5_rule_84 : decode cX5_rule 84 = .ok (.iload 5, 2) := by decide +kernel
theorem dX5_rule_86 : decode cX5_rule 86 = .ok (.iconst 4, 1) := by decide +kernel
theorem dX5_rule_87 : decode cX5_rule 87 = .ok (.if_icmp .ge 93, 3) := by decide +kernel
theorem dX5_rule_90 : decode cX5_rule 90 = .ok (.aload_n 0, 1) := by decide +kernel
theorem dX5_rule_91 : decode cX5_rule 91 = .ok (.getfield 38, 3) := by decide +kernel
theorem dX5_rule_94 : decode cX5_rule 94 = .ok (.aload_n 0, 1) := by decide +kernel
theorem dX5_rule_95 : decode cX5_rule 95 = .ok (.getfield 19, 3) := by decide +kernel
theorem dX5_rule_98 : decode cX5_rule 98 = .ok (.invokevirtual 237, 3) := by decide +kernel
theorem dX5_rule_101 : decode cX5_rule 101 = .ok (.aload_n 0, 1) := by decide +kernel
theorem dX5_rule_102 : decode cX5_rule 102 = .ok (.getfield 38, 3) := by decide +kernel
theorem dX5_rule_105 : decode cX5_rule 105 = .ok (.getfield 124, 3) := by decide +kernel
theorem dX5_rule_108 : decode cX5_rule 108 = .ok (.iload_n 1, 1) := by decide +kernel
theorem dX5_rule_109 : decode cX5_rule 109 = .ok (.iload 5, 2) := by decide +kernel
theorem dX5_rule_111 : decode cX5_rule 111 = .ok (.iconst 2, 1) := by decide +kernel
theorem dX5_rule_112 : decode cX5_rule 112 = .ok (.irem, 1) := by decide +kernel
theorem dX5_rule_113 : decode cX5_rule 113 = .ok (.iastore, 1) := by decide +kernel
theorem dX5_rule_114 : decode cX5_rule 114 = .ok (.aload_n 0, 1) := by decide +kernel
theorem dX5_rule_115 : decode cX5_rule 115 = .ok (.getfield 38, 3) := by decide +kernel
theorem dX5_rule_118 : decode cX5_rule 118 = .ok (.getfield 124, 3) := by decide +kernel
theorem dX5_rule_121 : decode cX5_rule 121 = .ok (.iload_n 2, 1) := by decide +kernel
theorem dX5_rule_122 : decode cX5_rule 122 = .ok (.iload 5, 2) := by decide +kernel
theorem dX5_rule_124 : decode cX5_rule 124 = .ok (.iconst 2, 1) := by decide +kernel
theorem dX5_rule_125 : decode cX5_rule 125 = .ok (.idiv, 1) := by decide +kernel
theorem dX5_rule_126 : decode cX5_rule 126 = .ok (.iastore, 1) := by decide +kernel
theorem dX5_rule_127 : decode cX5_rule 127 = .ok (.aload_n 0, 1) := by decide +kernel
theorem dX5_rule_128 : decode cX5_rule 128 = .ok (.getfield 38, 3) := by decide +kernel
theorem dX5_rule_131 : decode cX5_rule 131 = .ok (.bipush 60, 2) := by decide +kernel
theorem dX5_rule_133 : decode cX5_rule 133 = .ok (.invokestatic 240, 3) := by decide +kernel
theorem dX5_rule_136 : decode cX5_rule 136 = .ok (.pop, 1) := by decide +kernel
theorem dX5_rule_137 : decode cX5_rule 137 = .ok (.aload_n 0, 1) := by decide +kernel
theorem dX5_rule_138 : decode cX5_rule 138 = .ok (.getfield 38, 3) := by decide +kernel
theorem dX5_rule_141 : decode cX5_rule 141 = .ok (.getfield 138, 3) := by decide +kernel
theorem dX5_rule_144 : decode cX5_rule 144 = .ok (.iload_n 3, 1) := by decide +kernel
theorem dX5_rule_145 : decode cX5_rule 145 = .ok (.iconst 0, 1) := by decide +kernel
theorem dX5_rule_146 : decode cX5_rule 146 = .ok (.invokestatic 141, 3) := by decide +kernel
theorem dX5_rule_149 : decode cX5_rule 149 = .ok (.iaload, 1) := by decide +kernel
theorem dX5_rule_150 : decode cX5_rule 150 = .ok (.ifCond .le 12, 3) := by decide +kernel
theorem dX5_rule_153 : decode cX5_rule 153 = .ok (.iload 4, 2) := by decide +kernel
theorem dX5_rule_155 : decode cX5_rule 155 = .ok (.iconst 1, 1) := by decide +kernel
theorem dX5_rule_156 : decode cX5_rule 156 = .ok (.iload 5, 2) := by decide +kernel
theorem dX5_rule_158 : decode cX5_rule 158 = .ok (.ishl, 1) := by decide +kernel
theorem dX5_rule_159 : decode cX5_rule 159 = .ok (.ior, 1) := by decide +kernel
theorem dX5_rule_160 : decode cX5_rule 160 = .ok (.istore 4, 2) := by decide +kernel
theorem dX5_rule_162 : decode cX5_rule 162 = .ok (.aload_n 0, 1) := by decide +kernel
theorem dX5_rule_163 : decode cX5_rule 163 = .ok (.getfield 38, 3) := by decide +kernel
theorem dX5_rule_166 : decode cX5_rule 166 = .ok (.invokevirtual 253, 3) := by decide +kernel
theorem dX5_rule_169 : decode cX5_rule 169 = .ok (.ifCond .eq 5, 3) := by decide +kernel
theorem dX5_rule_172 : decode cX5_rule 172 = .ok (.iconst (-1), 1) := by decide +kernel
theorem dX5_rule_173 : decode cX5_rule 173 = .ok (.ireturn, 1) := by decide +kernel
theorem dX5_rule_174 : decode cX5_rule 174 = .ok (.iinc 5 1, 3) := by decide +kernel
theorem dX5_rule_177 : decode cX5_rule 177 = .ok (.goto (-93), 3) := by decide +kernel
theorem dX5_rule_180 : decode cX5_rule 180 = .ok (.iload 4, 2) := by decide +kernel
theorem dX5_rule_182 : decode cX5_rule 182 = .ok (.ireturn, 1) := by decide +kernel
theorem dX5_ifLeak_0 : decode cX5_ifLeak 0 = .ok (.aload_n 0, 1) := by decide +kernel
theorem dX5_ifLeak_1 : decode cX5_ifLeak 1 = .ok (.getfield 19, 3) := by decide +kernel
theorem dX5_ifLeak_4 : decode cX5_ifLeak 4 = .ok (.iload_n 1, 1) := by decide +kernel
theorem dX5_ifLeak_5 : decode cX5_ifLeak 5 = .ok (.invokevirtual 151, 3) := by decide +kernel
theorem dX5_ifLeak_8 : decode cX5_ifLeak 8 = .ok (.ifCond .eq 14, 3) := by decide +kernel
theorem dX5_ifLeak_11 : decode cX5_ifLeak 11 = .ok (.aload_n 0, 1) := by decide +kernel
theorem dX5_ifLeak_12 : decode cX5_ifLeak 12 = .ok (.getfield 19, 3) := by decide +kernel
theorem dX5_ifLeak_15 : decode cX5_ifLeak 15 = .ok (.iload_n 3, 1) := by decide +kernel
theorem dX5_ifLeak_16 : decode cX5_ifLeak 16 = .ok (.invokevirtual 110, 3) := by decide +kernel
theorem dX5_ifLeak_19 : decode cX5_ifLeak 19 = .ok (.ifCond .ne 11, 3) := by decide +kernel
theorem dX5_ifLeak_22 : decode cX5_ifLeak 22 = .ok (.new 114, 3) := by decide +kernel
theorem dX5_ifLeak_25 : decode cX5_ifLeak 25 = .ok (.dup, 1) := by decide +kernel
theorem dX5_ifLeak_26 : decode cX5_ifLeak 26 = .ok (.invokespecial 116, 3) := by decide +kernel
theorem dX5_ifLeak_29 : decode cX5_ifLeak 29 = .ok (.athrow, 1) := by decide +kernel
theorem dX5_ifLeak_30 : decode cX5_ifLeak 30 = .ok (.iload_n 2, 1) := by decide +kernel
theorem dX5_ifLeak_31 : decode cX5_ifLeak 31 = .ok (.iconst 0, 1) := by decide +kernel
theorem dX5_ifLeak_32 : decode cX5_ifLeak 32 = .ok (.bipush 30, 2) := by decide +kernel
theorem dX5_ifLeak_34 : decode cX5_ifLeak 34 = .ok (.invokestatic 44, 3) := by decide +kernel
theorem dX5_ifLeak_37 : decode cX5_ifLeak 37 = .ok (.ifCond .ne 11, 3) := by decide +kernel
theorem dX5_ifLeak_40 : decode cX5_ifLeak 40 = .ok (.new 48, 3) := by decide +kernel
theorem dX5_ifLeak_43 : decode cX5_ifLeak 43 = .ok (.dup, 1) := by decide +kernel
theorem dX5_ifLeak_44 : decode cX5_ifLeak 44 = .ok (.invokespecial 50, 3) := by decide +kernel
theorem dX5_ifLeak_47 : decode cX5_ifLeak 47 = .ok (.athrow, 1) := by decide +kernel
theorem dX5_ifLeak_48 : decode cX5_ifLeak 48 = .ok (.aload_n 0, 1) := by decide +kernel
theorem dX5_ifLeak_49 : decode cX5_ifLeak 49 = .ok (.iload_n 1, 1) := by decide +kernel
theorem dX5_ifLeak_50 : decode cX5_ifLeak 50 = .ok (.iload_n 2, 1) := by decide +kernel
theorem dX5_ifLeak_51 : decode cX5_ifLeak 51 = .ok (.iload_n 3, 1) := by decide +kernel
theorem dX5_ifLeak_52 : decode cX5_ifLeak 52 = .ok (.invokevirtual 259, 3) := by decide +kernel
theorem dX5_ifLeak_55 : decode cX5_ifLeak 55 = .ok (.ireturn, 1) := by decide +kernel
theorem dX5_suspect_0 : decode cX5_suspect 0 = .ok (.aload_n 0, 1) := by decide +kernel
theorem dX5_suspect_1 : decode cX5_suspect 1 = .ok (.getfield 19, 3) := by decide +kernel
theorem dX5_suspect_4 : decode cX5_suspect 4 = .ok (.iload_n 1, 1) := by decide +kernel
theorem dX5_suspect_5 : decode cX5_suspect 5 = .ok (.invokevirtual 110, 3) := by decide +kernel
theorem dX5_suspect_8 : decode cX5_suspect 8 = .ok (.ifCond .ne 11, 3) := by decide +kernel
theorem dX5_suspect_11 : decode cX5_suspect 11 = .ok (.new 114, 3) := by decide +kernel
theorem dX5_suspect_14 : decode cX5_suspect 14 = .ok (.dup, 1) := by decide +kernel
theorem dX5_suspect_15 : decode cX5_suspect 15 = .ok (.invokespecial 116, 3) := by decide +kernel
theorem dX5_suspect_18 : decode cX5_suspect 18 = .ok (.athrow, 1) := by decide +kernel
theorem dX5_suspect_19 : decode cX5_suspect 19 = .ok (.iload_n 2, 1) := by decide +kernel
theorem dX5_suspect_20 : decode cX5_suspect 20 = .ok (.iconst (-1), 1) := by decide +kernel
theorem dX5_suspect_21 : decode cX5_suspect 21 = .ok (.if_icmp .eq 22, 3) := by decide +kernel
theorem dX5_suspect_24 : decode cX5_suspect 24 = .ok (.iload_n 2, 1) := by decide +kernel
theorem dX5_suspect_25 : decode cX5_suspect 25 = .ok (.iconst 1, 1) := by decide +kernel
theorem dX5_suspect_26 : decode cX5_suspect 26 = .ok (.sipush 200, 3) := by decide +kernel
theorem dX5_suspect_29 : decode cX5_suspect 29 = .ok (.invokestatic 44, 3) := by decide +kernel
theorem dX5_suspect_32 : decode cX5_suspect 32 = .ok (.ifCond .ne 11, 3) := by decide +kernel
theorem dX5_suspect_35 : decode cX5_suspect 35 = .ok (.new 48, 3) := by decide +kernel
theorem dX5_suspect_38 : decode cX5_suspect 38 = .ok (.dup, 1) := by decide +kernel
theorem dX5_suspect_39 : decode cX5_suspect 39 = .ok (.invokespecial 50, 3) := by decide +kernel
theorem dX5_suspect_42 : decode cX5_suspect 42 = .ok (.athrow, 1) := by decide +kernel
theorem dX5_suspect_43 : decode cX5_suspect 43 = .ok (.iconst 0, 1) := by decide +kernel
theorem dX5_suspect_44 : decode cX5_suspect 44 = .ok (.istore_n 3, 1) := by decide +kernel
theorem dX5_suspect_45 : decode cX5_suspect 45 = .ok (.iload_n 3, 1) := by decide +kernel
theorem dX5_suspect_46 : decode cX5_suspect 46 = .ok (.aload_n 0, 1) := by decide +kernel
theorem dX5_suspect_47 : decode cX5_suspect 47 = .ok (.getfield 19, 3) := by decide +kernel
theorem dX5_suspect_50 : decode cX5_suspect 50 = .ok (.getfield 92, 3) := by decide +kernel
theorem dX5_suspect_53 : decode cX5_suspect 53 = .ok (.if_icmp .ge 51, 3) := by decide +kernel
theorem dX5_suspect_56 : decode cX5_suspect 56 = .ok (.iconst 1, 1) := by decide +kernel
theorem dX5_suspect_57 : decode cX5_suspect 57 = .ok (.istore 4, 2) := by decide +kernel
theorem dX5_suspect_59 : decode cX5_suspect 59 = .ok (.iload 4, 2) := by decide +kernel
theorem dX5_suspect_61 : decode cX5_suspect 61 = .ok (.bipush 30, 2) := by decide +kernel
theorem dX5_suspect_63 : decode cX5_suspect 63 = .ok (.if_icmp .gt 35, 3) := by decide +kernel
theorem dX5_suspect_66 : decode cX5_suspect 66 = .ok (.aload_n 0, 1) := by decide +kernel
theorem dX5_suspect_67 : decode cX5_suspect 67 = .ok (.getfield 19, 3) := by decide +kernel
theorem dX5_suspect_70 : decode cX5_suspect 70 = .ok (.getfield 163, 3) := by decide +kernel
theorem dX5_suspect_73 : decode cX5_suspect 73 = .ok (.iload_n 3, 1) := by decide +kernel
theorem dX5_suspect_74 : decode cX5_suspect 74 = .ok (.iaload, 1) := by decide +kernel
theorem dX5_suspect_75 : decode cX5_suspect 75 = .ok (.ifCond .ne 23, 3) := by decide +kernel
theorem dX5_suspect_78 : decode cX5_suspect 78 = .ok (.aload_n 0, 1) := by decide +kernel
theorem dX5_suspect_79 : decode cX5_suspect 79 = .ok (.iload_n 3, 1) := by decide +kernel
theorem dX5_suspect_80 : decode cX5_suspect 80 = .ok (.iload 4, 2) := by decide +kernel
theorem dX5_suspect_82 : decode cX5_suspect 82 = .ok (.iload_n 1, 1) := by decide +kernel
theorem dX5_suspect_83 : decode cX5_suspect 83 = .ok (.invokevirtual 259, 3) := by decide +kernel
theorem dX5_suspect_86 : decode cX5_suspect 86 = .ok (.iload_n 2, 1) := by decide +kernel
theorem dX5_suspect_87 : decode cX5_suspect 87 = .ok (.if_icmp .ne 5, 3) := by decide +kernel
theorem dX5_suspect_90 : decode cX5_suspect 90 = .ok (.iload_n 3, 1) := by decide +kernel
theorem dX5_suspect_91 : decode cX5_suspect 91 = .ok (.ireturn, 1) := by decide +kernel
theorem dX5_suspect_92 : decode cX5_suspect 92 = .ok (.iinc 4 1, 3) := by decide +kernel
theorem dX5_suspect_95 : decode cX5_suspect 95 = .ok (.goto (-36), 3) := by decide +kernel
theorem dX5_suspect_98 : decode cX5_suspect 98 = .ok (.iinc 3 1, 3) := by decide +kernel
theorem dX5_suspect_101 : decode cX5_suspect 101 = .ok (.goto (-56), 3) := by decide +kernel
theorem dX5_suspect_104 : decode cX5_suspect 104 = .ok (.iconst (-1), 1) := by decide +kernel
theorem dX5_suspect_105 : decode cX5_suspect 105 = .ok (.ireturn, 1) := by decide +kernel
theorem dX5_tightest_0 : decode cX5_tightest 0 = .ok (.iconst (-1), 1) := by decide +kernel
theorem dX5_tightest_1 : decode cX5_tightest 1 = .ok (.istore_n 1, 1) := by decide +kernel
theorem dX5_tightest_2 : decode cX5_tightest 2 = .ok (.iconst 0, 1) := by decide +kernel
theorem dX5_tightest_3 : decode cX5_tightest 3 = .ok (.istore_n 2, 1) := by decide +kernel
theorem dX5_tightest_4 : decode cX5_tightest 4 = .ok (.iconst 0, 1) := by decide +kernel
theorem dX5_tightest_5 : decode cX5_tightest 5 = .ok (.istore_n 3, 1) := by decide +kernel
theorem dX5_tightest_6 : decode cX5_tightest 6 = .ok (.iload_n 3, 1) := by decide +kernel
theorem dX5_tightest_7 : decode cX5_tightest 7 = .ok (.aload_n 0, 1) := by decide +kernel
theorem dX5_tightest_8 : decode cX5_tightest 8 = .ok (.getfield 19, 3) := by decide +kernel
theorem dX5_tightest_11 : decode cX5_tightest 11 = .ok (.getfield 92, 3) := by decide +kernel
theorem dX5_tightest_14 : decode cX5_tightest 14 = .ok (.if_icmp .ge 55, 3) := by decide +kernel
theorem dX5_tightest_17 : decode cX5_tightest 17 = .ok (.aload_n 0, 1) := by decide +kernel
theorem dX5_tightest_18 : decode cX5_tightest 18 = .ok (.getfield 19, 3) := by decide +kernel
theorem dX5_tightest_21 : decode cX5_tightest 21 = .ok (.getfield 138, 3) := by decide +kernel
theorem dX5_tightest_24 : decode cX5_tightest 24 = .ok (.aload_n 0, 1) := by decide +kernel
theorem dX5_tightest_25 : decode cX5_tightest 25 = .ok (.getfield 19, 3) := by decide +kernel
theorem dX5_tightest_28 : decode cX5_tightest 28 = .ok (.getfield 154, 3) := by decide +kernel
theorem dX5_tightest_31 : decode cX5_tightest 31 = .ok (.iload_n 3, 1) := by decide +kernel
theorem dX5_tightest_32 : decode cX5_tightest 32 = .ok (.iaload, 1) := by decide +kernel
theorem dX5_tightest_33 : decode cX5_tightest 33 = .ok (.iaload, 1) := by decide +kernel
theorem dX5_tightest_34 : decode cX5_tightest 34 = .ok (.ifCond .le 29, 3) := by decide +kernel
theorem dX5_tightest_37 : decode cX5_tightest 37 = .ok (.aload_n 0, 1) := by decide +kernel
theorem dX5_tightest_38 : decode cX5_tightest 38 = .ok (.getfield 19, 3) := by decide +kernel
theorem dX5_tightest_41 : decode cX5_tightest 41 = .ok (.iload_n 3, 1) := by decide +kernel
theorem dX5_tightest_42 : decode cX5_tightest 42 = .ok (.invokevirtual 263, 3) := by decide +kernel
theorem dX5_tightest_45 : decode cX5_tightest 45 = .ok (.istore 4, 2) := by decide +kernel
theorem dX5_tightest_47 : decode cX5_tightest 47 = .ok (.iload_n 1, 1) := by decide +kernel
theorem dX5_tightest_48 : decode cX5_tightest 48 = .ok (.iconst (-1), 1) := by decide +kernel
theorem dX5_tightest_49 : decode cX5_tightest 49 = .ok (.if_icmp .eq 9, 3) := by decide +kernel
theorem dX5_tightest_52 : decode cX5_tightest 52 = .ok (.iload 4, 2) := by decide +kernel
theorem dX5_tightest_54 : decode cX5_tightest 54 = .ok (.iload_n 2, 1) := by decide +kernel
theorem dX5_tightest_55 : decode cX5_tightest 55 = .ok (.if_icmp .ge 8, 3) := by decide +kernel
theorem dX5_tightest_58 : decode cX5_tightest 58 = .ok (.iload_n 3, 1) := by decide +kernel
theorem dX5_tightest_59 : decode cX5_tightest 59 = .ok (.istore_n 1, 1) := by decide +kernel
theorem dX5_tightest_60 : decode cX5_tightest 60 = .ok (.iload 4, 2) := by decide +kernel
theorem dX5_tightest_62 : decode cX5_tightest 62 = .ok (.istore_n 2, 1) := by decide +kernel
theorem dX5_tightest_63 : decode cX5_tightest 63 = .ok (.iinc 3 1, 3) := by decide +kernel
theorem dX5_tightest_66 : decode cX5_tightest 66 = .ok (.goto (-60), 3) := by decide +kernel
theorem dX5_tightest_69 : decode cX5_tightest 69 = .ok (.iload_n 1, 1) := by decide +kernel
theorem dX5_tightest_70 : decode cX5_tightest 70 = .ok (.ireturn, 1) := by decide +kernel
theorem dX5_runScript_0 : decode cX5_runScript 0 = .ok (.iload_n 1, 1) := by decide +kernel
theorem dX5_runScript_1 : decode cX5_runScript 1 = .ok (.iconst 1, 1) := by decide +kernel
theorem dX5_runScript_2 : decode cX5_runScript 2 = .ok (.iconst 3, 1) := by decide +kernel
theorem dX5_runScript_3 : decode cX5_runScript 3 = .ok (.invokestatic 44, 3) := by decide +kernel
theorem dX5_runScript_6 : decode cX5_runScript 6 = .ok (.ifCond .eq 19, 3) := by decide +kernel
theorem dX5_runScript_9 : decode cX5_runScript 9 = .ok (.lload_n 2, 1) := by decide +kernel
theorem dX5_runScript_10 : decode cX5_runScript 10 = .ok (.lconst 0, 1) := by decide +kernel
theorem dX5_runScript_11 : decode cX5_runScript 11 = .ok (.lcmp, 1) := by decide +kernel
theorem dX5_runScript_12 : decode cX5_runScript 12 = .ok (.ifCond .lt 13, 3) := by decide +kernel
theorem dX5_runScript_15 : decode cX5_runScript 15 = .ok (.lload_n 2, 1) := by decide +kernel
theorem dX5_runScript_16 : decode cX5_runScript 16 = .ok (.iload_n 1, 1) := by decide +kernel
theorem dX5_runScript_17 : decode cX5_runScript 17 = .ok (.invokestatic 266, 3) := by decide +kernel
theorem dX5_runScript_20 : decode cX5_runScript 20 = .ok (.lconst 0, 1) := by decide +kernel
theorem dX5_runScript_21 : decode cX5_runScript 21 = .ok (.lcmp, 1) := by decide +kernel
theorem dX5_runScript_22 : decode cX5_runScript 22 = .ok (.ifCond .eq 11, 3) := by decide +kernel
theorem dX5_runScript_25 : decode cX5_runScript 25 = .ok (.new 48, 3) := by decide +kernel
theorem dX5_runScript_28 : decode cX5_runScript 28 = .ok (.dup, 1) := by decide +kernel
theorem dX5_runScript_29 : decode cX5_runScript 29 = .ok (.invokespecial 50, 3) := by decide +kernel
theorem dX5_runScript_32 : decode cX5_runScript 32 = .ok (.athrow, 1) := by decide +kernel
theorem dX5_runScript_33 : decode cX5_runScript 33 = .ok (.aload_n 0, 1) := by decide +kernel
theorem dX5_runScript_34 : decode cX5_runScript 34 = .ok (.getfield 38, 3) := by decide +kernel
theorem dX5_runScript_37 : decode cX5_runScript 37 = .ok (.aload_n 0, 1) := by decide +kernel
theorem dX5_runScript_38 : decode cX5_runScript 38 = .ok (.getfield 19, 3) := by decide +kernel
theorem dX5_runScript_41 : decode cX5_runScript 41 = .ok (.invokevirtual 237, 3) := by decide +kernel
theorem dX5_runScript_44 : decode cX5_runScript 44 = .ok (.iconst 0, 1) := by decide +kernel
theorem dX5_runScript_45 : decode cX5_runScript 45 = .ok (.istore 4, 2) := by decide +kernel
theorem dX5_runScript_47 : decode cX5_runScript 47 = .ok (.iload 4, 2) := by decide +kernel
theorem dX5_runScript_49 : decode cX5_runScript 49 = .ok (.iload_n 1, 1) := by decide +kernel
theorem dX5_runScript_50 : decode cX5_runScript 50 = .ok (.if_icmp .ge 45, 3) := by decide +kernel
theorem dX5_runScript_53 : decode cX5_runScript 53 = .ok (.lload_n 2, 1) := by decide +kernel
theorem dX5_runScript_54 : decode cX5_runScript 54 = .ok (.iload_n 1, 1) := by decide +kernel
theorem dX5_runScript_55 : decode cX5_runScript 55 = .ok (.iconst 1, 1) := by decide +kernel
theorem dX5_runScript_56 : decode cX5_runScript 56 = .ok (.isub, 1) := by decide +kernel
theorem dX5_runScript_57 : decode cX5_runScript 57 = .ok (.iload 4, 2) := by decide +kernel
theorem dX5_runScript_59 : decode cX5_runScript 59 = .ok (.isub, 1) := by decide +kernel
theorem dX5_runScript_60 : decode cX5_runScript 60 = .ok (.invokestatic 266, 3) := by decide +kernel
theorem dX5_runScript_63 : decode cX5_runScript 63 = .ok (.ldc2_w 270, 3) := by decide +kernel
theorem dX5_runScript_66 : decode cX5_runScript 66 = .ok (.lrem, 1) := by decide +kernel
theorem dX5_runScript_67 : decode cX5_runScript 67 = .ok (.l2i, 1) := by decide +kernel
theorem dX5_runScript_68 : decode cX5_runScript 68 = .ok (.istore 5, 2) := by decide +kernel
theorem dX5_runScript_70 : decode cX5_runScript 70 = .ok (.aload_n 0, 1) := by decide +kernel
theorem dX5_runScript_71 : decode cX5_runScript 71 = .ok (.getfield 38, 3) := by decide +kernel
theorem dX5_runScript_74 : decode cX5_runScript 74 = .ok (.aload_n 0, 1) := by decide +kernel
theorem dX5_runScript_75 : decode cX5_runScript 75 = .ok (.getfield 41, 3) := by decide +kernel
theorem dX5_runScript_78 : decode cX5_runScript 78 = .ok (.iload 5, 2) := by decide +kernel
theorem dX5_runScript_80 : decode cX5_runScript 80 = .ok (.invokestatic 272, 3) := by decide +kernel
theorem dX5_runScript_83 : decode cX5_runScript 83 = .ok (.ifCond .ne 6, 3) := by decide +kernel
theorem dX5_runScript_86 : decode cX5_runScript 86 = .ok (.iload 4, 2) := by decide +kernel
theorem dX5_runScript_88 : decode cX5_runScript 88 = .ok (.ireturn, 1) := by decide +kernel
theorem dX5_runScript_89 : decode cX5_runScript 89 = .ok (.iinc 4 1, 3) := by decide +kernel
theorem dX5_runScript_92 : decode cX5_runScript 92 = .ok (.goto (-45), 3) := by decide +kernel
theorem dX5_runScript_95 : decode cX5_runScript 95 = .ok (.iconst (-1), 1) := by decide +kernel
theorem dX5_runScript_96 : decode cX5_runScript 96 = .ok (.ireturn, 1) := by decide +kernel
theorem dX5_simulate_0 : decode cX5_simulate 0 = .ok (.iload_n 3, 1) := by decide +kernel
theorem dX5_simulate_1 : decode cX5_simulate 1 = .ok (.iconst 1, 1) := by decide +kernel
theorem dX5_simulate_2 : decode cX5_simulate 2 = .ok (.bipush 60, 2) := by decide +kernel
theorem dX5_simulate_4 : decode cX5_simulate 4 = .ok (.invokestatic 44, 3) := by decide +kernel
theorem dX5_simulate_7 : decode cX5_simulate 7 = .ok (.ifCond .ne 11, 3) := by decide +kernel
theorem dX5_simulate_10 : decode cX5_simulate 10 = .ok (.new 48, 3) := by decide +kernel
theorem dX5_simulate_13 : decode cX5_simulate 13 = .ok (.dup, 1) := by decide +kernel
theorem dX5_simulate_14 : decode cX5_simulate 14 = .ok (.invokespecial 50, 3) := by decide +kernel
theorem dX5_simulate_17 : decode cX5_simulate 17 = .ok (.athrow, 1) := by decide +kernel
theorem dX5_simulate_18 : decode cX5_simulate 18 = .ok (.aload_n 0, 1) := by decide +kernel
theorem dX5_simulate_19 : decode cX5_simulate 19 = .ok (.getfield 38, 3) := by decide +kernel
theorem dX5_simulate_22 : decode cX5_simulate 22 = .ok (.aload_n 0, 1) := by decide +kernel
theorem dX5_simulate_23 : decode cX5_simulate 23 = .ok (.getfield 19, 3) := by decide +kernel
theorem dX5_simulate_26 : decode cX5_simulate 26 = .ok (.invokevirtual 237, 3) := by decide +kernel
theorem dX5_simulate_29 : decode cX5_simulate 29 = .ok (.lload_n 1, 1) := by decide +kernel
theorem dX5_simulate_30 : decode cX5_simulate 30 = .ok (.lstore 4, 2) := by decide +kernel
theorem dX5_simulate_32 : decode cX5_simulate 32 = .ok (.iconst 0, 1) := by decide +kernel
theorem dX5_simulate_33 : decode cX5_simulate 33 = .ok (.istore 6, 2) := by decide +kernel
theorem dX5_simulate_35 : decode cX5_simulate 35 = .ok (.iload 6, 2) := by decide +kernel
theorem dX5_simulate_37 : decode cX5_simulate 37 = .ok (.iload_n 3, 1) := by decide +kernel
theorem dX5_simulate_38 : decode cX5_simulate 38 = .ok (.if_icmp .ge 34, 3) := by decide +kernel
theorem dX5_simulate_41 : decode cX5_simulate 41 = .ok (.lload 4, 2) := by decide +kernel
theorem dX5_simulate_43 : decode cX5_simulate 43 = .ok (.ldc2_w 278, 3) := by decide +kernel
theorem dX5_simulate_46 : decode cX5_simulate 46 = .ok (.lmul, 1) := by decide +kernel
theorem dX5_simulate_47 : decode cX5_simulate 47 = .ok (.ldc2_w 280, 3) := by decide +kernel
theorem dX5_simulate_50 : decode cX5_simulate 50 = .ok (.ladd, 1) := by decide +kernel
theorem dX5_simulate_51 : decode cX5_simulate 51 = .ok (.lstore 4, 2) := by decide +kernel
theorem dX5_simulate_53 : decode cX5_simulate 53 = .ok (.aload_n 0, 1) := by decide +kernel
theorem dX5_simulate_54 : decode cX5_simulate 54 = .ok (.getfield 38, 3) := by decide +kernel
theorem dX5_simulate_57 : decode cX5_simulate 57 = .ok (.lload 4, 2) := by decide +kernel
theorem dX5_simulate_59 : decode cX5_simulate 59 = .ok (.bipush 33, 2) := by decide +kernel
theorem dX5_simulate_61 : decode cX5_simulate 61 = .ok (.lushr, 1) := by decide +kernel
theorem dX5_simulate_62 : decode cX5_simulate 62 = .ok (.l2i, 1) := by decide +kernel
theorem dX5_simulate_63 : decode cX5_simulate 63 = .ok (.invokestatic 282, 3) := by decide +kernel
theorem dX5_simulate_66 : decode cX5_simulate 66 = .ok (.iinc 6 1, 3) := by decide +kernel
theorem dX5_simulate_69 : decode cX5_simulate 69 = .ok (.goto (-34), 3) := by decide +kernel
theorem dX5_simulate_72 : decode cX5_simulate 72 = .ok (.sipush 1000, 3) := by decide +kernel
theorem dX5_simulate_75 : decode cX5_simulate 75 = .ok (.aload_n 0, 1) := by decide +kernel
theorem dX5_simulate_76 : decode cX5_simulate 76 = .ok (.getfield 38, 3) := by decide +kernel
theorem dX5_simulate_79 : decode cX5_simulate 79 = .ok (.invokevirtual 98, 3) := by decide +kernel
theorem dX5_simulate_82 : decode cX5_simulate 82 = .ok (.imul, 1) := by decide +kernel
theorem dX5_simulate_83 : decode cX5_simulate 83 = .ok (.aload_n 0, 1) := by decide +kernel
theorem dX5_simulate_84 : decode cX5_simulate 84 = .ok (.getfield 38, 3) := by decide +kernel
theorem dX5_simulate_87 : decode cX5_simulate 87 = .ok (.invokevirtual 101, 3) := by decide +kernel
theorem dX5_simulate_90 : decode cX5_simulate 90 = .ok (.sipush 1000, 3) := by decide +kernel
theorem dX5_simulate_93 : decode cX5_simulate 93 = .ok (.irem, 1) := by decide +kernel
theorem dX5_simulate_94 : decode cX5_simulate 94 = .ok (.iadd, 1) := by decide +kernel
theorem dX5_simulate_95 : decode cX5_simulate 95 = .ok (.ireturn, 1) := by decide +kernel
theorem dX5_save_0 : decode cX5_save 0 = .ok (.iload_n 1, 1) := by decide +kernel
theorem dX5_save_1 : decode cX5_save 1 = .ok (.iconst 0, 1) := by decide +kernel
theorem dX5_save_2 : decode cX5_save 2 = .ok (.iconst 1, 1) := by decide +kernel
theorem dX5_save_3 : decode cX5_save 3 = .ok (.invokestatic 44, 3) := by decide +kernel
theorem dX5_save_6 : decode cX5_save 6 = .ok (.ifCond .ne 11, 3) := by decide +kernel
theorem dX5_save_9 : decode cX5_save 9 = .ok (.new 114, 3) := by decide +kernel
theorem dX5_save_12 : decode cX5_save 12 = .ok (.dup, 1) := by decide +kernel
theorem dX5_save_13 : decode cX5_save 13 = .ok (.invokespecial 116, 3) := by decide +kernel
theorem dX5_save_16 : decode cX5_save 16 = .ok (.athrow, 1) := by decide +kernel
theorem dX5_save_17 : decode cX5_save 17 = .ok (.aload_n 0, 1) := by decide +kernel
theorem dX5_save_18 : decode cX5_save 18 = .ok (.getfield 30, 3) := by decide +kernel
theorem dX5_save_21 : decode cX5_save 21 = .ok (.iload_n 1, 1) := by decide +kernel
theorem dX5_save_22 : decode cX5_save 22 = .ok (.aaload, 1) := by decide +kernel
theorem dX5_save_23 : decode cX5_save 23 = .ok (.aload_n 0, 1) := by decide +kernel
theorem dX5_save_24 : decode cX5_save 24 = .ok (.getfield 19, 3) := by decide +kernel
theorem dX5_save_27 : decode cX5_save 27 = .ok (.invokevirtual 237, 3) := by decide +kernel
theorem dX5_save_30 : decode cX5_save 30 = .ok (.aload_n 0, 1) := by decide +kernel
theorem dX5_save_31 : decode cX5_save 31 = .ok (.getfield 34, 3) := by decide +kernel
theorem dX5_save_34 : decode cX5_save 34 = .ok (.iload_n 1, 1) := by decide +kernel
theorem dX5_save_35 : decode cX5_save 35 = .ok (.iconst 1, 1) := by decide +kernel
theorem dX5_save_36 : decode cX5_save 36 = .ok (.bastore, 1) := by decide +kernel
theorem dX5_save_37 : decode cX5_save 37 = .ok (.aload_n 0, 1) := by decide +kernel
theorem dX5_save_38 : decode cX5_save 38 = .ok (.getfield 19, 3) := by decide +kernel
theorem dX5_save_41 : decode cX5_save 41 = .ok (.getfield 95, 3) := by decide +kernel
theorem dX5_save_44 : decode cX5_save 44 = .ok (.ireturn, 1) := by decide +kernel
theorem dX5_restore_0 : decode cX5_restore 0 = .ok (.iload_n 1, 1) := by decide +kernel
theorem dX5_restore_1 : decode cX5_restore 1 = .ok (.iconst 0, 1) := by decide +kernel
theorem dX5_restore_2 : decode cX5_restore 2 = .ok (.iconst 1, 1) := by decide +kernel
theorem dX5_restore_3 : decode cX5_restore 3 = .ok (.invokestatic 44, 3) := by decide +kernel
theorem dX5_restore_6 : decode cX5_restore 6 = .ok (.ifCond .ne 11, 3) := by decide +kernel
theorem dX5_restore_9 : decode cX5_restore 9 = .ok (.new 114, 3) := by decide +kernel
theorem dX5_restore_12 : decode cX5_restore 12 = .ok (.dup, 1) := by decide +kernel
theorem dX5_restore_13 : decode cX5_restore 13 = .ok (.invokespecial 116, 3) := by decide +kernel
theorem dX5_restore_16 : decode cX5_restore 16 = .ok (.athrow, 1) := by decide +kernel
theorem dX5_restore_17 : decode cX5_restore 17 = .ok (.aload_n 0, 1) := by decide +kernel
theorem dX5_restore_18 : decode cX5_restore 18 = .ok (.getfield 34, 3) := by decide +kernel
theorem dX5_restore_21 : decode cX5_restore 21 = .ok (.iload_n 1, 1) := by decide +kernel
theorem dX5_restore_22 : decode cX5_restore 22 = .ok (.baload, 1) := by decide +kernel
theorem dX5_restore_23 : decode cX5_restore 23 = .ok (.ifCond .ne 11, 3) := by decide +kernel
theorem dX5_restore_26 : decode cX5_restore 26 = .ok (.new 55, 3) := by decide +kernel
theorem dX5_restore_29 : decode cX5_restore 29 = .ok (.dup, 1) := by decide +kernel
theorem dX5_restore_30 : decode cX5_restore 30 = .ok (.invokespecial 57, 3) := by decide +kernel
theorem dX5_restore_33 : decode cX5_restore 33 = .ok (.athrow, 1) := by decide +kernel
theorem dX5_restore_34 : decode cX5_restore 34 = .ok (.aload_n 0, 1) := by decide +kernel
theorem dX5_restore_35 : decode cX5_restore 35 = .ok (.getfield 19, 3) := by decide +kernel
theorem dX5_restore_38 : decode cX5_restore 38 = .ok (.aload_n 0, 1) := by decide +kernel
theorem dX5_restore_39 : decode cX5_restore 39 = .ok (.getfield 30, 3) := by decide +kernel
theorem dX5_restore_42 : decode cX5_restore 42 = .ok (.iload_n 1, 1) := by decide +kernel
theorem dX5_restore_43 : decode cX5_restore 43 = .ok (.aaload, 1) := by decide +kernel
theorem dX5_restore_44 : decode cX5_restore 44 = .ok (.invokevirtual 237, 3) := by decide +kernel
theorem dX5_restore_47 : decode cX5_restore 47 = .ok (.aload_n 0, 1) := by decide +kernel
theorem dX5_restore_48 : decode cX5_restore 48 = .ok (.getfield 26, 3) := by decide +kernel
theorem dX5_restore_51 : decode cX5_restore 51 = .ok (.invokevirtual 69, 3) := by decide +kernel
theorem dX5_restore_54 : decode cX5_restore 54 = .ok (.aload_n 0, 1) := by decide +kernel
theorem dX5_restore_55 : decode cX5_restore 55 = .ok (.getfield 19, 3) := by decide +kernel
theorem dX5_restore_58 : decode cX5_restore 58 = .ok (.getfield 95, 3) := by decide +kernel
theorem dX5_restore_61 : decode cX5_restore 61 = .ok (.ireturn, 1) := by decide +kernel
theorem dX5_isIn_0 : decode cX5_isIn 0 = .ok (.iload_n 0, 1) := by decide +kernel
theorem dX5_isIn_1 : decode cX5_isIn 1 = .ok (.iload_n 1, 1) := by decide +kernel
theorem dX5_isIn_2 : decode cX5_isIn 2 = .ok (.if_icmp .lt 12, 3) := by decide +kernel
theorem dX5_isIn_5 : decode cX5_isIn 5 = .ok (.iload_n 0, 1) := by decide +kernel
theorem dX5_isIn_6 : decode cX5_isIn 6 = .ok (.iload_n 2, 1) := by decide +kernel
theorem dX5_isIn_7 : decode cX5_isIn 7 = .ok (.if_icmp .gt 7, 3) := by decide +kernel
theorem dX5_isIn_10 : decode cX5_isIn 10 = .ok (.iconst 1, 1) := by decide +kernel
theorem dX5_isIn_11 : decode cX5_isIn 11 = .ok (.goto 4, 3) := by decide +kernel
theorem dX5_isIn_14 : decode cX5_isIn 14 = .ok (.iconst 0, 1) := by decide +kernel
theorem dX5_isIn_15 : decode cX5_isIn 15 = .ok (.ireturn, 1) := by decide +kernel
theorem dX5_endOf_0 : decode cX5_endOf 0 = .ok (.iconst 2, 1) := by decide +kernel
theorem dX5_endOf_1 : decode cX5_endOf 1 = .ok (.iload_n 0, 1) := by decide +kernel
theorem dX5_endOf_2 : decode cX5_endOf 2 = .ok (.imul, 1) := by decide +kernel
theorem dX5_endOf_3 : decode cX5_endOf 3 = .ok (.iload_n 1, 1) := by decide +kernel
theorem dX5_endOf_4 : decode cX5_endOf 4 = .ok (.iadd, 1) := by decide +kernel
theorem dX5_endOf_5 : decode cX5_endOf 5 = .ok (.ireturn, 1) := by decide +kernel
theorem dX5_refuse_0 : decode cX5_refuse 0 = .ok (.iload_n 0, 1) := by decide +kernel
theorem dX5_refuse_1 : decode cX5_refuse 1 = .ok (.iconst 1, 1) := by decide +kernel
theorem dX5_refuse_2 : decode cX5_refuse 2 = .ok (.if_icmp .ne 11, 3) := by decide +kernel
theorem dX5_refuse_5 : decode cX5_refuse 5 = .ok (.new 114, 3) := by decide +kernel
theorem dX5_refuse_8 : decode cX5_refuse 8 = .ok (.dup, 1) := by decide +kernel
theorem dX5_refuse_9 : decode cX5_refuse 9 = .ok (.invokespecial 116, 3) := by decide +kernel
theorem dX5_refuse_12 : decode cX5_refuse 12 = .ok (.athrow, 1) := by decide +kernel
theorem dX5_refuse_13 : decode cX5_refuse 13 = .ok (.iload_n 0, 1) := by decide +kernel
theorem dX5_refuse_14 : decode cX5_refuse 14 = .ok (.iconst 2, 1) := by decide +kernel
theorem dX5_refuse_15 : decode cX5_refuse 15 = .ok (.if_icmp .ne 11, 3) := by decide +kernel
theorem dX5_refuse_18 : decode cX5_refuse 18 = .ok (.new 48, 3) := by decide +kernel
theorem dX5_refuse_21 : decode cX5_refuse 21 = .ok (.dup, 1) := by decide +kernel
theorem dX5_refuse_22 : decode cX5_refuse 22 = .ok (.invokespecial 50, 3) := by decide +kernel
theorem dX5_refuse_25 : decode cX5_refuse 25 = .ok (.athrow, 1) := by decide +kernel
theorem dX5_refuse_26 : decode cX5_refuse 26 = .ok (.iload_n 0, 1) := by decide +kernel
theorem dX5_refuse_27 : decode cX5_refuse 27 = .ok (.iconst 3, 1) := by decide +kernel
theorem dX5_refuse_28 : decode cX5_refuse 28 = .ok (.if_icmp .ne 11, 3) := by decide +kernel
theorem dX5_refuse_31 : decode cX5_refuse 31 = .ok (.new 55, 3) := by decide +kernel
theorem dX5_refuse_34 : decode cX5_refuse 34 = .ok (.dup, 1) := by decide +kernel
theorem dX5_refuse_35 : decode cX5_refuse 35 = .ok (.invokespecial 57, 3) := by decide +kernel
theorem dX5_refuse_38 : decode cX5_refuse 38 = .ok (.athrow, 1) := by decide +kernel
theorem dX5_refuse_39 : decode cX5_refuse 39 = .ok (.return_, 1) := by decide +kernel
theorem dX5_emptySlots_0 : decode cX5_emptySlots 0 = .ok (.iconst 0, 1) := by decide +kernel
theorem dX5_emptySlots_1 : decode cX5_emptySlots 1 = .ok (.istore_n 1, 1) := by decide +kernel
theorem dX5_emptySlots_2 : decode cX5_emptySlots 2 = .ok (.iload_n 1, 1) := by decide +kernel
theorem dX5_emptySlots_3 : decode cX5_emptySlots 3 = .ok (.iconst 2, 1) := by decide +kernel
theorem dX5_emptySlots_4 : decode cX5_emptySlots 4 = .ok (.if_icmp .ge 16, 3) := by decide +kernel
theorem dX5_emptySlots_7 : decode cX5_emptySlots 7 = .ok (.aload_n 0, 1) := by decide +kernel
theorem dX5_emptySlots_8 : decode cX5_emptySlots 8 = .ok (.getfield 34, 3) := by decide +kernel
theorem dX5_emptySlots_11 : decode cX5_emptySlots 11 = .ok (.iload_n 1, 1) := by decide +kernel
theorem dX5_emptySlots_12 : decode cX5_emptySlots 12 = .ok (.iconst 0, 1) := by decide +kernel
theorem dX5_emptySlots_13 : decode cX5_emptySlots 13 = .ok (.bastore, 1) := by decide +kernel
theorem dX5_emptySlots_14 : decode cX5_emptySlots 14 = .ok (.iinc 1 1, 3) := by decide +kernel
theorem dX5_emptySlots_17 : decode cX5_emptySlots 17 = .ok (.goto (-15), 3) := by decide +kernel
theorem dX5_emptySlots_20 : decode cX5_emptySlots 20 = .ok (.return_, 1) := by decide +kernel
theorem dX5_withoutGroups_0 : decode cX5_withoutGroups 0 = .ok (.lload_n 0, 1) := by decide +kernel
theorem dX5_withoutGroups_1 : decode cX5_withoutGroups 1 = .ok (.lstore_n 3, 1) := by decide +kernel
theorem dX5_withoutGroups_2 : decode cX5_withoutGroups 2 = .ok (.iconst 0, 1) := by decide +kernel
theorem dX5_withoutGroups_3 : decode cX5_withoutGroups 3 = .ok (.istore 5, 2) := by decide +kernel
theorem dX5_withoutGroups_5 : decode cX5_withoutGroups 5 = .ok (.iload 5, 2) := by decide +kernel
theorem dX5_withoutGroups_7 : decode cX5_withoutGroups 7 = .ok (.iload_n 2, 1) := by decide +kernel
theorem dX5_withoutGroups_8 : decode cX5_withoutGroups 8 = .ok (.if_icmp .ge 15, 3) := by decide +kernel
theorem dX5_withoutGroups_11 : decode cX5_withoutGroups 11 = .ok (.lload_n 3, 1) := by decide +kernel
theorem dX5_withoutGroups_12 : decode cX5_withoutGroups 12 = .ok (.ldc2_w 270, 3) := by decide +kernel
theorem dX5_withoutGroups_15 : decode cX5_withoutGroups 15 = .ok (.ldiv, 1) := by decide +kernel
theorem dX5_withoutGroups_16 : decode cX5_withoutGroups 16 = .ok (.lstore_n 3, 1) := by decide +kernel
theorem dX5_withoutGroups_17 : decode cX5_withoutGroups 17 = .ok (.iinc 5 1, 3) := by decide +kernel
theorem dX5_withoutGroups_20 : decode cX5_withoutGroups 20 = .ok (.goto (-15), 3) := by decide +kernel
theorem dX5_withoutGroups_23 : decode cX5_withoutGroups 23 = .ok (.lload_n 3, 1) := by decide +kernel
theorem dX5_withoutGroups_24 : decode cX5_withoutGroups 24 = .ok (.lreturn, 1) := by decide +kernel
theorem dX5_findBeatWithLeak_0 : decode cX5_findBeatWithLeak 0 = .ok (.aload_n 0, 1) := by decide +kernel
theorem dX5_findBeatWithLeak_1 : decode cX5_findBeatWithLeak 1 = .ok (.getfield 38, 3) := by decide +kernel
theorem dX5_findBeatWithLeak_4 : decode cX5_findBeatWithLeak 4 = .ok (.aload_n 0, 1) := by decide +kernel
theorem dX5_findBeatWithLeak_5 : decode cX5_findBeatWithLeak 5 = .ok (.getfield 19, 3) := by decide +kernel
theorem dX5_findBeatWithLeak_8 : decode cX5_findBeatWithLeak 8 = .ok (.invokevirtual 237, 3) := by decide +kernel
theorem dX5_findBeatWithLeak_11 : decode cX5_findBeatWithLeak 11 = .ok (.aload_n 0, 1) := by decide +kernel
theorem dX5_findBeatWithLeak_12 : decode cX5_findBeatWithLeak 12 = .ok (.getfield 38, 3) := by decide +kernel
theorem dX5_findBeatWithLeak_15 : decode cX5_findBeatWithLeak 15 = .ok (.getfield 163, 3) := by decide +kernel
theorem dX5_findBeatWithLeak_18 : decode cX5_findBeatWithLeak 18 = .ok (.iload_n 1, 1) := by decide +kernel
theorem dX5_findBeatWithLeak_19 : decode cX5_findBeatWithLeak 19 = .ok (.iload_n 2, 1) := by decide +kernel
theorem dX5_findBeatWithLeak_20 : decode cX5_findBeatWithLeak 20 = .ok (.iastore, 1) := by decide +kernel
theorem dX5_findBeatWithLeak_21 : decode cX5_findBeatWithLeak 21 = .ok (.aload_n 0, 1) := by decide +kernel
theorem dX5_findBeatWithLeak_22 : decode cX5_findBeatWithLeak 22 = .ok (.getfield 38, 3) := by decide +kernel
theorem dX5_findBeatWithLeak_25 : decode cX5_findBeatWithLeak 25 = .ok (.iload_n 3, 1) := by decide +kernel
theorem dX5_findBeatWithLeak_26 : decode cX5_findBeatWithLeak 26 = .ok (.invokevirtual 256, 3) := by decide +kernel
theorem dX5_findBeatWithLeak_29 : decode cX5_findBeatWithLeak 29 = .ok (.ireturn, 1) := by decide +kernel
theorem dX6_init_0 : decode cX6_init 0 = .ok (.aload_n 0, 1) := by decide +kernel
theorem dX6_init_1 : decode cX6_init 1 = .ok (.invokespecial 1, 3) := by decide +kernel
theorem dX6_init_4 : decode cX6_init 4 = .ok (.aload_n 0, 1) := by decide +kernel
theorem dX6_init_5 : decode cX6_init 5 = .ok (.bipush 120, 2) := by decide +kernel
theorem dX6_init_7 : decode cX6_init 7 = .ok (.newarray .int, 2) := by decide +kernel
theorem dX6_init_9 : decode cX6_init 9 = .ok (.putfield 7, 3) := by decide +kernel
theorem dX6_init_12 : decode cX6_init 12 = .ok (.aload_n 0, 1) := by decide +kernel
theorem dX6_init_13 : decode cX6_init 13 = .ok (.sipush 268, 3) := by decide +kernel
theorem dX6_init_16 : decode cX6_init 16 = .ok (.newarray .int, 2) := by decide +kernel
theorem dX6_init_18 : decode cX6_init 18 = .ok (.putfield 13, 3) := by decide +kernel
theorem dX6_init_21 : decode cX6_init 21 = .ok (.aload_n 0, 1) := by decide +kernel
theorem dX6_init_22 : decode cX6_init 22 = .ok (.sipush 268, 3) := by decide +kernel
theorem dX6_init_25 : decode cX6_init 25 = .ok (.newarray .int, 2) := by decide +kernel
theorem dX6_init_27 : decode cX6_init 27 = .ok (.putfield 16, 3) := by decide +kernel
theorem dX6_init_30 : decode cX6_init 30 = .ok (.aload_n 0, 1) := by decide +kernel
theorem dX6_init_31 : decode cX6_init 31 = .ok (.sipush 268, 3) := by decide +kernel
theorem dX6_init_34 : decode cX6_init 34 = .ok (.newarray .int, 2) := by decide +kernel
theorem dX6_init_36 : decode cX6_init 36 = .ok (.putfield 19, 3) := by decide +kernel
theorem dX6_init_39 : decode cX6_init 39 = .ok (.aload_n 0, 1) := by decide +kernel
theorem dX6_init_40 : decode cX6_init 40 = .ok (.sipush 3752, 3) := by decide +kernel
theorem dX6_init_43 : decode cX6_init 43 = .ok (.newarray .int, 2) := by decide +kernel
theorem dX6_init_45 : decode cX6_init 45 = .ok (.putfield 22, 3) := by decide +kernel
theorem dX6_init_48 : decode cX6_init 48 = .ok (.aload_n 0, 1) := by decide +kernel
theorem dX6_init_49 : decode cX6_init 49 = .ok (.sipush 536, 3) := by decide +kernel
theorem dX6_init_52 : decode cX6_init 52 = .ok (.newarray .int, 2) := by decide +kernel
theorem dX6_init_54 : decode cX6_init 54 = .ok (.putfield 25, 3) := by decide +kernel
theorem dX6_init_57 : decode cX6_init 57 = .ok (.aload_n 0, 1) := by decide +kernel
theorem dX6_init_58 : decode cX6_init 58 = .ok (.iconst 2, 1) := by decide +kernel
theorem dX6_init_59 : decode cX6_init 59 = .ok (.newarray .boolean, 2) := by decide +kernel
theorem dX6_init_61 : decode cX6_init 61 = .ok (.putfield 28, 3) := by decide +kernel
theorem dX6_init_64 : decode cX6_init 64 = .ok (.aload_n 0, 1) := by decide +kernel
theorem dX6_init_65 : decode cX6_init 65 = .ok (.getfield 13, 3) := by decide +kernel
theorem dX6_init_68 : decode cX6_init 68 = .ok (.invokestatic 32, 3) := by decide +kernel
theorem dX6_init_71 : decode cX6_init 71 = .ok (.return_, 1) := by decide +kernel
theorem dX6_thrown_0 : decode cX6_thrown 0 = .ok (.aload_n 0, 1) := by decide +kernel
theorem dX6_thrown_1 : decode cX6_thrown 1 = .ok (.getfield 36, 3) := by decide +kernel
theorem dX6_thrown_4 : decode cX6_thrown 4 = .ok (.ireturn, 1) := by decide +kernel
theorem dX6_refused_0 : decode cX6_refused 0 = .ok (.aload_n 0, 1) := by decide +kernel
theorem dX6_refused_1 : decode cX6_refused 1 = .ok (.iload_n 1, 1) := by decide +kernel
theorem dX6_refused_2 : decode cX6_refused 2 = .ok (.putfield 36, 3) := by decide +kernel
theorem dX6_refused_5 : decode cX6_refused 5 = .ok (.iload_n 1, 1) := by decide +kernel
theorem dX6_refused_6 : decode cX6_refused 6 = .ok (.ifCond .le 7, 3) := by decide +kernel
theorem dX6_refused_9 : decode cX6_refused 9 = .ok (.iconst 1, 1) := by decide +kernel
theorem dX6_refused_10 : decode cX6_refused 10 = .ok (.goto 4, 3) := by decide +kernel
theorem dX6_refused_13 : decode cX6_refused 13 = .ok (.iconst 0, 1) := by decide +kernel
theorem dX6_refused_14 : decode cX6_refused 14 = .ok (.ireturn, 1) := by decide +kernel
theorem dX6_in_0 : decode cX6_in 0 = .ok (.lload_n 0, 1) := by decide +kernel
theorem dX6_in_1 : decode cX6_in 1 = .ok (.lload_n 2, 1) := by decide +kernel
theorem dX6_in_2 : decode cX6_in 2 = .ok (.lcmp, 1) := by decide +kernel
theorem dX6_in_3 : decode cX6_in 3 = .ok (.ifCond .lt 14, 3) := by decide +kernel
theorem dX6_in_6 : decode cX6_in 6 = .ok (.lload_n 0, 1) := by decide +kernel
theorem dX6_in_7 : decode cX6_in 7 = .ok (.lload 4, 2) := by decide +kernel
theorem dX6_in_9 : decode cX6_in 9 = .ok (.lcmp, 1) := by decide +kernel
theorem dX6_in_10 : decode cX6_in 10 = .ok (.ifCond .gt 7, 3) := by decide +kernel
theorem dX6_in_13 : decode cX6_in 13 = .ok (.iconst 1, 1) := by decide +kernel
theorem dX6_in_14 : decode cX6_in 14 = .ok (.goto 4, 3) := by decide +kernel
theorem dX6_in_17 : decode cX6_in 17 = .ok (.iconst 0, 1) := by decide +kernel
theorem dX6_in_18 : decode cX6_in 18 = .ok (.ireturn, 1) := by decide +kernel
theorem dX6_copyState_0 : decode cX6_copyState 0 = .ok (.iconst 0, 1) := by decide +kernel
theorem dX6_copyState_1 : decode cX6_copyState 1 = .ok (.istore 4, 2) := by decide +kernel
theorem dX6_copyState_3 : decode cX6_copyState 3 = .ok (.iload 4, 2) := by decide +kernel
theorem dX6_copyState_5 : decode cX6_copyState 5 = .ok (.sipush 268, 3) := by decide +kernel
theorem dX6_copyState_8 : decode cX6_copyState 8 = .ok (.if_icmp .ge 21, 3) := by decide +kernel
theorem dX6_copyState_11 : decode cX6_copyState 11 = .ok (.aload_n 2, 1) := by decide +kernel
theorem dX6_copyState_12 : decode cX6_copyState 12 = .ok (.iload_n 3, 1) := by decide +kernel
theorem dX6_copyState_13 : decode cX6_copyState 13 = .ok (.iload 4, 2) := by decide +kernel
theorem dX6_copyState_15 : decode cX6_copyState 15 = .ok (.iadd, 1) := by decide +kernel
theorem dX6_copyState_16 : decode cX6_copyState 16 = .ok (.aload_n 0, 1) := by decide +kernel
theorem dX6_copyState_17 : decode cX6_copyState 17 = .ok (.iload_n 1, 1) := by decide +kernel
theorem dX6_copyState_18 : decode cX6_copyState 18 = .ok (.iload 4, 2) := by decide +kernel
theorem dX6_copyState_20 : decode cX6_copyState 20 = .ok (.iadd, 1) := by decide +kernel
theorem dX6_copyState_21 : decode cX6_copyState 21 = .ok (.iaload, 1) := by decide +kernel
theorem dX6_copyState_22 : decode cX6_copyState 22 = .ok (.iastore, 1) := by decide +kernel
theorem dX6_copyState_23 : decode cX6_copyState 23 = .ok (.iinc 4 1, 3) := by decide +kernel
theorem dX6_copyState_26 : decode cX6_copyState 26 = .ok (.goto (-23), 3) := by decide +kernel
theorem dX6_copyState_29 : decode cX6_copyState 29 = .ok (.return_, 1) := by decide +kernel
theorem dX6_clear_0 : decode cX6_clear 0 = .ok (.iconst 0, 1) := by decide +kernel
theorem dX6_clear_1 : decode cX6_clear 1 = .ok (.istore_n 1, 1) := by decide +kernel
theorem dX6_clear_2 : decode cX6_clear 2 = .ok (.iload_n 1, 1) := by decide +kernel
theorem dX6_clear_3 : decode cX6_clear 3 = .ok (.sipush 268, 3) := by decide +kernel
theorem dX6_clear_6 : decode cX6_clear 6 = .ok (.if_icmp .ge 13, 3) := by decide +kernel
theorem dX6_clear_9 : decode cX6_clear 9 = .ok (.aload_n 0, 1) := by decide +kernel
theorem dX6_clear_10 : decode cX6_clear 10 = .ok (.iload_n 1, 1) := by decide +kernel
theorem dX6_clear_11 : decode cX6_clear 11 = .ok (.iconst 0, 1) := by decide +kernel
theorem dX6_clear_12 : decode cX6_clear 12 = .ok (.iastore, 1) := by decide +kernel
theorem dX6_clear_13 : decode cX6_clear 13 = .ok (.iinc 1 1, 3) := by decide +kernel
theorem dX6_clear_16 : decode cX6_clear 16 = .ok (.goto (-14), 3) := by decide +kernel
theorem dX6_clear_19 : decode cX6_clear 19 = .ok (.aload_n 0, 1) := by decide +kernel
theorem dX6_clear_20 : decode cX6_clear 20 = .ok (.iconst 4, 1) := by decide +kernel
theorem dX6_clear_21 : decode cX6_clear 21 = .ok (.iconst 2, 1) := by decide +kernel
theorem dX6_clear_22 : decode cX6_clear 22 = .ok (.iastore, 1) := by decide +kernel
theorem dX6_clear_23 : decode cX6_clear 23 = .ok (.aload_n 0, 1) := by decide +kernel
theorem dX6_clear_24 : decode cX6_clear 24 = .ok (.iconst 5, 1) := by decide +kernel
theorem dX6_clear_25 : decode cX6_clear 25 = .ok (.bipush 30, 2) := by decide +kernel
theorem dX6_clear_27 : decode cX6_clear 27 = .ok (.iastore, 1) := by decide +kernel
theorem dX6_clear_28 : decode cX6_clear 28 = .ok (.return_, 1) := by decide +kernel
theorem dX6_of_0 : decode cX6_of 0 = .ok (.aload_n 0, 1) := by decide +kernel
theorem dX6_of_1 : decode cX6_of 1 = .ok (.bipush 6, 2) := by decide +kernel
theorem dX6_of_3 : decode cX6_of 3 = .ok (.bipush 7, 2) := by decide +kernel
theorem dX6_of_5 : decode cX6_of 5 = .ok (.iload_n 1, 1) := by decide +kernel
theorem dX6_of_6 : decode cX6_of 6 = .ok (.imul, 1) := by decide +kernel
theorem dX6_of_7 : decode cX6_of 7 = .ok (.iadd, 1) := by decide +kernel
theorem dX6_of_8 : decode cX6_of 8 = .ok (.iload_n 2, 1) := by decide +kernel
theorem dX6_of_9 : decode cX6_of 9 = .ok (.iadd, 1) := by decide +kernel
theorem dX6_of_10 : decode cX6_of 10 = .ok (.iaload, 1) := by decide +kernel
theorem dX6_of_11 : decode cX6_of 11 = .ok (.ireturn, 1) := by decide +kernel
theorem dX6_ofDuct_0 : decode cX6_ofDuct 0 = .ok (.aload_n 0, 1) := by decide +kernel
theorem dX6_ofDuct_1 : decode cX6_ofDuct 1 = .ok (.bipush 76, 2) := by decide +kernel
theorem dX6_ofDuct_3 : decode cX6_ofDuct 3 = .ok (.bipush 12, 2) := by decide +kernel
theorem dX6_ofDuct_5 : decode cX6_ofDuct 5 = .ok (.iload_n 1, 1) := by decide +kernel
theorem dX6_ofDuct_6 : decode cX6_ofDuct 6 = .ok (.imul, 1) := by decide +kernel
theorem dX6_ofDuct_7 : decode cX6_ofDuct 7 = .ok (.iadd, 1) := by decide +kernel
theorem dX6_ofDuct_8 : decode cX6_ofDuct 8 = .ok (.iload_n 2, 1) := by decide +kernel
theorem dX6_ofDuct_9 : decode cX6_ofDuct 9 = .ok (.iadd, 1) := by decide +kernel
theorem dX6_ofDuct_10 : decode cX6_ofDuct 10 = .ok (.iaload, 1) := by decide +kernel
theorem dX6_ofDuct_11 : decode cX6_ofDuct 11 = .ok (.ireturn, 1) := by decide +kernel
theorem dX6_isValve_0 : decode cX6_isValve 0 = .ok (.iload_n 1, 1) := by decide +kernel
theorem dX6_isValve_1 : decode cX6_isValve 1 = .ok (.i2l, 1) := by decide +kernel
theorem dX6_isValve_2 : decode cX6_isValve 2 = .ok (.lconst 0, 1) := by decide +kernel
theorem dX6_isValve_3 : decode cX6_isValve 3 = .ok (.aload_n 0, 1) := by decide +kernel
theorem dX6_isValve_4 : decode cX6_isValve 4 = .ok (.iconst 0, 1) := by decide +kernel
theorem dX6_isValve_5 : decode cX6_isValve 5 = .ok (.iaload, 1) := by decide +kernel
theorem dX6_isValve_6 : decode cX6_isValve 6 = .ok (.iconst 1, 1) := by decide +kernel
theorem dX6_isValve_7 : decode cX6_isValve 7 = .ok (.isub, 1) := by decide +kernel
theorem dX6_isValve_8 : decode cX6_isValve 8 = .ok (.i2l, 1) := by decide +kernel
theorem dX6_isValve_9 : decode cX6_isValve 9 = .ok (.invokestatic 40, 3) := by decide +kernel
theorem dX6_isValve_12 : decode cX6_isValve 12 = .ok (.ireturn, 1) := by decide +kernel
theorem dX6_isDuct_0 : decode cX6_isDuct 0 = .ok (.iload_n 1, 1) := by decide +kernel
theorem dX6_isDuct_1 : decode cX6_isDuct 1 = .ok (.i2l, 1) := by decide +kernel
theorem dX6_isDuct_2 : decode cX6_isDuct 2 = .ok (.lconst 0, 1) := by decide +kernel
theorem dX6_isDuct_3 : decode cX6_isDuct 3 = .ok (.aload_n 0, 1) := by decide +kernel
theorem dX6_isDuct_4 : decode cX6_isDuct 4 = .ok (.iconst 1, 1) := by decide +kernel
theorem dX6_isDuct_5 : decode cX6_isDuct 5 = .ok (.iaload, 1) := by decide +kernel
theorem dX6_isDuct_6 : decode cX6_isDuct 6 = .ok (.iconst 1, 1) := by decide +kernel
theorem dX6_isDuct_7 : decode cX6_isDuct 7 = .ok (.isub, 1) := by decide +kernel
theorem dX6_isDuct_8 : decode cX6_isDuct 8 = .ok (.i2l, 1) := by decide +kernel
theorem dX6_isDuct_9 : decode cX6_isDuct 9 = .ok (.invokestatic 40, 3) := by decide +kernel
theorem dX6_isDuct_12 : decode cX6_isDuct 12 = .ok (.ireturn, 1) := by decide +kernel
theorem dX6_isSide_0 : decode cX6_isSide 0 = .ok (.iload_n 0, 1) := by decide +kernel
theorem dX6_isSide_1 : decode cX6_isSide 1 = .ok (.i2l, 1) := by decide +kernel
theorem dX6_isSide_2 : decode cX6_isSide 2 = .ok (.lconst 0, 1) := by decide +kernel
theorem dX6_isSide_3 : decode cX6_isSide 3 = .ok (.lconst 1, 1) := by decide +kernel
theorem dX6_isSide_4 : decode cX6_isSide 4 = .ok (.invokestatic 40, 3) := by decide +kernel
theorem dX6_isSide_7 : decode cX6_isSide 7 = .ok (.ireturn, 1) := by decide +kernel
theorem dX6_isKey_0 : decode cX6_isKey 0 = .ok (.aload_n 0, 1) := by decide +kernel
theorem dX6_isKey_1 : decode cX6_isKey 1 = .ok (.iload_n 1, 1) := by decide +kernel
theorem dX6_isKey_2 : decode cX6_isKey 2 = .ok (.invokestatic 44, 3) := by decide +kernel
theorem dX6_isKey_5 : decode cX6_isKey 5 = .ok (.ifCond .eq 16, 3) := by decide +kernel
theorem dX6_isKey_8 : decode cX6_isKey 8 = .ok (.aload_n 0, 1) := by decide +kernel
theorem dX6_isKey_9 : decode cX6_isKey 9 = .ok (.iload_n 1, 1) := by decide +kernel
theorem dX6_isKey_10 : decode cX6_isKey 10 = .ok (.iconst 0, 1) := by decide +kernel
theorem dX6_isKey_11 : decode cX6_isKey 11 = .ok (.invokestatic 48, 3) := by decide +kernel
theorem dX6_isKey_14 : decode cX6_isKey 14 = .ok (.ifCond .ne 7, 3) := by decide +kernel
theorem dX6_isKey_17 : decode cX6_isKey 17 = .ok (.iconst 1, 1) := by decide +kernel
theorem dX6_isKey_18 : decode cX6_isKey 18 = .ok (.goto 4, 3) := by decide +kernel
theorem dX6_isKey_21 : decode cX6_isKey 21 = .ok (.iconst 0, 1) := by decide +kernel
theorem dX6_isKey_22 : decode cX6_isKey 22 = .ok (.ireturn, 1) := by decide +kernel
theorem dX6_isSetting_0 : decode cX6_isSetting 0 = .ok (.iload_n 0, 1) := by decide +kernel
theorem dX6_isSetting_1 : decode cX6_isSetting 1 = .ok (.ifCond .ne 15, 3) := by decide +kernel
theorem dX6_isSetting_4 : decode cX6_isSetting 4 = .ok (.iload_n 1, 1) := by decide +kernel
theorem dX6_isSetting_5 : decode cX6_isSetting 5 = .ok (.i2l, 1) := by decide +kernel
theorem dX6_isSetting_6 : decode cX6_isSetting 6 = .ok (.lconst 0, 1) := by decide +kernel
theorem dX6_isSetting_7 : decode cX6_isSetting 7 = .ok (.ldc2_w 52, 3) := by decide +kernel
theorem dX6_isSetting_10 : decode cX6_isSetting 10 = .ok (.invokestatic 40, 3) := by decide +kernel
theorem dX6_isSetting_13 : decode cX6_isSetting 13 = .ok (.ifCond .ne 22, 3) := by decide +kernel
theorem dX6_isSetting_16 : decode cX6_isSetting 16 = .ok (.iload_n 0, 1) := by decide +kernel
theorem dX6_isSetting_17 : decode cX6_isSetting 17 = .ok (.iconst 1, 1) := by decide +kernel
theorem dX6_isSetting_18 : decode cX6_isSetting 18 = .ok (.if_icmp .ne 21, 3) := by decide +kernel
theorem dX6_isSetting_21 : decode cX6_isSetting 21 = .ok (.iload_n 1, 1) := by decide +kernel
theorem dX6_isSetting_22 : decode cX6_isSetting 22 = .ok (.i2l, 1) := by decide +kernel
theorem dX6_isSetting_23 : decode cX6_isSetting 23 = .ok (.ldc2_w 54, 3) := by decide +kernel
theorem dX6_isSetting_26 : decode cX6_isSetting 26 = .ok (.ldc2_w 56, 3) := by decide +kernel
theorem dX6_isSetting_29 : decode cX6_isSetting 29 = .ok (.invokestatic 40, 3) := by decide +kernel
theorem dX6_isSetting_32 : decode cX6_isSetting 32 = .ok (.ifCond .eq 7, 3) := by decide +kernel
theorem dX6_isSetting_35 : decode cX6_isSetting 35 = .ok (.iconst 1, 1) := by decide +kernel
theorem dX6_isSetting_36 : decode cX6_isSetting 36 = .ok (.goto 4, 3) := by decide +kernel
theorem dX6_isSetting_39 : decode cX6_isSetting 39 = .ok (.iconst 0, 1) := by decide +kernel
theorem dX6_isSetting_40 : decode cX6_isSetting 40 = .ok (.ireturn, 1) := by decide +kernel
theorem dX6_isStrong_0 : decode cX6_isStrong 0 = .ok (.iload_n 2, 1) := by decide +kernel
theorem dX6_isStrong_1 : decode cX6_isStrong 1 = .ok (.ifCond .le 24, 3) := by decide +kernel
theorem dX6_isStrong_4 : decode cX6_isStrong 4 = .ok (.bipush 100, 2) := by decide +kernel
theorem dX6_isStrong_6 : decode cX6_isStrong 6 = .ok (.iload_n 2, 1) := by decide +kernel
theorem dX6_isStrong_7 : decode cX6_isStrong 7 = .ok (.imul, 1) := by decide +kernel
theorem dX6_isStrong_8 : decode cX6_isStrong 8 = .ok (.aload_n 0, 1) := by decide +kernel
theorem dX6_isStrong_9 : decode cX6_isStrong 9 = .ok (.iload_n 1, 1) := by decide +kernel
theorem dX6_isStrong_10 : decode cX6_isStrong 10 = .ok (.iconst 1, 1) := by decide +kernel
theorem dX6_isStrong_11 : decode cX6_isStrong 11 = .ok (.invokestatic 48, 3) := by decide +kernel
theorem dX6_isStrong_14 : decode cX6_isStrong 14 = .ok (.aload_n 0, 1) := by decide +kernel
theorem dX6_isStrong_15 : decode cX6_isStrong 15 = .ok (.iconst 5, 1) := by decide +kernel
theorem dX6_isStrong_16 : decode cX6_isStrong 16 = .ok (.iaload, 1) := by decide +kernel
theorem dX6_isStrong_17 : decode cX6_isStrong 17 = .ok (.imul, 1) := by decide +kernel
theorem dX6_isStrong_18 : decode cX6_isStrong 18 = .ok (.if_icmp .lt 7, 3) := by decide +kernel
theorem dX6_isStrong_21 : decode cX6_isStrong 21 = .ok (.iconst 1, 1) := by decide +kernel
theorem dX6_isStrong_22 : decode cX6_isStrong 22 = .ok (.goto 4, 3) := by decide +kernel
theorem dX6_isStrong_25 : decode cX6_isStrong 25 = .ok (.iconst 0, 1) := by decide +kernel
theorem dX6_isStrong_26 : decode cX6_isStrong 26 = .ok (.ireturn, 1) := by decide +kernel
theorem dX6_works_0 : decode cX6_works 0 = .ok (.aload_n 0, 1) := by decide +kernel
theorem dX6_works_1 : decode cX6_works 1 = .ok (.iload_n 1, 1) := by decide +kernel
theorem dX6_works_2 : decode cX6_works 2 = .ok (.aload_n 0, 1) := by decide +kernel
theorem dX6_works_3 : decode cX6_works 3 = .ok (.iload_n 1, 1) := by decide +kernel
theorem dX6_works_4 : decode cX6_works 4 = .ok (.iconst 5, 1) := by decide +kernel
theorem dX6_works_5 : decode cX6_works 5 = .ok (.iload_n 2, 1) := by decide +kernel
theorem dX6_works_6 : decode cX6_works 6 = .ok (.iadd, 1) := by decide +kernel
theorem dX6_works_7 : decode cX6_works 7 = .ok (.invokestatic 48, 3) := by decide +kernel
theorem dX6_works_10 : decode cX6_works 10 = .ok (.invokestatic 58, 3) := by decide +kernel
theorem dX6_works_13 : decode cX6_works 13 = .ok (.ireturn, 1) := by decide +kernel
theorem dX6_comesOut_0 : decode cX6_comesOut 0 = .ok (.aload_n 0, 1) := by decide +kernel
theorem dX6_comesOut_1 : decode cX6_comesOut 1 = .ok (.iload_n 1, 1) := by decide +kernel
theorem dX6_comesOut_2 : decode cX6_comesOut 2 = .ok (.bipush 6, 2) := by decide +kernel
theorem dX6_comesOut_4 : decode cX6_comesOut 4 = .ok (.invokestatic 62, 3) := by decide +kernel
theorem dX6_comesOut_7 : decode cX6_comesOut 7 = .ok (.aload_n 0, 1) := by decide +kernel
theorem dX6_comesOut_8 : decode cX6_comesOut 8 = .ok (.iload_n 1, 1) := by decide +kernel
theorem dX6_comesOut_9 : decode cX6_comesOut 9 = .ok (.iconst 4, 1) := by decide +kernel
theorem dX6_comesOut_10 : decode cX6_comesOut 10 = .ok (.invokestatic 62, 3) := by decide +kernel
theorem dX6_comesOut_13 : decode cX6_comesOut 13 = .ok (.aload_n 0, 1) := by decide +kernel
theorem dX6_comesOut_14 : decode cX6_comesOut 14 = .ok (.iconst 4, 1) := by decide +kernel
theorem dX6_comesOut_15 : decode cX6_comesOut 15 = .ok (.iaload, 1) := by decide +kernel
theorem dX6_comesOut_16 : decode cX6_comesOut 16 = .ok (.imul, 1) := by decide +kernel
theorem dX6_comesOut_17 : decode cX6_comesOut 17 = .ok (.isub, 1) := by decide +kernel
theorem dX6_comesOut_18 : decode cX6_comesOut 18 = .ok (.aload_n 0, 1) := by decide +kernel
theorem dX6_comesOut_19 : decode cX6_comesOut 19 = .ok (.iload_n 1, 1) := by decide +kernel
theorem dX6_comesOut_20 : decode cX6_comesOut 20 = .ok (.iconst 5, 1) := by decide +kernel
theorem dX6_comesOut_21 : decode cX6_comesOut 21 = .ok (.invokestatic 62, 3) := by decide +kernel
theorem dX6_comesOut_24 : decode cX6_comesOut 24 = .ok (.isub, 1) := by decide +kernel
theorem dX6_comesOut_25 : decode cX6_comesOut 25 = .ok (.istore_n 2, 1) := by decide +kernel
theorem dX6_comesOut_26 : decode cX6_comesOut 26 = .ok (.iload_n 2, 1) := by decide +kernel
theorem dX6_comesOut_27 : decode cX6_comesOut 27 = .ok (.ifCond .ge 7, 3) := by decide +kernel
theorem dX6_comesOut_30 : decode cX6_comesOut 30 = .ok (.iconst 0, 1) := by decide +kernel
theorem dX6_comesOut_31 : decode cX6_comesOut 31 = .ok (.goto 4, 3) := by decide +kernel
theorem dX6_comesOut_34 : decode cX6_comesOut 34 = .ok (.iload_n 2, 1) := by decide +kernel
theorem dX6_comesOut_35 : decode cX6_comesOut 35 = .ok (.ireturn, 1) := by decide +kernel
theorem dX6_pushAll_0 : decode cX6_pushAll 0 = .ok (.iconst 0, 1) := by decide +kernel
theorem dX6_pushAll_1 : decode cX6_pushAll 1 = .ok (.istore_n 1, 1) := by decide +kernel
theorem dX6_pushAll_2 : decode cX6_pushAll 2 = .ok (.iload_n 1, 1) := by decide +kernel
theorem dX6_pushAll_3 : decode cX6_pushAll 3 = .ok (.aload_n 0, 1) := by decide +kernel
theorem dX6_pushAll_4 : decode cX6_pushAll 4 = .ok (.iconst 0, 1) := by decide +kernel
theorem dX6_pushAll_5 : decode cX6_pushAll 5 = .ok (.iaload, 1) := by decide +kernel
theorem dX6_pushAll_6 : decode cX6_pushAll 6 = .ok (.if_icmp .ge 35, 3) := by decide +kernel
theorem dX6_pushAll_9 : decode cX6_pushAll 9 = .ok (.aload_n 0, 1) := by decide +kernel
theorem dX6_pushAll_10 : decode cX6_pushAll 10 = .ok (.bipush 6, 2) := by decide +kernel
theorem dX6_pushAll_12 : decode cX6_pushAll 12 = .ok (.bipush 7, 2) := by decide +kernel
theorem dX6_pushAll_14 : decode cX6_pushAll 14 = .ok (.iload_n 1, 1) := by decide +kernel
theorem dX6_pushAll_15 : decode cX6_pushAll 15 = .ok (.imul, 1) := by decide +kernel
theorem dX6_pushAll_16 : decode cX6_pushAll 16 = .ok (.iadd, 1) := by decide +kernel
theorem dX6_pushAll_17 : decode cX6_pushAll 17 = .ok (.iconst 5, 1) := by decide +kernel
theorem dX6_pushAll_18 : decode cX6_pushAll 18 = .ok (.iadd, 1) := by decide +kernel
theorem dX6_pushAll_19 : decode cX6_pushAll 19 = .ok (.iconst 0, 1) := by decide +kernel
theorem dX6_pushAll_20 : decode cX6_pushAll 20 = .ok (.iastore, 1) := by decide +kernel
theorem dX6_pushAll_21 : decode cX6_pushAll 21 = .ok (.aload_n 0, 1) := by decide +kernel
theorem dX6_pushAll_22 : decode cX6_pushAll 22 = .ok (.bipush 6, 2) := by decide +kernel
theorem dX6_pushAll_24 : decode cX6_pushAll 24 = .ok (.bipush 7, 2) := by decide +kernel
theorem dX6_pushAll_26 : decode cX6_pushAll 26 = .ok (.iload_n 1, 1) := by decide +kernel
theorem dX6_pushAll_27 : decode cX6_pushAll 27 = .ok (.imul, 1) := by decide +kernel
theorem dX6_pushAll_28 : decode cX6_pushAll 28 = .ok (.iadd, 1) := by decide +kernel
theorem dX6_pushAll_29 : decode cX6_pushAll 29 = .ok (.iconst 5, 1) := by decide +kernel
theorem dX6_pushAll_30 : decode cX6_pushAll 30 = .ok (.iadd, 1) := by decide +kernel
theorem dX6_pushAll_31 : decode cX6_pushAll 31 = .ok (.iconst 1, 1) := by decide +kernel
theorem dX6_pushAll_32 : decode cX6_pushAll 32 = .ok (.iadd, 1) := by decide +kernel
theorem dX6_pushAll_33 : decode cX6_pushAll 33 = .ok (.iconst 0, 1) := by decide +kernel
theorem dX6_pushAll_34 : decode cX6_pushAll 34 = .ok (.iastore, 1) := by decide +kernel
theorem dX6_pushAll_35 : decode cX6_pushAll 35 = .ok (.iinc 1 1, 3) := by decide +kernel
theorem dX6_pushAll_38 : decode cX6_pushAll 38 = .ok (.goto (-36), 3) := by decide +kernel
theorem dX6_pushAll_41 : decode cX6_pushAll 41 = .ok (.iconst 0, 1) := by decide +kernel
theorem dX6_pushAll_42 : decode cX6_pushAll 42 = .ok (.istore_n 1, 1) := by decide +kernel
theorem dX6_pushAll_43 : decode cX6_pushAll 43 = .ok (.iload_n 1, 1) := by decide +kernel
theorem dX6_pushAll_44 : decode cX6_pushAll 44 = .ok (.aload_n 0, 1) := by decide +kernel
theorem dX6_pushAll_45 : decode cX6_pushAll 45 = .ok (.iconst 1, 1) := by decide +kernel
theorem dX6_pushAll_46 : decode cX6_pushAll 46 = .ok (.iaload, 1) := by decide +kernel
theorem dX6_pushAll_47 : decode cX6_pushAll 47 = .ok (.if_icmp .ge 54, 3) := by decide +kernel
theorem dX6_pushAll_50 : decode cX6_pushAll 50 = .ok (.bipush 6, 2) := by decide +kernel
theorem dX6_pushAll_52 : decode cX6_pushAll 52 = .ok (.bipush 7, 2) := by decide +kernel
theorem dX6_pushAll_54 : decode cX6_pushAll 54 = .ok (.aload_n 0, 1) := by decide +kernel
theorem dX6_pushAll_55 : decode cX6_pushAll 55 = .ok (.iload_n 1, 1) := by decide +kernel
theorem dX6_pushAll_56 : decode cX6_pushAll 56 = .ok (.iconst 2, 1) := by decide +kernel
theorem dX6_pushAll_57 : decode cX6_pushAll 57 = .ok (.invokestatic 62, 3) := by decide +kernel
theorem dX6_pushAll_60 : decode cX6_pushAll 60 = .ok (.imul, 1) := by decide +kernel
theorem dX6_pushAll_61 : decode cX6_pushAll 61 = .ok (.iadd, 1) := by decide +kernel
theorem dX6_pushAll_62 : decode cX6_pushAll 62 = .ok (.iconst 5, 1) := by decide +kernel
theorem dX6_pushAll_63 : decode cX6_pushAll 63 = .ok (.iadd, 1) := by decide +kernel
theorem dX6_pushAll_64 : decode cX6_pushAll 64 = .ok (.aload_n 0, 1) := by decide +kernel
theorem dX6_pushAll_65 : decode cX6_pushAll 65 = .ok (.iload_n 1, 1) := by decide +kernel
theorem dX6_pushAll_66 : decode cX6_pushAll 66 = .ok (.iconst 3, 1) := by decide +kernel
theorem dX6_pushAll_67 : decode cX6_pushAll 67 = .ok (.invokestatic 62, 3) := by decide +kernel
theorem dX6_pushAll_70 : decode cX6_pushAll 70 = .ok (.iadd, 1) := by decide +kernel
theorem dX6_pushAll_71 : decode cX6_pushAll 71 = .ok (.istore_n 2, 1) := by decide +kernel
theorem dX6_pushAll_72 : decode cX6_pushAll 72 = .ok (.aload_n 0, 1) := by decide +kernel
theorem dX6_pushAll_73 : decode cX6_pushAll 73 = .ok (.iload_n 1, 1) := by decide +kernel
theorem dX6_pushAll_74 : decode cX6_pushAll 74 = .ok (.invokestatic 65, 3) := by decide +kernel
theorem dX6_pushAll_77 : decode cX6_pushAll 77 = .ok (.istore_n 3, 1) := by decide +kernel
theorem dX6_pushAll_78 : decode cX6_pushAll 78 = .ok (.aload_n 0, 1) := by decide +kernel
theorem dX6_pushAll_79 : decode cX6_pushAll 79 = .ok (.iload_n 2, 1) := by decide +kernel
theorem dX6_pushAll_80 : decode cX6_pushAll 80 = .ok (.iload_n 3, 1) := by decide +kernel
theorem dX6_pushAll_81 : decode cX6_pushAll 81 = .ok (.aload_n 0, 1) := by decide +kernel
theorem dX6_pushAll_82 : decode cX6_pushAll 82 = .ok (.iload_n 2, 1) := by decide +kernel
theorem dX6_pushAll_83 : decode cX6_pushAll 83 = .ok (.iaload, 1) := by decide +kernel
theorem dX6_pushAll_84 : decode cX6_pushAll 84 = .ok (.if_icmp .le 7, 3) := by decide +kernel
theorem dX6_pushAll_87 : decode cX6_pushAll 87 = .ok (.iload_n 3, 1) := by decide +kernel
theorem dX6_pushAll_88 : decode cX6_pushAll 88 = .ok (.goto 6, 3) := by decide +kernel
theorem dX6_pushAll_91 : decode cX6_pushAll 91 = .ok (.aload_n 0, 1) := by decide +kernel
theorem dX6_pushAll_92 : decode cX6_pushAll 92 = .ok (.iload_n 2, 1) := by decide +kernel
theorem dX6_pushAll_93 : decode cX6_pushAll 93 = .ok (.iaload, 1) := by decide +kernel
theorem dX6_pushAll_94 : decode cX6_pushAll 94 = .ok (.iastore, 1) := by decide +kernel
theorem dX6_pushAll_95 : decode cX6_pushAll 95 = .ok (.iinc 1 1, 3) := by decide +kernel
theorem dX6_pushAll_98 : decode cX6_pushAll 98 = .ok (.goto (-55), 3) := by decide +kernel
theorem dX6_pushAll_101 : decode cX6_pushAll 101 = .ok (.return_, 1) := by decide +kernel
theorem dX6_layLegs_0 : decode cX6_layLegs 0 = .ok (.aload_n 0, 1) := by decide +kernel
theorem dX6_layLegs_1 : decode cX6_layLegs 1 = .ok (.bipush 6, 2) := by decide +kernel
theorem dX6_layLegs_3 : decode cX6_layLegs 3 = .ok (.bipush 7, 2) := by decide +kernel
theorem dX6_layLegs_5 : decode cX6_layLegs 5 = .ok (.iload_n 1, 1) := by decide +kernel
theorem dX6_layLegs_6 : decode cX6_layLegs 6 = .ok (.imul, 1) := by decide +kernel
theorem dX6_layLegs_7 : decode cX6_layLegs 7 = .ok (.iadd, 1) := by decide +kernel
theorem dX6_layLegs_8 : decode cX6_layLegs 8 = .ok (.iconst 3, 1) := by decide +kernel
theorem dX6_layLegs_9 : decode cX6_layLegs 9 = .ok (.iadd, 1) := by decide +kernel
theorem dX6_layLegs_10 : decode cX6_layLegs 10 = .ok (.iload_n 2, 1) := by decide +kernel
theorem dX6_layLegs_11 : decode cX6_layLegs 11 = .ok (.iadd, 1) := by decide +kernel
theorem dX6_layLegs_12 : decode cX6_layLegs 12 = .ok (.iload_n 3, 1) := by decide +kernel
theorem dX6_layLegs_13 : decode cX6_layLegs 13 = .ok (.iastore, 1) := by decide +kernel
theorem dX6_layLegs_14 : decode cX6_layLegs 14 = .ok (.aload_n 0, 1) := by decide +kernel
theorem dX6_layLegs_15 : decode cX6_layLegs 15 = .ok (.bipush 6, 2) := by decide +kernel
theorem dX6_layLegs_17 : decode cX6_layLegs 17 = .ok (.bipush 7, 2) := by decide +kernel
theorem dX6_layLegs_19 : decode cX6_layLegs 19 = .ok (.iload_n 1, 1) := by decide +kernel
theorem dX6_layLegs_20 : decode cX6_layLegs 20 = .ok (.imul, 1) := by decide +kernel
theorem dX6_layLegs_21 : decode cX6_layLegs 21 = .ok (.iadd, 1) := by decide +kernel
theorem dX6_layLegs_22 : decode cX6_layLegs 22 = .ok (.iconst 3, 1) := by decide +kernel
theorem dX6_layLegs_23 : decode cX6_layLegs 23 = .ok (.iadd, 1) := by decide +kernel
theorem dX6_layLegs_24 : decode cX6_layLegs 24 = .ok (.iconst 1, 1) := by decide +kernel
theorem dX6_layLegs_25 : decode cX6_layLegs 25 = .ok (.iadd, 1) := by decide +kernel
theorem dX6_layLegs_26 : decode cX6_layLegs 26 = .ok (.iload_n 2, 1) := by decide +kernel
theorem dX6_layLegs_27 : decode cX6_layLegs 27 = .ok (.isub, 1) := by decide +kernel
theorem dX6_layLegs_28 : decode cX6_layLegs 28 = .ok (.iconst 0, 1) := by decide +kernel
theorem dX6_layLegs_29 : decode cX6_layLegs 29 = .ok (.iastore, 1) := by decide +kernel
theorem dX6_layLegs_30 : decode cX6_layLegs 30 = .ok (.return_, 1) := by decide +kernel
theorem dX6_goesOver_0 : decode cX6_goesOver 0 = .ok (.bipush 6, 2) := by decide +kernel
theorem dX6_goesOver_2 : decode cX6_goesOver 2 = .ok (.bipush 7, 2) := by decide +kernel
theorem dX6_goesOver_4 : decode cX6_goesOver 4 = .ok (.iload_n 1, 1) := by decide +kernel
theorem dX6_goesOver_5 : decode cX6_goesOver 5 = .ok (.imul, 1) := by decide +kernel
theorem dX6_goesOver_6 : decode cX6_goesOver 6 = .ok (.iadd, 1) := by decide +kernel
theorem dX6_goesOver_7 : decode cX6_goesOver 7 = .ok (.iconst 2, 1) := by decide +kernel
theorem dX6_goesOver_8 : decode cX6_goesOver 8 = .ok (.iadd, 1) := by decide +kernel
theorem dX6_goesOver_9 : decode cX6_goesOver 9 = .ok (.istore_n 3, 1) := by decide +kernel
theorem dX6_goesOver_10 : decode cX6_goesOver 10 = .ok (.aload_n 0, 1) := by decide +kernel
theorem dX6_goesOver_11 : decode cX6_goesOver 11 = .ok (.iconst 3, 1) := by decide +kernel
theorem dX6_goesOver_12 : decode cX6_goesOver 12 = .ok (.dup2, 1) := by decide +kernel
theorem dX6_goesOver_13 : decode cX6_goesOver 13 = .ok (.iaload, 1) := by decide +kernel
theorem dX6_goesOver_14 : decode cX6_goesOver 14 = .ok (.aload_n 0, 1) := by decide +kernel
theorem dX6_goesOver_15 : decode cX6_goesOver 15 = .ok (.iload_n 3, 1) := by decide +kernel
theorem dX6_goesOver_16 : decode cX6_goesOver 16 = .ok (.iaload, 1) := by decide +kernel
theorem dX6_goesOver_17 : decode cX6_goesOver 17 = .ok (.iload_n 2, 1) := by decide +kernel
theorem dX6_goesOver_18 : decode cX6_goesOver 18 = .ok (.if_icmp .ne 7, 3) := by decide +kernel
theorem dX6_goesOver_21 : decode cX6_goesOver 21 = .ok (.iconst 0, 1) := by decide +kernel
theorem dX6_goesOver_22 : decode cX6_goesOver 22 = .ok (.goto 4, 3) := by decide +kernel
theorem dX6_goesOver_25 : decode cX6_goesOver 25 = .ok (.iconst 1, 1) := by decide +kernel
theorem dX6_goesOver_26 : decode cX6_goesOver 26 = .ok (.iadd, 1) := by decide +kernel
theorem dX6_goesOver_27 : decode cX6_goesOver 27 = .ok (.iastore, 1) := by decide +kernel
theorem dX6_goesOver_28 : decode cX6_goesOver 28 = .ok (.aload_n 0, 1) := by decide +kernel
theorem dX6_goesOver_29 : decode cX6_goesOver 29 = .ok (.iload_n 3, 1) := by decide +kernel
theorem dX6_goesOver_30 : decode cX6_goesOver 30 = .ok (.iload_n 2, 1) := by decide +kernel
theorem dX6_goesOver_31 : decode cX6_goesOver 31 = .ok (.iastore, 1) := by decide +kernel
theorem dX6_goesOver_32 : decode cX6_goesOver 32 = .ok (.return_, 1) := by decide +kernel
theorem dX6_reckon_0 : decode cX6_reckon 0 = .ok (.aload_n 0, 1) := by decide +kernel
theorem dX6_reckon_1 : decode cX6_reckon 1 = .ok (.iload_n 1, 1) := by decide +kernel
theorem dX6_reckon_2 : decode cX6_reckon 2 = .ok (.iconst 1, 1) := by decide +kernel
theorem dX6_reckon_3 : decode cX6_reckon 3 = .ok (.invokestatic 48, 3) := by decide +kernel
theorem dX6_reckon_6 : decode cX6_reckon 6 = .ok (.istore_n 2, 1) := by decide +kernel
theorem dX6_reckon_7 : decode cX6_reckon 7 = .ok (.aload_n 0, 1) := by decide +kernel
theorem dX6_reckon_8 : decode cX6_reckon 8 = .ok (.iload_n 1, 1) := by decide +kernel
theorem dX6_reckon_9 : decode cX6_reckon 9 = .ok (.iconst 5, 1) := by decide +kernel
theorem dX6_reckon_10 : decode cX6_reckon 10 = .ok (.invokestatic 48, 3) := by decide +kernel
theorem dX6_reckon_13 : decode cX6_reckon 13 = .ok (.istore_n 3, 1) := by decide +kernel
theorem dX6_reckon_14 : decode cX6_reckon 14 = .ok (.aload_n 0, 1) := by decide +kernel
theorem dX6_reckon_15 : decode cX6_reckon 15 = .ok (.iload_n 1, 1) := by decide +kernel
theorem dX6_reckon_16 : decode cX6_reckon 16 = .ok (.bipush 6, 2) := by decide +kernel
theorem dX6_reckon_18 : decode cX6_reckon 18 = .ok (.invokestatic 48, 3) := by decide +kernel
theorem dX6_reckon_21 : decode cX6_reckon 21 = .ok (.istore 4, 2) := by decide +kernel
theorem dX6_reckon_23 : decode cX6_reckon 23 = .ok (.aload_n 0, 1) := by decide +kernel
theorem dX6_reckon_24 : decode cX6_reckon 24 = .ok (.iload_n 1, 1) := by decide +kernel
theorem dX6_reckon_25 : decode cX6_reckon 25 = .ok (.iconst 0, 1) := by decide +kernel
theorem dX6_reckon_26 : decode cX6_reckon 26 = .ok (.invokestatic 69, 3) := by decide +kernel
theorem dX6_reckon_29 : decode cX6_reckon 29 = .ok (.istore 5, 2) := by decide +kernel
theorem dX6_reckon_31 : decode cX6_reckon 31 = .ok (.aload_n 0, 1) := by decide +kernel
theorem dX6_reckon_32 : decode cX6_reckon 32 = .ok (.iload_n 1, 1) := by decide +kernel
theorem dX6_reckon_33 : decode cX6_reckon 33 = .ok (.iconst 1, 1) := by decide +kernel
theorem dX6_reckon_34 : decode cX6_reckon 34 = .ok (.invokestatic 69, 3) := by decide +kernel
theorem dX6_reckon_37 : decode cX6_reckon 37 = .ok (.istore 6, 2) := by decide +kernel
theorem dX6_reckon_39 : decode cX6_reckon 39 = .ok (.aload_n 0, 1) := by decide +kernel
theorem dX6_reckon_40 : decode cX6_reckon 40 = .ok (.iload_n 1, 1) := by decide +kernel
theorem dX6_reckon_41 : decode cX6_reckon 41 = .ok (.iconst 0, 1) := by decide +kernel
theorem dX6_reckon_42 : decode cX6_reckon 42 = .ok (.invokestatic 48, 3) := by decide +kernel
theorem dX6_reckon_45 : decode cX6_reckon 45 = .ok (.tableswitch 160 0 3 #[31, 48, 72, 109], 31) := by decide +kernel
theorem dX6_reckon_76 : decode cX6_reckon 76 = .ok (.aload_n 0, 1) := by decide +kernel
theorem dX6_reckon_77 : decode cX6_reckon 77 = .ok (.iload_n 1, 1) := by decide +kernel
theorem dX6_reckon_78 : decode cX6_reckon 78 = .ok (.iconst 1, 1) := by decide +kernel
theorem dX6_reckon_79 : decode cX6_reckon 79 = .ok (.aload_n 0, 1) := by decide +kernel
theorem dX6_reckon_80 : decode cX6_reckon 80 = .ok (.iload_n 1, 1) := by decide +kernel
theorem dX6_reckon_81 : decode cX6_reckon 81 = .ok (.iconst 2, 1) := by decide +kernel
theorem dX6_reckon_82 : decode cX6_reckon 82 = .ok (.invokestatic 48, 3) := by decide +kernel
theorem dX6_reckon_85 : decode cX6_reckon 85 = .ok (.isub, 1) := by decide +kernel
theorem dX6_reckon_86 : decode cX6_reckon 86 = .ok (.iload_n 2, 1) := by decide +kernel
theorem dX6_reckon_87 : decode cX6_reckon 87 = .ok (.invokestatic 72, 3) := by decide +kernel
theorem dX6_reckon_90 : decode cX6_reckon 90 = .ok (.goto 137, 3) := by decide +kernel
theorem dX6_reckon_93 : decode cX6_reckon 93 = .ok (.aload_n 0, 1) := by decide +kernel
theorem dX6_reckon_94 : decode cX6_reckon 94 = .ok (.iload_n 1, 1) := by decide +kernel
theorem dX6_reckon_95 : decode cX6_reckon 95 = .ok (.iload 5, 2) := by decide +kernel
theorem dX6_reckon_97 : decode cX6_reckon 97 = .ok (.ifCond .ne 8, 3) := by decide +kernel
theorem dX6_reckon_100 : decode cX6_reckon 100 = .ok (.iload 6, 2) := by decide +kernel
theorem dX6_reckon_102 : decode cX6_reckon 102 = .ok (.ifCond .eq 7, 3) := by decide +kernel
theorem dX6_reckon_105 : decode cX6_reckon 105 = .ok (.iconst 1, 1) := by decide +kernel
theorem dX6_reckon_106 : decode cX6_reckon 106 = .ok (.goto 4, 3) := by decide +kernel
theorem dX6_reckon_109 : decode cX6_reckon 109 = .ok (.iconst 0, 1) := by decide +kernel
theorem dX6_reckon_110 : decode cX6_reckon 110 = .ok (.iload_n 2, 1) := by decide +kernel
theorem dX6_reckon_111 : decode cX6_reckon 111 = .ok (.invokestatic 72, 3) := by decide +kernel
theorem dX6_reckon_114 : decode cX6_reckon 114 = .ok (.goto 113, 3) := by decide +kernel
theorem dX6_reckon_117 : decode cX6_reckon 117 = .ok (.iload 5, 2) := by decide +kernel
theorem dX6_reckon_119 : decode cX6_reckon 119 = .ok (.iload 6, 2) := by decide +kernel
theorem dX6_reckon_121 : decode cX6_reckon 121 = .ok (.if_icmp .eq 18, 3) := by decide +kernel
theorem dX6_reckon_124 : decode cX6_reckon 124 = .ok (.aload_n 0, 1) := by decide +kernel
theorem dX6_reckon_125 : decode cX6_reckon 125 = .ok (.iload_n 1, 1) := by decide +kernel
theorem dX6_reckon_126 : decode cX6_reckon 126 = .ok (.iload 5, 2) := by decide +kernel
theorem dX6_reckon_128 : decode cX6_reckon 128 = .ok (.ifCond .eq 7, 3) := by decide +kernel
theorem dX6_reckon_131 : decode cX6_reckon 131 = .ok (.iconst 1, 1) := by decide +kernel
theorem dX6_reckon_132 : decode cX6_reckon 132 = .ok (.goto 4, 3) := by decide +kernel
theorem dX6_reckon_135 : decode cX6_reckon 135 = .ok (.iconst 0, 1) := by decide +kernel
theorem dX6_reckon_136 : decode cX6_reckon 136 = .ok (.invokestatic 76, 3) := by decide +kernel
theorem dX6_reckon_139 : decode cX6_reckon 139 = .ok (.aload_n 0, 1) := by decide +kernel
theorem dX6_reckon_140 : decode cX6_reckon 140 = .ok (.iload_n 1, 1) := by decide +kernel
theorem dX6_reckon_141 : decode cX6_reckon 141 = .ok (.aload_n 0, 1) := by decide +kernel
theorem dX6_reckon_142 : decode cX6_reckon 142 = .ok (.iload_n 1, 1) := by decide +kernel
theorem dX6_reckon_143 : decode cX6_reckon 143 = .ok (.iconst 2, 1) := by decide +kernel
theorem dX6_reckon_144 : decode cX6_reckon 144 = .ok (.invokestatic 48, 3) := by decide +kernel
theorem dX6_reckon_147 : decode cX6_reckon 147 = .ok (.iload_n 2, 1) := by decide +kernel
theorem dX6_reckon_148 : decode cX6_reckon 148 = .ok (.invokestatic 72, 3) := by decide +kernel
theorem dX6_reckon_151 : decode cX6_reckon 151 = .ok (.goto 76, 3) := by decide +kernel
theorem dX6_reckon_154 : decode cX6_reckon 154 = .ok (.aload_n 0, 1) := by decide +kernel
theorem dX6_reckon_155 : decode cX6_reckon 155 = .ok (.iload_n 1, 1) := by decide +kernel
theorem dX6_reckon_156 : decode cX6_reckon 156 = .ok (.iconst 0, 1) := by decide +kernel
theorem dX6_reckon_157 : decode cX6_reckon 157 = .ok (.iload_n 3, 1) := by decide +kernel
theorem dX6_reckon_158 : decode cX6_reckon 158 = .ok (.iload 4, 2) := by decide +kernel
theorem dX6_reckon_160 : decode cX6_reckon 160 = .ok (.if_icmp .ge 7, 3) := by decide +kernel
theorem dX6_reckon_163 : decode cX6_reckon 163 = .ok (.iload_n 3, 1) := by decide +kernel
theorem dX6_reckon_164 : decode cX6_reckon 164 = .ok (.goto 5, 3) := by decide +kernel
theorem dX6_reckon_167 : decode cX6_reckon 167 = .ok (.iload 4, 2) := by decide +kernel
theorem dX6_reckon_169 : decode cX6_reckon 169 = .ok (.invokestatic 72, 3) := by decide +kernel
theorem dX6_reckon_172 : decode cX6_reckon 172 = .ok (.aload_n 0, 1) := by decide +kernel
theorem dX6_reckon_173 : decode cX6_reckon 173 = .ok (.bipush 6, 2) := by decide +kernel
theorem dX6_reckon_175 : decode cX6_reckon 175 = .ok (.bipush 7, 2) := by decide +kernel
theorem dX6_reckon_177 : decode cX6_reckon 177 = .ok (.iload_n 1, 1) := by decide +kernel
theorem dX6_reckon_178 : decode cX6_reckon 178 = .ok (.imul, 1) := by decide +kernel
theorem dX6_reckon_179 : decode cX6_reckon 179 = .ok (.iadd, 1) := by decide +kernel
theorem dX6_reckon_180 : decode cX6_reckon 180 = .ok (.iconst 3, 1) := by decide +kernel
theorem dX6_reckon_181 : decode cX6_reckon 181 = .ok (.iadd, 1) := by decide +kernel
theorem dX6_reckon_182 : decode cX6_reckon 182 = .ok (.iconst 1, 1) := by decide +kernel
theorem dX6_reckon_183 : decode cX6_reckon 183 = .ok (.iadd, 1) := by decide +kernel
theorem dX6_reckon_184 : decode cX6_reckon 184 = .ok (.iload_n 3, 1) := by decide +kernel
theorem dX6_reckon_185 : decode cX6_reckon 185 = .ok (.ifCond .eq 8, 3) := by decide +kernel
theorem dX6_reckon_188 : decode cX6_reckon 188 = .ok (.iload 4, 2) := by decide +kernel
theorem dX6_reckon_190 : decode cX6_reckon 190 = .ok (.ifCond .ne 10, 3) := by decide +kernel
theorem dX6_reckon_193 : decode cX6_reckon 193 = .ok (.iload_n 3, 1) := by decide +kernel
theorem dX6_reckon_194 : decode cX6_reckon 194 = .ok (.iload 4, 2) := by decide +kernel
theorem dX6_reckon_196 : decode cX6_reckon 196 = .ok (.iadd, 1) := by decide +kernel
theorem dX6_reckon_197 : decode cX6_reckon 197 = .ok (.goto 4, 3) := by decide +kernel
theorem dX6_reckon_200 : decode cX6_reckon 200 = .ok (.iconst 0, 1) := by decide +kernel
theorem dX6_reckon_201 : decode cX6_reckon 201 = .ok (.iastore, 1) := by decide +kernel
theorem dX6_reckon_202 : decode cX6_reckon 202 = .ok (.goto 25, 3) := by decide +kernel
theorem dX6_reckon_205 : decode cX6_reckon 205 = .ok (.aload_n 0, 1) := by decide +kernel
theorem dX6_reckon_206 : decode cX6_reckon 206 = .ok (.iload_n 1, 1) := by decide +kernel
theorem dX6_reckon_207 : decode cX6_reckon 207 = .ok (.iload_n 3, 1) := by decide +kernel
theorem dX6_reckon_208 : decode cX6_reckon 208 = .ok (.iconst 5, 1) := by decide +kernel
theorem dX6_reckon_209 : decode cX6_reckon 209 = .ok (.if_icmp .ge 9, 3) := by decide +kernel
theorem dX6_reckon_212 : decode cX6_reckon 212 = .ok (.iload 4, 2) := by decide +kernel
theorem dX6_reckon_214 : decode cX6_reckon 214 = .ok (.iconst 5, 1) := by decide +kernel
theorem dX6_reckon_215 : decode cX6_reckon 215 = .ok (.if_icmp .lt 7, 3) := by decide +kernel
theorem dX6_reckon_218 : decode cX6_reckon 218 = .ok (.iconst 0, 1) := by decide +kernel
theorem dX6_reckon_219 : decode cX6_reckon 219 = .ok (.goto 4, 3) := by decide +kernel
theorem dX6_reckon_222 : decode cX6_reckon 222 = .ok (.iconst 1, 1) := by decide +kernel
theorem dX6_reckon_223 : decode cX6_reckon 223 = .ok (.iload_n 2, 1) := by decide +kernel
theorem dX6_reckon_224 : decode cX6_reckon 224 = .ok (.invokestatic 72, 3) := by decide +kernel
theorem dX6_reckon_227 : decode cX6_reckon 227 = .ok (.return_, 1) := by decide +kernel
theorem dX6_enter_0 : decode cX6_enter 0 = .ok (.bipush 76, 2) := by decide +kernel
theorem dX6_enter_2 : decode cX6_enter 2 = .ok (.bipush 12, 2) := by decide +kernel
theorem dX6_enter_4 : decode cX6_enter 4 = .ok (.iload_n 1, 1) := by decide +kernel
theorem dX6_enter_5 : decode cX6_enter 5 = .ok (.imul, 1) := by decide +kernel
theorem dX6_enter_6 : decode cX6_enter 6 = .ok (.iadd, 1) := by decide +kernel
theorem dX6_enter_7 : decode cX6_enter 7 = .ok (.bipush 6, 2) := by decide +kernel
theorem dX6_enter_9 : decode cX6_enter 9 = .ok (.iadd, 1) := by decide +kernel
theorem dX6_enter_10 : decode cX6_enter 10 = .ok (.istore_n 2, 1) := by decide +kernel
theorem dX6_enter_11 : decode cX6_enter 11 = .ok (.aload_n 0, 1) := by decide +kernel
theorem dX6_enter_12 : decode cX6_enter 12 = .ok (.iload_n 1, 1) := by decide +kernel
theorem dX6_enter_13 : decode cX6_enter 13 = .ok (.iconst 4, 1) := by decide +kernel
theorem dX6_enter_14 : decode cX6_enter 14 = .ok (.invokestatic 62, 3) := by decide +kernel
theorem dX6_enter_17 : decode cX6_enter 17 = .ok (.iconst 1, 1) := by decide +kernel
theorem dX6_enter_18 : decode cX6_enter 18 = .ok (.isub, 1) := by decide +kernel
theorem dX6_enter_19 : decode cX6_enter 19 = .ok (.istore_n 3, 1) := by decide +kernel
theorem dX6_enter_20 : decode cX6_enter 20 = .ok (.iconst 0, 1) := by decide +kernel
theorem dX6_enter_21 : decode cX6_enter 21 = .ok (.istore 4, 2) := by decide +kernel
theorem dX6_enter_23 : decode cX6_enter 23 = .ok (.iload 4, 2) := by decide +kernel
theorem dX6_enter_25 : decode cX6_enter 25 = .ok (.iload_n 3, 1) := by decide +kernel
theorem dX6_enter_26 : decode cX6_enter 26 = .ok (.if_icmp .ge 23, 3) := by decide +kernel
theorem dX6_enter_29 : decode cX6_enter 29 = .ok (.aload_n 0, 1) := by decide +kernel
theorem dX6_enter_30 : decode cX6_enter 30 = .ok (.iload_n 2, 1) := by decide +kernel
theorem dX6_enter_31 : decode cX6_enter 31 = .ok (.iload 4, 2) := by decide +kernel
theorem dX6_enter_33 : decode cX6_enter 33 = .ok (.iadd, 1) := by decide +kernel
theorem dX6_enter_34 : decode cX6_enter 34 = .ok (.aload_n 0, 1) := by decide +kernel
theorem dX6_enter_35 : decode cX6_enter 35 = .ok (.iload_n 2, 1) := by decide +kernel
theorem dX6_enter_36 : decode cX6_enter 36 = .ok (.iload 4, 2) := by decide +kernel
theorem dX6_enter_38 : decode cX6_enter 38 = .ok (.iadd, 1) := by decide +kernel
theorem dX6_enter_39 : decode cX6_enter 39 = .ok (.iconst 1, 1) := by decide +kernel
theorem dX6_enter_40 : decode cX6_enter 40 = .ok (.iadd, 1) := by decide +kernel
theorem dX6_enter_41 : decode cX6_enter 41 = .ok (.iaload, 1) := by decide +kernel
theorem dX6_enter_42 : decode cX6_enter 42 = .ok (.iastore, 1) := by decide +kernel
theorem dX6_enter_43 : decode cX6_enter 43 = .ok (.iinc 4 1, 3) := by decide +kernel
theorem dX6_enter_46 : decode cX6_enter 46 = .ok (.goto (-23), 3) := by decide +kernel
theorem dX6_enter_49 : decode cX6_enter 49 = .ok (.aload_n 0, 1) := by decide +kernel
theorem dX6_enter_50 : decode cX6_enter 50 = .ok (.iload_n 2, 1) := by decide +kernel
theorem dX6_enter_51 : decode cX6_enter 51 = .ok (.iload_n 3, 1) := by decide +kernel
theorem dX6_enter_52 : decode cX6_enter 52 = .ok (.iadd, 1) := by decide +kernel
theorem dX6_enter_53 : decode cX6_enter 53 = .ok (.aload_n 0, 1) := by decide +kernel
theorem dX6_enter_54 : decode cX6_enter 54 = .ok (.aload_n 0, 1) := by decide +kernel
theorem dX6_enter_55 : decode cX6_enter 55 = .ok (.iload_n 1, 1) := by decide +kernel
theorem dX6_enter_56 : decode cX6_enter 56 = .ok (.iconst 0, 1) := by decide +kernel
theorem dX6_enter_57 : decode cX6_enter 57 = .ok (.invokestatic 62, 3) := by decide +kernel
theorem dX6_enter_60 : decode cX6_enter 60 = .ok (.iconst 3, 1) := by decide +kernel
theorem dX6_enter_61 : decode cX6_enter 61 = .ok (.aload_n 0, 1) := by decide +kernel
theorem dX6_enter_62 : decode cX6_enter 62 = .ok (.iload_n 1, 1) := by decide +kernel
theorem dX6_enter_63 : decode cX6_enter 63 = .ok (.iconst 1, 1) := by decide +kernel
theorem dX6_enter_64 : decode cX6_enter 64 = .ok (.invokestatic 62, 3) := by decide +kernel
theorem dX6_enter_67 : decode cX6_enter 67 = .ok (.iadd, 1) := by decide +kernel
theorem dX6_enter_68 : decode cX6_enter 68 = .ok (.invokestatic 48, 3) := by decide +kernel
theorem dX6_enter_71 : decode cX6_enter 71 = .ok (.iastore, 1) := by decide +kernel
theorem dX6_enter_72 : decode cX6_enter 72 = .ok (.return_, 1) := by decide +kernel
theorem dX6_tick_0 : decode cX6_tick 0 = .ok (.aload_n 0, 1) := by decide +kernel
theorem dX6_tick_1 : decode cX6_tick 1 = .ok (.iconst 2, 1) := by decide +kernel
theorem dX6_tick_2 : decode cX6_tick 2 = .ok (.dup2, 1) := by decide +kernel
theorem dX6_tick_3 : decode cX6_tick 3 = .ok (.iaload, 1) := by decide +kernel
theorem dX6_tick_4 : decode cX6_tick 4 = .ok (.iconst 1, 1) := by decide +kernel
theorem dX6_tick_5 : decode cX6_tick 5 = .ok (.iadd, 1) := by decide +kernel
theorem dX6_tick_6 : decode cX6_tick 6 = .ok (.iastore, 1) := by decide +kernel
theorem dX6_tick_7 : decode cX6_tick 7 = .ok (.aload_n 0, 1) := by decide +kernel
theorem dX6_tick_8 : decode cX6_tick 8 = .ok (.invokestatic 80, 3) := by decide +kernel
theorem dX6_tick_11 : decode cX6_tick 11 = .ok (.iconst 0, 1) := by decide +kernel
theorem dX6_tick_12 : decode cX6_tick 12 = .ok (.istore_n 1, 1) := by decide +kernel
theorem dX6_tick_13 : decode cX6_tick 13 = .ok (.iload_n 1, 1) := by decide +kernel
theorem dX6_tick_14 : decode cX6_tick 14 = .ok (.aload_n 0, 1) := by decide +kernel
theorem dX6_tick_15 : decode cX6_tick 15 = .ok (.iconst 0, 1) := by decide +kernel
theorem dX6_tick_16 : decode cX6_tick 16 = .ok (.iaload, 1) := by decide +kernel
theorem dX6_tick_17 : decode cX6_tick 17 = .ok (.if_icmp .ge 14, 3) := by decide +kernel
theorem dX6_tick_20 : decode cX6_tick 20 = .ok (.aload_n 0, 1) := by decide +kernel
theorem dX6_tick_21 : decode cX6_tick 21 = .ok (.iload_n 1, 1) := by decide +kernel
theorem dX6_tick_22 : decode cX6_tick 22 = .ok (.invokestatic 83, 3) := by decide +kernel
theorem dX6_tick_25 : decode cX6_tick 25 = .ok (.iinc 1 1, 3) := by decide +kernel
theorem dX6_tick_28 : decode cX6_tick 28 = .ok (.goto (-15), 3) := by decide +kernel
theorem dX6_tick_31 : decode cX6_tick 31 = .ok (.iconst 0, 1) := by decide +kernel
theorem dX6_tick_32 : decode cX6_tick 32 = .ok (.istore_n 1, 1) := by decide +kernel
theorem dX6_tick_33 : decode cX6_tick 33 = .ok (.iload_n 1, 1) := by decide +kernel
theorem dX6_tick_34 : decode cX6_tick 34 = .ok (.aload_n 0, 1) := by decide +kernel
theorem dX6_tick_35 : decode cX6_tick 35 = .ok (.iconst 1, 1) := by decide +kernel
theorem dX6_tick_36 : decode cX6_tick 36 = .ok (.iaload, 1) := by decide +kernel
theorem dX6_tick_37 : decode cX6_tick 37 = .ok (.if_icmp .ge 14, 3) := by decide +kernel
theorem dX6_tick_40 : decode cX6_tick 40 = .ok (.aload_n 0, 1) := by decide +kernel
theorem dX6_tick_41 : decode cX6_tick 41 = .ok (.iload_n 1, 1) := by decide +kernel
theorem dX6_tick_42 : decode cX6_tick 42 = .ok (.invokestatic 87, 3) := by decide +kernel
theorem dX6_tick_45 : decode cX6_tick 45 = .ok (.iinc 1 1, 3) := by decide +kernel
theorem dX6_tick_48 : decode cX6_tick 48 = .ok (.goto (-15), 3) := by decide +kernel
theorem dX6_tick_51 : decode cX6_tick 51 = .ok (.return_, 1) := by decide +kernel
theorem dX6_run_0 : decode cX6_run 0 = .ok (.iconst 0, 1) := by decide +kernel
theorem dX6_run_1 : decode cX6_run 1 = .ok (.istore_n 2, 1) := by decide +kernel
theorem dX6_run_2 : decode cX6_run 2 = .ok (.iload_n 2, 1) := by decide +kernel
theorem dX6_run_3 : decode cX6_run 3 = .ok (.iload_n 1, 1) := by decide +kernel
theorem dX6_run_4 : decode cX6_run 4 = .ok (.if_icmp .ge 13, 3) := by decide +kernel
theorem dX6_run_7 : decode cX6_run 7 = .ok (.aload_n 0, 1) := by decide +kernel
theorem dX6_run_8 : decode cX6_run 8 = .ok (.invokestatic 90, 3) := by decide +kernel
theorem dX6_run_11 : decode cX6_run 11 = .ok (.iinc 2 1, 3) := by decide +kernel
theorem dX6_run_14 : decode cX6_run 14 = .ok (.goto (-12), 3) := by decide +kernel
theorem dX6_run_17 : decode cX6_run 17 = .ok (.return_, 1) := by decide +kernel
theorem dX6_runOn_0 : decode cX6_runOn 0 = .ok (.aload_n 1, 1) := by decide +kernel
theorem dX6_runOn_1 : decode cX6_runOn 1 = .ok (.iconst 0, 1) := by decide +kernel
theorem dX6_runOn_2 : decode cX6_runOn 2 = .ok (.aload_n 0, 1) := by decide +kernel
theorem dX6_runOn_3 : decode cX6_runOn 3 = .ok (.getfield 19, 3) := by decide +kernel
theorem dX6_runOn_6 : decode cX6_runOn 6 = .ok (.iconst 0, 1) := by decide +kernel
theorem dX6_runOn_7 : decode cX6_runOn 7 = .ok (.invokestatic 93, 3) := by decide +kernel
theorem dX6_runOn_10 : decode cX6_runOn 10 = .ok (.aload_n 1, 1) := by decide +kernel
theorem dX6_runOn_11 : decode cX6_runOn 11 = .ok (.iload_n 2, 1) := by decide +kernel
theorem dX6_runOn_12 : decode cX6_runOn 12 = .ok (.invokestatic 97, 3) := by decide +kernel
theorem dX6_runOn_15 : decode cX6_runOn 15 = .ok (.iconst 0, 1) := by decide +kernel
theorem dX6_runOn_16 : decode cX6_runOn 16 = .ok (.istore_n 3, 1) := by decide +kernel
theorem dX6_runOn_17 : decode cX6_runOn 17 = .ok (.iconst 0, 1) := by decide +kernel
theorem dX6_runOn_18 : decode cX6_runOn 18 = .ok (.istore 4, 2) := by decide +kernel
theorem dX6_runOn_20 : decode cX6_runOn 20 = .ok (.iload 4, 2) := by decide +kernel
theorem dX6_runOn_22 : decode cX6_runOn 22 = .ok (.aload_n 1, 1) := by decide +kernel
theorem dX6_runOn_23 : decode cX6_runOn 23 = .ok (.iconst 0, 1) := by decide +kernel
theorem dX6_runOn_24 : decode cX6_runOn 24 = .ok (.iaload, 1) := by decide +kernel
theorem dX6_runOn_25 : decode cX6_runOn 25 = .ok (.if_icmp .ge 65, 3) := by decide +kernel
theorem dX6_runOn_28 : decode cX6_runOn 28 = .ok (.iload_n 3, 1) := by decide +kernel
theorem dX6_runOn_29 : decode cX6_runOn 29 = .ok (.aload_n 1, 1) := by decide +kernel
theorem dX6_runOn_30 : decode cX6_runOn 30 = .ok (.iload 4, 2) := by decide +kernel
theorem dX6_runOn_32 : decode cX6_runOn 32 = .ok (.iconst 3, 1) := by decide +kernel
theorem dX6_runOn_33 : decode cX6_runOn 33 = .ok (.invokestatic 48, 3) := by decide +kernel
theorem dX6_runOn_36 : decode cX6_runOn 36 = .ok (.aload_n 0, 1) := by decide +kernel
theorem dX6_runOn_37 : decode cX6_runOn 37 = .ok (.getfield 19, 3) := by decide +kernel
theorem dX6_runOn_40 : decode cX6_runOn 40 = .ok (.iload 4, 2) := by decide +kernel
theorem dX6_runOn_42 : decode cX6_runOn 42 = .ok (.iconst 3, 1) := by decide +kernel
theorem dX6_runOn_43 : decode cX6_runOn 43 = .ok (.invokestatic 48, 3) := by decide +kernel
theorem dX6_runOn_46 : decode cX6_runOn 46 = .ok (.if_icmp .ne 7, 3) := by decide +kernel
theorem dX6_runOn_49 : decode cX6_runOn 49 = .ok (.iconst 0, 1) := by decide +kernel
theorem dX6_runOn_50 : decode cX6_runOn 50 = .ok (.goto 4, 3) := by decide +kernel
theorem dX6_runOn_53 : decode cX6_runOn 53 = .ok (.iconst 1, 1) := by decide +kernel
theorem dX6_runOn_54 : decode cX6_runOn 54 = .ok (.iadd, 1) := by decide +kernel
theorem dX6_runOn_55 : decode cX6_runOn 55 = .ok (.istore_n 3, 1) := by decide +kernel
theorem dX6_runOn_56 : decode cX6_runOn 56 = .ok (.iload_n 3, 1) := by decide +kernel
theorem dX6_runOn_57 : decode cX6_runOn 57 = .ok (.aload_n 1, 1) := by decide +kernel
theorem dX6_runOn_58 : decode cX6_runOn 58 = .ok (.iload 4, 2) := by decide +kernel
theorem dX6_runOn_60 : decode cX6_runOn 60 = .ok (.iconst 4, 1) := by decide +kernel
theorem dX6_runOn_61 : decode cX6_runOn 61 = .ok (.invokestatic 48, 3) := by decide +kernel
theorem dX6_runOn_64 : decode cX6_runOn 64 = .ok (.aload_n 0, 1) := by decide +kernel
theorem dX6_runOn_65 : decode cX6_runOn 65 = .ok (.getfield 19, 3) := by decide +kernel
theorem dX6_runOn_68 : decode cX6_runOn 68 = .ok (.iload 4, 2) := by decide +kernel
theorem dX6_runOn_70 : decode cX6_runOn 70 = .ok (.iconst 4, 1) := by decide +kernel
theorem dX6_runOn_71 : decode cX6_runOn 71 = .ok (.invokestatic 48, 3) := by decide +kernel
theorem dX6_runOn_74 : decode cX6_runOn 74 = .ok (.if_icmp .ne 7, 3) := by decide +kernel
theorem dX6_runOn_77 : decode cX6_runOn 77 = .ok (.iconst 0, 1) := by decide +kernel
theorem dX6_runOn_78 : decode cX6_runOn 78 = .ok (.goto 4, 3) := by decide +kernel
theorem dX6_runOn_81 : decode cX6_runOn 81 = .ok (.iconst 1, 1) := by decide +kernel
theorem dX6_runOn_82 : decode cX6_runOn 82 = .ok (.iadd, 1) := by decide +kernel
theorem dX6_runOn_83 : decode cX6_runOn 83 = .ok (.istore_n 3, 1) := by decide +kernel
theorem dX6_runOn_84 : decode cX6_runOn 84 = .ok (.iinc 4 1, 3) := by decide +kernel
theorem dX6_runOn_87 : decode cX6_runOn 87 = .ok (.goto (-67), 3) := by decide +kernel
theorem dX6_runOn_90 : decode cX6_runOn 90 = .ok (.iload_n 3, 1) := by decide +kernel
theorem dX6_runOn_91 : decode cX6_runOn 91 = .ok (.ireturn, 1) := by decide +kernel
theorem dX6_rests_0 : decode cX6_rests 0 = .ok (.aload_n 1, 1) := by decide +kernel
theorem dX6_rests_1 : decode cX6_rests 1 = .ok (.iconst 0, 1) := by decide +kernel
theorem dX6_rests_2 : decode cX6_rests 2 = .ok (.aload_n 0, 1) := by decide +kernel
theorem dX6_rests_3 : decode cX6_rests 3 = .ok (.getfield 19, 3) := by decide +kernel
theorem dX6_rests_6 : decode cX6_rests 6 = .ok (.iconst 0, 1) := by decide +kernel
theorem dX6_rests_7 : decode cX6_rests 7 = .ok (.invokestatic 93, 3) := by decide +kernel
theorem dX6_rests_10 : decode cX6_rests 10 = .ok (.aload_n 0, 1) := by decide +kernel
theorem dX6_rests_11 : decode cX6_rests 11 = .ok (.getfield 19, 3) := by decide +kernel
theorem dX6_rests_14 : decode cX6_rests 14 = .ok (.invokestatic 90, 3) := by decide +kernel
theorem dX6_rests_17 : decode cX6_rests 17 = .ok (.bipush 6, 2) := by decide +kernel
theorem dX6_rests_19 : decode cX6_rests 19 = .ok (.istore_n 2, 1) := by decide +kernel
theorem dX6_rests_20 : decode cX6_rests 20 = .ok (.iload_n 2, 1) := by decide +kernel
theorem dX6_rests_21 : decode cX6_rests 21 = .ok (.sipush 268, 3) := by decide +kernel
theorem dX6_rests_24 : decode cX6_rests 24 = .ok (.if_icmp .ge 23, 3) := by decide +kernel
theorem dX6_rests_27 : decode cX6_rests 27 = .ok (.aload_n 1, 1) := by decide +kernel
theorem dX6_rests_28 : decode cX6_rests 28 = .ok (.iload_n 2, 1) := by decide +kernel
theorem dX6_rests_29 : decode cX6_rests 29 = .ok (.iaload, 1) := by decide +kernel
theorem dX6_rests_30 : decode cX6_rests 30 = .ok (.aload_n 0, 1) := by decide +kernel
theorem dX6_rests_31 : decode cX6_rests 31 = .ok (.getfield 19, 3) := by decide +kernel
theorem dX6_rests_34 : decode cX6_rests 34 = .ok (.iload_n 2, 1) := by decide +kernel
theorem dX6_rests_35 : decode cX6_rests 35 = .ok (.iaload, 1) := by decide +kernel
theorem dX6_rests_36 : decode cX6_rests 36 = .ok (.if_icmp .eq 5, 3) := by decide +kernel
theorem dX6_rests_39 : decode cX6_rests 39 = .ok (.iconst 0, 1) := by decide +kernel
theorem dX6_rests_40 : decode cX6_rests 40 = .ok (.ireturn, 1) := by decide +kernel
theorem dX6_rests_41 : decode cX6_rests 41 = .ok (.iinc 2 1, 3) := by decide +kernel
theorem dX6_rests_44 : decode cX6_rests 44 = .ok (.goto (-24), 3) := by decide +kernel
theorem dX6_rests_47 : decode cX6_rests 47 = .ok (.iconst 1, 1) := by decide +kernel
theorem dX6_rests_48 : decode cX6_rests 48 = .ok (.ireturn, 1) := by decide +kernel
theorem dX6_valveOn_0 : decode cX6_valveOn 0 = .ok (.aload_n 0, 1) := by decide +kernel
theorem dX6_valveOn_1 : decode cX6_valveOn 1 = .ok (.iconst 0, 1) := by decide +kernel
theorem dX6_valveOn_2 : decode cX6_valveOn 2 = .ok (.iaload, 1) := by decide +kernel
theorem dX6_valveOn_3 : decode cX6_valveOn 3 = .ok (.istore_n 3, 1) := by decide +kernel
theorem dX6_valveOn_4 : decode cX6_valveOn 4 = .ok (.bipush 6, 2) := by decide +kernel
theorem dX6_valveOn_6 : decode cX6_valveOn 6 = .ok (.bipush 7, 2) := by decide +kernel
theorem dX6_valveOn_8 : decode cX6_valveOn 8 = .ok (.iload_n 3, 1) := by decide +kernel
theorem dX6_valveOn_9 : decode cX6_valveOn 9 = .ok (.imul, 1) := by decide +kernel
theorem dX6_valveOn_10 : decode cX6_valveOn 10 = .ok (.iadd, 1) := by decide +kernel
theorem dX6_valveOn_11 : decode cX6_valveOn 11 = .ok (.istore 4, 2) := by decide +kernel
theorem dX6_valveOn_13 : decode cX6_valveOn 13 = .ok (.iconst 0, 1) := by decide +kernel
theorem dX6_valveOn_14 : decode cX6_valveOn 14 = .ok (.istore 5, 2) := by decide +kernel
theorem dX6_valveOn_16 : decode cX6_valveOn 16 = .ok (.iload 5, 2) := by decide +kernel
theorem dX6_valveOn_18 : decode cX6_valveOn 18 = .ok (.bipush 7, 2) := by decide +kernel
theorem dX6_valveOn_20 : decode cX6_valveOn 20 = .ok (.if_icmp .ge 17, 3) := by decide +kernel
theorem dX6_valveOn_23 : decode cX6_valveOn 23 = .ok (.aload_n 0, 1) := by decide +kernel
theorem dX6_valveOn_24 : decode cX6_valveOn 24 = .ok (.iload 4, 2) := by decide +kernel
theorem dX6_valveOn_26 : decode cX6_valveOn 26 = .ok (.iload 5, 2) := by decide +kernel
theorem dX6_valveOn_28 : decode cX6_valveOn 28 = .ok (.iadd, 1) := by decide +kernel
theorem dX6_valveOn_29 : decode cX6_valveOn 29 = .ok (.iconst 0, 1) := by decide +kernel
theorem dX6_valveOn_30 : decode cX6_valveOn 30 = .ok (.iastore, 1) := by decide +kernel
theorem dX6_valveOn_31 : decode cX6_valveOn 31 = .ok (.iinc 5 1, 3) := by decide +kernel
theorem dX6_valveOn_34 : decode cX6_valveOn 34 = .ok (.goto (-18), 3) := by decide +kernel
theorem dX6_valveOn_37 : decode cX6_valveOn 37 = .ok (.aload_n 0, 1) := by decide +kernel
theorem dX6_valveOn_38 : decode cX6_valveOn 38 = .ok (.iload 4, 2) := by decide +kernel
theorem dX6_valveOn_40 : decode cX6_valveOn 40 = .ok (.iconst 0, 1) := by decide +kernel
theorem dX6_valveOn_41 : decode cX6_valveOn 41 = .ok (.iadd, 1) := by decide +kernel
theorem dX6_valveOn_42 : decode cX6_valveOn 42 = .ok (.iload_n 1, 1) := by decide +kernel
theorem dX6_valveOn_43 : decode cX6_valveOn 43 = .ok (.iastore, 1) := by decide +kernel
theorem dX6_valveOn_44 : decode cX6_valveOn 44 = .ok (.aload_n 0, 1) := by decide +kernel
theorem dX6_valveOn_45 : decode cX6_valveOn 45 = .ok (.iload 4, 2) := by decide +kernel
theorem dX6_valveOn_47 : decode cX6_valveOn 47 = .ok (.iconst 1, 1) := by decide +kernel
theorem dX6_valveOn_48 : decode cX6_valveOn 48 = .ok (.iadd, 1) := by decide +kernel
theorem dX6_valveOn_49 : decode cX6_valveOn 49 = .ok (.iload_n 2, 1) := by decide +kernel
theorem dX6_valveOn_50 : decode cX6_valveOn 50 = .ok (.iastore, 1) := by decide +kernel
theorem dX6_valveOn_51 : decode cX6_valveOn 51 = .ok (.aload_n 0, 1) := by decide +kernel
theorem dX6_valveOn_52 : decode cX6_valveOn 52 = .ok (.iconst 0, 1) := by decide +kernel
theorem dX6_valveOn_53 : decode cX6_valveOn 53 = .ok (.dup2, 1) := by decide +kernel
theorem dX6_valveOn_54 : decode cX6_valveOn 54 = .ok (.iaload, 1) := by decide +kernel
theorem dX6_valveOn_55 : decode cX6_valveOn 55 = .ok (.iconst 1, 1) := by decide +kernel
theorem dX6_valveOn_56 : decode cX6_valveOn 56 = .ok (.iadd, 1) := by decide +kernel
theorem dX6_valveOn_57 : decode cX6_valveOn 57 = .ok (.iastore, 1) := by decide +kernel
theorem dX6_valveOn_58 : decode cX6_valveOn 58 = .ok (.iload_n 3, 1) := by decide +kernel
theorem dX6_valveOn_59 : decode cX6_valveOn 59 = .ok (.ireturn, 1) := by decide +kernel
theorem dX6_isValveWord_0 : decode cX6_isValveWord 0 = .ok (.iload_n 0, 1) := by decide +kernel
theorem dX6_isValveWord_1 : decode cX6_isValveWord 1 = .ok (.i2l, 1) := by decide +kernel
theorem dX6_isValveWord_2 : decode cX6_isValveWord 2 = .ok (.lconst 0, 1) := by decide +kernel
theorem dX6_isValveWord_3 : decode cX6_isValveWord 3 = .ok (.ldc2_w 100, 3) := by decide +kernel
theorem dX6_isValveWord_6 : decode cX6_isValveWord 6 = .ok (.invokestatic 40, 3) := by decide +kernel
theorem dX6_isValveWord_9 : decode cX6_isValveWord 9 = .ok (.ifCond .eq 21, 3) := by decide +kernel
theorem dX6_isValveWord_12 : decode cX6_isValveWord 12 = .ok (.iload_n 1, 1) := by decide +kernel
theorem dX6_isValveWord_13 : decode cX6_isValveWord 13 = .ok (.i2l, 1) := by decide +kernel
theorem dX6_isValveWord_14 : decode cX6_isValveWord 14 = .ok (.ldc2_w 102, 3) := by decide +kernel
theorem dX6_isValveWord_17 : decode cX6_isValveWord 17 = .ok (.ldc2_w 104, 3) := by decide +kernel
theorem dX6_isValveWord_20 : decode cX6_isValveWord 20 = .ok (.invokestatic 40, 3) := by decide +kernel
theorem dX6_isValveWord_23 : decode cX6_isValveWord 23 = .ok (.ifCond .eq 7, 3) := by decide +kernel
theorem dX6_isValveWord_26 : decode cX6_isValveWord 26 = .ok (.iconst 1, 1) := by decide +kernel
theorem dX6_isValveWord_27 : decode cX6_isValveWord 27 = .ok (.goto 4, 3) := by decide +kernel
theorem dX6_isValveWord_30 : decode cX6_isValveWord 30 = .ok (.iconst 0, 1) := by decide +kernel
theorem dX6_isValveWord_31 : decode cX6_isValveWord 31 = .ok (.ireturn, 1) := by decide +kernel
theorem dX6_areEnds_0 : decode cX6_areEnds 0 = .ok (.aload_n 0, 1) := by decide +kernel
theorem dX6_areEnds_1 : decode cX6_areEnds 1 = .ok (.iload_n 1, 1) := by decide +kernel
theorem dX6_areEnds_2 : decode cX6_areEnds 2 = .ok (.invokestatic 44, 3) := by decide +kernel
theorem dX6_areEnds_5 : decode cX6_areEnds 5 = .ok (.ifCond .eq 30, 3) := by decide +kernel
theorem dX6_areEnds_8 : decode cX6_areEnds 8 = .ok (.iload_n 2, 1) := by decide +kernel
theorem dX6_areEnds_9 : decode cX6_areEnds 9 = .ok (.invokestatic 106, 3) := by decide +kernel
theorem dX6_areEnds_12 : decode cX6_areEnds 12 = .ok (.ifCond .eq 23, 3) := by decide +kernel
theorem dX6_areEnds_15 : decode cX6_areEnds 15 = .ok (.aload_n 0, 1) := by decide +kernel
theorem dX6_areEnds_16 : decode cX6_areEnds 16 = .ok (.iload_n 3, 1) := by decide +kernel
theorem dX6_areEnds_17 : decode cX6_areEnds 17 = .ok (.invokestatic 44, 3) := by decide +kernel
theorem dX6_areEnds_20 : decode cX6_areEnds 20 = .ok (.ifCond .eq 15, 3) := by decide +kernel
theorem dX6_areEnds_23 : decode cX6_areEnds 23 = .ok (.iload 4, 2) := by decide +kernel
theorem dX6_areEnds_25 : decode cX6_areEnds 25 = .ok (.invokestatic 106, 3) := by decide +kernel
theorem dX6_areEnds_28 : decode cX6_areEnds 28 = .ok (.ifCond .eq 7, 3) := by decide +kernel
theorem dX6_areEnds_31 : decode cX6_areEnds 31 = .ok (.iconst 1, 1) := by decide +kernel
theorem dX6_areEnds_32 : decode cX6_areEnds 32 = .ok (.goto 4, 3) := by decide +kernel
theorem dX6_areEnds_35 : decode cX6_areEnds 35 = .ok (.iconst 0, 1) := by decide +kernel
theorem dX6_areEnds_36 : decode cX6_areEnds 36 = .ok (.ireturn, 1) := by decide +kernel
theorem dX6_canDuct_0 : decode cX6_canDuct 0 = .ok (.aload_n 0, 1) := by decide +kernel
theorem dX6_canDuct_1 : decode cX6_canDuct 1 = .ok (.iload_n 1, 1) := by decide +kernel
theorem dX6_canDuct_2 : decode cX6_canDuct 2 = .ok (.iload_n 2, 1) := by decide +kernel
theorem dX6_canDuct_3 : decode cX6_canDuct 3 = .ok (.iload_n 3, 1) := by decide +kernel
theorem dX6_canDuct_4 : decode cX6_canDuct 4 = .ok (.iload 4, 2) := by decide +kernel
theorem dX6_canDuct_6 : decode cX6_canDuct 6 = .ok (.invokestatic 110, 3) := by decide +kernel
theorem dX6_canDuct_9 : decode cX6_canDuct 9 = .ok (.ifCond .eq 28, 3) := by decide +kernel
theorem dX6_canDuct_12 : decode cX6_canDuct 12 = .ok (.iload 5, 2) := by decide +kernel
theorem dX6_canDuct_14 : decode cX6_canDuct 14 = .ok (.i2l, 1) := by decide +kernel
theorem dX6_canDuct_15 : decode cX6_canDuct 15 = .ok (.lconst 1, 1) := by decide +kernel
theorem dX6_canDuct_16 : decode cX6_canDuct 16 = .ok (.ldc2_w 114, 3) := by decide +kernel
theorem dX6_canDuct_19 : decode cX6_canDuct 19 = .ok (.invokestatic 40, 3) := by decide +kernel
theorem dX6_canDuct_22 : decode cX6_canDuct 22 = .ok (.ifCond .eq 15, 3) := by decide +kernel
theorem dX6_canDuct_25 : decode cX6_canDuct 25 = .ok (.aload_n 0, 1) := by decide +kernel
theorem dX6_canDuct_26 : decode cX6_canDuct 26 = .ok (.iconst 1, 1) := by decide +kernel
theorem dX6_canDuct_27 : decode cX6_canDuct 27 = .ok (.iaload, 1) := by decide +kernel
theorem dX6_canDuct_28 : decode cX6_canDuct 28 = .ok (.bipush 16, 2) := by decide +kernel
theorem dX6_canDuct_30 : decode cX6_canDuct 30 = .ok (.if_icmp .ge 7, 3) := by decide +kernel
theorem dX6_canDuct_33 : decode cX6_canDuct 33 = .ok (.iconst 1, 1) := by decide +kernel
theorem dX6_canDuct_34 : decode cX6_canDuct 34 = .ok (.goto 4, 3) := by decide +kernel
theorem dX6_canDuct_37 : decode cX6_canDuct 37 = .ok (.iconst 0, 1) := by decide +kernel
theorem dX6_canDuct_38 : decode cX6_canDuct 38 = .ok (.ireturn, 1) := by decide +kernel
theorem dX6_ductOn_0 : decode cX6_ductOn 0 = .ok (.aload_n 0, 1) := by decide +kernel
theorem dX6_ductOn_1 : decode cX6_ductOn 1 = .ok (.iconst 1, 1) := by decide +kernel
theorem dX6_ductOn_2 : decode cX6_ductOn 2 = .ok (.iaload, 1) := by decide +kernel
theorem dX6_ductOn_3 : decode cX6_ductOn 3 = .ok (.istore 6, 2) := by decide +kernel
theorem dX6_ductOn_5 : decode cX6_ductOn 5 = .ok (.bipush 76, 2) := by decide +kernel
theorem dX6_ductOn_7 : decode cX6_ductOn 7 = .ok (.bipush 12, 2) := by decide +kernel
theorem dX6_ductOn_9 : decode cX6_ductOn 9 = .ok (.iload 6, 2) := by decide +kernel
theorem dX6_ductOn_11 : decode cX6_ductOn 11 = .ok (.imul, 1) := by decide +kernel
theorem dX6_ductOn_12 : decode cX6_ductOn 12 = .ok (.iadd, 1) := by decide +kernel
theorem dX6_ductOn_13 : decode cX6_ductOn 13 = .ok (.istore 7, 2) := by decide +kernel
theorem dX6_ductOn_15 : decode cX6_ductOn 15 = .ok (.iconst 0, 1) := by decide +kernel
theorem dX6_ductOn_16 : decode cX6_ductOn 16 = .ok (.istore 8, 2) := by decide +kernel
theorem dX6_ductOn_18 : decode cX6_ductOn 18 = .ok (.iload 8, 2) := by decide +kernel
theorem dX6_ductOn_20 : decode cX6_ductOn 20 = .ok (.bipush 12, 2) := by decide +kernel
theorem dX6_ductOn_22 : decode cX6_ductOn 22 = .ok (.if_icmp .ge 17, 3) := by decide +kernel
theorem dX6_ductOn_25 : decode cX6_ductOn 25 = .ok (.aload_n 0, 1) := by decide +kernel
theorem dX6_ductOn_26 : decode cX6_ductOn 26 = .ok (.iload 7, 2) := by decide +kernel
theorem dX6_ductOn_28 : decode cX6_ductOn 28 = .ok (.iload 8, 2) := by decide +kernel
theorem dX6_ductOn_30 : decode cX6_ductOn 30 = .ok (.iadd, 1) := by decide +kernel
theorem dX6_ductOn_31 : decode cX6_ductOn 31 = .ok (.iconst 0, 1) := by decide +kernel
theorem dX6_ductOn_32 : decode cX6_ductOn 32 = .ok (.iastore, 1) := by decide +kernel
theorem dX6_ductOn_33 : decode cX6_ductOn 33 = .ok (.iinc 8 1, 3) := by decide +kernel
theorem dX6_ductOn_36 : decode cX6_ductOn 36 = .ok (.goto (-18), 3) := by decide +kernel
theorem dX6_ductOn_39 : decode cX6_ductOn 39 = .ok (.aload_n 0, 1) := by decide +kernel
theorem dX6_ductOn_40 : decode cX6_ductOn 40 = .ok (.iload 7, 2) := by decide +kernel
theorem dX6_ductOn_42 : decode cX6_ductOn 42 = .ok (.iconst 0, 1) := by decide +kernel
theorem dX6_ductOn_43 : decode cX6_ductOn 43 = .ok (.iadd, 1) := by decide +kernel
theorem dX6_ductOn_44 : decode cX6_ductOn 44 = .ok (.iload_n 1, 1) := by decide +kernel
theorem dX6_ductOn_45 : decode cX6_ductOn 45 = .ok (.iastore, 1) := by decide +kernel
theorem dX6_ductOn_46 : decode cX6_ductOn 46 = .ok (.aload_n 0, 1) := by decide +kernel
theorem dX6_ductOn_47 : decode cX6_ductOn 47 = .ok (.iload 7, 2) := by decide +kernel
theorem dX6_ductOn_49 : decode cX6_ductOn 49 = .ok (.iconst 1, 1) := by decide +kernel
theorem dX6_ductOn_50 : decode cX6_ductOn 50 = .ok (.iadd, 1) := by decide +kernel
theorem dX6_ductOn_51 : decode cX6_ductOn 51 = .ok (.iload_n 2, 1) := by decide +kernel
theorem dX6_ductOn_52 : decode cX6_ductOn 52 = .ok (.iastore, 1) := by decide +kernel
theorem dX6_ductOn_53 : decode cX6_ductOn 53 = .ok (.aload_n 0, 1) := by decide +kernel
theorem dX6_ductOn_54 : decode cX6_ductOn 54 = .ok (.iload 7, 2) := by decide +kernel
theorem dX6_ductOn_56 : decode cX6_ductOn 56 = .ok (.iconst 2, 1) := by decide +kernel
theorem dX6_ductOn_57 : decode cX6_ductOn 57 = .ok (.iadd, 1) := by decide +kernel
theorem dX6_ductOn_58 : decode cX6_ductOn 58 = .ok (.iload_n 3, 1) := by decide +kernel
theorem dX6_ductOn_59 : decode cX6_ductOn 59 = .ok (.iastore, 1) := by decide +kernel
theorem dX6_ductOn_60 : decode cX6_ductOn 60 = .ok (.aload_n 0, 1) := by decide +kernel
theorem dX6_ductOn_61 : decode cX6_ductOn 61 = .ok (.iload 7, 2) := by decide +kernel
theorem dX6_ductOn_63 : decode cX6_ductOn 63 = .ok (.iconst 3, 1) := by decide +kernel
theorem dX6_ductOn_64 : decode cX6_ductOn 64 = .ok (.iadd, 1) := by decide +kernel
theorem dX6_ductOn_65 : decode cX6_ductOn 65 = .ok (.iload 4, 2) := by decide +kernel
theorem dX6_ductOn_67 : decode cX6_ductOn 67 = .ok (.iastore, 1) := by decide +kernel
theorem dX6_ductOn_68 : decode cX6_ductOn 68 = .ok (.aload_n 0, 1) := by decide +kernel
theorem dX6_ductOn_69 : decode cX6_ductOn 69 = .ok (.iload 7, 2) := by decide +kernel
theorem dX6_ductOn_71 : decode cX6_ductOn 71 = .ok (.iconst 4, 1) := by decide +kernel
theorem dX6_ductOn_72 : decode cX6_ductOn 72 = .ok (.iadd, 1) := by decide +kernel
theorem dX6_ductOn_73 : decode cX6_ductOn 73 = .ok (.iload 5, 2) := by decide +kernel
theorem dX6_ductOn_75 : decode cX6_ductOn 75 = .ok (.iastore, 1) := by decide +kernel
theorem dX6_ductOn_76 : decode cX6_ductOn 76 = .ok (.aload_n 0, 1) := by decide +kernel
theorem dX6_ductOn_77 : decode cX6_ductOn 77 = .ok (.iconst 1, 1) := by decide +kernel
theorem dX6_ductOn_78 : decode cX6_ductOn 78 = .ok (.dup2, 1) := by decide +kernel
theorem dX6_ductOn_79 : decode cX6_ductOn 79 = .ok (.iaload, 1) := by decide +kernel
theorem dX6_ductOn_80 : decode cX6_ductOn 80 = .ok (.iconst 1, 1) := by decide +kernel
theorem dX6_ductOn_81 : decode cX6_ductOn 81 = .ok (.iadd, 1) := by decide +kernel
theorem dX6_ductOn_82 : decode cX6_ductOn 82 = .ok (.iastore, 1) := by decide +kernel
theorem dX6_ductOn_83 : decode cX6_ductOn 83 = .ok (.iload 6, 2) := by decide +kernel
theorem dX6_ductOn_85 : decode cX6_ductOn 85 = .ok (.ireturn, 1) := by decide +kernel
theorem dX6_removeOn_0 : decode cX6_removeOn 0 = .ok (.aload_n 0, 1) := by decide +kernel
theorem dX6_removeOn_1 : decode cX6_removeOn 1 = .ok (.iconst 1, 1) := by decide +kernel
theorem dX6_removeOn_2 : decode cX6_removeOn 2 = .ok (.dup2, 1) := by decide +kernel
theorem dX6_removeOn_3 : decode cX6_removeOn 3 = .ok (.iaload, 1) := by decide +kernel
theorem dX6_removeOn_4 : decode cX6_removeOn 4 = .ok (.iconst 1, 1) := by decide +kernel
theorem dX6_removeOn_5 : decode cX6_removeOn 5 = .ok (.isub, 1) := by decide +kernel
theorem dX6_removeOn_6 : decode cX6_removeOn 6 = .ok (.iastore, 1) := by decide +kernel
theorem dX6_removeOn_7 : decode cX6_removeOn 7 = .ok (.bipush 76, 2) := by decide +kernel
theorem dX6_removeOn_9 : decode cX6_removeOn 9 = .ok (.bipush 12, 2) := by decide +kernel
theorem dX6_removeOn_11 : decode cX6_removeOn 11 = .ok (.aload_n 0, 1) := by decide +kernel
theorem dX6_removeOn_12 : decode cX6_removeOn 12 = .ok (.iconst 1, 1) := by decide +kernel
theorem dX6_removeOn_13 : decode cX6_removeOn 13 = .ok (.iaload, 1) := by decide +kernel
theorem dX6_removeOn_14 : decode cX6_removeOn 14 = .ok (.imul, 1) := by decide +kernel
theorem dX6_removeOn_15 : decode cX6_removeOn 15 = .ok (.iadd, 1) := by decide +kernel
theorem dX6_removeOn_16 : decode cX6_removeOn 16 = .ok (.istore_n 2, 1) := by decide +kernel
theorem dX6_removeOn_17 : decode cX6_removeOn 17 = .ok (.bipush 76, 2) := by decide +kernel
theorem dX6_removeOn_19 : decode cX6_removeOn 19 = .ok (.bipush 12, 2) := by decide +kernel
theorem dX6_removeOn_21 : decode cX6_removeOn 21 = .ok (.iload_n 1, 1) := by decide +kernel
theorem dX6_removeOn_22 : decode cX6_removeOn 22 = .ok (.imul, 1) := by decide +kernel
theorem dX6_removeOn_23 : decode cX6_removeOn 23 = .ok (.iadd, 1) := by decide +kernel
theorem dX6_removeOn_24 : decode cX6_removeOn 24 = .ok (.istore_n 3, 1) := by decide +kernel
theorem dX6_removeOn_25 : decode cX6_removeOn 25 = .ok (.iload_n 3, 1) := by decide +kernel
theorem dX6_removeOn_26 : decode cX6_removeOn 26 = .ok (.iload_n 2, 1) := by decide +kernel
theorem dX6_removeOn_27 : decode cX6_removeOn 27 = .ok (.if_icmp .ge 18, 3) := by decide +kernel
theorem dX6_removeOn_30 : decode cX6_removeOn 30 = .ok (.aload_n 0, 1) := by decide +kernel
theorem dX6_removeOn_31 : decode cX6_removeOn 31 = .ok (.iload_n 3, 1) := by decide +kernel
theorem dX6_removeOn_32 : decode cX6_removeOn 32 = .ok (.aload_n 0, 1) := by decide +kernel
theorem dX6_removeOn_33 : decode cX6_removeOn 33 = .ok (.iload_n 3, 1) := by decide +kernel
theorem dX6_removeOn_34 : decode cX6_removeOn 34 = .ok (.bipush 12, 2) := by decide +kernel
theorem dX6_removeOn_36 : decode cX6_removeOn 36 = .ok (.iadd, 1) := by decide +kernel
theorem dX6_removeOn_37 : decode cX6_removeOn 37 = .ok (.iaload, 1) := by decide +kernel
theorem dX6_removeOn_38 : decode cX6_removeOn 38 = .ok (.iastore, 1) := by decide +kernel
theorem dX6_removeOn_39 : decode cX6_removeOn 39 = .ok (.iinc 3 1, 3) := by decide +kernel
theorem dX6_removeOn_42 : decode cX6_removeOn 42 = .ok (.goto (-17), 3) := by decide +kernel
theorem dX6_removeOn_45 : decode cX6_removeOn 45 = .ok (.iload_n 2, 1) := by decide +kernel
theorem dX6_removeOn_46 : decode cX6_removeOn 46 = .ok (.istore_n 3, 1) := by decide +kernel
theorem dX6_removeOn_47 : decode cX6_removeOn 47 = .ok (.iload_n 3, 1) := by decide +kernel
theorem dX6_removeOn_48 : decode cX6_removeOn 48 = .ok (.iload_n 2, 1) := by decide +kernel
theorem dX6_removeOn_49 : decode cX6_removeOn 49 = .ok (.bipush 12, 2) := by decide +kernel
theorem dX6_removeOn_51 : decode cX6_removeOn 51 = .ok (.iadd, 1) := by decide +kernel
theorem dX6_removeOn_52 : decode cX6_removeOn 52 = .ok (.if_icmp .ge 13, 3) := by decide +kernel
theorem dX6_removeOn_55 : decode cX6_removeOn 55 = .ok (.aload_n 0, 1) := by decide +kernel
theorem dX6_removeOn_56 : decode cX6_removeOn 56 = .ok (.iload_n 3, 1) := by decide +kernel
theorem dX6_removeOn_57 : decode cX6_removeOn 57 = .ok (.iconst 0, 1) := by decide +kernel
theorem dX6_removeOn_58 : decode cX6_removeOn 58 = .ok (.iastore, 1) := by decide +kernel
theorem dX6_removeOn_59 : decode cX6_removeOn 59 = .ok (.iinc 3 1, 3) := by decide +kernel
theorem dX6_removeOn_62 : decode cX6_removeOn 62 = .ok (.goto (-15), 3) := by decide +kernel
theorem dX6_removeOn_65 : decode cX6_removeOn 65 = .ok (.aload_n 0, 1) := by decide +kernel
theorem dX6_removeOn_66 : decode cX6_removeOn 66 = .ok (.iconst 1, 1) := by decide +kernel
theorem dX6_removeOn_67 : decode cX6_removeOn 67 = .ok (.iaload, 1) := by decide +kernel
theorem dX6_removeOn_68 : decode cX6_removeOn 68 = .ok (.ireturn, 1) := by decide +kernel
theorem dX6_change_0 : decode cX6_change 0 = .ok (.aload_n 0, 1) := by decide +kernel
theorem dX6_change_1 : decode cX6_change 1 = .ok (.iload_n 1, 1) := by decide +kernel
theorem dX6_change_2 : decode cX6_change 2 = .ok (.iaload, 1) := by decide +kernel
theorem dX6_change_3 : decode cX6_change 3 = .ok (.istore_n 3, 1) := by decide +kernel
theorem dX6_change_4 : decode cX6_change 4 = .ok (.aload_n 0, 1) := by decide +kernel
theorem dX6_change_5 : decode cX6_change 5 = .ok (.iload_n 1, 1) := by decide +kernel
theorem dX6_change_6 : decode cX6_change 6 = .ok (.iload_n 2, 1) := by decide +kernel
theorem dX6_change_7 : decode cX6_change 7 = .ok (.iastore, 1) := by decide +kernel
theorem dX6_change_8 : decode cX6_change 8 = .ok (.iload_n 3, 1) := by decide +kernel
theorem dX6_change_9 : decode cX6_change 9 = .ok (.ireturn, 1) := by decide +kernel
theorem dX6_pressOn_0 : decode cX6_pressOn 0 = .ok (.aload_n 0, 1) := by decide +kernel
theorem dX6_pressOn_1 : decode cX6_pressOn 1 = .ok (.bipush 6, 2) := by decide +kernel
theorem dX6_pressOn_3 : decode cX6_pressOn 3 = .ok (.bipush 7, 2) := by decide +kernel
theorem dX6_pressOn_5 : decode cX6_pressOn 5 = .ok (.iload_n 1, 1) := by decide +kernel
theorem dX6_pressOn_6 : decode cX6_pressOn 6 = .ok (.imul, 1) := by decide +kernel
theorem dX6_pressOn_7 : decode cX6_pressOn 7 = .ok (.iadd, 1) := by decide +kernel
theorem dX6_pressOn_8 : decode cX6_pressOn 8 = .ok (.iconst 2, 1) := by decide +kernel
theorem dX6_pressOn_9 : decode cX6_pressOn 9 = .ok (.iadd, 1) := by decide +kernel
theorem dX6_pressOn_10 : decode cX6_pressOn 10 = .ok (.iload_n 2, 1) := by decide +kernel
theorem dX6_pressOn_11 : decode cX6_pressOn 11 = .ok (.ifCond .eq 7, 3) := by decide +kernel
theorem dX6_pressOn_14 : decode cX6_pressOn 14 = .ok (.iconst 1, 1) := by decide +kernel
theorem dX6_pressOn_15 : decode cX6_pressOn 15 = .ok (.goto 4, 3) := by decide +kernel
theorem dX6_pressOn_18 : decode cX6_pressOn 18 = .ok (.iconst 0, 1) := by decide +kernel
theorem dX6_pressOn_19 : decode cX6_pressOn 19 = .ok (.invokestatic 116, 3) := by decide +kernel
theorem dX6_pressOn_22 : decode cX6_pressOn 22 = .ok (.iload_n 2, 1) := by decide +kernel
theorem dX6_pressOn_23 : decode cX6_pressOn 23 = .ok (.ifCond .eq 7, 3) := by decide +kernel
theorem dX6_pressOn_26 : decode cX6_pressOn 26 = .ok (.iconst 1, 1) := by decide +kernel
theorem dX6_pressOn_27 : decode cX6_pressOn 27 = .ok (.goto 4, 3) := by decide +kernel
theorem dX6_pressOn_30 : decode cX6_pressOn 30 = .ok (.iconst 0, 1) := by decide +kernel
theorem dX6_pressOn_31 : decode cX6_pressOn 31 = .ok (.if_icmp .ne 7, 3) := by decide +kernel
theorem dX6_pressOn_34 : decode cX6_pressOn 34 = .ok (.iconst 0, 1) := by decide +kernel
theorem dX6_pressOn_35 : decode cX6_pressOn 35 = .ok (.goto 4, 3) := by decide +kernel
theorem dX6_pressOn_38 : decode cX6_pressOn 38 = .ok (.iconst 1, 1) := by decide +kernel
theorem dX6_pressOn_39 : decode cX6_pressOn 39 = .ok (.ireturn, 1) := by decide +kernel
theorem dX6_append_0 : decode cX6_append 0 = .ok (.aload_n 0, 1) := by decide +kernel
theorem dX6_append_1 : decode cX6_append 1 = .ok (.iload_n 1, 1) := by decide +kernel
theorem dX6_append_2 : decode cX6_append 2 = .ok (.i2l, 1) := by decide +kernel
theorem dX6_append_3 : decode cX6_append 3 = .ok (.lconst 0, 1) := by decide +kernel
theorem dX6_append_4 : decode cX6_append 4 = .ok (.ldc2_w 119, 3) := by decide +kernel
theorem dX6_append_7 : decode cX6_append 7 = .ok (.invokestatic 40, 3) := by decide +kernel
theorem dX6_append_10 : decode cX6_append 10 = .ok (.ifCond .ne 7, 3) := by decide +kernel
theorem dX6_append_13 : decode cX6_append 13 = .ok (.iconst 1, 1) := by decide +kernel
theorem dX6_append_14 : decode cX6_append 14 = .ok (.goto 17, 3) := by decide +kernel
theorem dX6_append_17 : decode cX6_append 17 = .ok (.aload_n 0, 1) := by decide +kernel
theorem dX6_append_18 : decode cX6_append 18 = .ok (.getfield 121, 3) := by decide +kernel
theorem dX6_append_21 : decode cX6_append 21 = .ok (.bipush 120, 2) := by decide +kernel
theorem dX6_append_23 : decode cX6_append 23 = .ok (.if_icmp .ne 7, 3) := by decide +kernel
theorem dX6_append_26 : decode cX6_append 26 = .ok (.iconst 2, 1) := by decide +kernel
theorem dX6_append_27 : decode cX6_append 27 = .ok (.goto 4, 3) := by decide +kernel
theorem dX6_append_30 : decode cX6_append 30 = .ok (.iconst 0, 1) := by decide +kernel
theorem dX6_append_31 : decode cX6_append 31 = .ok (.invokevirtual 124, 3) := by decide +kernel
theorem dX6_append_34 : decode cX6_append 34 = .ok (.ifCond .eq 5, 3) := by decide +kernel
theorem dX6_append_37 : decode cX6_append 37 = .ok (.iconst 0, 1) := by decide +kernel
theorem dX6_append_38 : decode cX6_append 38 = .ok (.ireturn, 1) := by decide +kernel
theorem dX6_append_39 : decode cX6_append 39 = .ok (.aload_n 0, 1) := by decide +kernel
theorem dX6_append_40 : decode cX6_append 40 = .ok (.getfield 7, 3) := by decide +kernel
theorem dX6_append_43 : decode cX6_append 43 = .ok (.aload_n 0, 1) := by decide +kernel
theorem dX6_append_44 : decode cX6_append 44 = .ok (.getfield 121, 3) := by decide +kernel
theorem dX6_append_47 : decode cX6_append 47 = .ok (.iload_n 1, 1) := by decide +kernel
theorem dX6_append_48 : decode cX6_append 48 = .ok (.iastore, 1) := by decide +kernel
theorem dX6_append_49 : decode cX6_append 49 = .ok (.aload_n 0, 1) := by decide +kernel
theorem dX6_append_50 : decode cX6_append 50 = .ok (.dup, 1) := by decide +kernel
theorem dX6_append_51 : decode cX6_append 51 = .ok (.getfield 121, 3) := by decide +kernel
theorem dX6_append_54 : decode cX6_append 54 = .ok (.iconst 1, 1) := by decide +kernel
theorem dX6_append_55 : decode cX6_append 55 = .ok (.iadd, 1) := by decide +kernel
theorem dX6_append_56 : decode cX6_append 56 = .ok (.putfield 121, 3) := by decide +kernel
theorem dX6_append_59 : decode cX6_append 59 = .ok (.aload_n 0, 1) := by decide +kernel
theorem dX6_append_60 : decode cX6_append 60 = .ok (.getfield 121, 3) := by decide +kernel
theorem dX6_append_63 : decode cX6_append 63 = .ok (.ireturn, 1) := by decide +kernel
theorem dX6_clearText_0 : decode cX6_clearText 0 = .ok (.aload_n 0, 1) := by decide +kernel
theorem dX6_clearText_1 : decode cX6_clearText 1 = .ok (.iconst 0, 1) := by decide +kernel
theorem dX6_clearText_2 : decode cX6_clearText 2 = .ok (.putfield 36, 3) := by decide +kernel
theorem dX6_clearText_5 : decode cX6_clearText 5 = .ok (.aload_n 0, 1) := by decide +kernel
theorem dX6_clearText_6 : decode cX6_clearText 6 = .ok (.getfield 121, 3) := by decide +kernel
theorem dX6_clearText_9 : decode cX6_clearText 9 = .ok (.istore_n 1, 1) := by decide +kernel
theorem dX6_clearText_10 : decode cX6_clearText 10 = .ok (.aload_n 0, 1) := by decide +kernel
theorem dX6_clearText_11 : decode cX6_clearText 11 = .ok (.iconst 0, 1) := by decide +kernel
theorem dX6_clearText_12 : decode cX6_clearText 12 = .ok (.putfield 121, 3) := by decide +kernel
theorem dX6_clearText_15 : decode cX6_clearText 15 = .ok (.iload_n 1, 1) := by decide +kernel
theorem dX6_clearText_16 : decode cX6_clearText 16 = .ok (.ireturn, 1) := by decide +kernel
theorem dX6_figures_0 : decode cX6_figures 0 = .ok (.iconst 0, 1) := by decide +kernel
theorem dX6_figures_1 : decode cX6_figures 1 = .ok (.istore 5, 2) := by decide +kernel
theorem dX6_figures_3 : decode cX6_figures 3 = .ok (.iload_n 2, 1) := by decide +kernel
theorem dX6_figures_4 : decode cX6_figures 4 = .ok (.iconst 2, 1) := by decide +kernel
theorem dX6_figures_5 : decode cX6_figures 5 = .ok (.if_icmp .ne 8, 3) := by decide +kernel
theorem dX6_figures_8 : decode cX6_figures 8 = .ok (.bipush 10, 2) := by decide +kernel
theorem dX6_figures_10 : decode cX6_figures 10 = .ok (.goto 4, 3) := by decide +kernel
theorem dX6_figures_13 : decode cX6_figures 13 = .ok (.iconst 1, 1) := by decide +kernel
theorem dX6_figures_14 : decode cX6_figures 14 = .ok (.istore 6, 2) := by decide +kernel
theorem dX6_figures_16 : decode cX6_figures 16 = .ok (.iload 6, 2) := by decide +kernel
theorem dX6_figures_18 : decode cX6_figures 18 = .ok (.ifCond .le 104, 3) := by decide +kernel
theorem dX6_figures_21 : decode cX6_figures 21 = .ok (.iload_n 1, 1) := by decide +kernel
theorem dX6_figures_22 : decode cX6_figures 22 = .ok (.iconst (-1), 1) := by decide +kernel
theorem dX6_figures_23 : decode cX6_figures 23 = .ok (.if_icmp .eq 99, 3) := by decide +kernel
theorem dX6_figures_26 : decode cX6_figures 26 = .ok (.aload_n 0, 1) := by decide +kernel
theorem dX6_figures_27 : decode cX6_figures 27 = .ok (.getfield 127, 3) := by decide +kernel
theorem dX6_figures_30 : decode cX6_figures 30 = .ok (.aload_n 0, 1) := by decide +kernel
theorem dX6_figures_31 : decode cX6_figures 31 = .ok (.getfield 121, 3) := by decide +kernel
theorem dX6_figures_34 : decode cX6_figures 34 = .ok (.if_icmp .ge 18, 3) := by decide +kernel
theorem dX6_figures_37 : decode cX6_figures 37 = .ok (.aload_n 0, 1) := by decide +kernel
theorem dX6_figures_38 : decode cX6_figures 38 = .ok (.getfield 7, 3) := by decide +kernel
theorem dX6_figures_41 : decode cX6_figures 41 = .ok (.aload_n 0, 1) := by decide +kernel
theorem dX6_figures_42 : decode cX6_figures 42 = .ok (.getfield 127, 3) := by decide +kernel
theorem dX6_figures_45 : decode cX6_figures 45 = .ok (.iaload, 1) := by decide +kernel
theorem dX6_figures_46 : decode cX6_figures 46 = .ok (.bipush 48, 2) := by decide +kernel
theorem dX6_figures_48 : decode cX6_figures 48 = .ok (.isub, 1) := by decide +kernel
theorem dX6_figures_49 : decode cX6_figures 49 = .ok (.goto 4, 3) := by decide +kernel
theorem dX6_figures_52 : decode cX6_figures 52 = .ok (.iconst (-1), 1) := by decide +kernel
theorem dX6_figures_53 : decode cX6_figures 53 = .ok (.istore 7, 2) := by decide +kernel
theorem dX6_figures_55 : decode cX6_figures 55 = .ok (.iload 5, 2) := by decide +kernel
theorem dX6_figures_57 : decode cX6_figures 57 = .ok (.iload 7, 2) := by decide +kernel
theorem dX6_figures_59 : decode cX6_figures 59 = .ok (.iload 6, 2) := by decide +kernel
theorem dX6_figures_61 : decode cX6_figures 61 = .ok (.imul, 1) := by decide +kernel
theorem dX6_figures_62 : decode cX6_figures 62 = .ok (.iadd, 1) := by decide +kernel
theorem dX6_figures_63 : decode cX6_figures 63 = .ok (.istore 8, 2) := by decide +kernel
theorem dX6_figures_65 : decode cX6_figures 65 = .ok (.iload 7, 2) := by decide +kernel
theorem dX6_figures_67 : decode cX6_figures 67 = .ok (.i2l, 1) := by decide +kernel
theorem dX6_figures_68 : decode cX6_figures 68 = .ok (.lconst 0, 1) := by decide +kernel
theorem dX6_figures_69 : decode cX6_figures 69 = .ok (.ldc2_w 52, 3) := by decide +kernel
theorem dX6_figures_72 : decode cX6_figures 72 = .ok (.invokestatic 40, 3) := by decide +kernel
theorem dX6_figures_75 : decode cX6_figures 75 = .ok (.ifCond .eq 21, 3) := by decide +kernel
theorem dX6_figures_78 : decode cX6_figures 78 = .ok (.iload 8, 2) := by decide +kernel
theorem dX6_figures_80 : decode cX6_figures 80 = .ok (.iload 4, 2) := by decide +kernel
theorem dX6_figures_82 : decode cX6_figures 82 = .ok (.if_icmp .gt 14, 3) := by decide +kernel
theorem dX6_figures_85 : decode cX6_figures 85 = .ok (.iload 8, 2) := by decide +kernel
theorem dX6_figures_87 : decode cX6_figures 87 = .ok (.iload 6, 2) := by decide +kernel
theorem dX6_figures_89 : decode cX6_figures 89 = .ok (.iadd, 1) := by decide +kernel
theorem dX6_figures_90 : decode cX6_figures 90 = .ok (.iconst 1, 1) := by decide +kernel
theorem dX6_figures_91 : decode cX6_figures 91 = .ok (.isub, 1) := by decide +kernel
theorem dX6_figures_92 : decode cX6_figures 92 = .ok (.iload_n 3, 1) := by decide +kernel
theorem dX6_figures_93 : decode cX6_figures 93 = .ok (.if_icmp .ge 5, 3) := by decide +kernel
theorem dX6_figures_96 : decode cX6_figures 96 = .ok (.iconst (-1), 1) := by decide +kernel
theorem dX6_figures_97 : decode cX6_figures 97 = .ok (.ireturn, 1) := by decide +kernel
theorem dX6_figures_98 : decode cX6_figures 98 = .ok (.iload 8, 2) := by decide +kernel
theorem dX6_figures_100 : decode cX6_figures 100 = .ok (.istore 5, 2) := by decide +kernel
theorem dX6_figures_102 : decode cX6_figures 102 = .ok (.aload_n 0, 1) := by decide +kernel
theorem dX6_figures_103 : decode cX6_figures 103 = .ok (.dup, 1) := by decide +kernel
theorem dX6_figures_104 : decode cX6_figures 104 = .ok (.getfield 127, 3) := by decide +kernel
theorem dX6_figures_107 : decode cX6_figures 107 = .ok (.iconst 1, 1) := by decide +kernel
theorem dX6_figures_108 : decode cX6_figures 108 = .ok (.iadd, 1) := by decide +kernel
theorem dX6_figures_109 : decode cX6_figures 109 = .ok (.putfield 127, 3) := by decide +kernel
theorem dX6_figures_112 : decode cX6_figures 112 = .ok (.iload 6, 2) := by decide +kernel
theorem dX6_figures_114 : decode cX6_figures 114 = .ok (.bipush 10, 2) := by decide +kernel
theorem dX6_figures_116 : decode cX6_figures 116 = .ok (.idiv, 1) := by decide +kernel
theorem dX6_figures_117 : decode cX6_figures 117 = .ok (.istore 6, 2) := by decide +kernel
theorem dX6_figures_119 : decode cX6_figures 119 = .ok (.goto (-103), 3) := by decide +kernel
theorem dX6_figures_122 : decode cX6_figures 122 = .ok (.iload_n 1, 1) := by decide +kernel
theorem dX6_figures_123 : decode cX6_figures 123 = .ok (.iconst (-1), 1) := by decide +kernel
theorem dX6_figures_124 : decode cX6_figures 124 = .ok (.if_icmp .ne 7, 3) := by decide +kernel
theorem dX6_figures_127 : decode cX6_figures 127 = .ok (.iconst (-1), 1) := by decide +kernel
theorem dX6_figures_128 : decode cX6_figures 128 = .ok (.goto 5, 3) := by decide +kernel
theorem dX6_figures_131 : decode cX6_figures 131 = .ok (.iload 5, 2) := by decide +kernel
theorem dX6_figures_133 : decode cX6_figures 133 = .ok (.ireturn, 1) := by decide +kernel
theorem dX6_done_0 : decode cX6_done 0 = .ok (.aload_n 0, 1) := by decide +kernel
theorem dX6_done_1 : decode cX6_done 1 = .ok (.dup, 1) := by decide +kernel
theorem dX6_done_2 : decode cX6_done 2 = .ok (.getfield 130, 3) := by decide +kernel
theorem dX6_done_5 : decode cX6_done 5 = .ok (.iload_n 1, 1) := by decide +kernel
theorem dX6_done_6 : decode cX6_done 6 = .ok (.ifCond .eq 7, 3) := by decide +kernel
theorem dX6_done_9 : decode cX6_done 9 = .ok (.iconst 0, 1) := by decide +kernel
theorem dX6_done_10 : decode cX6_done 10 = .ok (.goto 4, 3) := by decide +kernel
theorem dX6_done_13 : decode cX6_done 13 = .ok (.iconst 1, 1) := by decide +kernel
theorem dX6_done_14 : decode cX6_done 14 = .ok (.iadd, 1) := by decide +kernel
theorem dX6_done_15 : decode cX6_done 15 = .ok (.putfield 130, 3) := by decide +kernel
theorem dX6_done_18 : decode cX6_done 18 = .ok (.iconst 1, 1) := by decide +kernel
theorem dX6_done_19 : decode cX6_done 19 = .ok (.ireturn, 1) := by decide +kernel
theorem dX6_who_0 : decode cX6_who 0 = .ok (.aload_n 0, 1) := by decide +kernel
theorem dX6_who_1 : decode cX6_who 1 = .ok (.iload_n 1, 1) := by decide +kernel
theorem dX6_who_2 : decode cX6_who 2 = .ok (.iconst 1, 1) := by decide +kernel
theorem dX6_who_3 : decode cX6_who 3 = .ok (.iconst 0, 1) := by decide +kernel
theorem dX6_who_4 : decode cX6_who 4 = .ok (.bipush 9, 2) := by decide +kernel
theorem dX6_who_6 : decode cX6_who 6 = .ok (.invokevirtual 133, 3) := by decide +kernel
theorem dX6_who_9 : decode cX6_who 9 = .ok (.ireturn, 1) := by decide +kernel
theorem dX6_readDuct_0 : decode cX6_readDuct 0 = .ok (.aload_n 0, 1) := by decide +kernel
theorem dX6_readDuct_1 : decode cX6_readDuct 1 = .ok (.iconst 0, 1) := by decide +kernel
theorem dX6_readDuct_2 : decode cX6_readDuct 2 = .ok (.invokevirtual 137, 3) := by decide +kernel
theorem dX6_readDuct_5 : decode cX6_readDuct 5 = .ok (.istore_n 2, 1) := by decide +kernel
theorem dX6_readDuct_6 : decode cX6_readDuct 6 = .ok (.aload_n 0, 1) := by decide +kernel
theorem dX6_readDuct_7 : decode cX6_readDuct 7 = .ok (.iload_n 2, 1) := by decide +kernel
theorem dX6_readDuct_8 : decode cX6_readDuct 8 = .ok (.iconst 1, 1) := by decide +kernel
theorem dX6_readDuct_9 : decode cX6_readDuct 9 = .ok (.iconst 0, 1) := by decide +kernel
theorem dX6_readDuct_10 : decode cX6_readDuct 10 = .ok (.iconst 1, 1) := by decide +kernel
theorem dX6_readDuct_11 : decode cX6_readDuct 11 = .ok (.invokevirtual 133, 3) := by decide +kernel
theorem dX6_readDuct_14 : decode cX6_readDuct 14 = .ok (.istore_n 3, 1) := by decide +kernel
theorem dX6_readDuct_15 : decode cX6_readDuct 15 = .ok (.aload_n 0, 1) := by decide +kernel
theorem dX6_readDuct_16 : decode cX6_readDuct 16 = .ok (.iload_n 3, 1) := by decide +kernel
theorem dX6_readDuct_17 : decode cX6_readDuct 17 = .ok (.invokevirtual 137, 3) := by decide +kernel
theorem dX6_readDuct_20 : decode cX6_readDuct 20 = .ok (.istore 4, 2) := by decide +kernel
theorem dX6_readDuct_22 : decode cX6_readDuct 22 = .ok (.aload_n 0, 1) := by decide +kernel
theorem dX6_readDuct_23 : decode cX6_readDuct 23 = .ok (.iload 4, 2) := by decide +kernel
theorem dX6_readDuct_25 : decode cX6_readDuct 25 = .ok (.iconst 1, 1) := by decide +kernel
theorem dX6_readDuct_26 : decode cX6_readDuct 26 = .ok (.iconst 0, 1) := by decide +kernel
theorem dX6_readDuct_27 : decode cX6_readDuct 27 = .ok (.iconst 1, 1) := by decide +kernel
theorem dX6_readDuct_28 : decode cX6_readDuct 28 = .ok (.invokevirtual 133, 3) := by decide +kernel
theorem dX6_readDuct_31 : decode cX6_readDuct 31 = .ok (.istore 5, 2) := by decide +kernel
theorem dX6_readDuct_33 : decode cX6_readDuct 33 = .ok (.aload_n 0, 1) := by decide +kernel
theorem dX6_readDuct_34 : decode cX6_readDuct 34 = .ok (.iload 5, 2) := by decide +kernel
theorem dX6_readDuct_36 : decode cX6_readDuct 36 = .ok (.iconst 1, 1) := by decide +kernel
theorem dX6_readDuct_37 : decode cX6_readDuct 37 = .ok (.iconst 1, 1) := by decide +kernel
theorem dX6_readDuct_38 : decode cX6_readDuct 38 = .ok (.bipush 6, 2) := by decide +kernel
theorem dX6_readDuct_40 : decode cX6_readDuct 40 = .ok (.invokevirtual 133, 3) := by decide +kernel
theorem dX6_readDuct_43 : decode cX6_readDuct 43 = .ok (.istore 6, 2) := by decide +kernel
theorem dX6_readDuct_45 : decode cX6_readDuct 45 = .ok (.iload 6, 2) := by decide +kernel
theorem dX6_readDuct_47 : decode cX6_readDuct 47 = .ok (.iconst (-1), 1) := by decide +kernel
theorem dX6_readDuct_48 : decode cX6_readDuct 48 = .ok (.if_icmp .eq 49, 3) := by decide +kernel
theorem dX6_readDuct_51 : decode cX6_readDuct 51 = .ok (.aload_n 0, 1) := by decide +kernel
theorem dX6_readDuct_52 : decode cX6_readDuct 52 = .ok (.aload_n 1, 1) := by decide +kernel
theorem dX6_readDuct_53 : decode cX6_readDuct 53 = .ok (.iload_n 2, 1) := by decide +kernel
theorem dX6_readDuct_54 : decode cX6_readDuct 54 = .ok (.iload_n 3, 1) := by decide +kernel
theorem dX6_readDuct_55 : decode cX6_readDuct 55 = .ok (.iload 4, 2) := by decide +kernel
theorem dX6_readDuct_57 : decode cX6_readDuct 57 = .ok (.iload 5, 2) := by decide +kernel
theorem dX6_readDuct_59 : decode cX6_readDuct 59 = .ok (.iload 6, 2) := by decide +kernel
theorem dX6_readDuct_61 : decode cX6_readDuct 61 = .ok (.invokestatic 141, 3) := by decide +kernel
theorem dX6_readDuct_64 : decode cX6_readDuct 64 = .ok (.ifCond .eq 22, 3) := by decide +kernel
theorem dX6_readDuct_67 : decode cX6_readDuct 67 = .ok (.aload_n 1, 1) := by decide +kernel
theorem dX6_readDuct_68 : decode cX6_readDuct 68 = .ok (.iload_n 2, 1) := by decide +kernel
theorem dX6_readDuct_69 : decode cX6_readDuct 69 = .ok (.iload_n 3, 1) := by decide +kernel
theorem dX6_readDuct_70 : decode cX6_readDuct 70 = .ok (.iload 4, 2) := by decide +kernel
theorem dX6_readDuct_72 : decode cX6_readDuct 72 = .ok (.iload 5, 2) := by decide +kernel
theorem dX6_readDuct_74 : decode cX6_readDuct 74 = .ok (.iload 6, 2) := by decide +kernel
theorem dX6_readDuct_76 : decode cX6_readDuct 76 = .ok (.invokestatic 145, 3) := by decide +kernel
theorem dX6_readDuct_79 : decode cX6_readDuct 79 = .ok (.ifCond .lt 7, 3) := by decide +kernel
theorem dX6_readDuct_82 : decode cX6_readDuct 82 = .ok (.iconst 1, 1) := by decide +kernel
theorem dX6_readDuct_83 : decode cX6_readDuct 83 = .ok (.goto 4, 3) := by decide +kernel
theorem dX6_readDuct_86 : decode cX6_readDuct 86 = .ok (.iconst 0, 1) := by decide +kernel
theorem dX6_readDuct_87 : decode cX6_readDuct 87 = .ok (.invokevirtual 149, 3) := by decide +kernel
theorem dX6_readDuct_90 : decode cX6_readDuct 90 = .ok (.ifCond .eq 7, 3) := by decide +kernel
theorem dX6_readDuct_93 : decode cX6_readDuct 93 = .ok (.iconst 1, 1) := by decide +kernel
theorem dX6_readDuct_94 : decode cX6_readDuct 94 = .ok (.goto 4, 3) := by decide +kernel
theorem dX6_readDuct_97 : decode cX6_readDuct 97 = .ok (.iconst 0, 1) := by decide +kernel
theorem dX6_readDuct_98 : decode cX6_readDuct 98 = .ok (.ireturn, 1) := by decide +kernel
theorem dX6_readCommand_0 : decode cX6_readCommand 0 = .ok (.aload_n 0, 1) := by decide +kernel
theorem dX6_readCommand_1 : decode cX6_readCommand 1 = .ok (.getfield 7, 3) := by decide +kernel
theorem dX6_readCommand_4 : decode cX6_readCommand 4 = .ok (.aload_n 0, 1) := by decide +kernel
theorem dX6_readCommand_5 : decode cX6_readCommand 5 = .ok (.getfield 127, 3) := by decide +kernel
theorem dX6_readCommand_8 : decode cX6_readCommand 8 = .ok (.iaload, 1) := by decide +kernel
theorem dX6_readCommand_9 : decode cX6_readCommand 9 = .ok (.istore_n 2, 1) := by decide +kernel
theorem dX6_readCommand_10 : decode cX6_readCommand 10 = .ok (.aload_n 0, 1) := by decide +kernel
theorem dX6_readCommand_11 : decode cX6_readCommand 11 = .ok (.dup, 1) := by decide +kernel
theorem dX6_readCommand_12 : decode cX6_readCommand 12 = .ok (.getfield 127, 3) := by decide +kernel
theorem dX6_readCommand_15 : decode cX6_readCommand 15 = .ok (.iconst 1, 1) := by decide +kernel
theorem dX6_readCommand_16 : decode cX6_readCommand 16 = .ok (.iadd, 1) := by decide +kernel
theorem dX6_readCommand_17 : decode cX6_readCommand 17 = .ok (.putfield 127, 3) := by decide +kernel
theorem dX6_readCommand_20 : decode cX6_readCommand 20 = .ok (.iload_n 2, 1) := by decide +kernel
theorem dX6_readCommand_21 : decode cX6_readCommand 21 = .ok (.tableswitch 329 100 118 #[154, 329, 329, 329, 329, 329, 329, 160, 216, 329, 329, 329, 329, 329, 160, 329, 287, 329, 91], 91) := by decide +kernel
theorem dX6_readCommand_112 : decode cX6_readCommand 112 = .ok (.aload_n 0, 1) := by decide +kernel
theorem dX6_readCommand_113 : decode cX6_readCommand 113 = .ok (.iconst 0, 1) := by decide +kernel
theorem dX6_readCommand_114 : decode cX6_readCommand 114 = .ok (.iconst 1, 1) := by decide +kernel
theorem dX6_readCommand_115 : decode cX6_readCommand 115 = .ok (.iconst 0, 1) := by decide +kernel
theorem dX6_readCommand_116 : decode cX6_readCommand 116 = .ok (.iconst 4, 1) := by decide +kernel
theorem dX6_readCommand_117 : decode cX6_readCommand 117 = .ok (.invokevirtual 133, 3) := by decide +kernel
theorem dX6_readCommand_120 : decode cX6_readCommand 120 = .ok (.istore_n 3, 1) := by decide +kernel
theorem dX6_readCommand_121 : decode cX6_readCommand 121 = .ok (.aload_n 0, 1) := by decide +kernel
theorem dX6_readCommand_122 : decode cX6_readCommand 122 = .ok (.iload_n 3, 1) := by decide +kernel
theorem dX6_readCommand_123 : decode cX6_readCommand 123 = .ok (.iconst 2, 1) := by decide +kernel
theorem dX6_readCommand_124 : decode cX6_readCommand 124 = .ok (.bipush 10, 2) := by decide +kernel
theorem dX6_readCommand_126 : decode cX6_readCommand 126 = .ok (.bipush 99, 2) := by decide +kernel
theorem dX6_readCommand_128 : decode cX6_readCommand 128 = .ok (.invokevirtual 133, 3) := by decide +kernel
theorem dX6_readCommand_131 : decode cX6_readCommand 131 = .ok (.istore 4, 2) := by decide +kernel
theorem dX6_readCommand_133 : decode cX6_readCommand 133 = .ok (.iload 4, 2) := by decide +kernel
theorem dX6_readCommand_135 : decode cX6_readCommand 135 = .ok (.iconst (-1), 1) := by decide +kernel
theorem dX6_readCommand_136 : decode cX6_readCommand 136 = .ok (.if_icmp .eq 37, 3) := by decide +kernel
theorem dX6_readCommand_139 : decode cX6_readCommand 139 = .ok (.aload_n 0, 1) := by decide +kernel
theorem dX6_readCommand_140 : decode cX6_readCommand 140 = .ok (.aload_n 1, 1) := by decide +kernel
theorem dX6_readCommand_141 : decode cX6_readCommand 141 = .ok (.iconst 0, 1) := by decide +kernel
theorem dX6_readCommand_142 : decode cX6_readCommand 142 = .ok (.iaload, 1) := by decide +kernel
theorem dX6_readCommand_143 : decode cX6_readCommand 143 = .ok (.bipush 10, 2) := by decide +kernel
theorem dX6_readCommand_145 : decode cX6_readCommand 145 = .ok (.if_icmp .ge 17, 3) := by decide +kernel
theorem dX6_readCommand_148 : decode cX6_readCommand 148 = .ok (.aload_n 1, 1) := by decide +kernel
theorem dX6_readCommand_149 : decode cX6_readCommand 149 = .ok (.iload_n 3, 1) := by decide +kernel
theorem dX6_readCommand_150 : decode cX6_readCommand 150 = .ok (.iload 4, 2) := by decide +kernel
theorem dX6_readCommand_152 : decode cX6_readCommand 152 = .ok (.invokestatic 153, 3) := by decide +kernel
theorem dX6_readCommand_155 : decode cX6_readCommand 155 = .ok (.ifCond .lt 7, 3) := by decide +kernel
theorem dX6_readCommand_158 : decode cX6_readCommand 158 = .ok (.iconst 1, 1) := by decide +kernel
theorem dX6_readCommand_159 : decode cX6_readCommand 159 = .ok (.goto 4, 3) := by decide +kernel
theorem dX6_readCommand_162 : decode cX6_readCommand 162 = .ok (.iconst 0, 1) := by decide +kernel
theorem dX6_readCommand_163 : decode cX6_readCommand 163 = .ok (.invokevirtual 149, 3) := by decide +kernel
theorem dX6_readCommand_166 : decode cX6_readCommand 166 = .ok (.ifCond .eq 7, 3) := by decide +kernel
theorem dX6_readCommand_169 : decode cX6_readCommand 169 = .ok (.iconst 1, 1) := by decide +kernel
theorem dX6_readCommand_170 : decode cX6_readCommand 170 = .ok (.goto 4, 3) := by decide +kernel
theorem dX6_readCommand_173 : decode cX6_readCommand 173 = .ok (.iconst 0, 1) := by decide +kernel
theorem dX6_readCommand_174 : decode cX6_readCommand 174 = .ok (.ireturn, 1) := by decide +kernel
theorem dX6_readCommand_175 : decode cX6_readCommand 175 = .ok (.aload_n 0, 1) := by decide +kernel
theorem dX6_readCommand_176 : decode cX6_readCommand 176 = .ok (.aload_n 1, 1) := by decide +kernel
theorem dX6_readCommand_177 : decode cX6_readCommand 177 = .ok (.invokevirtual 156, 3) := by decide +kernel
theorem dX6_readCommand_180 : decode cX6_readCommand 180 = .ok (.ireturn, 1) := by decide +kernel
theorem dX6_readCommand_181 : decode cX6_readCommand 181 = .ok (.aload_n 0, 1) := by decide +kernel
theorem dX6_readCommand_182 : decode cX6_readCommand 182 = .ok (.iconst 0, 1) := by decide +kernel
theorem dX6_readCommand_183 : decode cX6_readCommand 183 = .ok (.invokevirtual 137, 3) := by decide +kernel
theorem dX6_readCommand_186 : decode cX6_readCommand 186 = .ok (.istore_n 3, 1) := by decide +kernel
theorem dX6_readCommand_187 : decode cX6_readCommand 187 = .ok (.iload_n 3, 1) := by decide +kernel
theorem dX6_readCommand_188 : decode cX6_readCommand 188 = .ok (.iconst (-1), 1) := by decide +kernel
theorem dX6_readCommand_189 : decode cX6_readCommand 189 = .ok (.if_icmp .eq 46, 3) := by decide +kernel
theorem dX6_readCommand_192 : decode cX6_readCommand 192 = .ok (.aload_n 0, 1) := by decide +kernel
theorem dX6_readCommand_193 : decode cX6_readCommand 193 = .ok (.aload_n 1, 1) := by decide +kernel
theorem dX6_readCommand_194 : decode cX6_readCommand 194 = .ok (.iload_n 3, 1) := by decide +kernel
theorem dX6_readCommand_195 : decode cX6_readCommand 195 = .ok (.invokestatic 160, 3) := by decide +kernel
theorem dX6_readCommand_198 : decode cX6_readCommand 198 = .ok (.ifCond .eq 26, 3) := by decide +kernel
theorem dX6_readCommand_201 : decode cX6_readCommand 201 = .ok (.aload_n 1, 1) := by decide +kernel
theorem dX6_readCommand_202 : decode cX6_readCommand 202 = .ok (.iload_n 3, 1) := by decide +kernel
theorem dX6_readCommand_203 : decode cX6_readCommand 203 = .ok (.iload_n 2, 1) := by decide +kernel
theorem dX6_readCommand_204 : decode cX6_readCommand 204 = .ok (.bipush 107, 2) := by decide +kernel
theorem dX6_readCommand_206 : decode cX6_readCommand 206 = .ok (.if_icmp .ne 7, 3) := by decide +kernel
theorem dX6_readCommand_209 : decode cX6_readCommand 209 = .ok (.iconst 1, 1) := by decide +kernel
theorem dX6_readCommand_210 : decode cX6_readCommand 210 = .ok (.goto 4, 3) := by decide +kernel
theorem dX6_readCommand_213 : decode cX6_readCommand 213 = .ok (.iconst 0, 1) := by decide +kernel
theorem dX6_readCommand_214 : decode cX6_readCommand 214 = .ok (.invokestatic 163, 3) := by decide +kernel
theorem dX6_readCommand_217 : decode cX6_readCommand 217 = .ok (.ifCond .lt 7, 3) := by decide +kernel
theorem dX6_readCommand_220 : decode cX6_readCommand 220 = .ok (.iconst 1, 1) := by decide +kernel
theorem dX6_readCommand_221 : decode cX6_readCommand 221 = .ok (.goto 4, 3) := by decide +kernel
theorem dX6_readCommand_224 : decode cX6_readCommand 224 = .ok (.iconst 0, 1) := by decide +kernel
theorem dX6_readCommand_225 : decode cX6_readCommand 225 = .ok (.invokevirtual 149, 3) := by decide +kernel
theorem dX6_readCommand_228 : decode cX6_readCommand 228 = .ok (.ifCond .eq 7, 3) := by decide +kernel
theorem dX6_readCommand_231 : decode cX6_readCommand 231 = .ok (.iconst 1, 1) := by decide +kernel
theorem dX6_readCommand_232 : decode cX6_readCommand 232 = .ok (.goto 4, 3) := by decide +kernel
theorem dX6_readCommand_235 : decode cX6_readCommand 235 = .ok (.iconst 0, 1) := by decide +kernel
theorem dX6_readCommand_236 : decode cX6_readCommand 236 = .ok (.ireturn, 1) := by decide +kernel
theorem dX6_readCommand_237 : decode cX6_readCommand 237 = .ok (.aload_n 0, 1) := by decide +kernel
theorem dX6_readCommand_238 : decode cX6_readCommand 238 = .ok (.iconst 0, 1) := by decide +kernel
theorem dX6_readCommand_239 : decode cX6_readCommand 239 = .ok (.iconst 2, 1) := by decide +kernel
theorem dX6_readCommand_240 : decode cX6_readCommand 240 = .ok (.iconst 0, 1) := by decide +kernel
theorem dX6_readCommand_241 : decode cX6_readCommand 241 = .ok (.bipush 15, 2) := by decide +kernel
theorem dX6_readCommand_243 : decode cX6_readCommand 243 = .ok (.invokevirtual 133, 3) := by decide +kernel
theorem dX6_readCommand_246 : decode cX6_readCommand 246 = .ok (.istore_n 3, 1) := by decide +kernel
theorem dX6_readCommand_247 : decode cX6_readCommand 247 = .ok (.aload_n 0, 1) := by decide +kernel
theorem dX6_readCommand_248 : decode cX6_readCommand 248 = .ok (.iload_n 3, 1) := by decide +kernel
theorem dX6_readCommand_249 : decode cX6_readCommand 249 = .ok (.iconst 2, 1) := by decide +kernel
theorem dX6_readCommand_250 : decode cX6_readCommand 250 = .ok (.iconst 0, 1) := by decide +kernel
theorem dX6_readCommand_251 : decode cX6_readCommand 251 = .ok (.bipush 30, 2) := by decide +kernel
theorem dX6_readCommand_253 : decode cX6_readCommand 253 = .ok (.invokevirtual 133, 3) := by decide +kernel
theorem dX6_readCommand_256 : decode cX6_readCommand 256 = .ok (.istore 4, 2) := by decide +kernel
theorem dX6_readCommand_258 : decode cX6_readCommand 258 = .ok (.iload 4, 2) := by decide +kernel
theorem dX6_readCommand_260 : decode cX6_readCommand 260 = .ok (.iconst (-1), 1) := by decide +kernel
theorem dX6_readCommand_261 : decode cX6_readCommand 261 = .ok (.if_icmp .eq 45, 3) := by decide +kernel
theorem dX6_readCommand_264 : decode cX6_readCommand 264 = .ok (.aload_n 0, 1) := by decide +kernel
theorem dX6_readCommand_265 : decode cX6_readCommand 265 = .ok (.aload_n 1, 1) := by decide +kernel
theorem dX6_readCommand_266 : decode cX6_readCommand 266 = .ok (.iload_n 3, 1) := by decide +kernel
theorem dX6_readCommand_267 : decode cX6_readCommand 267 = .ok (.invokestatic 167, 3) := by decide +kernel
theorem dX6_readCommand_270 : decode cX6_readCommand 270 = .ok (.ifCond .eq 25, 3) := by decide +kernel
theorem dX6_readCommand_273 : decode cX6_readCommand 273 = .ok (.aload_n 1, 1) := by decide +kernel
theorem dX6_readCommand_274 : decode cX6_readCommand 274 = .ok (.bipush 76, 2) := by decide +kernel
theorem dX6_readCommand_276 : decode cX6_readCommand 276 = .ok (.bipush 12, 2) := by decide +kernel
theorem dX6_readCommand_278 : decode cX6_readCommand 278 = .ok (.iload_n 3, 1) := by decide +kernel
theorem dX6_readCommand_279 : decode cX6_readCommand 279 = .ok (.imul, 1) := by decide +kernel
theorem dX6_readCommand_280 : decode cX6_readCommand 280 = .ok (.iadd, 1) := by decide +kernel
theorem dX6_readCommand_281 : decode cX6_readCommand 281 = .ok (.iconst 5, 1) := by decide +kernel
theorem dX6_readCommand_282 : decode cX6_readCommand 282 = .ok (.iadd, 1) := by decide +kernel
theorem dX6_readCommand_283 : decode cX6_readCommand 283 = .ok (.iload 4, 2) := by decide +kernel
theorem dX6_readCommand_285 : decode cX6_readCommand 285 = .ok (.invokestatic 116, 3) := by decide +kernel
theorem dX6_readCommand_288 : decode cX6_readCommand 288 = .ok (.ifCond .lt 7, 3) := by decide +kernel
theorem dX6_readCommand_291 : decode cX6_readCommand 291 = .ok (.iconst 1, 1) := by decide +kernel
theorem dX6_readCommand_292 : decode cX6_readCommand 292 = .ok (.goto 4, 3) := by decide +kernel
theorem dX6_readCommand_295 : decode cX6_readCommand 295 = .ok (.iconst 0, 1) := by decide +kernel
theorem dX6_readCommand_296 : decode cX6_readCommand 296 = .ok (.invokevirtual 149, 3) := by decide +kernel
theorem dX6_readCommand_299 : decode cX6_readCommand 299 = .ok (.ifCond .eq 7, 3) := by decide +kernel
theorem dX6_readCommand_302 : decode cX6_readCommand 302 = .ok (.iconst 1, 1) := by decide +kernel
theorem dX6_readCommand_303 : decode cX6_readCommand 303 = .ok (.goto 4, 3) := by decide +kernel
theorem dX6_readCommand_306 : decode cX6_readCommand 306 = .ok (.iconst 0, 1) := by decide +kernel
theorem dX6_readCommand_307 : decode cX6_readCommand 307 = .ok (.ireturn, 1) := by decide +kernel
theorem dX6_readCommand_308 : decode cX6_readCommand 308 = .ok (.aload_n 0, 1) := by decide +kernel
theorem dX6_readCommand_309 : decode cX6_readCommand 309 = .ok (.iconst 0, 1) := by decide +kernel
theorem dX6_readCommand_310 : decode cX6_readCommand 310 = .ok (.iconst 2, 1) := by decide +kernel
theorem dX6_readCommand_311 : decode cX6_readCommand 311 = .ok (.iconst 1, 1) := by decide +kernel
theorem dX6_readCommand_312 : decode cX6_readCommand 312 = .ok (.bipush 99, 2) := by decide +kernel
theorem dX6_readCommand_314 : decode cX6_readCommand 314 = .ok (.invokevirtual 133, 3) := by decide +kernel
theorem dX6_readCommand_317 : decode cX6_readCommand 317 = .ok (.istore_n 3, 1) := by decide +kernel
theorem dX6_readCommand_318 : decode cX6_readCommand 318 = .ok (.iload_n 3, 1) := by decide +kernel
theorem dX6_readCommand_319 : decode cX6_readCommand 319 = .ok (.iconst (-1), 1) := by decide +kernel
theorem dX6_readCommand_320 : decode cX6_readCommand 320 = .ok (.if_icmp .eq 28, 3) := by decide +kernel
theorem dX6_readCommand_323 : decode cX6_readCommand 323 = .ok (.aload_n 0, 1) := by decide +kernel
theorem dX6_readCommand_324 : decode cX6_readCommand 324 = .ok (.aload_n 0, 1) := by decide +kernel
theorem dX6_readCommand_325 : decode cX6_readCommand 325 = .ok (.aload_n 1, 1) := by decide +kernel
theorem dX6_readCommand_326 : decode cX6_readCommand 326 = .ok (.iload_n 3, 1) := by decide +kernel
theorem dX6_readCommand_327 : decode cX6_readCommand 327 = .ok (.invokevirtual 170, 3) := by decide +kernel
theorem dX6_readCommand_330 : decode cX6_readCommand 330 = .ok (.ifCond .lt 7, 3) := by decide +kernel
theorem dX6_readCommand_333 : decode cX6_readCommand 333 = .ok (.iconst 1, 1) := by decide +kernel
theorem dX6_readCommand_334 : decode cX6_readCommand 334 = .ok (.goto 4, 3) := by decide +kernel
theorem dX6_readCommand_337 : decode cX6_readCommand 337 = .ok (.iconst 0, 1) := by decide +kernel
theorem dX6_readCommand_338 : decode cX6_readCommand 338 = .ok (.invokevirtual 149, 3) := by decide +kernel
theorem dX6_readCommand_341 : decode cX6_readCommand 341 = .ok (.ifCond .eq 7, 3) := by decide +kernel
theorem dX6_readCommand_344 : decode cX6_readCommand 344 = .ok (.iconst 1, 1) := by decide +kernel
theorem dX6_readCommand_345 : decode cX6_readCommand 345 = .ok (.goto 4, 3) := by decide +kernel
theorem dX6_readCommand_348 : decode cX6_readCommand 348 = .ok (.iconst 0, 1) := by decide +kernel
theorem dX6_readCommand_349 : decode cX6_readCommand 349 = .ok (.ireturn, 1) := by decide +kernel
theorem dX6_readCommand_350 : decode cX6_readCommand 350 = .ok (.aload_n 0, 1) := by decide +kernel
theorem dX6_readCommand_351 : decode cX6_readCommand 351 = .ok (.dup, 1) := by decide +kernel
theorem dX6_readCommand_352 : decode cX6_readCommand 352 = .ok (.getfield 127, 3) := by decide +kernel
theorem dX6_readCommand_355 : decode cX6_readCommand 355 = .ok (.iconst 1, 1) := by decide +kernel
theorem dX6_readCommand_356 : decode cX6_readCommand 356 = .ok (.isub, 1) := by decide +kernel
theorem dX6_readCommand_357 : decode cX6_readCommand 357 = .ok (.putfield 127, 3) := by decide +kernel
theorem dX6_readCommand_360 : decode cX6_readCommand 360 = .ok (.iconst 0, 1) := by decide +kernel
theorem dX6_readCommand_361 : decode cX6_readCommand 361 = .ok (.ireturn, 1) := by decide +kernel
theorem dX6_readText_0 : decode cX6_readText 0 = .ok (.aload_n 1, 1) := by decide +kernel
theorem dX6_readText_1 : decode cX6_readText 1 = .ok (.invokestatic 32, 3) := by decide +kernel
theorem dX6_readText_4 : decode cX6_readText 4 = .ok (.aload_n 0, 1) := by decide +kernel
theorem dX6_readText_5 : decode cX6_readText 5 = .ok (.iconst 0, 1) := by decide +kernel
theorem dX6_readText_6 : decode cX6_readText 6 = .ok (.putfield 130, 3) := by decide +kernel
theorem dX6_readText_9 : decode cX6_readText 9 = .ok (.aload_n 0, 1) := by decide +kernel
theorem dX6_readText_10 : decode cX6_readText 10 = .ok (.iconst 0, 1) := by decide +kernel
theorem dX6_readText_11 : decode cX6_readText 11 = .ok (.putfield 127, 3) := by decide +kernel
theorem dX6_readText_14 : decode cX6_readText 14 = .ok (.aload_n 0, 1) := by decide +kernel
theorem dX6_readText_15 : decode cX6_readText 15 = .ok (.getfield 121, 3) := by decide +kernel
theorem dX6_readText_18 : decode cX6_readText 18 = .ok (.ifCond .eq 14, 3) := by decide +kernel
theorem dX6_readText_21 : decode cX6_readText 21 = .ok (.aload_n 0, 1) := by decide +kernel
theorem dX6_readText_22 : decode cX6_readText 22 = .ok (.getfield 7, 3) := by decide +kernel
theorem dX6_readText_25 : decode cX6_readText 25 = .ok (.iconst 0, 1) := by decide +kernel
theorem dX6_readText_26 : decode cX6_readText 26 = .ok (.iaload, 1) := by decide +kernel
theorem dX6_readText_27 : decode cX6_readText 27 = .ok (.bipush 87, 2) := by decide +kernel
theorem dX6_readText_29 : decode cX6_readText 29 = .ok (.if_icmp .eq 5, 3) := by decide +kernel
theorem dX6_readText_32 : decode cX6_readText 32 = .ok (.iconst 0, 1) := by decide +kernel
theorem dX6_readText_33 : decode cX6_readText 33 = .ok (.ireturn, 1) := by decide +kernel
theorem dX6_readText_34 : decode cX6_readText 34 = .ok (.aload_n 0, 1) := by decide +kernel
theorem dX6_readText_35 : decode cX6_readText 35 = .ok (.iconst 1, 1) := by decide +kernel
theorem dX6_readText_36 : decode cX6_readText 36 = .ok (.putfield 127, 3) := by decide +kernel
theorem dX6_readText_39 : decode cX6_readText 39 = .ok (.aload_n 0, 1) := by decide +kernel
theorem dX6_readText_40 : decode cX6_readText 40 = .ok (.getfield 127, 3) := by decide +kernel
theorem dX6_readText_43 : decode cX6_readText 43 = .ok (.aload_n 0, 1) := by decide +kernel
theorem dX6_readText_44 : decode cX6_readText 44 = .ok (.getfield 121, 3) := by decide +kernel
theorem dX6_readText_47 : decode cX6_readText 47 = .ok (.if_icmp .ge 16, 3) := by decide +kernel
theorem dX6_readText_50 : decode cX6_readText 50 = .ok (.aload_n 0, 1) := by decide +kernel
theorem dX6_readText_51 : decode cX6_readText 51 = .ok (.aload_n 1, 1) := by decide +kernel
theorem dX6_readText_52 : decode cX6_readText 52 = .ok (.invokevirtual 173, 3) := by decide +kernel
theorem dX6_readText_55 : decode cX6_readText 55 = .ok (.ifCond .ne (-16), 3) := by decide +kernel
theorem dX6_readText_58 : decode cX6_readText 58 = .ok (.aload_n 0, 1) := by decide +kernel
theorem dX6_readText_59 : decode cX6_readText 59 = .ok (.getfield 127, 3) := by decide +kernel
theorem dX6_readText_62 : decode cX6_readText 62 = .ok (.ireturn, 1) := by decide +kernel
theorem dX6_readText_63 : decode cX6_readText 63 = .ok (.iconst (-1), 1) := by decide +kernel
theorem dX6_readText_64 : decode cX6_readText 64 = .ok (.ireturn, 1) := by decide +kernel
theorem dX6_errorPosition_0 : decode cX6_errorPosition 0 = .ok (.aload_n 0, 1) := by decide +kernel
theorem dX6_errorPosition_1 : decode cX6_errorPosition 1 = .ok (.iconst 0, 1) := by decide +kernel
theorem dX6_errorPosition_2 : decode cX6_errorPosition 2 = .ok (.putfield 36, 3) := by decide +kernel
theorem dX6_errorPosition_5 : decode cX6_errorPosition 5 = .ok (.aload_n 0, 1) := by decide +kernel
theorem dX6_errorPosition_6 : decode cX6_errorPosition 6 = .ok (.aload_n 0, 1) := by decide +kernel
theorem dX6_errorPosition_7 : decode cX6_errorPosition 7 = .ok (.getfield 16, 3) := by decide +kernel
theorem dX6_errorPosition_10 : decode cX6_errorPosition 10 = .ok (.invokevirtual 176, 3) := by decide +kernel
theorem dX6_errorPosition_13 : decode cX6_errorPosition 13 = .ok (.ireturn, 1) := by decide +kernel
theorem dX6_load_0 : decode cX6_load 0 = .ok (.aload_n 0, 1) := by decide +kernel
theorem dX6_load_1 : decode cX6_load 1 = .ok (.aload_n 0, 1) := by decide +kernel
theorem dX6_load_2 : decode cX6_load 2 = .ok (.aload_n 0, 1) := by decide +kernel
theorem dX6_load_3 : decode cX6_load 3 = .ok (.getfield 16, 3) := by decide +kernel
theorem dX6_load_6 : decode cX6_load 6 = .ok (.invokevirtual 176, 3) := by decide +kernel
theorem dX6_load_9 : decode cX6_load 9 = .ok (.iconst (-1), 1) := by decide +kernel
theorem dX6_load_10 : decode cX6_load 10 = .ok (.if_icmp .ne 7, 3) := by decide +kernel
theorem dX6_load_13 : decode cX6_load 13 = .ok (.iconst 0, 1) := by decide +kernel
theorem dX6_load_14 : decode cX6_load 14 = .ok (.goto 4, 3) := by decide +kernel
theorem dX6_load_17 : decode cX6_load 17 = .ok (.iconst 1, 1) := by decide +kernel
theorem dX6_load_18 : decode cX6_load 18 = .ok (.invokevirtual 124, 3) := by decide +kernel
theorem dX6_load_21 : decode cX6_load 21 = .ok (.ifCond .eq 5, 3) := by decide +kernel
theorem dX6_load_24 : decode cX6_load 24 = .ok (.iconst 0, 1) := by decide +kernel
theorem dX6_load_25 : decode cX6_load 25 = .ok (.ireturn, 1) := by decide +kernel
theorem dX6_load_26 : decode cX6_load 26 = .ok (.aload_n 0, 1) := by decide +kernel
theorem dX6_load_27 : decode cX6_load 27 = .ok (.getfield 16, 3) := by decide +kernel
theorem dX6_load_30 : decode cX6_load 30 = .ok (.iconst 0, 1) := by decide +kernel
theorem dX6_load_31 : decode cX6_load 31 = .ok (.aload_n 0, 1) := by decide +kernel
theorem dX6_load_32 : decode cX6_load 32 = .ok (.getfield 13, 3) := by decide +kernel
theorem dX6_load_35 : decode cX6_load 35 = .ok (.iconst 0, 1) := by decide +kernel
theorem dX6_load_36 : decode cX6_load 36 = .ok (.invokestatic 93, 3) := by decide +kernel
theorem dX6_load_39 : decode cX6_load 39 = .ok (.aload_n 0, 1) := by decide +kernel
theorem dX6_load_40 : decode cX6_load 40 = .ok (.iconst 0, 1) := by decide +kernel
theorem dX6_load_41 : decode cX6_load 41 = .ok (.putfield 180, 3) := by decide +kernel
theorem dX6_load_44 : decode cX6_load 44 = .ok (.aload_n 0, 1) := by decide +kernel
theorem dX6_load_45 : decode cX6_load 45 = .ok (.getfield 28, 3) := by decide +kernel
theorem dX6_load_48 : decode cX6_load 48 = .ok (.iconst 0, 1) := by decide +kernel
theorem dX6_load_49 : decode cX6_load 49 = .ok (.iconst 0, 1) := by decide +kernel
theorem dX6_load_50 : decode cX6_load 50 = .ok (.bastore, 1) := by decide +kernel
theorem dX6_load_51 : decode cX6_load 51 = .ok (.aload_n 0, 1) := by decide +kernel
theorem dX6_load_52 : decode cX6_load 52 = .ok (.getfield 28, 3) := by decide +kernel
theorem dX6_load_55 : decode cX6_load 55 = .ok (.iconst 1, 1) := by decide +kernel
theorem dX6_load_56 : decode cX6_load 56 = .ok (.iconst 0, 1) := by decide +kernel
theorem dX6_load_57 : decode cX6_load 57 = .ok (.bastore, 1) := by decide +kernel
theorem dX6_load_58 : decode cX6_load 58 = .ok (.aload_n 0, 1) := by decide +kernel
theorem dX6_load_59 : decode cX6_load 59 = .ok (.getfield 130, 3) := by decide +kernel
theorem dX6_load_62 : decode cX6_load 62 = .ok (.ireturn, 1) := by decide +kernel
theorem dX6_livelyLegs_0 : decode cX6_livelyLegs 0 = .ok (.iconst 0, 1) := by decide +kernel
theorem dX6_livelyLegs_1 : decode cX6_livelyLegs 1 = .ok (.istore_n 1, 1) := by decide +kernel
theorem dX6_livelyLegs_2 : decode cX6_livelyLegs 2 = .ok (.iconst 0, 1) := by decide +kernel
theorem dX6_livelyLegs_3 : decode cX6_livelyLegs 3 = .ok (.istore_n 2, 1) := by decide +kernel
theorem dX6_livelyLegs_4 : decode cX6_livelyLegs 4 = .ok (.iload_n 2, 1) := by decide +kernel
theorem dX6_livelyLegs_5 : decode cX6_livelyLegs 5 = .ok (.aload_n 0, 1) := by decide +kernel
theorem dX6_livelyLegs_6 : decode cX6_livelyLegs 6 = .ok (.iconst 0, 1) := by decide +kernel
theorem dX6_livelyLegs_7 : decode cX6_livelyLegs 7 = .ok (.iaload, 1) := by decide +kernel
theorem dX6_livelyLegs_8 : decode cX6_livelyLegs 8 = .ok (.if_icmp .ge 41, 3) := by decide +kernel
theorem dX6_livelyLegs_11 : decode cX6_livelyLegs 11 = .ok (.iload_n 1, 1) := by decide +kernel
theorem dX6_livelyLegs_12 : decode cX6_livelyLegs 12 = .ok (.aload_n 0, 1) := by decide +kernel
theorem dX6_livelyLegs_13 : decode cX6_livelyLegs 13 = .ok (.iload_n 2, 1) := by decide +kernel
theorem dX6_livelyLegs_14 : decode cX6_livelyLegs 14 = .ok (.iconst 3, 1) := by decide +kernel
theorem dX6_livelyLegs_15 : decode cX6_livelyLegs 15 = .ok (.invokestatic 48, 3) := by decide +kernel
theorem dX6_livelyLegs_18 : decode cX6_livelyLegs 18 = .ok (.ifCond .le 7, 3) := by decide +kernel
theorem dX6_livelyLegs_21 : decode cX6_livelyLegs 21 = .ok (.iconst 1, 1) := by decide +kernel
theorem dX6_livelyLegs_22 : decode cX6_livelyLegs 22 = .ok (.goto 4, 3) := by decide +kernel
theorem dX6_livelyLegs_25 : decode cX6_livelyLegs 25 = .ok (.iconst 0, 1) := by decide +kernel
theorem dX6_livelyLegs_26 : decode cX6_livelyLegs 26 = .ok (.aload_n 0, 1) := by decide +kernel
theorem dX6_livelyLegs_27 : decode cX6_livelyLegs 27 = .ok (.iload_n 2, 1) := by decide +kernel
theorem dX6_livelyLegs_28 : decode cX6_livelyLegs 28 = .ok (.iconst 4, 1) := by decide +kernel
theorem dX6_livelyLegs_29 : decode cX6_livelyLegs 29 = .ok (.invokestatic 48, 3) := by decide +kernel
theorem dX6_livelyLegs_32 : decode cX6_livelyLegs 32 = .ok (.ifCond .le 7, 3) := by decide +kernel
theorem dX6_livelyLegs_35 : decode cX6_livelyLegs 35 = .ok (.iconst 1, 1) := by decide +kernel
theorem dX6_livelyLegs_36 : decode cX6_livelyLegs 36 = .ok (.goto 4, 3) := by decide +kernel
theorem dX6_livelyLegs_39 : decode cX6_livelyLegs 39 = .ok (.iconst 0, 1) := by decide +kernel
theorem dX6_livelyLegs_40 : decode cX6_livelyLegs 40 = .ok (.iadd, 1) := by decide +kernel
theorem dX6_livelyLegs_41 : decode cX6_livelyLegs 41 = .ok (.iadd, 1) := by decide +kernel
theorem dX6_livelyLegs_42 : decode cX6_livelyLegs 42 = .ok (.istore_n 1, 1) := by decide +kernel
theorem dX6_livelyLegs_43 : decode cX6_livelyLegs 43 = .ok (.iinc 2 1, 3) := by decide +kernel
theorem dX6_livelyLegs_46 : decode cX6_livelyLegs 46 = .ok (.goto (-42), 3) := by decide +kernel
theorem dX6_livelyLegs_49 : decode cX6_livelyLegs 49 = .ok (.iload_n 1, 1) := by decide +kernel
theorem dX6_livelyLegs_50 : decode cX6_livelyLegs 50 = .ok (.ireturn, 1) := by decide +kernel
theorem dX6_allPressures_0 : decode cX6_allPressures 0 = .ok (.iconst 0, 1) := by decide +kernel
theorem dX6_allPressures_1 : decode cX6_allPressures 1 = .ok (.istore_n 1, 1) := by decide +kernel
theorem dX6_allPressures_2 : decode cX6_allPressures 2 = .ok (.iconst 0, 1) := by decide +kernel
theorem dX6_allPressures_3 : decode cX6_allPressures 3 = .ok (.istore_n 2, 1) := by decide +kernel
theorem dX6_allPressures_4 : decode cX6_allPressures 4 = .ok (.iload_n 2, 1) := by decide +kernel
theorem dX6_allPressures_5 : decode cX6_allPressures 5 = .ok (.aload_n 0, 1) := by decide +kernel
theorem dX6_allPressures_6 : decode cX6_allPressures 6 = .ok (.iconst 0, 1) := by decide +kernel
theorem dX6_allPressures_7 : decode cX6_allPressures 7 = .ok (.iaload, 1) := by decide +kernel
theorem dX6_allPressures_8 : decode cX6_allPressures 8 = .ok (.if_icmp .ge 25, 3) := by decide +kernel
theorem dX6_allPressures_11 : decode cX6_allPressures 11 = .ok (.iload_n 1, 1) := by decide +kernel
theorem dX6_allPressures_12 : decode cX6_allPressures 12 = .ok (.aload_n 0, 1) := by decide +kernel
theorem dX6_allPressures_13 : decode cX6_allPressures 13 = .ok (.iload_n 2, 1) := by decide +kernel
theorem dX6_allPressures_14 : decode cX6_allPressures 14 = .ok (.iconst 3, 1) := by decide +kernel
theorem dX6_allPressures_15 : decode cX6_allPressures 15 = .ok (.invokestatic 48, 3) := by decide +kernel
theorem dX6_allPressures_18 : decode cX6_allPressures 18 = .ok (.aload_n 0, 1) := by decide +kernel
theorem dX6_allPressures_19 : decode cX6_allPressures 19 = .ok (.iload_n 2, 1) := by decide +kernel
theorem dX6_allPressures_20 : decode cX6_allPressures 20 = .ok (.iconst 4, 1) := by decide +kernel
theorem dX6_allPressures_21 : decode cX6_allPressures 21 = .ok (.invokestatic 48, 3) := by decide +kernel
theorem dX6_allPressures_24 : decode cX6_allPressures 24 = .ok (.iadd, 1) := by decide +kernel
theorem dX6_allPressures_25 : decode cX6_allPressures 25 = .ok (.iadd, 1) := by decide +kernel
theorem dX6_allPressures_26 : decode cX6_allPressures 26 = .ok (.istore_n 1, 1) := by decide +kernel
theorem dX6_allPressures_27 : decode cX6_allPressures 27 = .ok (.iinc 2 1, 3) := by decide +kernel
theorem dX6_allPressures_30 : decode cX6_allPressures 30 = .ok (.goto (-26), 3) := by decide +kernel
theorem dX6_allPressures_33 : decode cX6_allPressures 33 = .ok (.iload_n 1, 1) := by decide +kernel
theorem dX6_allPressures_34 : decode cX6_allPressures 34 = .ok (.ireturn, 1) := by decide +kernel
theorem dX6_about_0 : decode cX6_about 0 = .ok (.aload_n 0, 1) := by decide +kernel
theorem dX6_about_1 : decode cX6_about 1 = .ok (.iload_n 1, 1) := by decide +kernel
theorem dX6_about_2 : decode cX6_about 2 = .ok (.i2l, 1) := by decide +kernel
theorem dX6_about_3 : decode cX6_about 3 = .ok (.lconst 0, 1) := by decide +kernel
theorem dX6_about_4 : decode cX6_about 4 = .ok (.ldc2_w 114, 3) := by decide +kernel
theorem dX6_about_7 : decode cX6_about 7 = .ok (.invokestatic 40, 3) := by decide +kernel
theorem dX6_about_10 : decode cX6_about 10 = .ok (.ifCond .eq 7, 3) := by decide +kernel
theorem dX6_about_13 : decode cX6_about 13 = .ok (.iconst 0, 1) := by decide +kernel
theorem dX6_about_14 : decode cX6_about 14 = .ok (.goto 4, 3) := by decide +kernel
theorem dX6_about_17 : decode cX6_about 17 = .ok (.iconst 1, 1) := by decide +kernel
theorem dX6_about_18 : decode cX6_about 18 = .ok (.invokevirtual 124, 3) := by decide +kernel
theorem dX6_about_21 : decode cX6_about 21 = .ok (.ifCond .eq 5, 3) := by decide +kernel
theorem dX6_about_24 : decode cX6_about 24 = .ok (.iconst 0, 1) := by decide +kernel
theorem dX6_about_25 : decode cX6_about 25 = .ok (.ireturn, 1) := by decide +kernel
theorem dX6_about_26 : decode cX6_about 26 = .ok (.iconst 0, 1) := by decide +kernel
theorem dX6_about_27 : decode cX6_about 27 = .ok (.istore_n 2, 1) := by decide +kernel
theorem dX6_about_28 : decode cX6_about 28 = .ok (.iload_n 1, 1) := by decide +kernel
theorem dX6_about_29 : decode cX6_about 29 = .ok (.tableswitch 108 3 6 #[31, 39, 47, 101], 31) := by decide +kernel
theorem dX6_about_60 : decode cX6_about 60 = .ok (.aload_n 0, 1) := by decide +kernel
theorem dX6_about_61 : decode cX6_about 61 = .ok (.getfield 13, 3) := by decide +kernel
theorem dX6_about_64 : decode cX6_about 64 = .ok (.invokestatic 183, 3) := by decide +kernel
theorem dX6_about_67 : decode cX6_about 67 = .ok (.ireturn, 1) := by decide +kernel
theorem dX6_about_68 : decode cX6_about 68 = .ok (.aload_n 0, 1) := by decide +kernel
theorem dX6_about_69 : decode cX6_about 69 = .ok (.getfield 13, 3) := by decide +kernel
theorem dX6_about_72 : decode cX6_about 72 = .ok (.invokestatic 186, 3) := by decide +kernel
theorem dX6_about_75 : decode cX6_about 75 = .ok (.ireturn, 1) := by decide +kernel
theorem dX6_about_76 : decode cX6_about 76 = .ok (.iconst 0, 1) := by decide +kernel
theorem dX6_about_77 : decode cX6_about 77 = .ok (.istore_n 3, 1) := by decide +kernel
theorem dX6_about_78 : decode cX6_about 78 = .ok (.iload_n 3, 1) := by decide +kernel
theorem dX6_about_79 : decode cX6_about 79 = .ok (.aload_n 0, 1) := by decide +kernel
theorem dX6_about_80 : decode cX6_about 80 = .ok (.getfield 13, 3) := by decide +kernel
theorem dX6_about_83 : decode cX6_about 83 = .ok (.iconst 0, 1) := by decide +kernel
theorem dX6_about_84 : decode cX6_about 84 = .ok (.iaload, 1) := by decide +kernel
theorem dX6_about_85 : decode cX6_about 85 = .ok (.if_icmp .ge 43, 3) := by decide +kernel
theorem dX6_about_88 : decode cX6_about 88 = .ok (.iload_n 2, 1) := by decide +kernel
theorem dX6_about_89 : decode cX6_about 89 = .ok (.aload_n 0, 1) := by decide +kernel
theorem dX6_about_90 : decode cX6_about 90 = .ok (.getfield 13, 3) := by decide +kernel
theorem dX6_about_93 : decode cX6_about 93 = .ok (.iload_n 3, 1) := by decide +kernel
theorem dX6_about_94 : decode cX6_about 94 = .ok (.invokestatic 160, 3) := by decide +kernel
theorem dX6_about_97 : decode cX6_about 97 = .ok (.ifCond .eq 22, 3) := by decide +kernel
theorem dX6_about_100 : decode cX6_about 100 = .ok (.aload_n 0, 1) := by decide +kernel
theorem dX6_about_101 : decode cX6_about 101 = .ok (.getfield 13, 3) := by decide +kernel
theorem dX6_about_104 : decode cX6_about 104 = .ok (.iload_n 3, 1) := by decide +kernel
theorem dX6_about_105 : decode cX6_about 105 = .ok (.iconst 2, 1) := by decide +kernel
theorem dX6_about_106 : decode cX6_about 106 = .ok (.invokestatic 48, 3) := by decide +kernel
theorem dX6_about_109 : decode cX6_about 109 = .ok (.iconst 1, 1) := by decide +kernel
theorem dX6_about_110 : decode cX6_about 110 = .ok (.if_icmp .ne 9, 3) := by decide +kernel
theorem dX6_about_113 : decode cX6_about 113 = .ok (.iconst 1, 1) := by decide +kernel
theorem dX6_about_114 : decode cX6_about 114 = .ok (.iload_n 3, 1) := by decide +kernel
theorem dX6_about_115 : decode cX6_about 115 = .ok (.ishl, 1) := by decide +kernel
theorem dX6_about_116 : decode cX6_about 116 = .ok (.goto 4, 3) := by decide +kernel
theorem dX6_about_119 : decode cX6_about 119 = .ok (.iconst 0, 1) := by decide +kernel
theorem dX6_about_120 : decode cX6_about 120 = .ok (.ior, 1) := by decide +kernel
theorem dX6_about_121 : decode cX6_about 121 = .ok (.istore_n 2, 1) := by decide +kernel
theorem dX6_about_122 : decode cX6_about 122 = .ok (.iinc 3 1, 3) := by decide +kernel
theorem dX6_about_125 : decode cX6_about 125 = .ok (.goto (-47), 3) := by decide +kernel
theorem dX6_about_128 : decode cX6_about 128 = .ok (.iload_n 2, 1) := by decide +kernel
theorem dX6_about_129 : decode cX6_about 129 = .ok (.ireturn, 1) := by decide +kernel
theorem dX6_about_130 : decode cX6_about 130 = .ok (.aload_n 0, 1) := by decide +kernel
theorem dX6_about_131 : decode cX6_about 131 = .ok (.getfield 13, 3) := by decide +kernel
theorem dX6_about_134 : decode cX6_about 134 = .ok (.iconst 3, 1) := by decide +kernel
theorem dX6_about_135 : decode cX6_about 135 = .ok (.iaload, 1) := by decide +kernel
theorem dX6_about_136 : decode cX6_about 136 = .ok (.ireturn, 1) := by decide +kernel
theorem dX6_about_137 : decode cX6_about 137 = .ok (.aload_n 0, 1) := by decide +kernel
theorem dX6_about_138 : decode cX6_about 138 = .ok (.getfield 13, 3) := by decide +kernel
theorem dX6_about_141 : decode cX6_about 141 = .ok (.iload_n 1, 1) := by decide +kernel
theorem dX6_about_142 : decode cX6_about 142 = .ok (.iaload, 1) := by decide +kernel
theorem dX6_about_143 : decode cX6_about 143 = .ok (.ireturn, 1) := by decide +kernel
theorem dX6_valveOf_0 : decode cX6_valveOf 0 = .ok (.aload_n 0, 1) := by decide +kernel
theorem dX6_valveOf_1 : decode cX6_valveOf 1 = .ok (.aload_n 0, 1) := by decide +kernel
theorem dX6_valveOf_2 : decode cX6_valveOf 2 = .ok (.getfield 13, 3) := by decide +kernel
theorem dX6_valveOf_5 : decode cX6_valveOf 5 = .ok (.iload_n 1, 1) := by decide +kernel
theorem dX6_valveOf_6 : decode cX6_valveOf 6 = .ok (.invokestatic 44, 3) := by decide +kernel
theorem dX6_valveOf_9 : decode cX6_valveOf 9 = .ok (.ifCond .ne 7, 3) := by decide +kernel
theorem dX6_valveOf_12 : decode cX6_valveOf 12 = .ok (.iconst 1, 1) := by decide +kernel
theorem dX6_valveOf_13 : decode cX6_valveOf 13 = .ok (.goto 20, 3) := by decide +kernel
theorem dX6_valveOf_16 : decode cX6_valveOf 16 = .ok (.iload_n 2, 1) := by decide +kernel
theorem dX6_valveOf_17 : decode cX6_valveOf 17 = .ok (.i2l, 1) := by decide +kernel
theorem dX6_valveOf_18 : decode cX6_valveOf 18 = .ok (.lconst 0, 1) := by decide +kernel
theorem dX6_valveOf_19 : decode cX6_valveOf 19 = .ok (.ldc2_w 100, 3) := by decide +kernel
theorem dX6_valveOf_22 : decode cX6_valveOf 22 = .ok (.invokestatic 40, 3) := by decide +kernel
theorem dX6_valveOf_25 : decode cX6_valveOf 25 = .ok (.ifCond .eq 7, 3) := by decide +kernel
theorem dX6_valveOf_28 : decode cX6_valveOf 28 = .ok (.iconst 0, 1) := by decide +kernel
theorem dX6_valveOf_29 : decode cX6_valveOf 29 = .ok (.goto 4, 3) := by decide +kernel
theorem dX6_valveOf_32 : decode cX6_valveOf 32 = .ok (.iconst 2, 1) := by decide +kernel
theorem dX6_valveOf_33 : decode cX6_valveOf 33 = .ok (.invokevirtual 124, 3) := by decide +kernel
theorem dX6_valveOf_36 : decode cX6_valveOf 36 = .ok (.ifCond .eq 5, 3) := by decide +kernel
theorem dX6_valveOf_39 : decode cX6_valveOf 39 = .ok (.iconst 0, 1) := by decide +kernel
theorem dX6_valveOf_40 : decode cX6_valveOf 40 = .ok (.ireturn, 1) := by decide +kernel
theorem dX6_valveOf_41 : decode cX6_valveOf 41 = .ok (.iconst 0, 1) := by decide +kernel
theorem dX6_valveOf_42 : decode cX6_valveOf 42 = .ok (.istore_n 3, 1) := by decide +kernel
theorem dX6_valveOf_43 : decode cX6_valveOf 43 = .ok (.iconst 0, 1) := by decide +kernel
theorem dX6_valveOf_44 : decode cX6_valveOf 44 = .ok (.istore 4, 2) := by decide +kernel
theorem dX6_valveOf_46 : decode cX6_valveOf 46 = .ok (.iload 4, 2) := by decide +kernel
theorem dX6_valveOf_48 : decode cX6_valveOf 48 = .ok (.aload_n 0, 1) := by decide +kernel
theorem dX6_valveOf_49 : decode cX6_valveOf 49 = .ok (.getfield 13, 3) := by decide +kernel
theorem dX6_valveOf_52 : decode cX6_valveOf 52 = .ok (.iconst 1, 1) := by decide +kernel
theorem dX6_valveOf_53 : decode cX6_valveOf 53 = .ok (.iaload, 1) := by decide +kernel
theorem dX6_valveOf_54 : decode cX6_valveOf 54 = .ok (.if_icmp .ge 40, 3) := by decide +kernel
theorem dX6_valveOf_57 : decode cX6_valveOf 57 = .ok (.iload_n 3, 1) := by decide +kernel
theorem dX6_valveOf_58 : decode cX6_valveOf 58 = .ok (.aload_n 0, 1) := by decide +kernel
theorem dX6_valveOf_59 : decode cX6_valveOf 59 = .ok (.getfield 13, 3) := by decide +kernel
theorem dX6_valveOf_62 : decode cX6_valveOf 62 = .ok (.iload 4, 2) := by decide +kernel
theorem dX6_valveOf_64 : decode cX6_valveOf 64 = .ok (.iload_n 2, 1) := by decide +kernel
theorem dX6_valveOf_65 : decode cX6_valveOf 65 = .ok (.iconst 3, 1) := by decide +kernel
theorem dX6_valveOf_66 : decode cX6_valveOf 66 = .ok (.if_icmp .ne 7, 3) := by decide +kernel
theorem dX6_valveOf_69 : decode cX6_valveOf 69 = .ok (.iconst 0, 1) := by decide +kernel
theorem dX6_valveOf_70 : decode cX6_valveOf 70 = .ok (.goto 4, 3) := by decide +kernel
theorem dX6_valveOf_73 : decode cX6_valveOf 73 = .ok (.iconst 2, 1) := by decide +kernel
theorem dX6_valveOf_74 : decode cX6_valveOf 74 = .ok (.invokestatic 62, 3) := by decide +kernel
theorem dX6_valveOf_77 : decode cX6_valveOf 77 = .ok (.iload_n 1, 1) := by decide +kernel
theorem dX6_valveOf_78 : decode cX6_valveOf 78 = .ok (.if_icmp .ne 7, 3) := by decide +kernel
theorem dX6_valveOf_81 : decode cX6_valveOf 81 = .ok (.iconst 1, 1) := by decide +kernel
theorem dX6_valveOf_82 : decode cX6_valveOf 82 = .ok (.goto 4, 3) := by decide +kernel
theorem dX6_valveOf_85 : decode cX6_valveOf 85 = .ok (.iconst 0, 1) := by decide +kernel
theorem dX6_valveOf_86 : decode cX6_valveOf 86 = .ok (.iadd, 1) := by decide +kernel
theorem dX6_valveOf_87 : decode cX6_valveOf 87 = .ok (.istore_n 3, 1) := by decide +kernel
theorem dX6_valveOf_88 : decode cX6_valveOf 88 = .ok (.iinc 4 1, 3) := by decide +kernel
theorem dX6_valveOf_91 : decode cX6_valveOf 91 = .ok (.goto (-45), 3) := by decide +kernel
theorem dX6_valveOf_94 : decode cX6_valveOf 94 = .ok (.iload_n 2, 1) := by decide +kernel
theorem dX6_valveOf_95 : decode cX6_valveOf 95 = .ok (.iconst 3, 1) := by decide +kernel
theorem dX6_valveOf_96 : decode cX6_valveOf 96 = .ok (.if_icmp .ge 15, 3) := by decide +kernel
theorem dX6_valveOf_99 : decode cX6_valveOf 99 = .ok (.aload_n 0, 1) := by decide +kernel
theorem dX6_valveOf_100 : decode cX6_valveOf 100 = .ok (.getfield 13, 3) := by decide +kernel
theorem dX6_valveOf_103 : decode cX6_valveOf 103 = .ok (.iload_n 1, 1) := by decide +kernel
theorem dX6_valveOf_104 : decode cX6_valveOf 104 = .ok (.iload_n 2, 1) := by decide +kernel
theorem dX6_valveOf_105 : decode cX6_valveOf 105 = .ok (.invokestatic 48, 3) := by decide +kernel
theorem dX6_valveOf_108 : decode cX6_valveOf 108 = .ok (.goto 4, 3) := by decide +kernel
theorem dX6_valveOf_111 : decode cX6_valveOf 111 = .ok (.iload_n 3, 1) := by decide +kernel
theorem dX6_valveOf_112 : decode cX6_valveOf 112 = .ok (.ireturn, 1) := by decide +kernel
theorem dX6_leg_0 : decode cX6_leg 0 = .ok (.aload_n 0, 1) := by decide +kernel
theorem dX6_leg_1 : decode cX6_leg 1 = .ok (.aload_n 0, 1) := by decide +kernel
theorem dX6_leg_2 : decode cX6_leg 2 = .ok (.getfield 13, 3) := by decide +kernel
theorem dX6_leg_5 : decode cX6_leg 5 = .ok (.iload_n 1, 1) := by decide +kernel
theorem dX6_leg_6 : decode cX6_leg 6 = .ok (.invokestatic 44, 3) := by decide +kernel
theorem dX6_leg_9 : decode cX6_leg 9 = .ok (.ifCond .eq 14, 3) := by decide +kernel
theorem dX6_leg_12 : decode cX6_leg 12 = .ok (.iload_n 2, 1) := by decide +kernel
theorem dX6_leg_13 : decode cX6_leg 13 = .ok (.invokestatic 106, 3) := by decide +kernel
theorem dX6_leg_16 : decode cX6_leg 16 = .ok (.ifCond .eq 7, 3) := by decide +kernel
theorem dX6_leg_19 : decode cX6_leg 19 = .ok (.iconst 0, 1) := by decide +kernel
theorem dX6_leg_20 : decode cX6_leg 20 = .ok (.goto 4, 3) := by decide +kernel
theorem dX6_leg_23 : decode cX6_leg 23 = .ok (.iconst 1, 1) := by decide +kernel
theorem dX6_leg_24 : decode cX6_leg 24 = .ok (.invokevirtual 124, 3) := by decide +kernel
theorem dX6_leg_27 : decode cX6_leg 27 = .ok (.ifCond .eq 5, 3) := by decide +kernel
theorem dX6_leg_30 : decode cX6_leg 30 = .ok (.iconst 0, 1) := by decide +kernel
theorem dX6_leg_31 : decode cX6_leg 31 = .ok (.ireturn, 1) := by decide +kernel
theorem dX6_leg_32 : decode cX6_leg 32 = .ok (.aload_n 0, 1) := by decide +kernel
theorem dX6_leg_33 : decode cX6_leg 33 = .ok (.getfield 13, 3) := by decide +kernel
theorem dX6_leg_36 : decode cX6_leg 36 = .ok (.iload_n 1, 1) := by decide +kernel
theorem dX6_leg_37 : decode cX6_leg 37 = .ok (.iconst 3, 1) := by decide +kernel
theorem dX6_leg_38 : decode cX6_leg 38 = .ok (.iload_n 2, 1) := by decide +kernel
theorem dX6_leg_39 : decode cX6_leg 39 = .ok (.iadd, 1) := by decide +kernel
theorem dX6_leg_40 : decode cX6_leg 40 = .ok (.invokestatic 48, 3) := by decide +kernel
theorem dX6_leg_43 : decode cX6_leg 43 = .ok (.ireturn, 1) := by decide +kernel
theorem dX6_push_0 : decode cX6_push 0 = .ok (.aload_n 0, 1) := by decide +kernel
theorem dX6_push_1 : decode cX6_push 1 = .ok (.aload_n 0, 1) := by decide +kernel
theorem dX6_push_2 : decode cX6_push 2 = .ok (.getfield 13, 3) := by decide +kernel
theorem dX6_push_5 : decode cX6_push 5 = .ok (.iload_n 1, 1) := by decide +kernel
theorem dX6_push_6 : decode cX6_push 6 = .ok (.invokestatic 44, 3) := by decide +kernel
theorem dX6_push_9 : decode cX6_push 9 = .ok (.ifCond .eq 10, 3) := by decide +kernel
theorem dX6_push_12 : decode cX6_push 12 = .ok (.iload_n 2, 1) := by decide +kernel
theorem dX6_push_13 : decode cX6_push 13 = .ok (.invokestatic 106, 3) := by decide +kernel
theorem dX6_push_16 : decode cX6_push 16 = .ok (.ifCond .ne 7, 3) := by decide +kernel
theorem dX6_push_19 : decode cX6_push 19 = .ok (.iconst 1, 1) := by decide +kernel
theorem dX6_push_20 : decode cX6_push 20 = .ok (.goto 18, 3) := by decide +kernel
theorem dX6_push_23 : decode cX6_push 23 = .ok (.iload_n 3, 1) := by decide +kernel
theorem dX6_push_24 : decode cX6_push 24 = .ok (.i2l, 1) := by decide +kernel
theorem dX6_push_25 : decode cX6_push 25 = .ok (.lconst 0, 1) := by decide +kernel
theorem dX6_push_26 : decode cX6_push 26 = .ok (.lconst 1, 1) := by decide +kernel
theorem dX6_push_27 : decode cX6_push 27 = .ok (.invokestatic 40, 3) := by decide +kernel
theorem dX6_push_30 : decode cX6_push 30 = .ok (.ifCond .eq 7, 3) := by decide +kernel
theorem dX6_push_33 : decode cX6_push 33 = .ok (.iconst 0, 1) := by decide +kernel
theorem dX6_push_34 : decode cX6_push 34 = .ok (.goto 4, 3) := by decide +kernel
theorem dX6_push_37 : decode cX6_push 37 = .ok (.iconst 2, 1) := by decide +kernel
theorem dX6_push_38 : decode cX6_push 38 = .ok (.invokevirtual 124, 3) := by decide +kernel
theorem dX6_push_41 : decode cX6_push 41 = .ok (.ifCond .eq 5, 3) := by decide +kernel
theorem dX6_push_44 : decode cX6_push 44 = .ok (.iconst 0, 1) := by decide +kernel
theorem dX6_push_45 : decode cX6_push 45 = .ok (.ireturn, 1) := by decide +kernel
theorem dX6_push_46 : decode cX6_push 46 = .ok (.iload_n 3, 1) := by decide +kernel
theorem dX6_push_47 : decode cX6_push 47 = .ok (.ifCond .ne 17, 3) := by decide +kernel
theorem dX6_push_50 : decode cX6_push 50 = .ok (.aload_n 0, 1) := by decide +kernel
theorem dX6_push_51 : decode cX6_push 51 = .ok (.getfield 13, 3) := by decide +kernel
theorem dX6_push_54 : decode cX6_push 54 = .ok (.iload_n 1, 1) := by decide +kernel
theorem dX6_push_55 : decode cX6_push 55 = .ok (.iconst 5, 1) := by decide +kernel
theorem dX6_push_56 : decode cX6_push 56 = .ok (.iload_n 2, 1) := by decide +kernel
theorem dX6_push_57 : decode cX6_push 57 = .ok (.iadd, 1) := by decide +kernel
theorem dX6_push_58 : decode cX6_push 58 = .ok (.invokestatic 48, 3) := by decide +kernel
theorem dX6_push_61 : decode cX6_push 61 = .ok (.goto 20, 3) := by decide +kernel
theorem dX6_push_64 : decode cX6_push 64 = .ok (.aload_n 0, 1) := by decide +kernel
theorem dX6_push_65 : decode cX6_push 65 = .ok (.getfield 13, 3) := by decide +kernel
theorem dX6_push_68 : decode cX6_push 68 = .ok (.iload_n 1, 1) := by decide +kernel
theorem dX6_push_69 : decode cX6_push 69 = .ok (.iload_n 2, 1) := by decide +kernel
theorem dX6_push_70 : decode cX6_push 70 = .ok (.invokestatic 69, 3) := by decide +kernel
theorem dX6_push_73 : decode cX6_push 73 = .ok (.ifCond .eq 7, 3) := by decide +kernel
theorem dX6_push_76 : decode cX6_push 76 = .ok (.iconst 1, 1) := by decide +kernel
theorem dX6_push_77 : decode cX6_push 77 = .ok (.goto 4, 3) := by decide +kernel
theorem dX6_push_80 : decode cX6_push 80 = .ok (.iconst 0, 1) := by decide +kernel
theorem dX6_push_81 : decode cX6_push 81 = .ok (.ireturn, 1) := by decide +kernel
theorem dX6_needs_0 : decode cX6_needs 0 = .ok (.aload_n 0, 1) := by decide +kernel
theorem dX6_needs_1 : decode cX6_needs 1 = .ok (.iload_n 1, 1) := by decide +kernel
theorem dX6_needs_2 : decode cX6_needs 2 = .ok (.iconst 2, 1) := by decide +kernel
theorem dX6_needs_3 : decode cX6_needs 3 = .ok (.invokestatic 62, 3) := by decide +kernel
theorem dX6_needs_6 : decode cX6_needs 6 = .ok (.istore_n 2, 1) := by decide +kernel
theorem dX6_needs_7 : decode cX6_needs 7 = .ok (.iconst 1, 1) := by decide +kernel
theorem dX6_needs_8 : decode cX6_needs 8 = .ok (.istore_n 3, 1) := by decide +kernel
theorem dX6_needs_9 : decode cX6_needs 9 = .ok (.aload_n 0, 1) := by decide +kernel
theorem dX6_needs_10 : decode cX6_needs 10 = .ok (.iload_n 2, 1) := by decide +kernel
theorem dX6_needs_11 : decode cX6_needs 11 = .ok (.iload_n 3, 1) := by decide +kernel
theorem dX6_needs_12 : decode cX6_needs 12 = .ok (.invokestatic 58, 3) := by decide +kernel
theorem dX6_needs_15 : decode cX6_needs 15 = .ok (.ifCond .ne 9, 3) := by decide +kernel
theorem dX6_needs_18 : decode cX6_needs 18 = .ok (.iinc 3 1, 3) := by decide +kernel
theorem dX6_needs_21 : decode cX6_needs 21 = .ok (.goto (-12), 3) := by decide +kernel
theorem dX6_needs_24 : decode cX6_needs 24 = .ok (.iload_n 3, 1) := by decide +kernel
theorem dX6_needs_25 : decode cX6_needs 25 = .ok (.aload_n 0, 1) := by decide +kernel
theorem dX6_needs_26 : decode cX6_needs 26 = .ok (.iload_n 1, 1) := by decide +kernel
theorem dX6_needs_27 : decode cX6_needs 27 = .ok (.iconst 4, 1) := by decide +kernel
theorem dX6_needs_28 : decode cX6_needs 28 = .ok (.invokestatic 62, 3) := by decide +kernel
theorem dX6_needs_31 : decode cX6_needs 31 = .ok (.aload_n 0, 1) := by decide +kernel
theorem dX6_needs_32 : decode cX6_needs 32 = .ok (.iconst 4, 1) := by decide +kernel
theorem dX6_needs_33 : decode cX6_needs 33 = .ok (.iaload, 1) := by decide +kernel
theorem dX6_needs_34 : decode cX6_needs 34 = .ok (.imul, 1) := by decide +kernel
theorem dX6_needs_35 : decode cX6_needs 35 = .ok (.aload_n 0, 1) := by decide +kernel
theorem dX6_needs_36 : decode cX6_needs 36 = .ok (.iload_n 1, 1) := by decide +kernel
theorem dX6_needs_37 : decode cX6_needs 37 = .ok (.iconst 5, 1) := by decide +kernel
theorem dX6_needs_38 : decode cX6_needs 38 = .ok (.invokestatic 62, 3) := by decide +kernel
theorem dX6_needs_41 : decode cX6_needs 41 = .ok (.iadd, 1) := by decide +kernel
theorem dX6_needs_42 : decode cX6_needs 42 = .ok (.iadd, 1) := by decide +kernel
theorem dX6_needs_43 : decode cX6_needs 43 = .ok (.istore_n 3, 1) := by decide +kernel
theorem dX6_needs_44 : decode cX6_needs 44 = .ok (.iload_n 3, 1) := by decide +kernel
theorem dX6_needs_45 : decode cX6_needs 45 = .ok (.bipush 99, 2) := by decide +kernel
theorem dX6_needs_47 : decode cX6_needs 47 = .ok (.if_icmp .le 7, 3) := by decide +kernel
theorem dX6_needs_50 : decode cX6_needs 50 = .ok (.iconst (-1), 1) := by decide +kernel
theorem dX6_needs_51 : decode cX6_needs 51 = .ok (.goto 4, 3) := by decide +kernel
theorem dX6_needs_54 : decode cX6_needs 54 = .ok (.iload_n 3, 1) := by decide +kernel
theorem dX6_needs_55 : decode cX6_needs 55 = .ok (.ireturn, 1) := by decide +kernel
theorem dX6_ductOf_0 : decode cX6_ductOf 0 = .ok (.aload_n 0, 1) := by decide +kernel
theorem dX6_ductOf_1 : decode cX6_ductOf 1 = .ok (.aload_n 0, 1) := by decide +kernel
theorem dX6_ductOf_2 : decode cX6_ductOf 2 = .ok (.getfield 13, 3) := by decide +kernel
theorem dX6_ductOf_5 : decode cX6_ductOf 5 = .ok (.iload_n 1, 1) := by decide +kernel
theorem dX6_ductOf_6 : decode cX6_ductOf 6 = .ok (.invokestatic 167, 3) := by decide +kernel
theorem dX6_ductOf_9 : decode cX6_ductOf 9 = .ok (.ifCond .ne 7, 3) := by decide +kernel
theorem dX6_ductOf_12 : decode cX6_ductOf 12 = .ok (.iconst 1, 1) := by decide +kernel
theorem dX6_ductOf_13 : decode cX6_ductOf 13 = .ok (.goto 20, 3) := by decide +kernel
theorem dX6_ductOf_16 : decode cX6_ductOf 16 = .ok (.iload_n 2, 1) := by decide +kernel
theorem dX6_ductOf_17 : decode cX6_ductOf 17 = .ok (.i2l, 1) := by decide +kernel
theorem dX6_ductOf_18 : decode cX6_ductOf 18 = .ok (.lconst 0, 1) := by decide +kernel
theorem dX6_ductOf_19 : decode cX6_ductOf 19 = .ok (.ldc2_w 189, 3) := by decide +kernel
theorem dX6_ductOf_22 : decode cX6_ductOf 22 = .ok (.invokestatic 40, 3) := by decide +kernel
theorem dX6_ductOf_25 : decode cX6_ductOf 25 = .ok (.ifCond .eq 7, 3) := by decide +kernel
theorem dX6_ductOf_28 : decode cX6_ductOf 28 = .ok (.iconst 0, 1) := by decide +kernel
theorem dX6_ductOf_29 : decode cX6_ductOf 29 = .ok (.goto 4, 3) := by decide +kernel
theorem dX6_ductOf_32 : decode cX6_ductOf 32 = .ok (.iconst 2, 1) := by decide +kernel
theorem dX6_ductOf_33 : decode cX6_ductOf 33 = .ok (.invokevirtual 124, 3) := by decide +kernel
theorem dX6_ductOf_36 : decode cX6_ductOf 36 = .ok (.ifCond .eq 5, 3) := by decide +kernel
theorem dX6_ductOf_39 : decode cX6_ductOf 39 = .ok (.iconst 0, 1) := by decide +kernel
theorem dX6_ductOf_40 : decode cX6_ductOf 40 = .ok (.ireturn, 1) := by decide +kernel
theorem dX6_ductOf_41 : decode cX6_ductOf 41 = .ok (.iload_n 2, 1) := by decide +kernel
theorem dX6_ductOf_42 : decode cX6_ductOf 42 = .ok (.bipush 6, 2) := by decide +kernel
theorem dX6_ductOf_44 : decode cX6_ductOf 44 = .ok (.if_icmp .ge 15, 3) := by decide +kernel
theorem dX6_ductOf_47 : decode cX6_ductOf 47 = .ok (.aload_n 0, 1) := by decide +kernel
theorem dX6_ductOf_48 : decode cX6_ductOf 48 = .ok (.getfield 13, 3) := by decide +kernel
theorem dX6_ductOf_51 : decode cX6_ductOf 51 = .ok (.iload_n 1, 1) := by decide +kernel
theorem dX6_ductOf_52 : decode cX6_ductOf 52 = .ok (.iload_n 2, 1) := by decide +kernel
theorem dX6_ductOf_53 : decode cX6_ductOf 53 = .ok (.invokestatic 62, 3) := by decide +kernel
theorem dX6_ductOf_56 : decode cX6_ductOf 56 = .ok (.goto 28, 3) := by decide +kernel
theorem dX6_ductOf_59 : decode cX6_ductOf 59 = .ok (.iload_n 2, 1) := by decide +kernel
theorem dX6_ductOf_60 : decode cX6_ductOf 60 = .ok (.bipush 6, 2) := by decide +kernel
theorem dX6_ductOf_62 : decode cX6_ductOf 62 = .ok (.if_icmp .ne 14, 3) := by decide +kernel
theorem dX6_ductOf_65 : decode cX6_ductOf 65 = .ok (.aload_n 0, 1) := by decide +kernel
theorem dX6_ductOf_66 : decode cX6_ductOf 66 = .ok (.getfield 13, 3) := by decide +kernel
theorem dX6_ductOf_69 : decode cX6_ductOf 69 = .ok (.iload_n 1, 1) := by decide +kernel
theorem dX6_ductOf_70 : decode cX6_ductOf 70 = .ok (.invokestatic 65, 3) := by decide +kernel
theorem dX6_ductOf_73 : decode cX6_ductOf 73 = .ok (.goto 11, 3) := by decide +kernel
theorem dX6_ductOf_76 : decode cX6_ductOf 76 = .ok (.aload_n 0, 1) := by decide +kernel
theorem dX6_ductOf_77 : decode cX6_ductOf 77 = .ok (.getfield 13, 3) := by decide +kernel
theorem dX6_ductOf_80 : decode cX6_ductOf 80 = .ok (.iload_n 1, 1) := by decide +kernel
theorem dX6_ductOf_81 : decode cX6_ductOf 81 = .ok (.invokestatic 191, 3) := by decide +kernel
theorem dX6_ductOf_84 : decode cX6_ductOf 84 = .ok (.ireturn, 1) := by decide +kernel
theorem dX6_setting_0 : decode cX6_setting 0 = .ok (.aload_n 0, 1) := by decide +kernel
theorem dX6_setting_1 : decode cX6_setting 1 = .ok (.iload_n 1, 1) := by decide +kernel
theorem dX6_setting_2 : decode cX6_setting 2 = .ok (.i2l, 1) := by decide +kernel
theorem dX6_setting_3 : decode cX6_setting 3 = .ok (.lconst 0, 1) := by decide +kernel
theorem dX6_setting_4 : decode cX6_setting 4 = .ok (.lconst 1, 1) := by decide +kernel
theorem dX6_setting_5 : decode cX6_setting 5 = .ok (.invokestatic 40, 3) := by decide +kernel
theorem dX6_setting_8 : decode cX6_setting 8 = .ok (.ifCond .eq 7, 3) := by decide +kernel
theorem dX6_setting_11 : decode cX6_setting 11 = .ok (.iconst 0, 1) := by decide +kernel
theorem dX6_setting_12 : decode cX6_setting 12 = .ok (.goto 4, 3) := by decide +kernel
theorem dX6_setting_15 : decode cX6_setting 15 = .ok (.iconst 1, 1) := by decide +kernel
theorem dX6_setting_16 : decode cX6_setting 16 = .ok (.invokevirtual 124, 3) := by decide +kernel
theorem dX6_setting_19 : decode cX6_setting 19 = .ok (.ifCond .eq 5, 3) := by decide +kernel
theorem dX6_setting_22 : decode cX6_setting 22 = .ok (.iconst 0, 1) := by decide +kernel
theorem dX6_setting_23 : decode cX6_setting 23 = .ok (.ireturn, 1) := by decide +kernel
theorem dX6_setting_24 : decode cX6_setting 24 = .ok (.aload_n 0, 1) := by decide +kernel
theorem dX6_setting_25 : decode cX6_setting 25 = .ok (.getfield 13, 3) := by decide +kernel
theorem dX6_setting_28 : decode cX6_setting 28 = .ok (.iconst 4, 1) := by decide +kernel
theorem dX6_setting_29 : decode cX6_setting 29 = .ok (.iload_n 1, 1) := by decide +kernel
theorem dX6_setting_30 : decode cX6_setting 30 = .ok (.iadd, 1) := by decide +kernel
theorem dX6_setting_31 : decode cX6_setting 31 = .ok (.iaload, 1) := by decide +kernel
theorem dX6_setting_32 : decode cX6_setting 32 = .ok (.ireturn, 1) := by decide +kernel
theorem dX6_remember_0 : decode cX6_remember 0 = .ok (.aload_n 0, 1) := by decide +kernel
theorem dX6_remember_1 : decode cX6_remember 1 = .ok (.getfield 180, 3) := by decide +kernel
theorem dX6_remember_4 : decode cX6_remember 4 = .ok (.bipush 14, 2) := by decide +kernel
theorem dX6_remember_6 : decode cX6_remember 6 = .ok (.if_icmp .ne 44, 3) := by decide +kernel
theorem dX6_remember_9 : decode cX6_remember 9 = .ok (.iconst 0, 1) := by decide +kernel
theorem dX6_remember_10 : decode cX6_remember 10 = .ok (.istore_n 1, 1) := by decide +kernel
theorem dX6_remember_11 : decode cX6_remember 11 = .ok (.iload_n 1, 1) := by decide +kernel
theorem dX6_remember_12 : decode cX6_remember 12 = .ok (.sipush 3484, 3) := by decide +kernel
theorem dX6_remember_15 : decode cX6_remember 15 = .ok (.if_icmp .ge 25, 3) := by decide +kernel
theorem dX6_remember_18 : decode cX6_remember 18 = .ok (.aload_n 0, 1) := by decide +kernel
theorem dX6_remember_19 : decode cX6_remember 19 = .ok (.getfield 22, 3) := by decide +kernel
theorem dX6_remember_22 : decode cX6_remember 22 = .ok (.iload_n 1, 1) := by decide +kernel
theorem dX6_remember_23 : decode cX6_remember 23 = .ok (.aload_n 0, 1) := by decide +kernel
theorem dX6_remember_24 : decode cX6_remember 24 = .ok (.getfield 22, 3) := by decide +kernel
theorem dX6_remember_27 : decode cX6_remember 27 = .ok (.iload_n 1, 1) := by decide +kernel
theorem dX6_remember_28 : decode cX6_remember 28 = .ok (.sipush 268, 3) := by decide +kernel
theorem dX6_remember_31 : decode cX6_remember 31 = .ok (.iadd, 1) := by decide +kernel
theorem dX6_remember_32 : decode cX6_remember 32 = .ok (.iaload, 1) := by decide +kernel
theorem dX6_remember_33 : decode cX6_remember 33 = .ok (.iastore, 1) := by decide +kernel
theorem dX6_remember_34 : decode cX6_remember 34 = .ok (.iinc 1 1, 3) := by decide +kernel
theorem dX6_remember_37 : decode cX6_remember 37 = .ok (.goto (-26), 3) := by decide +kernel
theorem dX6_remember_40 : decode cX6_remember 40 = .ok (.aload_n 0, 1) := by decide +kernel
theorem dX6_remember_41 : decode cX6_remember 41 = .ok (.dup, 1) := by decide +kernel
theorem dX6_remember_42 : decode cX6_remember 42 = .ok (.getfield 180, 3) := by decide +kernel
theorem dX6_remember_45 : decode cX6_remember 45 = .ok (.iconst 1, 1) := by decide +kernel
theorem dX6_remember_46 : decode cX6_remember 46 = .ok (.isub, 1) := by decide +kernel
theorem dX6_remember_47 : decode cX6_remember 47 = .ok (.putfield 180, 3) := by decide +kernel
theorem dX6_remember_50 : decode cX6_remember 50 = .ok (.aload_n 0, 1) := by decide +kernel
theorem dX6_remember_51 : decode cX6_remember 51 = .ok (.getfield 13, 3) := by decide +kernel
theorem dX6_remember_54 : decode cX6_remember 54 = .ok (.iconst 0, 1) := by decide +kernel
theorem dX6_remember_55 : decode cX6_remember 55 = .ok (.aload_n 0, 1) := by decide +kernel
theorem dX6_remember_56 : decode cX6_remember 56 = .ok (.getfield 22, 3) := by decide +kernel
theorem dX6_remember_59 : decode cX6_remember 59 = .ok (.sipush 268, 3) := by decide +kernel
theorem dX6_remember_62 : decode cX6_remember 62 = .ok (.aload_n 0, 1) := by decide +kernel
theorem dX6_remember_63 : decode cX6_remember 63 = .ok (.getfield 180, 3) := by decide +kernel
theorem dX6_remember_66 : decode cX6_remember 66 = .ok (.imul, 1) := by decide +kernel
theorem dX6_remember_67 : decode cX6_remember 67 = .ok (.invokestatic 93, 3) := by decide +kernel
theorem dX6_remember_70 : decode cX6_remember 70 = .ok (.aload_n 0, 1) := by decide +kernel
theorem dX6_remember_71 : decode cX6_remember 71 = .ok (.dup, 1) := by decide +kernel
theorem dX6_remember_72 : decode cX6_remember 72 = .ok (.getfield 180, 3) := by decide +kernel
theorem dX6_remember_75 : decode cX6_remember 75 = .ok (.iconst 1, 1) := by decide +kernel
theorem dX6_remember_76 : decode cX6_remember 76 = .ok (.iadd, 1) := by decide +kernel
theorem dX6_remember_77 : decode cX6_remember 77 = .ok (.putfield 180, 3) := by decide +kernel
theorem dX6_remember_80 : decode cX6_remember 80 = .ok (.return_, 1) := by decide +kernel
theorem dX6_valve_0 : decode cX6_valve 0 = .ok (.aload_n 0, 1) := by decide +kernel
theorem dX6_valve_1 : decode cX6_valve 1 = .ok (.iload_n 1, 1) := by decide +kernel
theorem dX6_valve_2 : decode cX6_valve 2 = .ok (.iload_n 2, 1) := by decide +kernel
theorem dX6_valve_3 : decode cX6_valve 3 = .ok (.invokestatic 194, 3) := by decide +kernel
theorem dX6_valve_6 : decode cX6_valve 6 = .ok (.ifCond .ne 7, 3) := by decide +kernel
theorem dX6_valve_9 : decode cX6_valve 9 = .ok (.iconst 1, 1) := by decide +kernel
theorem dX6_valve_10 : decode cX6_valve 10 = .ok (.goto 19, 3) := by decide +kernel
theorem dX6_valve_13 : decode cX6_valve 13 = .ok (.aload_n 0, 1) := by decide +kernel
theorem dX6_valve_14 : decode cX6_valve 14 = .ok (.getfield 13, 3) := by decide +kernel
theorem dX6_valve_17 : decode cX6_valve 17 = .ok (.iconst 0, 1) := by decide +kernel
theorem dX6_valve_18 : decode cX6_valve 18 = .ok (.iaload, 1) := by decide +kernel
theorem dX6_valve_19 : decode cX6_valve 19 = .ok (.bipush 10, 2) := by decide +kernel
theorem dX6_valve_21 : decode cX6_valve 21 = .ok (.if_icmp .ge 7, 3) := by decide +kernel
theorem dX6_valve_24 : decode cX6_valve 24 = .ok (.iconst 0, 1) := by decide +kernel
theorem dX6_valve_25 : decode cX6_valve 25 = .ok (.goto 4, 3) := by decide +kernel
theorem dX6_valve_28 : decode cX6_valve 28 = .ok (.iconst 2, 1) := by decide +kernel
theorem dX6_valve_29 : decode cX6_valve 29 = .ok (.invokevirtual 124, 3) := by decide +kernel
theorem dX6_valve_32 : decode cX6_valve 32 = .ok (.ifCond .eq 5, 3) := by decide +kernel
theorem dX6_valve_35 : decode cX6_valve 35 = .ok (.iconst 0, 1) := by decide +kernel
theorem dX6_valve_36 : decode cX6_valve 36 = .ok (.ireturn, 1) := by decide +kernel
theorem dX6_valve_37 : decode cX6_valve 37 = .ok (.aload_n 0, 1) := by decide +kernel
theorem dX6_valve_38 : decode cX6_valve 38 = .ok (.invokevirtual 198, 3) := by decide +kernel
theorem dX6_valve_41 : decode cX6_valve 41 = .ok (.aload_n 0, 1) := by decide +kernel
theorem dX6_valve_42 : decode cX6_valve 42 = .ok (.getfield 13, 3) := by decide +kernel
theorem dX6_valve_45 : decode cX6_valve 45 = .ok (.iload_n 1, 1) := by decide +kernel
theorem dX6_valve_46 : decode cX6_valve 46 = .ok (.iload_n 2, 1) := by decide +kernel
theorem dX6_valve_47 : decode cX6_valve 47 = .ok (.invokestatic 153, 3) := by decide +kernel
theorem dX6_valve_50 : decode cX6_valve 50 = .ok (.ireturn, 1) := by decide +kernel
theorem dX6_duct_0 : decode cX6_duct 0 = .ok (.aload_n 0, 1) := by decide +kernel
theorem dX6_duct_1 : decode cX6_duct 1 = .ok (.aload_n 0, 1) := by decide +kernel
theorem dX6_duct_2 : decode cX6_duct 2 = .ok (.getfield 13, 3) := by decide +kernel
theorem dX6_duct_5 : decode cX6_duct 5 = .ok (.iload_n 1, 1) := by decide +kernel
theorem dX6_duct_6 : decode cX6_duct 6 = .ok (.iload_n 2, 1) := by decide +kernel
theorem dX6_duct_7 : decode cX6_duct 7 = .ok (.iload_n 3, 1) := by decide +kernel
theorem dX6_duct_8 : decode cX6_duct 8 = .ok (.iload 4, 2) := by decide +kernel
theorem dX6_duct_10 : decode cX6_duct 10 = .ok (.invokestatic 110, 3) := by decide +kernel
theorem dX6_duct_13 : decode cX6_duct 13 = .ok (.ifCond .ne 7, 3) := by decide +kernel
theorem dX6_duct_16 : decode cX6_duct 16 = .ok (.iconst 1, 1) := by decide +kernel
theorem dX6_duct_17 : decode cX6_duct 17 = .ok (.goto 36, 3) := by decide +kernel
theorem dX6_duct_20 : decode cX6_duct 20 = .ok (.iload 5, 2) := by decide +kernel
theorem dX6_duct_22 : decode cX6_duct 22 = .ok (.i2l, 1) := by decide +kernel
theorem dX6_duct_23 : decode cX6_duct 23 = .ok (.lconst 1, 1) := by decide +kernel
theorem dX6_duct_24 : decode cX6_duct 24 = .ok (.ldc2_w 114, 3) := by decide +kernel
theorem dX6_duct_27 : decode cX6_duct 27 = .ok (.invokestatic 40, 3) := by decide +kernel
theorem dX6_duct_30 : decode cX6_duct 30 = .ok (.ifCond .ne 7, 3) := by decide +kernel
theorem dX6_duct_33 : decode cX6_duct 33 = .ok (.iconst 2, 1) := by decide +kernel
theorem dX6_duct_34 : decode cX6_duct 34 = .ok (.goto 19, 3) := by decide +kernel
theorem dX6_duct_37 : decode cX6_duct 37 = .ok (.aload_n 0, 1) := by decide +kernel
theorem dX6_duct_38 : decode cX6_duct 38 = .ok (.getfield 13, 3) := by decide +kernel
theorem dX6_duct_41 : decode cX6_duct 41 = .ok (.iconst 1, 1) := by decide +kernel
theorem dX6_duct_42 : decode cX6_duct 42 = .ok (.iaload, 1) := by decide +kernel
theorem dX6_duct_43 : decode cX6_duct 43 = .ok (.bipush 16, 2) := by decide +kernel
theorem dX6_duct_45 : decode cX6_duct 45 = .ok (.if_icmp .ge 7, 3) := by decide +kernel
theorem dX6_duct_48 : decode cX6_duct 48 = .ok (.iconst 0, 1) := by decide +kernel
theorem dX6_duct_49 : decode cX6_duct 49 = .ok (.goto 4, 3) := by decide +kernel
theorem dX6_duct_52 : decode cX6_duct 52 = .ok (.iconst 3, 1) := by decide +kernel
theorem dX6_duct_53 : decode cX6_duct 53 = .ok (.invokevirtual 124, 3) := by decide +kernel
theorem dX6_duct_56 : decode cX6_duct 56 = .ok (.ifCond .eq 5, 3) := by decide +kernel
theorem dX6_duct_59 : decode cX6_duct 59 = .ok (.iconst 0, 1) := by decide +kernel
theorem dX6_duct_60 : decode cX6_duct 60 = .ok (.ireturn, 1) := by decide +kernel
theorem dX6_duct_61 : decode cX6_duct 61 = .ok (.aload_n 0, 1) := by decide +kernel
theorem dX6_duct_62 : decode cX6_duct 62 = .ok (.invokevirtual 198, 3) := by decide +kernel
theorem dX6_duct_65 : decode cX6_duct 65 = .ok (.aload_n 0, 1) := by decide +kernel
theorem dX6_duct_66 : decode cX6_duct 66 = .ok (.getfield 13, 3) := by decide +kernel
theorem dX6_duct_69 : decode cX6_duct 69 = .ok (.iload_n 1, 1) := by decide +kernel
theorem dX6_duct_70 : decode cX6_duct 70 = .ok (.iload_n 2, 1) := by decide +kernel
theorem dX6_duct_71 : decode cX6_duct 71 = .ok (.iload_n 3, 1) := by decide +kernel
theorem dX6_duct_72 : decode cX6_duct 72 = .ok (.iload 4, 2) := by decide +kernel
theorem dX6_duct_74 : decode cX6_duct 74 = .ok (.iload 5, 2) := by decide +kernel
theorem dX6_duct_76 : decode cX6_duct 76 = .ok (.invokestatic 145, 3) := by decide +kernel
theorem dX6_duct_79 : decode cX6_duct 79 = .ok (.ireturn, 1) := by decide +kernel
theorem dX6_remove_0 : decode cX6_remove 0 = .ok (.aload_n 0, 1) := by decide +kernel
theorem dX6_remove_1 : decode cX6_remove 1 = .ok (.aload_n 0, 1) := by decide +kernel
theorem dX6_remove_2 : decode cX6_remove 2 = .ok (.getfield 13, 3) := by decide +kernel
theorem dX6_remove_5 : decode cX6_remove 5 = .ok (.iload_n 1, 1) := by decide +kernel
theorem dX6_remove_6 : decode cX6_remove 6 = .ok (.invokestatic 167, 3) := by decide +kernel
theorem dX6_remove_9 : decode cX6_remove 9 = .ok (.ifCond .eq 7, 3) := by decide +kernel
theorem dX6_remove_12 : decode cX6_remove 12 = .ok (.iconst 0, 1) := by decide +kernel
theorem dX6_remove_13 : decode cX6_remove 13 = .ok (.goto 4, 3) := by decide +kernel
theorem dX6_remove_16 : decode cX6_remove 16 = .ok (.iconst 1, 1) := by decide +kernel
theorem dX6_remove_17 : decode cX6_remove 17 = .ok (.invokevirtual 124, 3) := by decide +kernel
theorem dX6_remove_20 : decode cX6_remove 20 = .ok (.ifCond .eq 5, 3) := by decide +kernel
theorem dX6_remove_23 : decode cX6_remove 23 = .ok (.iconst 0, 1) := by decide +kernel
theorem dX6_remove_24 : decode cX6_remove 24 = .ok (.ireturn, 1) := by decide +kernel
theorem dX6_remove_25 : decode cX6_remove 25 = .ok (.aload_n 0, 1) := by decide +kernel
theorem dX6_remove_26 : decode cX6_remove 26 = .ok (.invokevirtual 198, 3) := by decide +kernel
theorem dX6_remove_29 : decode cX6_remove 29 = .ok (.aload_n 0, 1) := by decide +kernel
theorem dX6_remove_30 : decode cX6_remove 30 = .ok (.getfield 13, 3) := by decide +kernel
theorem dX6_remove_33 : decode cX6_remove 33 = .ok (.iload_n 1, 1) := by decide +kernel
theorem dX6_remove_34 : decode cX6_remove 34 = .ok (.invokestatic 201, 3) := by decide +kernel
theorem dX6_remove_37 : decode cX6_remove 37 = .ok (.ireturn, 1) := by decide +kernel
theorem dX6_press_0 : decode cX6_press 0 = .ok (.aload_n 0, 1) := by decide +kernel
theorem dX6_press_1 : decode cX6_press 1 = .ok (.aload_n 0, 1) := by decide +kernel
theorem dX6_press_2 : decode cX6_press 2 = .ok (.getfield 13, 3) := by decide +kernel
theorem dX6_press_5 : decode cX6_press 5 = .ok (.iload_n 1, 1) := by decide +kernel
theorem dX6_press_6 : decode cX6_press 6 = .ok (.invokestatic 44, 3) := by decide +kernel
theorem dX6_press_9 : decode cX6_press 9 = .ok (.ifCond .ne 7, 3) := by decide +kernel
theorem dX6_press_12 : decode cX6_press 12 = .ok (.iconst 1, 1) := by decide +kernel
theorem dX6_press_13 : decode cX6_press 13 = .ok (.goto 19, 3) := by decide +kernel
theorem dX6_press_16 : decode cX6_press 16 = .ok (.aload_n 0, 1) := by decide +kernel
theorem dX6_press_17 : decode cX6_press 17 = .ok (.getfield 13, 3) := by decide +kernel
theorem dX6_press_20 : decode cX6_press 20 = .ok (.iload_n 1, 1) := by decide +kernel
theorem dX6_press_21 : decode cX6_press 21 = .ok (.invokestatic 160, 3) := by decide +kernel
theorem dX6_press_24 : decode cX6_press 24 = .ok (.ifCond .eq 7, 3) := by decide +kernel
theorem dX6_press_27 : decode cX6_press 27 = .ok (.iconst 0, 1) := by decide +kernel
theorem dX6_press_28 : decode cX6_press 28 = .ok (.goto 4, 3) := by decide +kernel
theorem dX6_press_31 : decode cX6_press 31 = .ok (.iconst 2, 1) := by decide +kernel
theorem dX6_press_32 : decode cX6_press 32 = .ok (.invokevirtual 124, 3) := by decide +kernel
theorem dX6_press_35 : decode cX6_press 35 = .ok (.ifCond .eq 5, 3) := by decide +kernel
theorem dX6_press_38 : decode cX6_press 38 = .ok (.iconst 0, 1) := by decide +kernel
theorem dX6_press_39 : decode cX6_press 39 = .ok (.ireturn, 1) := by decide +kernel
theorem dX6_press_40 : decode cX6_press 40 = .ok (.aload_n 0, 1) := by decide +kernel
theorem dX6_press_41 : decode cX6_press 41 = .ok (.invokevirtual 198, 3) := by decide +kernel
theorem dX6_press_44 : decode cX6_press 44 = .ok (.aload_n 0, 1) := by decide +kernel
theorem dX6_press_45 : decode cX6_press 45 = .ok (.getfield 13, 3) := by decide +kernel
theorem dX6_press_48 : decode cX6_press 48 = .ok (.iload_n 1, 1) := by decide +kernel
theorem dX6_press_49 : decode cX6_press 49 = .ok (.iload_n 2, 1) := by decide +kernel
theorem dX6_press_50 : decode cX6_press 50 = .ok (.invokestatic 163, 3) := by decide +kernel
theorem dX6_press_53 : decode cX6_press 53 = .ok (.ireturn, 1) := by decide +kernel
theorem dX6_leak_0 : decode cX6_leak 0 = .ok (.aload_n 0, 1) := by decide +kernel
theorem dX6_leak_1 : decode cX6_leak 1 = .ok (.aload_n 0, 1) := by decide +kernel
theorem dX6_leak_2 : decode cX6_leak 2 = .ok (.getfield 13, 3) := by decide +kernel
theorem dX6_leak_5 : decode cX6_leak 5 = .ok (.iload_n 1, 1) := by decide +kernel
theorem dX6_leak_6 : decode cX6_leak 6 = .ok (.invokestatic 167, 3) := by decide +kernel
theorem dX6_leak_9 : decode cX6_leak 9 = .ok (.ifCond .ne 7, 3) := by decide +kernel
theorem dX6_leak_12 : decode cX6_leak 12 = .ok (.iconst 1, 1) := by decide +kernel
theorem dX6_leak_13 : decode cX6_leak 13 = .ok (.goto 20, 3) := by decide +kernel
theorem dX6_leak_16 : decode cX6_leak 16 = .ok (.iload_n 2, 1) := by decide +kernel
theorem dX6_leak_17 : decode cX6_leak 17 = .ok (.i2l, 1) := by decide +kernel
theorem dX6_leak_18 : decode cX6_leak 18 = .ok (.lconst 0, 1) := by decide +kernel
theorem dX6_leak_19 : decode cX6_leak 19 = .ok (.ldc2_w 204, 3) := by decide +kernel
theorem dX6_leak_22 : decode cX6_leak 22 = .ok (.invokestatic 40, 3) := by decide +kernel
theorem dX6_leak_25 : decode cX6_leak 25 = .ok (.ifCond .eq 7, 3) := by decide +kernel
theorem dX6_leak_28 : decode cX6_leak 28 = .ok (.iconst 0, 1) := by decide +kernel
theorem dX6_leak_29 : decode cX6_leak 29 = .ok (.goto 4, 3) := by decide +kernel
theorem dX6_leak_32 : decode cX6_leak 32 = .ok (.iconst 2, 1) := by decide +kernel
theorem dX6_leak_33 : decode cX6_leak 33 = .ok (.invokevirtual 124, 3) := by decide +kernel
theorem dX6_leak_36 : decode cX6_leak 36 = .ok (.ifCond .eq 5, 3) := by decide +kernel
theorem dX6_leak_39 : decode cX6_leak 39 = .ok (.iconst 0, 1) := by decide +kernel
theorem dX6_leak_40 : decode cX6_leak 40 = .ok (.ireturn, 1) := by decide +kernel
theorem dX6_leak_41 : decode cX6_leak 41 = .ok (.aload_n 0, 1) := by decide +kernel
theorem dX6_leak_42 : decode cX6_leak 42 = .ok (.invokevirtual 198, 3) := by decide +kernel
theorem dX6_leak_45 : decode cX6_leak 45 = .ok (.aload_n 0, 1) := by decide +kernel
theorem dX6_leak_46 : decode cX6_leak 46 = .ok (.getfield 13, 3) := by decide +kernel
theorem dX6_leak_49 : decode cX6_leak 49 = .ok (.bipush 76, 2) := by decide +kernel
theorem dX6_leak_51 : decode cX6_leak 51 = .ok (.bipush 12, 2) := by decide +kernel
theorem dX6_leak_53 : decode cX6_leak 53 = .ok (.iload_n 1, 1) := by decide +kernel
theorem dX6_leak_54 : decode cX6_leak 54 = .ok (.imul, 1) := by decide +kernel
theorem dX6_leak_55 : decode cX6_leak 55 = .ok (.iadd, 1) := by decide +kernel
theorem dX6_leak_56 : decode cX6_leak 56 = .ok (.iconst 5, 1) := by decide +kernel
theorem dX6_leak_57 : decode cX6_leak 57 = .ok (.iadd, 1) := by decide +kernel
theorem dX6_leak_58 : decode cX6_leak 58 = .ok (.iload_n 2, 1) := by decide +kernel
theorem dX6_leak_59 : decode cX6_leak 59 = .ok (.invokestatic 116, 3) := by decide +kernel
theorem dX6_leak_62 : decode cX6_leak 62 = .ok (.ireturn, 1) := by decide +kernel
theorem dX6_feed_0 : decode cX6_feed 0 = .ok (.aload_n 0, 1) := by decide +kernel
theorem dX6_feed_1 : decode cX6_feed 1 = .ok (.aload_n 0, 1) := by decide +kernel
theorem dX6_feed_2 : decode cX6_feed 2 = .ok (.getfield 13, 3) := by decide +kernel
theorem dX6_feed_5 : decode cX6_feed 5 = .ok (.iload_n 1, 1) := by decide +kernel
theorem dX6_feed_6 : decode cX6_feed 6 = .ok (.invokestatic 44, 3) := by decide +kernel
theorem dX6_feed_9 : decode cX6_feed 9 = .ok (.ifCond .ne 7, 3) := by decide +kernel
theorem dX6_feed_12 : decode cX6_feed 12 = .ok (.iconst 1, 1) := by decide +kernel
theorem dX6_feed_13 : decode cX6_feed 13 = .ok (.goto 22, 3) := by decide +kernel
theorem dX6_feed_16 : decode cX6_feed 16 = .ok (.iload_n 2, 1) := by decide +kernel
theorem dX6_feed_17 : decode cX6_feed 17 = .ok (.i2l, 1) := by decide +kernel
theorem dX6_feed_18 : decode cX6_feed 18 = .ok (.ldc2_w 102, 3) := by decide +kernel
theorem dX6_feed_21 : decode cX6_feed 21 = .ok (.ldc2_w 104, 3) := by decide +kernel
theorem dX6_feed_24 : decode cX6_feed 24 = .ok (.invokestatic 40, 3) := by decide +kernel
theorem dX6_feed_27 : decode cX6_feed 27 = .ok (.ifCond .eq 7, 3) := by decide +kernel
theorem dX6_feed_30 : decode cX6_feed 30 = .ok (.iconst 0, 1) := by decide +kernel
theorem dX6_feed_31 : decode cX6_feed 31 = .ok (.goto 4, 3) := by decide +kernel
theorem dX6_feed_34 : decode cX6_feed 34 = .ok (.iconst 2, 1) := by decide +kernel
theorem dX6_feed_35 : decode cX6_feed 35 = .ok (.invokevirtual 124, 3) := by decide +kernel
theorem dX6_feed_38 : decode cX6_feed 38 = .ok (.ifCond .eq 5, 3) := by decide +kernel
theorem dX6_feed_41 : decode cX6_feed 41 = .ok (.iconst 0, 1) := by decide +kernel
theorem dX6_feed_42 : decode cX6_feed 42 = .ok (.ireturn, 1) := by decide +kernel
theorem dX6_feed_43 : decode cX6_feed 43 = .ok (.aload_n 0, 1) := by decide +kernel
theorem dX6_feed_44 : decode cX6_feed 44 = .ok (.invokevirtual 198, 3) := by decide +kernel
theorem dX6_feed_47 : decode cX6_feed 47 = .ok (.aload_n 0, 1) := by decide +kernel
theorem dX6_feed_48 : decode cX6_feed 48 = .ok (.getfield 13, 3) := by decide +kernel
theorem dX6_feed_51 : decode cX6_feed 51 = .ok (.bipush 6, 2) := by decide +kernel
theorem dX6_feed_53 : decode cX6_feed 53 = .ok (.bipush 7, 2) := by decide +kernel
theorem dX6_feed_55 : decode cX6_feed 55 = .ok (.iload_n 1, 1) := by decide +kernel
theorem dX6_feed_56 : decode cX6_feed 56 = .ok (.imul, 1) := by decide +kernel
theorem dX6_feed_57 : decode cX6_feed 57 = .ok (.iadd, 1) := by decide +kernel
theorem dX6_feed_58 : decode cX6_feed 58 = .ok (.iconst 1, 1) := by decide +kernel
theorem dX6_feed_59 : decode cX6_feed 59 = .ok (.iadd, 1) := by decide +kernel
theorem dX6_feed_60 : decode cX6_feed 60 = .ok (.iload_n 2, 1) := by decide +kernel
theorem dX6_feed_61 : decode cX6_feed 61 = .ok (.invokestatic 116, 3) := by decide +kernel
theorem dX6_feed_64 : decode cX6_feed 64 = .ok (.ireturn, 1) := by decide +kernel
theorem dX6_set_0 : decode cX6_set 0 = .ok (.aload_n 0, 1) := by decide +kernel
theorem dX6_set_1 : decode cX6_set 1 = .ok (.iload_n 1, 1) := by decide +kernel
theorem dX6_set_2 : decode cX6_set 2 = .ok (.iload_n 2, 1) := by decide +kernel
theorem dX6_set_3 : decode cX6_set 3 = .ok (.invokestatic 206, 3) := by decide +kernel
theorem dX6_set_6 : decode cX6_set 6 = .ok (.ifCond .eq 7, 3) := by decide +kernel
theorem dX6_set_9 : decode cX6_set 9 = .ok (.iconst 0, 1) := by decide +kernel
theorem dX6_set_10 : decode cX6_set 10 = .ok (.goto 4, 3) := by decide +kernel
theorem dX6_set_13 : decode cX6_set 13 = .ok (.iconst 1, 1) := by decide +kernel
theorem dX6_set_14 : decode cX6_set 14 = .ok (.invokevirtual 124, 3) := by decide +kernel
theorem dX6_set_17 : decode cX6_set 17 = .ok (.ifCond .eq 5, 3) := by decide +kernel
theorem dX6_set_20 : decode cX6_set 20 = .ok (.iconst 0, 1) := by decide +kernel
theorem dX6_set_21 : decode cX6_set 21 = .ok (.ireturn, 1) := by decide +kernel
theorem dX6_set_22 : decode cX6_set 22 = .ok (.aload_n 0, 1) := by decide +kernel
theorem dX6_set_23 : decode cX6_set 23 = .ok (.invokevirtual 198, 3) := by decide +kernel
theorem dX6_set_26 : decode cX6_set 26 = .ok (.aload_n 0, 1) := by decide +kernel
theorem dX6_set_27 : decode cX6_set 27 = .ok (.getfield 13, 3) := by decide +kernel
theorem dX6_set_30 : decode cX6_set 30 = .ok (.iconst 4, 1) := by decide +kernel
theorem dX6_set_31 : decode cX6_set 31 = .ok (.iload_n 1, 1) := by decide +kernel
theorem dX6_set_32 : decode cX6_set 32 = .ok (.iadd, 1) := by decide +kernel
theorem dX6_set_33 : decode cX6_set 33 = .ok (.iload_n 2, 1) := by decide +kernel
theorem dX6_set_34 : decode cX6_set 34 = .ok (.invokestatic 116, 3) := by decide +kernel
theorem dX6_set_37 : decode cX6_set 37 = .ok (.ireturn, 1) := by decide +kernel
theorem dX6_ticks_0 : decode cX6_ticks 0 = .ok (.aload_n 0, 1) := by decide +kernel
theorem dX6_ticks_1 : decode cX6_ticks 1 = .ok (.iload_n 1, 1) := by decide +kernel
theorem dX6_ticks_2 : decode cX6_ticks 2 = .ok (.i2l, 1) := by decide +kernel
theorem dX6_ticks_3 : decode cX6_ticks 3 = .ok (.lconst 1, 1) := by decide +kernel
theorem dX6_ticks_4 : decode cX6_ticks 4 = .ok (.ldc2_w 104, 3) := by decide +kernel
theorem dX6_ticks_7 : decode cX6_ticks 7 = .ok (.invokestatic 40, 3) := by decide +kernel
theorem dX6_ticks_10 : decode cX6_ticks 10 = .ok (.ifCond .eq 7, 3) := by decide +kernel
theorem dX6_ticks_13 : decode cX6_ticks 13 = .ok (.iconst 0, 1) := by decide +kernel
theorem dX6_ticks_14 : decode cX6_ticks 14 = .ok (.goto 4, 3) := by decide +kernel
theorem dX6_ticks_17 : decode cX6_ticks 17 = .ok (.iconst 1, 1) := by decide +kernel
theorem dX6_ticks_18 : decode cX6_ticks 18 = .ok (.invokevirtual 124, 3) := by decide +kernel
theorem dX6_ticks_21 : decode cX6_ticks 21 = .ok (.ifCond .eq 5, 3) := by decide +kernel
theorem dX6_ticks_24 : decode cX6_ticks 24 = .ok (.iconst 0, 1) := by decide +kernel
theorem dX6_ticks_25 : decode cX6_ticks 25 = .ok (.ireturn, 1) := by decide +kernel
theorem dX6_ticks_26 : decode cX6_ticks 26 = .ok (.aload_n 0, 1) := by decide +kernel
theorem dX6_ticks_27 : decode cX6_ticks 27 = .ok (.invokevirtual 198, 3) := by decide +kernel
theorem dX6_ticks_30 : decode cX6_ticks 30 = .ok (.aload_n 0, 1) := by decide +kernel
theorem dX6_ticks_31 : decode cX6_ticks 31 = .ok (.aload_n 0, 1) := by decide +kernel
theorem dX6_ticks_32 : decode cX6_ticks 32 = .ok (.getfield 13, 3) := by decide +kernel
theorem dX6_ticks_35 : decode cX6_ticks 35 = .ok (.iload_n 1, 1) := by decide +kernel
theorem dX6_ticks_36 : decode cX6_ticks 36 = .ok (.invokevirtual 170, 3) := by decide +kernel
theorem dX6_ticks_39 : decode cX6_ticks 39 = .ok (.ireturn, 1) := by decide +kernel
theorem dX6_undo_0 : decode cX6_undo 0 = .ok (.aload_n 0, 1) := by decide +kernel
theorem dX6_undo_1 : decode cX6_undo 1 = .ok (.aload_n 0, 1) := by decide +kernel
theorem dX6_undo_2 : decode cX6_undo 2 = .ok (.getfield 180, 3) := by decide +kernel
theorem dX6_undo_5 : decode cX6_undo 5 = .ok (.ifCond .ne 7, 3) := by decide +kernel
theorem dX6_undo_8 : decode cX6_undo 8 = .ok (.iconst 1, 1) := by decide +kernel
theorem dX6_undo_9 : decode cX6_undo 9 = .ok (.goto 4, 3) := by decide +kernel
theorem dX6_undo_12 : decode cX6_undo 12 = .ok (.iconst 0, 1) := by decide +kernel
theorem dX6_undo_13 : decode cX6_undo 13 = .ok (.invokevirtual 124, 3) := by decide +kernel
theorem dX6_undo_16 : decode cX6_undo 16 = .ok (.ifCond .eq 5, 3) := by decide +kernel
theorem dX6_undo_19 : decode cX6_undo 19 = .ok (.iconst 0, 1) := by decide +kernel
theorem dX6_undo_20 : decode cX6_undo 20 = .ok (.ireturn, 1) := by decide +kernel
theorem dX6_undo_21 : decode cX6_undo 21 = .ok (.aload_n 0, 1) := by decide +kernel
theorem dX6_undo_22 : decode cX6_undo 22 = .ok (.dup, 1) := by decide +kernel
theorem dX6_undo_23 : decode cX6_undo 23 = .ok (.getfield 180, 3) := by decide +kernel
theorem dX6_undo_26 : decode cX6_undo 26 = .ok (.iconst 1, 1) := by decide +kernel
theorem dX6_undo_27 : decode cX6_undo 27 = .ok (.isub, 1) := by decide +kernel
theorem dX6_undo_28 : decode cX6_undo 28 = .ok (.putfield 180, 3) := by decide +kernel
theorem dX6_undo_31 : decode cX6_undo 31 = .ok (.aload_n 0, 1) := by decide +kernel
theorem dX6_undo_32 : decode cX6_undo 32 = .ok (.getfield 22, 3) := by decide +kernel
theorem dX6_undo_35 : decode cX6_undo 35 = .ok (.sipush 268, 3) := by decide +kernel
theorem dX6_undo_38 : decode cX6_undo 38 = .ok (.aload_n 0, 1) := by decide +kernel
theorem dX6_undo_39 : decode cX6_undo 39 = .ok (.getfield 180, 3) := by decide +kernel
theorem dX6_undo_42 : decode cX6_undo 42 = .ok (.imul, 1) := by decide +kernel
theorem dX6_undo_43 : decode cX6_undo 43 = .ok (.aload_n 0, 1) := by decide +kernel
theorem dX6_undo_44 : decode cX6_undo 44 = .ok (.getfield 13, 3) := by decide +kernel
theorem dX6_undo_47 : decode cX6_undo 47 = .ok (.iconst 0, 1) := by decide +kernel
theorem dX6_undo_48 : decode cX6_undo 48 = .ok (.invokestatic 93, 3) := by decide +kernel
theorem dX6_undo_51 : decode cX6_undo 51 = .ok (.aload_n 0, 1) := by decide +kernel
theorem dX6_undo_52 : decode cX6_undo 52 = .ok (.getfield 180, 3) := by decide +kernel
theorem dX6_undo_55 : decode cX6_undo 55 = .ok (.ireturn, 1) := by decide +kernel
theorem dX6_restIn_0 : decode cX6_restIn 0 = .ok (.aload_n 0, 1) := by decide +kernel
theorem dX6_restIn_1 : decode cX6_restIn 1 = .ok (.iconst 0, 1) := by decide +kernel
theorem dX6_restIn_2 : decode cX6_restIn 2 = .ok (.putfield 36, 3) := by decide +kernel
theorem dX6_restIn_5 : decode cX6_restIn 5 = .ok (.aload_n 0, 1) := by decide +kernel
theorem dX6_restIn_6 : decode cX6_restIn 6 = .ok (.getfield 13, 3) := by decide +kernel
theorem dX6_restIn_9 : decode cX6_restIn 9 = .ok (.iconst 0, 1) := by decide +kernel
theorem dX6_restIn_10 : decode cX6_restIn 10 = .ok (.aload_n 0, 1) := by decide +kernel
theorem dX6_restIn_11 : decode cX6_restIn 11 = .ok (.getfield 16, 3) := by decide +kernel
theorem dX6_restIn_14 : decode cX6_restIn 14 = .ok (.iconst 0, 1) := by decide +kernel
theorem dX6_restIn_15 : decode cX6_restIn 15 = .ok (.invokestatic 93, 3) := by decide +kernel
theorem dX6_restIn_18 : decode cX6_restIn 18 = .ok (.iconst 0, 1) := by decide +kernel
theorem dX6_restIn_19 : decode cX6_restIn 19 = .ok (.istore_n 1, 1) := by decide +kernel
theorem dX6_restIn_20 : decode cX6_restIn 20 = .ok (.iload_n 1, 1) := by decide +kernel
theorem dX6_restIn_21 : decode cX6_restIn 21 = .ok (.sipush 300, 3) := by decide +kernel
theorem dX6_restIn_24 : decode cX6_restIn 24 = .ok (.if_icmp .gt 29, 3) := by decide +kernel
theorem dX6_restIn_27 : decode cX6_restIn 27 = .ok (.aload_n 0, 1) := by decide +kernel
theorem dX6_restIn_28 : decode cX6_restIn 28 = .ok (.aload_n 0, 1) := by decide +kernel
theorem dX6_restIn_29 : decode cX6_restIn 29 = .ok (.getfield 16, 3) := by decide +kernel
theorem dX6_restIn_32 : decode cX6_restIn 32 = .ok (.invokevirtual 209, 3) := by decide +kernel
theorem dX6_restIn_35 : decode cX6_restIn 35 = .ok (.ifCond .eq 5, 3) := by decide +kernel
theorem dX6_restIn_38 : decode cX6_restIn 38 = .ok (.iload_n 1, 1) := by decide +kernel
theorem dX6_restIn_39 : decode cX6_restIn 39 = .ok (.ireturn, 1) := by decide +kernel
theorem dX6_restIn_40 : decode cX6_restIn 40 = .ok (.aload_n 0, 1) := by decide +kernel
theorem dX6_restIn_41 : decode cX6_restIn 41 = .ok (.getfield 16, 3) := by decide +kernel
theorem dX6_restIn_44 : decode cX6_restIn 44 = .ok (.invokestatic 90, 3) := by decide +kernel
theorem dX6_restIn_47 : decode cX6_restIn 47 = .ok (.iinc 1 1, 3) := by decide +kernel
theorem dX6_restIn_50 : decode cX6_restIn 50 = .ok (.goto (-30), 3) := by decide +kernel
theorem dX6_restIn_53 : decode cX6_restIn 53 = .ok (.iconst (-1), 1) := by decide +kernel
theorem dX6_restIn_54 : decode cX6_restIn 54 = .ok (.ireturn, 1) := by decide +kernel
theorem dX6_beatOf_0 : decode cX6_beatOf 0 = .ok (.aload_n 0, 1) := by decide +kernel
theorem dX6_beatOf_1 : decode cX6_beatOf 1 = .ok (.getfield 16, 3) := by decide +kernel
theorem dX6_beatOf_4 : decode cX6_beatOf 4 = .ok (.bipush 100, 2) := by decide +kernel
theorem dX6_beatOf_6 : decode cX6_beatOf 6 = .ok (.invokestatic 97, 3) := by decide +kernel
theorem dX6_beatOf_9 : decode cX6_beatOf 9 = .ok (.iconst (-1), 1) := by decide +kernel
theorem dX6_beatOf_10 : decode cX6_beatOf 10 = .ok (.istore_n 2, 1) := by decide +kernel
theorem dX6_beatOf_11 : decode cX6_beatOf 11 = .ok (.iconst 1, 1) := by decide +kernel
theorem dX6_beatOf_12 : decode cX6_beatOf 12 = .ok (.istore_n 3, 1) := by decide +kernel
theorem dX6_beatOf_13 : decode cX6_beatOf 13 = .ok (.iload_n 3, 1) := by decide +kernel
theorem dX6_beatOf_14 : decode cX6_beatOf 14 = .ok (.sipush 200, 3) := by decide +kernel
theorem dX6_beatOf_17 : decode cX6_beatOf 17 = .ok (.if_icmp .gt 55, 3) := by decide +kernel
theorem dX6_beatOf_20 : decode cX6_beatOf 20 = .ok (.aload_n 0, 1) := by decide +kernel
theorem dX6_beatOf_21 : decode cX6_beatOf 21 = .ok (.getfield 16, 3) := by decide +kernel
theorem dX6_beatOf_24 : decode cX6_beatOf 24 = .ok (.iload_n 1, 1) := by decide +kernel
theorem dX6_beatOf_25 : decode cX6_beatOf 25 = .ok (.iconst 3, 1) := by decide +kernel
theorem dX6_beatOf_26 : decode cX6_beatOf 26 = .ok (.invokestatic 48, 3) := by decide +kernel
theorem dX6_beatOf_29 : decode cX6_beatOf 29 = .ok (.istore 4, 2) := by decide +kernel
theorem dX6_beatOf_31 : decode cX6_beatOf 31 = .ok (.aload_n 0, 1) := by decide +kernel
theorem dX6_beatOf_32 : decode cX6_beatOf 32 = .ok (.getfield 16, 3) := by decide +kernel
theorem dX6_beatOf_35 : decode cX6_beatOf 35 = .ok (.invokestatic 90, 3) := by decide +kernel
theorem dX6_beatOf_38 : decode cX6_beatOf 38 = .ok (.iload 4, 2) := by decide +kernel
theorem dX6_beatOf_40 : decode cX6_beatOf 40 = .ok (.ifCond .ne 26, 3) := by decide +kernel
theorem dX6_beatOf_43 : decode cX6_beatOf 43 = .ok (.aload_n 0, 1) := by decide +kernel
theorem dX6_beatOf_44 : decode cX6_beatOf 44 = .ok (.getfield 16, 3) := by decide +kernel
theorem dX6_beatOf_47 : decode cX6_beatOf 47 = .ok (.iload_n 1, 1) := by decide +kernel
theorem dX6_beatOf_48 : decode cX6_beatOf 48 = .ok (.iconst 3, 1) := by decide +kernel
theorem dX6_beatOf_49 : decode cX6_beatOf 49 = .ok (.invokestatic 48, 3) := by decide +kernel
theorem dX6_beatOf_52 : decode cX6_beatOf 52 = .ok (.ifCond .le 14, 3) := by decide +kernel
theorem dX6_beatOf_55 : decode cX6_beatOf 55 = .ok (.iload_n 2, 1) := by decide +kernel
theorem dX6_beatOf_56 : decode cX6_beatOf 56 = .ok (.iconst (-1), 1) := by decide +kernel
theorem dX6_beatOf_57 : decode cX6_beatOf 57 = .ok (.if_icmp .eq 7, 3) := by decide +kernel
theorem dX6_beatOf_60 : decode cX6_beatOf 60 = .ok (.iload_n 3, 1) := by decide +kernel
theorem dX6_beatOf_61 : decode cX6_beatOf 61 = .ok (.iload_n 2, 1) := by decide +kernel
theorem dX6_beatOf_62 : decode cX6_beatOf 62 = .ok (.isub, 1) := by decide +kernel
theorem dX6_beatOf_63 : decode cX6_beatOf 63 = .ok (.ireturn, 1) := by decide +kernel
theorem dX6_beatOf_64 : decode cX6_beatOf 64 = .ok (.iload_n 3, 1) := by decide +kernel
theorem dX6_beatOf_65 : decode cX6_beatOf 65 = .ok (.istore_n 2, 1) := by decide +kernel
theorem dX6_beatOf_66 : decode cX6_beatOf 66 = .ok (.iinc 3 1, 3) := by decide +kernel
theorem dX6_beatOf_69 : decode cX6_beatOf 69 = .ok (.goto (-56), 3) := by decide +kernel
theorem dX6_beatOf_72 : decode cX6_beatOf 72 = .ok (.iconst (-1), 1) := by decide +kernel
theorem dX6_beatOf_73 : decode cX6_beatOf 73 = .ok (.ireturn, 1) := by decide +kernel
theorem dX6_beat_0 : decode cX6_beat 0 = .ok (.aload_n 0, 1) := by decide +kernel
theorem dX6_beat_1 : decode cX6_beat 1 = .ok (.aload_n 0, 1) := by decide +kernel
theorem dX6_beat_2 : decode cX6_beat 2 = .ok (.getfield 13, 3) := by decide +kernel
theorem dX6_beat_5 : decode cX6_beat 5 = .ok (.iload_n 1, 1) := by decide +kernel
theorem dX6_beat_6 : decode cX6_beat 6 = .ok (.invokestatic 44, 3) := by decide +kernel
theorem dX6_beat_9 : decode cX6_beat 9 = .ok (.ifCond .eq 7, 3) := by decide +kernel
theorem dX6_beat_12 : decode cX6_beat 12 = .ok (.iconst 0, 1) := by decide +kernel
theorem dX6_beat_13 : decode cX6_beat 13 = .ok (.goto 4, 3) := by decide +kernel
theorem dX6_beat_16 : decode cX6_beat 16 = .ok (.iconst 1, 1) := by decide +kernel
theorem dX6_beat_17 : decode cX6_beat 17 = .ok (.invokevirtual 124, 3) := by decide +kernel
theorem dX6_beat_20 : decode cX6_beat 20 = .ok (.ifCond .eq 5, 3) := by decide +kernel
theorem dX6_beat_23 : decode cX6_beat 23 = .ok (.iconst 0, 1) := by decide +kernel
theorem dX6_beat_24 : decode cX6_beat 24 = .ok (.ireturn, 1) := by decide +kernel
theorem dX6_beat_25 : decode cX6_beat 25 = .ok (.aload_n 0, 1) := by decide +kernel
theorem dX6_beat_26 : decode cX6_beat 26 = .ok (.getfield 13, 3) := by decide +kernel
theorem dX6_beat_29 : decode cX6_beat 29 = .ok (.iconst 0, 1) := by decide +kernel
theorem dX6_beat_30 : decode cX6_beat 30 = .ok (.aload_n 0, 1) := by decide +kernel
theorem dX6_beat_31 : decode cX6_beat 31 = .ok (.getfield 16, 3) := by decide +kernel
theorem dX6_beat_34 : decode cX6_beat 34 = .ok (.iconst 0, 1) := by decide +kernel
theorem dX6_beat_35 : decode cX6_beat 35 = .ok (.invokestatic 93, 3) := by decide +kernel
theorem dX6_beat_38 : decode cX6_beat 38 = .ok (.aload_n 0, 1) := by decide +kernel
theorem dX6_beat_39 : decode cX6_beat 39 = .ok (.iload_n 1, 1) := by decide +kernel
theorem dX6_beat_40 : decode cX6_beat 40 = .ok (.invokevirtual 212, 3) := by decide +kernel
theorem dX6_beat_43 : decode cX6_beat 43 = .ok (.ireturn, 1) := by decide +kernel
theorem dX6_rule_0 : decode cX6_rule 0 = .ok (.aload_n 0, 1) := by decide +kernel
theorem dX6_rule_1 : decode cX6_rule 1 = .ok (.getfield 13, 3) := by decide +kernel
theorem dX6_rule_4 : decode cX6_rule 4 = .ok (.iload_n 1, 1) := by decide +kernel
theorem dX6_rule_5 : decode cX6_rule 5 = .ok (.invokestatic 44, 3) := by decide +kernel
theorem dX6_rule_8 : decode cX6_rule 8 = .ok (.ifCond .eq 29, 3) := by decide +kernel
theorem dX6_rule_11 : decode cX6_rule 11 = .ok (.aload_n 0, 1) := by decide +kernel
theorem dX6_rule_12 : decode cX6_rule 12 = .ok (.getfield 13, 3) := by decide +kernel
theorem dX6_rule_15 : decode cX6_rule 15 = .ok (.iload_n 2, 1) := by decide +kernel
theorem dX6_rule_16 : decode cX6_rule 16 = .ok (.invokestatic 44, 3) := by decide +kernel
theorem dX6_rule_19 : decode cX6_rule 19 = .ok (.ifCond .eq 18, 3) := by decide +kernel
theorem dX6_rule_22 : decode cX6_rule 22 = .ok (.aload_n 0, 1) := by decide +kernel
theorem dX6_rule_23 : decode cX6_rule 23 = .ok (.getfield 13, 3) := by decide +kernel
theorem dX6_rule_26 : decode cX6_rule 26 = .ok (.iload_n 3, 1) := by decide +kernel
theorem dX6_rule_27 : decode cX6_rule 27 = .ok (.invokestatic 44, 3) := by decide +kernel
theorem dX6_rule_30 : decode cX6_rule 30 = .ok (.ifCond .eq 7, 3) := by decide +kernel
theorem dX6_rule_33 : decode cX6_rule 33 = .ok (.iconst 1, 1) := by decide +kernel
theorem dX6_rule_34 : decode cX6_rule 34 = .ok (.goto 4, 3) := by decide +kernel
theorem dX6_rule_37 : decode cX6_rule 37 = .ok (.iconst 0, 1) := by decide +kernel
theorem dX6_rule_38 : decode cX6_rule 38 = .ok (.istore 4, 2) := by decide +kernel
theorem dX6_rule_40 : decode cX6_rule 40 = .ok (.aload_n 0, 1) := by decide +kernel
theorem dX6_rule_41 : decode cX6_rule 41 = .ok (.iload 4, 2) := by decide +kernel
theorem dX6_rule_43 : decode cX6_rule 43 = .ok (.ifCond .ne 7, 3) := by decide +kernel
theorem dX6_rule_46 : decode cX6_rule 46 = .ok (.iconst 1, 1) := by decide +kernel
theorem dX6_rule_47 : decode cX6_rule 47 = .ok (.goto 35, 3) := by decide +kernel
theorem dX6_rule_50 : decode cX6_rule 50 = .ok (.iload_n 1, 1) := by decide +kernel
theorem dX6_rule_51 : decode cX6_rule 51 = .ok (.iload_n 2, 1) := by decide +kernel
theorem dX6_rule_52 : decode cX6_rule 52 = .ok (.if_icmp .eq 25, 3) := by decide +kernel
theorem dX6_rule_55 : decode cX6_rule 55 = .ok (.aload_n 0, 1) := by decide +kernel
theorem dX6_rule_56 : decode cX6_rule 56 = .ok (.getfield 13, 3) := by decide +kernel
theorem dX6_rule_59 : decode cX6_rule 59 = .ok (.iload_n 1, 1) := by decide +kernel
theorem dX6_rule_60 : decode cX6_rule 60 = .ok (.invokestatic 160, 3) := by decide +kernel
theorem dX6_rule_63 : decode cX6_rule 63 = .ok (.ifCond .eq 14, 3) := by decide +kernel
theorem dX6_rule_66 : decode cX6_rule 66 = .ok (.aload_n 0, 1) := by decide +kernel
theorem dX6_rule_67 : decode cX6_rule 67 = .ok (.getfield 13, 3) := by decide +kernel
theorem dX6_rule_70 : decode cX6_rule 70 = .ok (.iload_n 2, 1) := by decide +kernel
theorem dX6_rule_71 : decode cX6_rule 71 = .ok (.invokestatic 160, 3) := by decide +kernel
theorem dX6_rule_74 : decode cX6_rule 74 = .ok (.ifCond .ne 7, 3) := by decide +kernel
theorem dX6_rule_77 : decode cX6_rule 77 = .ok (.iconst 2, 1) := by decide +kernel
theorem dX6_rule_78 : decode cX6_rule 78 = .ok (.goto 4, 3) := by decide +kernel
theorem dX6_rule_81 : decode cX6_rule 81 = .ok (.iconst 0, 1) := by decide +kernel
theorem dX6_rule_82 : decode cX6_rule 82 = .ok (.invokevirtual 124, 3) := by decide +kernel
theorem dX6_rule_85 : decode cX6_rule 85 = .ok (.ifCond .eq 5, 3) := by decide +kernel
theorem dX6_rule_88 : decode cX6_rule 88 = .ok (.iconst 0, 1) := by decide +kernel
theorem dX6_rule_89 : decode cX6_rule 89 = .ok (.ireturn, 1) := by decide +kernel
theorem dX6_rule_90 : decode cX6_rule 90 = .ok (.iconst 0, 1) := by decide +kernel
theorem dX6_rule_91 : decode cX6_rule 91 = .ok (.istore 5, 2) := by decide +kernel
theorem dX6_rule_93 : decode cX6_rule 93 = .ok (.iconst 0, 1) := by decide +kernel
theorem dX6_rule_94 : decode cX6_rule 94 = .ok (.istore 6, 2) := by decide +kernel
theorem dX6_rule_96 : decode cX6_rule 96 = .ok (.iload 6, 2) := by decide +kernel
theorem dX6_rule_98 : decode cX6_rule 98 = .ok (.iconst 4, 1) := by decide +kernel
theorem dX6_rule_99 : decode cX6_rule 99 = .ok (.if_icmp .ge 113, 3) := by decide +kernel
theorem dX6_rule_102 : decode cX6_rule 102 = .ok (.aload_n 0, 1) := by decide +kernel
theorem dX6_rule_103 : decode cX6_rule 103 = .ok (.getfield 13, 3) := by decide +kernel
theorem dX6_rule_106 : decode cX6_rule 106 = .ok (.iconst 0, 1) := by decide +kernel
theorem dX6_rule_107 : decode cX6_rule 107 = .ok (.aload_n 0, 1) := by decide +kernel
theorem dX6_rule_108 : decode cX6_rule 108 = .ok (.getfield 16, 3) := by decide +kernel
theorem dX6_rule_111 : decode cX6_rule 111 = .ok (.iconst 0, 1) := by decide +kernel
theorem dX6_rule_112 : decode cX6_rule 112 = .ok (.invokestatic 93, 3) := by decide +kernel
theorem dX6_rule_115 : decode cX6_rule 115 = .ok (.aload_n 0, 1) := by decide +kernel
theorem dX6_rule_116 : decode cX6_rule 116 = .ok (.getfield 16, 3) := by decide +kernel
theorem dX6_rule_119 : decode cX6_rule 119 = .ok (.iload_n 1, 1) := by decide +kernel
theorem dX6_rule_120 : decode cX6_rule 120 = .ok (.iload 6, 2) := by decide +kernel
theorem dX6_rule_122 : decode cX6_rule 122 = .ok (.iconst 2, 1) := by decide +kernel
theorem dX6_rule_123 : decode cX6_rule 123 = .ok (.irem, 1) := by decide +kernel
theorem dX6_rule_124 : decode cX6_rule 124 = .ok (.iconst 1, 1) := by decide +kernel
theorem dX6_rule_125 : decode cX6_rule 125 = .ok (.if_icmp .ne 7, 3) := by decide +kernel
theorem dX6_rule_128 : decode cX6_rule 128 = .ok (.iconst 1, 1) := by decide +kernel
theorem dX6_rule_129 : decode cX6_rule 129 = .ok (.goto 4, 3) := by decide +kernel
theorem dX6_rule_132 : decode cX6_rule 132 = .ok (.iconst 0, 1) := by decide +kernel
theorem dX6_rule_133 : decode cX6_rule 133 = .ok (.invokestatic 163, 3) := by decide +kernel
theorem dX6_rule_136 : decode cX6_rule 136 = .ok (.pop, 1) := by decide +kernel
theorem dX6_rule_137 : decode cX6_rule 137 = .ok (.aload_n 0, 1) := by decide +kernel
theorem dX6_rule_138 : decode cX6_rule 138 = .ok (.getfield 16, 3) := by decide +kernel
theorem dX6_rule_141 : decode cX6_rule 141 = .ok (.iload_n 2, 1) := by decide +kernel
theorem dX6_rule_142 : decode cX6_rule 142 = .ok (.iload 6, 2) := by decide +kernel
theorem dX6_rule_144 : decode cX6_rule 144 = .ok (.iconst 2, 1) := by decide +kernel
theorem dX6_rule_145 : decode cX6_rule 145 = .ok (.idiv, 1) := by decide +kernel
theorem dX6_rule_146 : decode cX6_rule 146 = .ok (.iconst 1, 1) := by decide +kernel
theorem dX6_rule_147 : decode cX6_rule 147 = .ok (.if_icmp .ne 7, 3) := by decide +kernel
theorem dX6_rule_150 : decode cX6_rule 150 = .ok (.iconst 1, 1) := by decide +kernel
theorem dX6_rule_151 : decode cX6_rule 151 = .ok (.goto 4, 3) := by decide +kernel
theorem dX6_rule_154 : decode cX6_rule 154 = .ok (.iconst 0, 1) := by decide +kernel
theorem dX6_rule_155 : decode cX6_rule 155 = .ok (.invokestatic 163, 3) := by decide +kernel
theorem dX6_rule_158 : decode cX6_rule 158 = .ok (.pop, 1) := by decide +kernel
theorem dX6_rule_159 : decode cX6_rule 159 = .ok (.aload_n 0, 1) := by decide +kernel
theorem dX6_rule_160 : decode cX6_rule 160 = .ok (.getfield 16, 3) := by decide +kernel
theorem dX6_rule_163 : decode cX6_rule 163 = .ok (.bipush 60, 2) := by decide +kernel
theorem dX6_rule_165 : decode cX6_rule 165 = .ok (.invokestatic 97, 3) := by decide +kernel
theorem dX6_rule_168 : decode cX6_rule 168 = .ok (.aload_n 0, 1) := by decide +kernel
theorem dX6_rule_169 : decode cX6_rule 169 = .ok (.aload_n 0, 1) := by decide +kernel
theorem dX6_rule_170 : decode cX6_rule 170 = .ok (.getfield 16, 3) := by decide +kernel
theorem dX6_rule_173 : decode cX6_rule 173 = .ok (.invokevirtual 209, 3) := by decide +kernel
theorem dX6_rule_176 : decode cX6_rule 176 = .ok (.ifCond .ne 5, 3) := by decide +kernel
theorem dX6_rule_179 : decode cX6_rule 179 = .ok (.iconst (-1), 1) := by decide +kernel
theorem dX6_rule_180 : decode cX6_rule 180 = .ok (.ireturn, 1) := by decide +kernel
theorem dX6_rule_181 : decode cX6_rule 181 = .ok (.iload 5, 2) := by decide +kernel
theorem dX6_rule_183 : decode cX6_rule 183 = .ok (.aload_n 0, 1) := by decide +kernel
theorem dX6_rule_184 : decode cX6_rule 184 = .ok (.getfield 16, 3) := by decide +kernel
theorem dX6_rule_187 : decode cX6_rule 187 = .ok (.iload_n 3, 1) := by decide +kernel
theorem dX6_rule_188 : decode cX6_rule 188 = .ok (.iconst 3, 1) := by decide +kernel
theorem dX6_rule_189 : decode cX6_rule 189 = .ok (.invokestatic 48, 3) := by decide +kernel
theorem dX6_rule_192 : decode cX6_rule 192 = .ok (.ifCond .le 10, 3) := by decide +kernel
theorem dX6_rule_195 : decode cX6_rule 195 = .ok (.iconst 1, 1) := by decide +kernel
theorem dX6_rule_196 : decode cX6_rule 196 = .ok (.iload 6, 2) := by decide +kernel
theorem dX6_rule_198 : decode cX6_rule 198 = .ok (.ishl, 1) := by decide +kernel
theorem dX6_rule_199 : decode cX6_rule 199 = .ok (.goto 4, 3) := by decide +kernel
theorem dX6_rule_202 : decode cX6_rule 202 = .ok (.iconst 0, 1) := by decide +kernel
theorem dX6_rule_203 : decode cX6_rule 203 = .ok (.ior, 1) := by decide +kernel
theorem dX6_rule_204 : decode cX6_rule 204 = .ok (.istore 5, 2) := by decide +kernel
theorem dX6_rule_206 : decode cX6_rule 206 = .ok (.iinc 6 1, 3) := by decide +kernel
theorem dX6_rule_209 : decode cX6_rule 209 = .ok (.goto (-113), 3) := by decide +kernel
theorem dX6_rule_212 : decode cX6_rule 212 = .ok (.iload 5, 2) := by decide +kernel
theorem dX6_rule_214 : decode cX6_rule 214 = .ok (.ireturn, 1) := by decide +kernel
theorem dX6_beatWith_0 : decode cX6_beatWith 0 = .ok (.aload_n 0, 1) := by decide +kernel
theorem dX6_beatWith_1 : decode cX6_beatWith 1 = .ok (.getfield 13, 3) := by decide +kernel
theorem dX6_beatWith_4 : decode cX6_beatWith 4 = .ok (.iconst 0, 1) := by decide +kernel
theorem dX6_beatWith_5 : decode cX6_beatWith 5 = .ok (.aload_n 0, 1) := by decide +kernel
theorem dX6_beatWith_6 : decode cX6_beatWith 6 = .ok (.getfield 16, 3) := by decide +kernel
theorem dX6_beatWith_9 : decode cX6_beatWith 9 = .ok (.iconst 0, 1) := by decide +kernel
theorem dX6_beatWith_10 : decode cX6_beatWith 10 = .ok (.invokestatic 93, 3) := by decide +kernel
theorem dX6_beatWith_13 : decode cX6_beatWith 13 = .ok (.aload_n 0, 1) := by decide +kernel
theorem dX6_beatWith_14 : decode cX6_beatWith 14 = .ok (.getfield 16, 3) := by decide +kernel
theorem dX6_beatWith_17 : decode cX6_beatWith 17 = .ok (.bipush 76, 2) := by decide +kernel
theorem dX6_beatWith_19 : decode cX6_beatWith 19 = .ok (.bipush 12, 2) := by decide +kernel
theorem dX6_beatWith_21 : decode cX6_beatWith 21 = .ok (.iload_n 1, 1) := by decide +kernel
theorem dX6_beatWith_22 : decode cX6_beatWith 22 = .ok (.imul, 1) := by decide +kernel
theorem dX6_beatWith_23 : decode cX6_beatWith 23 = .ok (.iadd, 1) := by decide +kernel
theorem dX6_beatWith_24 : decode cX6_beatWith 24 = .ok (.iconst 5, 1) := by decide +kernel
theorem dX6_beatWith_25 : decode cX6_beatWith 25 = .ok (.iadd, 1) := by decide +kernel
theorem dX6_beatWith_26 : decode cX6_beatWith 26 = .ok (.iload_n 2, 1) := by decide +kernel
theorem dX6_beatWith_27 : decode cX6_beatWith 27 = .ok (.iastore, 1) := by decide +kernel
theorem dX6_beatWith_28 : decode cX6_beatWith 28 = .ok (.aload_n 0, 1) := by decide +kernel
theorem dX6_beatWith_29 : decode cX6_beatWith 29 = .ok (.iload_n 3, 1) := by decide +kernel
theorem dX6_beatWith_30 : decode cX6_beatWith 30 = .ok (.invokevirtual 212, 3) := by decide +kernel
theorem dX6_beatWith_33 : decode cX6_beatWith 33 = .ok (.ireturn, 1) := by decide +kernel
theorem dX6_ifLeak_0 : decode cX6_ifLeak 0 = .ok (.aload_n 0, 1) := by decide +kernel
theorem dX6_ifLeak_1 : decode cX6_ifLeak 1 = .ok (.aload_n 0, 1) := by decide +kernel
theorem dX6_ifLeak_2 : decode cX6_ifLeak 2 = .ok (.getfield 13, 3) := by decide +kernel
theorem dX6_ifLeak_5 : decode cX6_ifLeak 5 = .ok (.iload_n 1, 1) := by decide +kernel
theorem dX6_ifLeak_6 : decode cX6_ifLeak 6 = .ok (.invokestatic 167, 3) := by decide +kernel
theorem dX6_ifLeak_9 : decode cX6_ifLeak 9 = .ok (.ifCond .eq 14, 3) := by decide +kernel
theorem dX6_ifLeak_12 : decode cX6_ifLeak 12 = .ok (.aload_n 0, 1) := by decide +kernel
theorem dX6_ifLeak_13 : decode cX6_ifLeak 13 = .ok (.getfield 13, 3) := by decide +kernel
theorem dX6_ifLeak_16 : decode cX6_ifLeak 16 = .ok (.iload_n 3, 1) := by decide +kernel
theorem dX6_ifLeak_17 : decode cX6_ifLeak 17 = .ok (.invokestatic 44, 3) := by decide +kernel
theorem dX6_ifLeak_20 : decode cX6_ifLeak 20 = .ok (.ifCond .ne 7, 3) := by decide +kernel
theorem dX6_ifLeak_23 : decode cX6_ifLeak 23 = .ok (.iconst 1, 1) := by decide +kernel
theorem dX6_ifLeak_24 : decode cX6_ifLeak 24 = .ok (.goto 20, 3) := by decide +kernel
theorem dX6_ifLeak_27 : decode cX6_ifLeak 27 = .ok (.iload_n 2, 1) := by decide +kernel
theorem dX6_ifLeak_28 : decode cX6_ifLeak 28 = .ok (.i2l, 1) := by decide +kernel
theorem dX6_ifLeak_29 : decode cX6_ifLeak 29 = .ok (.lconst 0, 1) := by decide +kernel
theorem dX6_ifLeak_30 : decode cX6_ifLeak 30 = .ok (.ldc2_w 204, 3) := by decide +kernel
theorem dX6_ifLeak_33 : decode cX6_ifLeak 33 = .ok (.invokestatic 40, 3) := by decide +kernel
theorem dX6_ifLeak_36 : decode cX6_ifLeak 36 = .ok (.ifCond .eq 7, 3) := by decide +kernel
theorem dX6_ifLeak_39 : decode cX6_ifLeak 39 = .ok (.iconst 0, 1) := by decide +kernel
theorem dX6_ifLeak_40 : decode cX6_ifLeak 40 = .ok (.goto 4, 3) := by decide +kernel
theorem dX6_ifLeak_43 : decode cX6_ifLeak 43 = .ok (.iconst 2, 1) := by decide +kernel
theorem dX6_ifLeak_44 : decode cX6_ifLeak 44 = .ok (.invokevirtual 124, 3) := by decide +kernel
theorem dX6_ifLeak_47 : decode cX6_ifLeak 47 = .ok (.ifCond .eq 5, 3) := by decide +kernel
theorem dX6_ifLeak_50 : decode cX6_ifLeak 50 = .ok (.iconst 0, 1) := by decide +kernel
theorem dX6_ifLeak_51 : decode cX6_ifLeak 51 = .ok (.ireturn, 1) := by decide +kernel
theorem dX6_ifLeak_52 : decode cX6_ifLeak 52 = .ok (.aload_n 0, 1) := by decide +kernel
theorem dX6_ifLeak_53 : decode cX6_ifLeak 53 = .ok (.iload_n 1, 1) := by decide +kernel
theorem dX6_ifLeak_54 : decode cX6_ifLeak 54 = .ok (.iload_n 2, 1) := by decide +kernel
theorem dX6_ifLeak_55 : decode cX6_ifLeak 55 = .ok (.iload_n 3, 1) := by decide +kernel
theorem dX6_ifLeak_56 : decode cX6_ifLeak 56 = .ok (.invokevirtual 215, 3) := by decide +kernel
theorem dX6_ifLeak_59 : decode cX6_ifLeak 59 = .ok (.ireturn, 1) := by decide +kernel
theorem dX6_suspect_0 : decode cX6_suspect 0 = .ok (.aload_n 0, 1) := by decide +kernel
theorem dX6_suspect_1 : decode cX6_suspect 1 = .ok (.aload_n 0, 1) := by decide +kernel
theorem dX6_suspect_2 : decode cX6_suspect 2 = .ok (.getfield 13, 3) := by decide +kernel
theorem dX6_suspect_5 : decode cX6_suspect 5 = .ok (.iload_n 1, 1) := by decide +kernel
theorem dX6_suspect_6 : decode cX6_suspect 6 = .ok (.invokestatic 44, 3) := by decide +kernel
theorem dX6_suspect_9 : decode cX6_suspect 9 = .ok (.ifCond .ne 7, 3) := by decide +kernel
theorem dX6_suspect_12 : decode cX6_suspect 12 = .ok (.iconst 1, 1) := by decide +kernel
theorem dX6_suspect_13 : decode cX6_suspect 13 = .ok (.goto 25, 3) := by decide +kernel
theorem dX6_suspect_16 : decode cX6_suspect 16 = .ok (.iload_n 2, 1) := by decide +kernel
theorem dX6_suspect_17 : decode cX6_suspect 17 = .ok (.iconst (-1), 1) := by decide +kernel
theorem dX6_suspect_18 : decode cX6_suspect 18 = .ok (.if_icmp .eq 15, 3) := by decide +kernel
theorem dX6_suspect_21 : decode cX6_suspect 21 = .ok (.iload_n 2, 1) := by decide +kernel
theorem dX6_suspect_22 : decode cX6_suspect 22 = .ok (.i2l, 1) := by decide +kernel
theorem dX6_suspect_23 : decode cX6_suspect 23 = .ok (.lconst 1, 1) := by decide +kernel
theorem dX6_suspect_24 : decode cX6_suspect 24 = .ok (.ldc2_w 219, 3) := by decide +kernel
theorem dX6_suspect_27 : decode cX6_suspect 27 = .ok (.invokestatic 40, 3) := by decide +kernel
theorem dX6_suspect_30 : decode cX6_suspect 30 = .ok (.ifCond .eq 7, 3) := by decide +kernel
theorem dX6_suspect_33 : decode cX6_suspect 33 = .ok (.iconst 0, 1) := by decide +kernel
theorem dX6_suspect_34 : decode cX6_suspect 34 = .ok (.goto 4, 3) := by decide +kernel
theorem dX6_suspect_37 : decode cX6_suspect 37 = .ok (.iconst 2, 1) := by decide +kernel
theorem dX6_suspect_38 : decode cX6_suspect 38 = .ok (.invokevirtual 124, 3) := by decide +kernel
theorem dX6_suspect_41 : decode cX6_suspect 41 = .ok (.ifCond .eq 5, 3) := by decide +kernel
theorem dX6_suspect_44 : decode cX6_suspect 44 = .ok (.iconst 0, 1) := by decide +kernel
theorem dX6_suspect_45 : decode cX6_suspect 45 = .ok (.ireturn, 1) := by decide +kernel
theorem dX6_suspect_46 : decode cX6_suspect 46 = .ok (.iconst 0, 1) := by decide +kernel
theorem dX6_suspect_47 : decode cX6_suspect 47 = .ok (.istore_n 3, 1) := by decide +kernel
theorem dX6_suspect_48 : decode cX6_suspect 48 = .ok (.iload_n 3, 1) := by decide +kernel
theorem dX6_suspect_49 : decode cX6_suspect 49 = .ok (.aload_n 0, 1) := by decide +kernel
theorem dX6_suspect_50 : decode cX6_suspect 50 = .ok (.getfield 13, 3) := by decide +kernel
theorem dX6_suspect_53 : decode cX6_suspect 53 = .ok (.iconst 1, 1) := by decide +kernel
theorem dX6_suspect_54 : decode cX6_suspect 54 = .ok (.iaload, 1) := by decide +kernel
theorem dX6_suspect_55 : decode cX6_suspect 55 = .ok (.if_icmp .ge 51, 3) := by decide +kernel
theorem dX6_suspect_58 : decode cX6_suspect 58 = .ok (.iconst 1, 1) := by decide +kernel
theorem dX6_suspect_59 : decode cX6_suspect 59 = .ok (.istore 4, 2) := by decide +kernel
theorem dX6_suspect_61 : decode cX6_suspect 61 = .ok (.iload 4, 2) := by decide +kernel
theorem dX6_suspect_63 : decode cX6_suspect 63 = .ok (.bipush 30, 2) := by decide +kernel
theorem dX6_suspect_65 : decode cX6_suspect 65 = .ok (.if_icmp .gt 35, 3) := by decide +kernel
theorem dX6_suspect_68 : decode cX6_suspect 68 = .ok (.aload_n 0, 1) := by decide +kernel
theorem dX6_suspect_69 : decode cX6_suspect 69 = .ok (.getfield 13, 3) := by decide +kernel
theorem dX6_suspect_72 : decode cX6_suspect 72 = .ok (.iload_n 3, 1) := by decide +kernel
theorem dX6_suspect_73 : decode cX6_suspect 73 = .ok (.iconst 5, 1) := by decide +kernel
theorem dX6_suspect_74 : decode cX6_suspect 74 = .ok (.invokestatic 62, 3) := by decide +kernel
theorem dX6_suspect_77 : decode cX6_suspect 77 = .ok (.ifCond .ne 23, 3) := by decide +kernel
theorem dX6_suspect_80 : decode cX6_suspect 80 = .ok (.aload_n 0, 1) := by decide +kernel
theorem dX6_suspect_81 : decode cX6_suspect 81 = .ok (.iload_n 3, 1) := by decide +kernel
theorem dX6_suspect_82 : decode cX6_suspect 82 = .ok (.iload 4, 2) := by decide +kernel
theorem dX6_suspect_84 : decode cX6_suspect 84 = .ok (.iload_n 1, 1) := by decide +kernel
theorem dX6_suspect_85 : decode cX6_suspect 85 = .ok (.invokevirtual 215, 3) := by decide +kernel
theorem dX6_suspect_88 : decode cX6_suspect 88 = .ok (.iload_n 2, 1) := by decide +kernel
theorem dX6_suspect_89 : decode cX6_suspect 89 = .ok (.if_icmp .ne 5, 3) := by decide +kernel
theorem dX6_suspect_92 : decode cX6_suspect 92 = .ok (.iload_n 3, 1) := by decide +kernel
theorem dX6_suspect_93 : decode cX6_suspect 93 = .ok (.ireturn, 1) := by decide +kernel
theorem dX6_suspect_94 : decode cX6_suspect 94 = .ok (.iinc 4 1, 3) := by decide +kernel
theorem dX6_suspect_97 : decode cX6_suspect 97 = .ok (.goto (-36), 3) := by decide +kernel
theorem dX6_suspect_100 : decode cX6_suspect 100 = .ok (.iinc 3 1, 3) := by decide +kernel
theorem dX6_suspect_103 : decode cX6_suspect 103 = .ok (.goto (-55), 3) := by decide +kernel
theorem dX6_suspect_106 : decode cX6_suspect 106 = .ok (.iconst (-1), 1) := by decide +kernel
theorem dX6_suspect_107 : decode cX6_suspect 107 = .ok (.ireturn, 1) := by decide +kernel
theorem dX6_tightest_0 : decode cX6_tightest 0 = .ok (.aload_n 0, 1) := by decide +kernel
theorem dX6_tightest_1 : decode cX6_tightest 1 = .ok (.iconst 0, 1) := by decide +kernel
theorem dX6_tightest_2 : decode cX6_tightest 2 = .ok (.putfield 36, 3) := by decide +kernel
theorem dX6_tightest_5 : decode cX6_tightest 5 = .ok (.iconst (-1), 1) := by decide +kernel
theorem dX6_tightest_6 : decode cX6_tightest 6 = .ok (.istore_n 1, 1) := by decide +kernel
theorem dX6_tightest_7 : decode cX6_tightest 7 = .ok (.iconst 0, 1) := by decide +kernel
theorem dX6_tightest_8 : decode cX6_tightest 8 = .ok (.istore_n 2, 1) := by decide +kernel
theorem dX6_tightest_9 : decode cX6_tightest 9 = .ok (.iconst 0, 1) := by decide +kernel
theorem dX6_tightest_10 : decode cX6_tightest 10 = .ok (.istore_n 3, 1) := by decide +kernel
theorem dX6_tightest_11 : decode cX6_tightest 11 = .ok (.iload_n 3, 1) := by decide +kernel
theorem dX6_tightest_12 : decode cX6_tightest 12 = .ok (.aload_n 0, 1) := by decide +kernel
theorem dX6_tightest_13 : decode cX6_tightest 13 = .ok (.getfield 13, 3) := by decide +kernel
theorem dX6_tightest_16 : decode cX6_tightest 16 = .ok (.iconst 1, 1) := by decide +kernel
theorem dX6_tightest_17 : decode cX6_tightest 17 = .ok (.iaload, 1) := by decide +kernel
theorem dX6_tightest_18 : decode cX6_tightest 18 = .ok (.if_icmp .ge 112, 3) := by decide +kernel
theorem dX6_tightest_21 : decode cX6_tightest 21 = .ok (.aload_n 0, 1) := by decide +kernel
theorem dX6_tightest_22 : decode cX6_tightest 22 = .ok (.getfield 13, 3) := by decide +kernel
theorem dX6_tightest_25 : decode cX6_tightest 25 = .ok (.aload_n 0, 1) := by decide +kernel
theorem dX6_tightest_26 : decode cX6_tightest 26 = .ok (.getfield 13, 3) := by decide +kernel
theorem dX6_tightest_29 : decode cX6_tightest 29 = .ok (.iload_n 3, 1) := by decide +kernel
theorem dX6_tightest_30 : decode cX6_tightest 30 = .ok (.iconst 0, 1) := by decide +kernel
theorem dX6_tightest_31 : decode cX6_tightest 31 = .ok (.invokestatic 62, 3) := by decide +kernel
theorem dX6_tightest_34 : decode cX6_tightest 34 = .ok (.iconst 3, 1) := by decide +kernel
theorem dX6_tightest_35 : decode cX6_tightest 35 = .ok (.aload_n 0, 1) := by decide +kernel
theorem dX6_tightest_36 : decode cX6_tightest 36 = .ok (.getfield 13, 3) := by decide +kernel
theorem dX6_tightest_39 : decode cX6_tightest 39 = .ok (.iload_n 3, 1) := by decide +kernel
theorem dX6_tightest_40 : decode cX6_tightest 40 = .ok (.iconst 1, 1) := by decide +kernel
theorem dX6_tightest_41 : decode cX6_tightest 41 = .ok (.invokestatic 62, 3) := by decide +kernel
theorem dX6_tightest_44 : decode cX6_tightest 44 = .ok (.iadd, 1) := by decide +kernel
theorem dX6_tightest_45 : decode cX6_tightest 45 = .ok (.invokestatic 48, 3) := by decide +kernel
theorem dX6_tightest_48 : decode cX6_tightest 48 = .ok (.istore 4, 2) := by decide +kernel
theorem dX6_tightest_50 : decode cX6_tightest 50 = .ok (.aload_n 0, 1) := by decide +kernel
theorem dX6_tightest_51 : decode cX6_tightest 51 = .ok (.getfield 13, 3) := by decide +kernel
theorem dX6_tightest_54 : decode cX6_tightest 54 = .ok (.iload_n 3, 1) := by decide +kernel
theorem dX6_tightest_55 : decode cX6_tightest 55 = .ok (.invokestatic 191, 3) := by decide +kernel
theorem dX6_tightest_58 : decode cX6_tightest 58 = .ok (.istore 5, 2) := by decide +kernel
theorem dX6_tightest_60 : decode cX6_tightest 60 = .ok (.iload 5, 2) := by decide +kernel
theorem dX6_tightest_62 : decode cX6_tightest 62 = .ok (.iconst (-1), 1) := by decide +kernel
theorem dX6_tightest_63 : decode cX6_tightest 63 = .ok (.if_icmp .ne 8, 3) := by decide +kernel
theorem dX6_tightest_66 : decode cX6_tightest 66 = .ok (.bipush (-99), 2) := by decide +kernel
theorem dX6_tightest_68 : decode cX6_tightest 68 = .ok (.goto 8, 3) := by decide +kernel
theorem dX6_tightest_71 : decode cX6_tightest 71 = .ok (.iload 4, 2) := by decide +kernel
theorem dX6_tightest_73 : decode cX6_tightest 73 = .ok (.iload 5, 2) := by decide +kernel
theorem dX6_tightest_75 : decode cX6_tightest 75 = .ok (.isub, 1) := by decide +kernel
theorem dX6_tightest_76 : decode cX6_tightest 76 = .ok (.istore 6, 2) := by decide +kernel
theorem dX6_tightest_78 : decode cX6_tightest 78 = .ok (.iload 4, 2) := by decide +kernel
theorem dX6_tightest_80 : decode cX6_tightest 80 = .ok (.ifCond .le 18, 3) := by decide +kernel
theorem dX6_tightest_83 : decode cX6_tightest 83 = .ok (.iload_n 1, 1) := by decide +kernel
theorem dX6_tightest_84 : decode cX6_tightest 84 = .ok (.iconst (-1), 1) := by decide +kernel
theorem dX6_tightest_85 : decode cX6_tightest 85 = .ok (.if_icmp .eq 9, 3) := by decide +kernel
theorem dX6_tightest_88 : decode cX6_tightest 88 = .ok (.iload 6, 2) := by decide +kernel
theorem dX6_tightest_90 : decode cX6_tightest 90 = .ok (.iload_n 2, 1) := by decide +kernel
theorem dX6_tightest_91 : decode cX6_tightest 91 = .ok (.if_icmp .ge 7, 3) := by decide +kernel
theorem dX6_tightest_94 : decode cX6_tightest 94 = .ok (.iconst 1, 1) := by decide +kernel
theorem dX6_tightest_95 : decode cX6_tightest 95 = .ok (.goto 4, 3) := by decide +kernel
theorem dX6_tightest_98 : decode cX6_tightest 98 = .ok (.iconst 0, 1) := by decide +kernel
theorem dX6_tightest_99 : decode cX6_tightest 99 = .ok (.istore 7, 2) := by decide +kernel
theorem dX6_tightest_101 : decode cX6_tightest 101 = .ok (.iload 7, 2) := by decide +kernel
theorem dX6_tightest_103 : decode cX6_tightest 103 = .ok (.ifCond .eq 7, 3) := by decide +kernel
theorem dX6_tightest_106 : decode cX6_tightest 106 = .ok (.iload_n 3, 1) := by decide +kernel
theorem dX6_tightest_107 : decode cX6_tightest 107 = .ok (.goto 4, 3) := by decide +kernel
theorem dX6_tightest_110 : decode cX6_tightest 110 = .ok (.iload_n 1, 1) := by decide +kernel
theorem dX6_tightest_111 : decode cX6_tightest 111 = .ok (.istore_n 1, 1) := by decide +kernel
theorem dX6_tightest_112 : decode cX6_tightest 112 = .ok (.iload 7, 2) := by decide +kernel
theorem dX6_tightest_114 : decode cX6_tightest 114 = .ok (.ifCond .eq 8, 3) := by decide +kernel
theorem dX6_tightest_117 : decode cX6_tightest 117 = .ok (.iload 6, 2) := by decide +kernel
theorem dX6_tightest_119 : decode cX6_tightest 119 = .ok (.goto 4, 3) := by decide +kernel
theorem dX6_tightest_122 : decode cX6_tightest 122 = .ok (.iload_n 2, 1) := by decide +kernel
theorem dX6_tightest_123 : decode cX6_tightest 123 = .ok (.istore_n 2, 1) := by decide +kernel
theorem dX6_tightest_124 : decode cX6_tightest 124 = .ok (.iinc 3 1, 3) := by decide +kernel
theorem dX6_tightest_127 : decode cX6_tightest 127 = .ok (.goto (-116), 3) := by decide +kernel
theorem dX6_tightest_130 : decode cX6_tightest 130 = .ok (.iload_n 1, 1) := by decide +kernel
theorem dX6_tightest_131 : decode cX6_tightest 131 = .ok (.ireturn, 1) := by decide +kernel
theorem dX6_command_0 : decode cX6_command 0 = .ok (.iload_n 2, 1) := by decide +kernel
theorem dX6_command_1 : decode cX6_command 1 = .ok (.sipush 10000, 3) := by decide +kernel
theorem dX6_command_4 : decode cX6_command 4 = .ok (.idiv, 1) := by decide +kernel
theorem dX6_command_5 : decode cX6_command 5 = .ok (.istore_n 3, 1) := by decide +kernel
theorem dX6_command_6 : decode cX6_command 6 = .ok (.iload_n 2, 1) := by decide +kernel
theorem dX6_command_7 : decode cX6_command 7 = .ok (.sipush 1000, 3) := by decide +kernel
theorem dX6_command_10 : decode cX6_command 10 = .ok (.idiv, 1) := by decide +kernel
theorem dX6_command_11 : decode cX6_command 11 = .ok (.bipush 10, 2) := by decide +kernel
theorem dX6_command_13 : decode cX6_command 13 = .ok (.irem, 1) := by decide +kernel
theorem dX6_command_14 : decode cX6_command 14 = .ok (.istore 4, 2) := by decide +kernel
theorem dX6_command_16 : decode cX6_command 16 = .ok (.iload_n 2, 1) := by decide +kernel
theorem dX6_command_17 : decode cX6_command 17 = .ok (.sipush 1000, 3) := by decide +kernel
theorem dX6_command_20 : decode cX6_command 20 = .ok (.irem, 1) := by decide +kernel
theorem dX6_command_21 : decode cX6_command 21 = .ok (.istore 5, 2) := by decide +kernel
theorem dX6_command_23 : decode cX6_command 23 = .ok (.iload_n 2, 1) := by decide +kernel
theorem dX6_command_24 : decode cX6_command 24 = .ok (.sipush 1000, 3) := by decide +kernel
theorem dX6_command_27 : decode cX6_command 27 = .ok (.idiv, 1) := by decide +kernel
theorem dX6_command_28 : decode cX6_command 28 = .ok (.istore 6, 2) := by decide +kernel
theorem dX6_command_30 : decode cX6_command 30 = .ok (.iload_n 2, 1) := by decide +kernel
theorem dX6_command_31 : decode cX6_command 31 = .ok (.bipush 100, 2) := by decide +kernel
theorem dX6_command_33 : decode cX6_command 33 = .ok (.irem, 1) := by decide +kernel
theorem dX6_command_34 : decode cX6_command 34 = .ok (.istore 7, 2) := by decide +kernel
theorem dX6_command_36 : decode cX6_command 36 = .ok (.iload_n 2, 1) := by decide +kernel
theorem dX6_command_37 : decode cX6_command 37 = .ok (.bipush 10, 2) := by decide +kernel
theorem dX6_command_39 : decode cX6_command 39 = .ok (.irem, 1) := by decide +kernel
theorem dX6_command_40 : decode cX6_command 40 = .ok (.istore 8, 2) := by decide +kernel
theorem dX6_command_42 : decode cX6_command 42 = .ok (.iload_n 2, 1) := by decide +kernel
theorem dX6_command_43 : decode cX6_command 43 = .ok (.sipush 10000, 3) := by decide +kernel
theorem dX6_command_46 : decode cX6_command 46 = .ok (.irem, 1) := by decide +kernel
theorem dX6_command_47 : decode cX6_command 47 = .ok (.istore 9, 2) := by decide +kernel
theorem dX6_command_49 : decode cX6_command 49 = .ok (.iload_n 1, 1) := by decide +kernel
theorem dX6_command_50 : decode cX6_command 50 = .ok (.tableswitch 450 1 9 #[50, 80, 130, 190, 250, 287, 336, 391, 412], 50) := by decide +kernel
theorem dX6_command_100 : decode cX6_command 100 = .ok (.iload_n 2, 1) := by decide +kernel
theorem dX6_command_101 : decode cX6_command 101 = .ok (.i2l, 1) := by decide +kernel
theorem dX6_command_102 : decode cX6_command 102 = .ok (.lconst 1, 1) := by decide +kernel
theorem dX6_command_103 : decode cX6_command 103 = .ok (.ldc2_w 104, 3) := by decide +kernel
theorem dX6_command_106 : decode cX6_command 106 = .ok (.invokestatic 40, 3) := by decide +kernel
theorem dX6_command_109 : decode cX6_command 109 = .ok (.ifCond .eq 19, 3) := by decide +kernel
theorem dX6_command_112 : decode cX6_command 112 = .ok (.aload_n 0, 1) := by decide +kernel
theorem dX6_command_113 : decode cX6_command 113 = .ok (.aload_n 0, 1) := by decide +kernel
theorem dX6_command_114 : decode cX6_command 114 = .ok (.getfield 16, 3) := by decide +kernel
theorem dX6_command_117 : decode cX6_command 117 = .ok (.iload_n 2, 1) := by decide +kernel
theorem dX6_command_118 : decode cX6_command 118 = .ok (.invokevirtual 170, 3) := by decide +kernel
theorem dX6_command_121 : decode cX6_command 121 = .ok (.ifCond .lt 7, 3) := by decide +kernel
theorem dX6_command_124 : decode cX6_command 124 = .ok (.iconst 1, 1) := by decide +kernel
theorem dX6_command_125 : decode cX6_command 125 = .ok (.goto 4, 3) := by decide +kernel
theorem dX6_command_128 : decode cX6_command 128 = .ok (.iconst 0, 1) := by decide +kernel
theorem dX6_command_129 : decode cX6_command 129 = .ok (.ireturn, 1) := by decide +kernel
theorem dX6_command_130 : decode cX6_command 130 = .ok (.iload 5, 2) := by decide +kernel
theorem dX6_command_132 : decode cX6_command 132 = .ok (.ifCond .ne 46, 3) := by decide +kernel
theorem dX6_command_135 : decode cX6_command 135 = .ok (.iload 4, 2) := by decide +kernel
theorem dX6_command_137 : decode cX6_command 137 = .ok (.iconst 2, 1) := by decide +kernel
theorem dX6_command_138 : decode cX6_command 138 = .ok (.if_icmp .ge 40, 3) := by decide +kernel
theorem dX6_command_141 : decode cX6_command 141 = .ok (.aload_n 0, 1) := by decide +kernel
theorem dX6_command_142 : decode cX6_command 142 = .ok (.getfield 16, 3) := by decide +kernel
theorem dX6_command_145 : decode cX6_command 145 = .ok (.iload_n 3, 1) := by decide +kernel
theorem dX6_command_146 : decode cX6_command 146 = .ok (.invokestatic 160, 3) := by decide +kernel
theorem dX6_command_149 : decode cX6_command 149 = .ok (.ifCond .eq 29, 3) := by decide +kernel
theorem dX6_command_152 : decode cX6_command 152 = .ok (.aload_n 0, 1) := by decide +kernel
theorem dX6_command_153 : decode cX6_command 153 = .ok (.getfield 16, 3) := by decide +kernel
theorem dX6_command_156 : decode cX6_command 156 = .ok (.iload_n 3, 1) := by decide +kernel
theorem dX6_command_157 : decode cX6_command 157 = .ok (.iload 4, 2) := by decide +kernel
theorem dX6_command_159 : decode cX6_command 159 = .ok (.iconst 1, 1) := by decide +kernel
theorem dX6_command_160 : decode cX6_command 160 = .ok (.if_icmp .ne 7, 3) := by decide +kernel
theorem dX6_command_163 : decode cX6_command 163 = .ok (.iconst 1, 1) := by decide +kernel
theorem dX6_command_164 : decode cX6_command 164 = .ok (.goto 4, 3) := by decide +kernel
theorem dX6_command_167 : decode cX6_command 167 = .ok (.iconst 0, 1) := by decide +kernel
theorem dX6_command_168 : decode cX6_command 168 = .ok (.invokestatic 163, 3) := by decide +kernel
theorem dX6_command_171 : decode cX6_command 171 = .ok (.ifCond .lt 7, 3) := by decide +kernel
theorem dX6_command_174 : decode cX6_command 174 = .ok (.iconst 1, 1) := by decide +kernel
theorem dX6_command_175 : decode cX6_command 175 = .ok (.goto 4, 3) := by decide +kernel
theorem dX6_command_178 : decode cX6_command 178 = .ok (.iconst 0, 1) := by decide +kernel
theorem dX6_command_179 : decode cX6_command 179 = .ok (.ireturn, 1) := by decide +kernel
theorem dX6_command_180 : decode cX6_command 180 = .ok (.iload 5, 2) := by decide +kernel
theorem dX6_command_182 : decode cX6_command 182 = .ok (.bipush 100, 2) := by decide +kernel
theorem dX6_command_184 : decode cX6_command 184 = .ok (.if_icmp .ge 54, 3) := by decide +kernel
theorem dX6_command_187 : decode cX6_command 187 = .ok (.aload_n 0, 1) := by decide +kernel
theorem dX6_command_188 : decode cX6_command 188 = .ok (.getfield 16, 3) := by decide +kernel
theorem dX6_command_191 : decode cX6_command 191 = .ok (.iload 6, 2) := by decide +kernel
theorem dX6_command_193 : decode cX6_command 193 = .ok (.invokestatic 167, 3) := by decide +kernel
theorem dX6_command_196 : decode cX6_command 196 = .ok (.ifCond .eq 42, 3) := by decide +kernel
theorem dX6_command_199 : decode cX6_command 199 = .ok (.iload 7, 2) := by decide +kernel
theorem dX6_command_201 : decode cX6_command 201 = .ok (.i2l, 1) := by decide +kernel
theorem dX6_command_202 : decode cX6_command 202 = .ok (.lconst 0, 1) := by decide +kernel
theorem dX6_command_203 : decode cX6_command 203 = .ok (.ldc2_w 204, 3) := by decide +kernel
theorem dX6_command_206 : decode cX6_command 206 = .ok (.invokestatic 40, 3) := by decide +kernel
theorem dX6_command_209 : decode cX6_command 209 = .ok (.ifCond .eq 29, 3) := by decide +kernel
theorem dX6_command_212 : decode cX6_command 212 = .ok (.aload_n 0, 1) := by decide +kernel
theorem dX6_command_213 : decode cX6_command 213 = .ok (.getfield 16, 3) := by decide +kernel
theorem dX6_command_216 : decode cX6_command 216 = .ok (.bipush 76, 2) := by decide +kernel
theorem dX6_command_218 : decode cX6_command 218 = .ok (.bipush 12, 2) := by decide +kernel
theorem dX6_command_220 : decode cX6_command 220 = .ok (.iload 6, 2) := by decide +kernel
theorem dX6_command_222 : decode cX6_command 222 = .ok (.imul, 1) := by decide +kernel
theorem dX6_command_223 : decode cX6_command 223 = .ok (.iadd, 1) := by decide +kernel
theorem dX6_command_224 : decode cX6_command 224 = .ok (.iconst 5, 1) := by decide +kernel
theorem dX6_command_225 : decode cX6_command 225 = .ok (.iadd, 1) := by decide +kernel
theorem dX6_command_226 : decode cX6_command 226 = .ok (.iload 7, 2) := by decide +kernel
theorem dX6_command_228 : decode cX6_command 228 = .ok (.invokestatic 116, 3) := by decide +kernel
theorem dX6_command_231 : decode cX6_command 231 = .ok (.ifCond .lt 7, 3) := by decide +kernel
theorem dX6_command_234 : decode cX6_command 234 = .ok (.iconst 1, 1) := by decide +kernel
theorem dX6_command_235 : decode cX6_command 235 = .ok (.goto 4, 3) := by decide +kernel
theorem dX6_command_238 : decode cX6_command 238 = .ok (.iconst 0, 1) := by decide +kernel
theorem dX6_command_239 : decode cX6_command 239 = .ok (.ireturn, 1) := by decide +kernel
theorem dX6_command_240 : decode cX6_command 240 = .ok (.iload 9, 2) := by decide +kernel
theorem dX6_command_242 : decode cX6_command 242 = .ok (.bipush 100, 2) := by decide +kernel
theorem dX6_command_244 : decode cX6_command 244 = .ok (.if_icmp .ge 54, 3) := by decide +kernel
theorem dX6_command_247 : decode cX6_command 247 = .ok (.aload_n 0, 1) := by decide +kernel
theorem dX6_command_248 : decode cX6_command 248 = .ok (.getfield 16, 3) := by decide +kernel
theorem dX6_command_251 : decode cX6_command 251 = .ok (.iload_n 3, 1) := by decide +kernel
theorem dX6_command_252 : decode cX6_command 252 = .ok (.invokestatic 44, 3) := by decide +kernel
theorem dX6_command_255 : decode cX6_command 255 = .ok (.ifCond .eq 43, 3) := by decide +kernel
theorem dX6_command_258 : decode cX6_command 258 = .ok (.iload 7, 2) := by decide +kernel
theorem dX6_command_260 : decode cX6_command 260 = .ok (.i2l, 1) := by decide +kernel
theorem dX6_command_261 : decode cX6_command 261 = .ok (.ldc2_w 102, 3) := by decide +kernel
theorem dX6_command_264 : decode cX6_command 264 = .ok (.ldc2_w 104, 3) := by decide +kernel
theorem dX6_command_267 : decode cX6_command 267 = .ok (.invokestatic 40, 3) := by decide +kernel
theorem dX6_command_270 : decode cX6_command 270 = .ok (.ifCond .eq 28, 3) := by decide +kernel
theorem dX6_command_273 : decode cX6_command 273 = .ok (.aload_n 0, 1) := by decide +kernel
theorem dX6_command_274 : decode cX6_command 274 = .ok (.getfield 16, 3) := by decide +kernel
theorem dX6_command_277 : decode cX6_command 277 = .ok (.bipush 6, 2) := by decide +kernel
theorem dX6_command_279 : decode cX6_command 279 = .ok (.bipush 7, 2) := by decide +kernel
theorem dX6_command_281 : decode cX6_command 281 = .ok (.iload_n 3, 1) := by decide +kernel
theorem dX6_command_282 : decode cX6_command 282 = .ok (.imul, 1) := by decide +kernel
theorem dX6_command_283 : decode cX6_command 283 = .ok (.iadd, 1) := by decide +kernel
theorem dX6_command_284 : decode cX6_command 284 = .ok (.iconst 1, 1) := by decide +kernel
theorem dX6_command_285 : decode cX6_command 285 = .ok (.iadd, 1) := by decide +kernel
theorem dX6_command_286 : decode cX6_command 286 = .ok (.iload 7, 2) := by decide +kernel
theorem dX6_command_288 : decode cX6_command 288 = .ok (.invokestatic 116, 3) := by decide +kernel
theorem dX6_command_291 : decode cX6_command 291 = .ok (.ifCond .lt 7, 3) := by decide +kernel
theorem dX6_command_294 : decode cX6_command 294 = .ok (.iconst 1, 1) := by decide +kernel
theorem dX6_command_295 : decode cX6_command 295 = .ok (.goto 4, 3) := by decide +kernel
theorem dX6_command_298 : decode cX6_command 298 = .ok (.iconst 0, 1) := by decide +kernel
theorem dX6_command_299 : decode cX6_command 299 = .ok (.ireturn, 1) := by decide +kernel
theorem dX6_command_300 : decode cX6_command 300 = .ok (.iload 9, 2) := by decide +kernel
theorem dX6_command_302 : decode cX6_command 302 = .ok (.bipush 100, 2) := by decide +kernel
theorem dX6_command_304 : decode cX6_command 304 = .ok (.if_icmp .ge 31, 3) := by decide +kernel
theorem dX6_command_307 : decode cX6_command 307 = .ok (.iload_n 3, 1) := by decide +kernel
theorem dX6_command_308 : decode cX6_command 308 = .ok (.iload 7, 2) := by decide +kernel
theorem dX6_command_310 : decode cX6_command 310 = .ok (.invokestatic 206, 3) := by decide +kernel
theorem dX6_command_313 : decode cX6_command 313 = .ok (.ifCond .eq 22, 3) := by decide +kernel
theorem dX6_command_316 : decode cX6_command 316 = .ok (.aload_n 0, 1) := by decide +kernel
theorem dX6_command_317 : decode cX6_command 317 = .ok (.getfield 16, 3) := by decide +kernel
theorem dX6_command_320 : decode cX6_command 320 = .ok (.iconst 4, 1) := by decide +kernel
theorem dX6_command_321 : decode cX6_command 321 = .ok (.iload_n 3, 1) := by decide +kernel
theorem dX6_command_322 : decode cX6_command 322 = .ok (.iadd, 1) := by decide +kernel
theorem dX6_command_323 : decode cX6_command 323 = .ok (.iload 7, 2) := by decide +kernel
theorem dX6_command_325 : decode cX6_command 325 = .ok (.invokestatic 116, 3) := by decide +kernel
theorem dX6_command_328 : decode cX6_command 328 = .ok (.ifCond .lt 7, 3) := by decide +kernel
theorem dX6_command_331 : decode cX6_command 331 = .ok (.iconst 1, 1) := by decide +kernel
theorem dX6_command_332 : decode cX6_command 332 = .ok (.goto 4, 3) := by decide +kernel
theorem dX6_command_335 : decode cX6_command 335 = .ok (.iconst 0, 1) := by decide +kernel
theorem dX6_command_336 : decode cX6_command 336 = .ok (.ireturn, 1) := by decide +kernel
theorem dX6_command_337 : decode cX6_command 337 = .ok (.iload 5, 2) := by decide +kernel
theorem dX6_command_339 : decode cX6_command 339 = .ok (.bipush 100, 2) := by decide +kernel
theorem dX6_command_341 : decode cX6_command 341 = .ok (.if_icmp .ge 43, 3) := by decide +kernel
theorem dX6_command_344 : decode cX6_command 344 = .ok (.aload_n 0, 1) := by decide +kernel
theorem dX6_command_345 : decode cX6_command 345 = .ok (.getfield 16, 3) := by decide +kernel
theorem dX6_command_348 : decode cX6_command 348 = .ok (.iload_n 3, 1) := by decide +kernel
theorem dX6_command_349 : decode cX6_command 349 = .ok (.invokestatic 44, 3) := by decide +kernel
theorem dX6_command_352 : decode cX6_command 352 = .ok (.ifCond .eq 32, 3) := by decide +kernel
theorem dX6_command_355 : decode cX6_command 355 = .ok (.iload 4, 2) := by decide +kernel
theorem dX6_command_357 : decode cX6_command 357 = .ok (.invokestatic 106, 3) := by decide +kernel
theorem dX6_command_360 : decode cX6_command 360 = .ok (.ifCond .eq 24, 3) := by decide +kernel
theorem dX6_command_363 : decode cX6_command 363 = .ok (.aload_n 0, 1) := by decide +kernel
theorem dX6_command_364 : decode cX6_command 364 = .ok (.getfield 16, 3) := by decide +kernel
theorem dX6_command_367 : decode cX6_command 367 = .ok (.iload_n 3, 1) := by decide +kernel
theorem dX6_command_368 : decode cX6_command 368 = .ok (.iconst 3, 1) := by decide +kernel
theorem dX6_command_369 : decode cX6_command 369 = .ok (.iload 4, 2) := by decide +kernel
theorem dX6_command_371 : decode cX6_command 371 = .ok (.iadd, 1) := by decide +kernel
theorem dX6_command_372 : decode cX6_command 372 = .ok (.invokestatic 48, 3) := by decide +kernel
theorem dX6_command_375 : decode cX6_command 375 = .ok (.iload 7, 2) := by decide +kernel
theorem dX6_command_377 : decode cX6_command 377 = .ok (.if_icmp .lt 7, 3) := by decide +kernel
theorem dX6_command_380 : decode cX6_command 380 = .ok (.iconst 1, 1) := by decide +kernel
theorem dX6_command_381 : decode cX6_command 381 = .ok (.goto 4, 3) := by decide +kernel
theorem dX6_command_384 : decode cX6_command 384 = .ok (.iconst 0, 1) := by decide +kernel
theorem dX6_command_385 : decode cX6_command 385 = .ok (.ireturn, 1) := by decide +kernel
theorem dX6_command_386 : decode cX6_command 386 = .ok (.iload 5, 2) := by decide +kernel
theorem dX6_command_388 : decode cX6_command 388 = .ok (.bipush 10, 2) := by decide +kernel
theorem dX6_command_390 : decode cX6_command 390 = .ok (.if_icmp .ge 49, 3) := by decide +kernel
theorem dX6_command_393 : decode cX6_command 393 = .ok (.aload_n 0, 1) := by decide +kernel
theorem dX6_command_394 : decode cX6_command 394 = .ok (.getfield 16, 3) := by decide +kernel
theorem dX6_command_397 : decode cX6_command 397 = .ok (.iload_n 3, 1) := by decide +kernel
theorem dX6_command_398 : decode cX6_command 398 = .ok (.invokestatic 44, 3) := by decide +kernel
theorem dX6_command_401 : decode cX6_command 401 = .ok (.ifCond .eq 38, 3) := by decide +kernel
theorem dX6_command_404 : decode cX6_command 404 = .ok (.iload 4, 2) := by decide +kernel
theorem dX6_command_406 : decode cX6_command 406 = .ok (.invokestatic 106, 3) := by decide +kernel
theorem dX6_command_409 : decode cX6_command 409 = .ok (.ifCond .eq 30, 3) := by decide +kernel
theorem dX6_command_412 : decode cX6_command 412 = .ok (.aload_n 0, 1) := by decide +kernel
theorem dX6_command_413 : decode cX6_command 413 = .ok (.getfield 16, 3) := by decide +kernel
theorem dX6_command_416 : decode cX6_command 416 = .ok (.iload_n 3, 1) := by decide +kernel
theorem dX6_command_417 : decode cX6_command 417 = .ok (.iload 4, 2) := by decide +kernel
theorem dX6_command_419 : decode cX6_command 419 = .ok (.invokestatic 69, 3) := by decide +kernel
theorem dX6_command_422 : decode cX6_command 422 = .ok (.ifCond .eq 7, 3) := by decide +kernel
theorem dX6_command_425 : decode cX6_command 425 = .ok (.iconst 1, 1) := by decide +kernel
theorem dX6_command_426 : decode cX6_command 426 = .ok (.goto 4, 3) := by decide +kernel
theorem dX6_command_429 : decode cX6_command 429 = .ok (.iconst 0, 1) := by decide +kernel
theorem dX6_command_430 : decode cX6_command 430 = .ok (.iload 8, 2) := by decide +kernel
theorem dX6_command_432 : decode cX6_command 432 = .ok (.if_icmp .ne 7, 3) := by decide +kernel
theorem dX6_command_435 : decode cX6_command 435 = .ok (.iconst 1, 1) := by decide +kernel
theorem dX6_command_436 : decode cX6_command 436 = .ok (.goto 4, 3) := by decide +kernel
theorem dX6_command_439 : decode cX6_command 439 = .ok (.iconst 0, 1) := by decide +kernel
theorem dX6_command_440 : decode cX6_command 440 = .ok (.ireturn, 1) := by decide +kernel
theorem dX6_command_441 : decode cX6_command 441 = .ok (.iload_n 2, 1) := by decide +kernel
theorem dX6_command_442 : decode cX6_command 442 = .ok (.ifCond .ne 18, 3) := by decide +kernel
theorem dX6_command_445 : decode cX6_command 445 = .ok (.aload_n 0, 1) := by decide +kernel
theorem dX6_command_446 : decode cX6_command 446 = .ok (.aload_n 0, 1) := by decide +kernel
theorem dX6_command_447 : decode cX6_command 447 = .ok (.getfield 16, 3) := by decide +kernel
theorem dX6_command_450 : decode cX6_command 450 = .ok (.invokevirtual 209, 3) := by decide +kernel
theorem dX6_command_453 : decode cX6_command 453 = .ok (.ifCond .eq 7, 3) := by decide +kernel
theorem dX6_command_456 : decode cX6_command 456 = .ok (.iconst 1, 1) := by decide +kernel
theorem dX6_command_457 : decode cX6_command 457 = .ok (.goto 4, 3) := by decide +kernel
theorem dX6_command_460 : decode cX6_command 460 = .ok (.iconst 0, 1) := by decide +kernel
theorem dX6_command_461 : decode cX6_command 461 = .ok (.ireturn, 1) := by decide +kernel
theorem dX6_command_462 : decode cX6_command 462 = .ok (.iload 9, 2) := by decide +kernel
theorem dX6_command_464 : decode cX6_command 464 = .ok (.bipush 10, 2) := by decide +kernel
theorem dX6_command_466 : decode cX6_command 466 = .ok (.if_icmp .ge 32, 3) := by decide +kernel
theorem dX6_command_469 : decode cX6_command 469 = .ok (.aload_n 0, 1) := by decide +kernel
theorem dX6_command_470 : decode cX6_command 470 = .ok (.getfield 16, 3) := by decide +kernel
theorem dX6_command_473 : decode cX6_command 473 = .ok (.iload_n 3, 1) := by decide +kernel
theorem dX6_command_474 : decode cX6_command 474 = .ok (.invokestatic 44, 3) := by decide +kernel
theorem dX6_command_477 : decode cX6_command 477 = .ok (.ifCond .eq 21, 3) := by decide +kernel
theorem dX6_command_480 : decode cX6_command 480 = .ok (.aload_n 0, 1) := by decide +kernel
theorem dX6_command_481 : decode cX6_command 481 = .ok (.getfield 16, 3) := by decide +kernel
theorem dX6_command_484 : decode cX6_command 484 = .ok (.iload_n 3, 1) := by decide +kernel
theorem dX6_command_485 : decode cX6_command 485 = .ok (.iconst 2, 1) := by decide +kernel
theorem dX6_command_486 : decode cX6_command 486 = .ok (.invokestatic 48, 3) := by decide +kernel
theorem dX6_command_489 : decode cX6_command 489 = .ok (.iload 8, 2) := by decide +kernel
theorem dX6_command_491 : decode cX6_command 491 = .ok (.if_icmp .ne 7, 3) := by decide +kernel
theorem dX6_command_494 : decode cX6_command 494 = .ok (.iconst 1, 1) := by decide +kernel
theorem dX6_command_495 : decode cX6_command 495 = .ok (.goto 4, 3) := by decide +kernel
theorem dX6_command_498 : decode cX6_command 498 = .ok (.iconst 0, 1) := by decide +kernel
theorem dX6_command_499 : decode cX6_command 499 = .ok (.ireturn, 1) := by decide +kernel
theorem dX6_command_500 : decode cX6_command 500 = .ok (.iconst 0, 1) := by decide +kernel
theorem dX6_command_501 : decode cX6_command 501 = .ok (.ireturn, 1) := by decide +kernel
theorem dX6_runScript_0 : decode cX6_runScript 0 = .ok (.lconst 1, 1) := by decide +kernel
theorem dX6_runScript_1 : decode cX6_runScript 1 = .ok (.lstore 4, 2) := by decide +kernel
theorem dX6_runScript_3 : decode cX6_runScript 3 = .ok (.iconst 0, 1) := by decide +kernel
theorem dX6_runScript_4 : decode cX6_runScript 4 = .ok (.istore 6, 2) := by decide +kernel
theorem dX6_runScript_6 : decode cX6_runScript 6 = .ok (.iload 6, 2) := by decide +kernel
theorem dX6_runScript_8 : decode cX6_runScript 8 = .ok (.iload_n 1, 1) := by decide +kernel
theorem dX6_runScript_9 : decode cX6_runScript 9 = .ok (.if_icmp .ge 23, 3) := by decide +kernel
theorem dX6_runScript_12 : decode cX6_runScript 12 = .ok (.iload 6, 2) := by decide +kernel
theorem dX6_runScript_14 : decode cX6_runScript 14 = .ok (.iconst 3, 1) := by decide +kernel
theorem dX6_runScript_15 : decode cX6_runScript 15 = .ok (.if_icmp .ge 17, 3) := by decide +kernel
theorem dX6_runScript_18 : decode cX6_runScript 18 = .ok (.lload 4, 2) := by decide +kernel
theorem dX6_runScript_20 : decode cX6_runScript 20 = .ok (.ldc2_w 221, 3) := by decide +kernel
theorem dX6_runScript_23 : decode cX6_runScript 23 = .ok (.lmul, 1) := by decide +kernel
theorem dX6_runScript_24 : decode cX6_runScript 24 = .ok (.lstore 4, 2) := by decide +kernel
theorem dX6_runScript_26 : decode cX6_runScript 26 = .ok (.iinc 6 1, 3) := by decide +kernel
theorem dX6_runScript_29 : decode cX6_runScript 29 = .ok (.goto (-23), 3) := by decide +kernel
theorem dX6_runScript_32 : decode cX6_runScript 32 = .ok (.aload_n 0, 1) := by decide +kernel
theorem dX6_runScript_33 : decode cX6_runScript 33 = .ok (.iload_n 1, 1) := by decide +kernel
theorem dX6_runScript_34 : decode cX6_runScript 34 = .ok (.i2l, 1) := by decide +kernel
theorem dX6_runScript_35 : decode cX6_runScript 35 = .ok (.lconst 1, 1) := by decide +kernel
theorem dX6_runScript_36 : decode cX6_runScript 36 = .ok (.ldc2_w 223, 3) := by decide +kernel
theorem dX6_runScript_39 : decode cX6_runScript 39 = .ok (.invokestatic 40, 3) := by decide +kernel
theorem dX6_runScript_42 : decode cX6_runScript 42 = .ok (.ifCond .eq 19, 3) := by decide +kernel
theorem dX6_runScript_45 : decode cX6_runScript 45 = .ok (.lload_n 2, 1) := by decide +kernel
theorem dX6_runScript_46 : decode cX6_runScript 46 = .ok (.lconst 0, 1) := by decide +kernel
theorem dX6_runScript_47 : decode cX6_runScript 47 = .ok (.lload 4, 2) := by decide +kernel
theorem dX6_runScript_49 : decode cX6_runScript 49 = .ok (.lconst 1, 1) := by decide +kernel
theorem dX6_runScript_50 : decode cX6_runScript 50 = .ok (.lsub, 1) := by decide +kernel
theorem dX6_runScript_51 : decode cX6_runScript 51 = .ok (.invokestatic 40, 3) := by decide +kernel
theorem dX6_runScript_54 : decode cX6_runScript 54 = .ok (.ifCond .eq 7, 3) := by decide +kernel
theorem dX6_runScript_57 : decode cX6_runScript 57 = .ok (.iconst 0, 1) := by decide +kernel
theorem dX6_runScript_58 : decode cX6_runScript 58 = .ok (.goto 4, 3) := by decide +kernel
theorem dX6_runScript_61 : decode cX6_runScript 61 = .ok (.iconst 1, 1) := by decide +kernel
theorem dX6_runScript_62 : decode cX6_runScript 62 = .ok (.invokevirtual 124, 3) := by decide +kernel
theorem dX6_runScript_65 : decode cX6_runScript 65 = .ok (.ifCond .eq 5, 3) := by decide +kernel
theorem dX6_runScript_68 : decode cX6_runScript 68 = .ok (.iconst 0, 1) := by decide +kernel
theorem dX6_runScript_69 : decode cX6_runScript 69 = .ok (.ireturn, 1) := by decide +kernel
theorem dX6_runScript_70 : decode cX6_runScript 70 = .ok (.aload_n 0, 1) := by decide +kernel
theorem dX6_runScript_71 : decode cX6_runScript 71 = .ok (.getfield 13, 3) := by decide +kernel
theorem dX6_runScript_74 : decode cX6_runScript 74 = .ok (.iconst 0, 1) := by decide +kernel
theorem dX6_runScript_75 : decode cX6_runScript 75 = .ok (.aload_n 0, 1) := by decide +kernel
theorem dX6_runScript_76 : decode cX6_runScript 76 = .ok (.getfield 16, 3) := by decide +kernel
theorem dX6_runScript_79 : decode cX6_runScript 79 = .ok (.iconst 0, 1) := by decide +kernel
theorem dX6_runScript_80 : decode cX6_runScript 80 = .ok (.invokestatic 93, 3) := by decide +kernel
theorem dX6_runScript_83 : decode cX6_runScript 83 = .ok (.iconst 0, 1) := by decide +kernel
theorem dX6_runScript_84 : decode cX6_runScript 84 = .ok (.istore 6, 2) := by decide +kernel
theorem dX6_runScript_86 : decode cX6_runScript 86 = .ok (.iload 6, 2) := by decide +kernel
theorem dX6_runScript_88 : decode cX6_runScript 88 = .ok (.iload_n 1, 1) := by decide +kernel
theorem dX6_runScript_89 : decode cX6_runScript 89 = .ok (.if_icmp .ge 48, 3) := by decide +kernel
theorem dX6_runScript_92 : decode cX6_runScript 92 = .ok (.lload 4, 2) := by decide +kernel
theorem dX6_runScript_94 : decode cX6_runScript 94 = .ok (.ldc2_w 221, 3) := by decide +kernel
theorem dX6_runScript_97 : decode cX6_runScript 97 = .ok (.ldiv, 1) := by decide +kernel
theorem dX6_runScript_98 : decode cX6_runScript 98 = .ok (.lstore 4, 2) := by decide +kernel
theorem dX6_runScript_100 : decode cX6_runScript 100 = .ok (.lload_n 2, 1) := by decide +kernel
theorem dX6_runScript_101 : decode cX6_runScript 101 = .ok (.lload 4, 2) := by decide +kernel
theorem dX6_runScript_103 : decode cX6_runScript 103 = .ok (.ldiv, 1) := by decide +kernel
theorem dX6_runScript_104 : decode cX6_runScript 104 = .ok (.ldc2_w 221, 3) := by decide +kernel
theorem dX6_runScript_107 : decode cX6_runScript 107 = .ok (.lrem, 1) := by decide +kernel
theorem dX6_runScript_108 : decode cX6_runScript 108 = .ok (.l2i, 1) := by decide +kernel
theorem dX6_runScript_109 : decode cX6_runScript 109 = .ok (.istore 7, 2) := by decide +kernel
theorem dX6_runScript_111 : decode cX6_runScript 111 = .ok (.aload_n 0, 1) := by decide +kernel
theorem dX6_runScript_112 : decode cX6_runScript 112 = .ok (.iload 7, 2) := by decide +kernel
theorem dX6_runScript_114 : decode cX6_runScript 114 = .ok (.ldc 225, 2) := by decide +kernel
theorem dX6_runScript_116 : decode cX6_runScript 116 = .ok (.idiv, 1) := by decide +kernel
theorem dX6_runScript_117 : decode cX6_runScript 117 = .ok (.iload 7, 2) := by decide +kernel
theorem dX6_runScript_119 : decode cX6_runScript 119 = .ok (.ldc 225, 2) := by decide +kernel
theorem dX6_runScript_121 : decode cX6_runScript 121 = .ok (.irem, 1) := by decide +kernel
theorem dX6_runScript_122 : decode cX6_runScript 122 = .ok (.invokevirtual 226, 3) := by decide +kernel
theorem dX6_runScript_125 : decode cX6_runScript 125 = .ok (.ifCond .ne 6, 3) := by decide +kernel
theorem dX6_runScript_128 : decode cX6_runScript 128 = .ok (.iload 6, 2) := by decide +kernel
theorem dX6_runScript_130 : decode cX6_runScript 130 = .ok (.ireturn, 1) := by decide +kernel
theorem dX6_runScript_131 : decode cX6_runScript 131 = .ok (.iinc 6 1, 3) := by decide +kernel
theorem dX6_runScript_134 : decode cX6_runScript 134 = .ok (.goto (-48), 3) := by decide +kernel
theorem dX6_runScript_137 : decode cX6_runScript 137 = .ok (.iconst (-1), 1) := by decide +kernel
theorem dX6_runScript_138 : decode cX6_runScript 138 = .ok (.ireturn, 1) := by decide +kernel
theorem dX6_turnDuct_0 : decode cX6_turnDuct 0 = .ok (.aload_n 0, 1) := by decide +kernel
theorem dX6_turnDuct_1 : decode cX6_turnDuct 1 = .ok (.iload_n 1, 1) := by decide +kernel
theorem dX6_turnDuct_2 : decode cX6_turnDuct 2 = .ok (.bipush 10, 2) := by decide +kernel
theorem dX6_turnDuct_4 : decode cX6_turnDuct 4 = .ok (.irem, 1) := by decide +kernel
theorem dX6_turnDuct_5 : decode cX6_turnDuct 5 = .ok (.iload_n 1, 1) := by decide +kernel
theorem dX6_turnDuct_6 : decode cX6_turnDuct 6 = .ok (.bipush 16, 2) := by decide +kernel
theorem dX6_turnDuct_8 : decode cX6_turnDuct 8 = .ok (.idiv, 1) := by decide +kernel
theorem dX6_turnDuct_9 : decode cX6_turnDuct 9 = .ok (.iconst 2, 1) := by decide +kernel
theorem dX6_turnDuct_10 : decode cX6_turnDuct 10 = .ok (.irem, 1) := by decide +kernel
theorem dX6_turnDuct_11 : decode cX6_turnDuct 11 = .ok (.iload_n 1, 1) := by decide +kernel
theorem dX6_turnDuct_12 : decode cX6_turnDuct 12 = .ok (.bipush 32, 2) := by decide +kernel
theorem dX6_turnDuct_14 : decode cX6_turnDuct 14 = .ok (.idiv, 1) := by decide +kernel
theorem dX6_turnDuct_15 : decode cX6_turnDuct 15 = .ok (.bipush 10, 2) := by decide +kernel
theorem dX6_turnDuct_17 : decode cX6_turnDuct 17 = .ok (.irem, 1) := by decide +kernel
theorem dX6_turnDuct_18 : decode cX6_turnDuct 18 = .ok (.iload_n 1, 1) := by decide +kernel
theorem dX6_turnDuct_19 : decode cX6_turnDuct 19 = .ok (.sipush 512, 3) := by decide +kernel
theorem dX6_turnDuct_22 : decode cX6_turnDuct 22 = .ok (.idiv, 1) := by decide +kernel
theorem dX6_turnDuct_23 : decode cX6_turnDuct 23 = .ok (.iconst 2, 1) := by decide +kernel
theorem dX6_turnDuct_24 : decode cX6_turnDuct 24 = .ok (.irem, 1) := by decide +kernel
theorem dX6_turnDuct_25 : decode cX6_turnDuct 25 = .ok (.iconst 1, 1) := by decide +kernel
theorem dX6_turnDuct_26 : decode cX6_turnDuct 26 = .ok (.iload_n 1, 1) := by decide +kernel
theorem dX6_turnDuct_27 : decode cX6_turnDuct 27 = .ok (.sipush 1024, 3) := by decide +kernel
theorem dX6_turnDuct_30 : decode cX6_turnDuct 30 = .ok (.idiv, 1) := by decide +kernel
theorem dX6_turnDuct_31 : decode cX6_turnDuct 31 = .ok (.bipush 6, 2) := by decide +kernel
theorem dX6_turnDuct_33 : decode cX6_turnDuct 33 = .ok (.irem, 1) := by decide +kernel
theorem dX6_turnDuct_34 : decode cX6_turnDuct 34 = .ok (.iadd, 1) := by decide +kernel
theorem dX6_turnDuct_35 : decode cX6_turnDuct 35 = .ok (.invokestatic 141, 3) := by decide +kernel
theorem dX6_turnDuct_38 : decode cX6_turnDuct 38 = .ok (.ifCond .eq 42, 3) := by decide +kernel
theorem dX6_turnDuct_41 : decode cX6_turnDuct 41 = .ok (.aload_n 0, 1) := by decide +kernel
theorem dX6_turnDuct_42 : decode cX6_turnDuct 42 = .ok (.iload_n 1, 1) := by decide +kernel
theorem dX6_turnDuct_43 : decode cX6_turnDuct 43 = .ok (.bipush 10, 2) := by decide +kernel
theorem dX6_turnDuct_45 : decode cX6_turnDuct 45 = .ok (.irem, 1) := by decide +kernel
theorem dX6_turnDuct_46 : decode cX6_turnDuct 46 = .ok (.iload_n 1, 1) := by decide +kernel
theorem dX6_turnDuct_47 : decode cX6_turnDuct 47 = .ok (.bipush 16, 2) := by decide +kernel
theorem dX6_turnDuct_49 : decode cX6_turnDuct 49 = .ok (.idiv, 1) := by decide +kernel
theorem dX6_turnDuct_50 : decode cX6_turnDuct 50 = .ok (.iconst 2, 1) := by decide +kernel
theorem dX6_turnDuct_51 : decode cX6_turnDuct 51 = .ok (.irem, 1) := by decide +kernel
theorem dX6_turnDuct_52 : decode cX6_turnDuct 52 = .ok (.iload_n 1, 1) := by decide +kernel
theorem dX6_turnDuct_53 : decode cX6_turnDuct 53 = .ok (.bipush 32, 2) := by decide +kernel
theorem dX6_turnDuct_55 : decode cX6_turnDuct 55 = .ok (.idiv, 1) := by decide +kernel
theorem dX6_turnDuct_56 : decode cX6_turnDuct 56 = .ok (.bipush 10, 2) := by decide +kernel
theorem dX6_turnDuct_58 : decode cX6_turnDuct 58 = .ok (.irem, 1) := by decide +kernel
theorem dX6_turnDuct_59 : decode cX6_turnDuct 59 = .ok (.iload_n 1, 1) := by decide +kernel
theorem dX6_turnDuct_60 : decode cX6_turnDuct 60 = .ok (.sipush 512, 3) := by decide +kernel
theorem dX6_turnDuct_63 : decode cX6_turnDuct 63 = .ok (.idiv, 1) := by decide +kernel
theorem dX6_turnDuct_64 : decode cX6_turnDuct 64 = .ok (.iconst 2, 1) := by decide +kernel
theorem dX6_turnDuct_65 : decode cX6_turnDuct 65 = .ok (.irem, 1) := by decide +kernel
theorem dX6_turnDuct_66 : decode cX6_turnDuct 66 = .ok (.iconst 1, 1) := by decide +kernel
theorem dX6_turnDuct_67 : decode cX6_turnDuct 67 = .ok (.iload_n 1, 1) := by decide +kernel
theorem dX6_turnDuct_68 : decode cX6_turnDuct 68 = .ok (.sipush 1024, 3) := by decide +kernel
theorem dX6_turnDuct_71 : decode cX6_turnDuct 71 = .ok (.idiv, 1) := by decide +kernel
theorem dX6_turnDuct_72 : decode cX6_turnDuct 72 = .ok (.bipush 6, 2) := by decide +kernel
theorem dX6_turnDuct_74 : decode cX6_turnDuct 74 = .ok (.irem, 1) := by decide +kernel
theorem dX6_turnDuct_75 : decode cX6_turnDuct 75 = .ok (.iadd, 1) := by decide +kernel
theorem dX6_turnDuct_76 : decode cX6_turnDuct 76 = .ok (.invokestatic 145, 3) := by decide +kernel
theorem dX6_turnDuct_79 : decode cX6_turnDuct 79 = .ok (.pop, 1) := by decide +kernel
theorem dX6_turnDuct_80 : decode cX6_turnDuct 80 = .ok (.return_, 1) := by decide +kernel
theorem dX6_turn_0 : decode cX6_turn 0 = .ok (.iload_n 1, 1) := by decide +kernel
theorem dX6_turn_1 : decode cX6_turn 1 = .ok (.bipush 8, 2) := by decide +kernel
theorem dX6_turn_3 : decode cX6_turn 3 = .ok (.idiv, 1) := by decide +kernel
theorem dX6_turn_4 : decode cX6_turn 4 = .ok (.istore_n 2, 1) := by decide +kernel
theorem dX6_turn_5 : decode cX6_turn 5 = .ok (.iload_n 1, 1) := by decide +kernel
theorem dX6_turn_6 : decode cX6_turn 6 = .ok (.bipush 8, 2) := by decide +kernel
theorem dX6_turn_8 : decode cX6_turn 8 = .ok (.irem, 1) := by decide +kernel
theorem dX6_turn_9 : decode cX6_turn 9 = .ok (.tableswitch 220 0 5 #[39, 68, 68, 76, 114, 182], 39) := by decide +kernel
theorem dX6_turn_48 : decode cX6_turn 48 = .ok (.aload_n 0, 1) := by decide +kernel
theorem dX6_turn_49 : decode cX6_turn 49 = .ok (.iconst 0, 1) := by decide +kernel
theorem dX6_turn_50 : decode cX6_turn 50 = .ok (.iaload, 1) := by decide +kernel
theorem dX6_turn_51 : decode cX6_turn 51 = .ok (.bipush 10, 2) := by decide +kernel
theorem dX6_turn_53 : decode cX6_turn 53 = .ok (.if_icmp .ge 186, 3) := by decide +kernel
theorem dX6_turn_56 : decode cX6_turn 56 = .ok (.aload_n 0, 1) := by decide +kernel
theorem dX6_turn_57 : decode cX6_turn 57 = .ok (.iload_n 2, 1) := by decide +kernel
theorem dX6_turn_58 : decode cX6_turn 58 = .ok (.iconst 5, 1) := by decide +kernel
theorem dX6_turn_59 : decode cX6_turn 59 = .ok (.irem, 1) := by decide +kernel
theorem dX6_turn_60 : decode cX6_turn 60 = .ok (.bipush 10, 2) := by decide +kernel
theorem dX6_turn_62 : decode cX6_turn 62 = .ok (.iload_n 2, 1) := by decide +kernel
theorem dX6_turn_63 : decode cX6_turn 63 = .ok (.bipush 8, 2) := by decide +kernel
theorem dX6_turn_65 : decode cX6_turn 65 = .ok (.idiv, 1) := by decide +kernel
theorem dX6_turn_66 : decode cX6_turn 66 = .ok (.bipush 90, 2) := by decide +kernel
theorem dX6_turn_68 : decode cX6_turn 68 = .ok (.irem, 1) := by decide +kernel
theorem dX6_turn_69 : decode cX6_turn 69 = .ok (.iadd, 1) := by decide +kernel
theorem dX6_turn_70 : decode cX6_turn 70 = .ok (.invokestatic 153, 3) := by decide +kernel
theorem dX6_turn_73 : decode cX6_turn 73 = .ok (.pop, 1) := by decide +kernel
theorem dX6_turn_74 : decode cX6_turn 74 = .ok (.goto 165, 3) := by decide +kernel
theorem dX6_turn_77 : decode cX6_turn 77 = .ok (.aload_n 0, 1) := by decide +kernel
theorem dX6_turn_78 : decode cX6_turn 78 = .ok (.iload_n 2, 1) := by decide +kernel
theorem dX6_turn_79 : decode cX6_turn 79 = .ok (.invokestatic 229, 3) := by decide +kernel
theorem dX6_turn_82 : decode cX6_turn 82 = .ok (.goto 157, 3) := by decide +kernel
theorem dX6_turn_85 : decode cX6_turn 85 = .ok (.aload_n 0, 1) := by decide +kernel
theorem dX6_turn_86 : decode cX6_turn 86 = .ok (.iload_n 2, 1) := by decide +kernel
theorem dX6_turn_87 : decode cX6_turn 87 = .ok (.bipush 10, 2) := by decide +kernel
theorem dX6_turn_89 : decode cX6_turn 89 = .ok (.irem, 1) := by decide +kernel
theorem dX6_turn_90 : decode cX6_turn 90 = .ok (.invokestatic 160, 3) := by decide +kernel
theorem dX6_turn_93 : decode cX6_turn 93 = .ok (.ifCond .eq 146, 3) := by decide +kernel
theorem dX6_turn_96 : decode cX6_turn 96 = .ok (.aload_n 0, 1) := by decide +kernel
theorem dX6_turn_97 : decode cX6_turn 97 = .ok (.iload_n 2, 1) := by decide +kernel
theorem dX6_turn_98 : decode cX6_turn 98 = .ok (.bipush 10, 2) := by decide +kernel
theorem dX6_turn_100 : decode cX6_turn 100 = .ok (.irem, 1) := by decide +kernel
theorem dX6_turn_101 : decode cX6_turn 101 = .ok (.iload_n 2, 1) := by decide +kernel
theorem dX6_turn_102 : decode cX6_turn 102 = .ok (.bipush 16, 2) := by decide +kernel
theorem dX6_turn_104 : decode cX6_turn 104 = .ok (.idiv, 1) := by decide +kernel
theorem dX6_turn_105 : decode cX6_turn 105 = .ok (.iconst 2, 1) := by decide +kernel
theorem dX6_turn_106 : decode cX6_turn 106 = .ok (.irem, 1) := by decide +kernel
theorem dX6_turn_107 : decode cX6_turn 107 = .ok (.iconst 1, 1) := by decide +kernel
theorem dX6_turn_108 : decode cX6_turn 108 = .ok (.if_icmp .ne 7, 3) := by decide +kernel
theorem dX6_turn_111 : decode cX6_turn 111 = .ok (.iconst 1, 1) := by decide +kernel
theorem dX6_turn_112 : decode cX6_turn 112 = .ok (.goto 4, 3) := by decide +kernel
theorem dX6_turn_115 : decode cX6_turn 115 = .ok (.iconst 0, 1) := by decide +kernel
theorem dX6_turn_116 : decode cX6_turn 116 = .ok (.invokestatic 163, 3) := by decide +kernel
theorem dX6_turn_119 : decode cX6_turn 119 = .ok (.pop, 1) := by decide +kernel
theorem dX6_turn_120 : decode cX6_turn 120 = .ok (.goto 119, 3) := by decide +kernel
theorem dX6_turn_123 : decode cX6_turn 123 = .ok (.aload_n 0, 1) := by decide +kernel
theorem dX6_turn_124 : decode cX6_turn 124 = .ok (.iload_n 2, 1) := by decide +kernel
theorem dX6_turn_125 : decode cX6_turn 125 = .ok (.bipush 16, 2) := by decide +kernel
theorem dX6_turn_127 : decode cX6_turn 127 = .ok (.irem, 1) := by decide +kernel
theorem dX6_turn_128 : decode cX6_turn 128 = .ok (.invokestatic 167, 3) := by decide +kernel
theorem dX6_turn_131 : decode cX6_turn 131 = .ok (.ifCond .eq 37, 3) := by decide +kernel
theorem dX6_turn_134 : decode cX6_turn 134 = .ok (.iload_n 2, 1) := by decide +kernel
theorem dX6_turn_135 : decode cX6_turn 135 = .ok (.sipush 512, 3) := by decide +kernel
theorem dX6_turn_138 : decode cX6_turn 138 = .ok (.idiv, 1) := by decide +kernel
theorem dX6_turn_139 : decode cX6_turn 139 = .ok (.iconst 2, 1) := by decide +kernel
theorem dX6_turn_140 : decode cX6_turn 140 = .ok (.irem, 1) := by decide +kernel
theorem dX6_turn_141 : decode cX6_turn 141 = .ok (.ifCond .ne 27, 3) := by decide +kernel
theorem dX6_turn_144 : decode cX6_turn 144 = .ok (.aload_n 0, 1) := by decide +kernel
theorem dX6_turn_145 : decode cX6_turn 145 = .ok (.bipush 76, 2) := by decide +kernel
theorem dX6_turn_147 : decode cX6_turn 147 = .ok (.bipush 12, 2) := by decide +kernel
theorem dX6_turn_149 : decode cX6_turn 149 = .ok (.iload_n 2, 1) := by decide +kernel
theorem dX6_turn_150 : decode cX6_turn 150 = .ok (.bipush 16, 2) := by decide +kernel
theorem dX6_turn_152 : decode cX6_turn 152 = .ok (.irem, 1) := by decide +kernel
theorem dX6_turn_153 : decode cX6_turn 153 = .ok (.imul, 1) := by decide +kernel
theorem dX6_turn_154 : decode cX6_turn 154 = .ok (.iadd, 1) := by decide +kernel
theorem dX6_turn_155 : decode cX6_turn 155 = .ok (.iconst 5, 1) := by decide +kernel
theorem dX6_turn_156 : decode cX6_turn 156 = .ok (.iadd, 1) := by decide +kernel
theorem dX6_turn_157 : decode cX6_turn 157 = .ok (.iload_n 2, 1) := by decide +kernel
theorem dX6_turn_158 : decode cX6_turn 158 = .ok (.bipush 16, 2) := by decide +kernel
theorem dX6_turn_160 : decode cX6_turn 160 = .ok (.idiv, 1) := by decide +kernel
theorem dX6_turn_161 : decode cX6_turn 161 = .ok (.bipush 31, 2) := by decide +kernel
theorem dX6_turn_163 : decode cX6_turn 163 = .ok (.irem, 1) := by decide +kernel
theorem dX6_turn_164 : decode cX6_turn 164 = .ok (.iastore, 1) := by decide +kernel
theorem dX6_turn_165 : decode cX6_turn 165 = .ok (.goto 74, 3) := by decide +kernel
theorem dX6_turn_168 : decode cX6_turn 168 = .ok (.aload_n 0, 1) := by decide +kernel
theorem dX6_turn_169 : decode cX6_turn 169 = .ok (.iload_n 2, 1) := by decide +kernel
theorem dX6_turn_170 : decode cX6_turn 170 = .ok (.bipush 16, 2) := by decide +kernel
theorem dX6_turn_172 : decode cX6_turn 172 = .ok (.irem, 1) := by decide +kernel
theorem dX6_turn_173 : decode cX6_turn 173 = .ok (.invokestatic 167, 3) := by decide +kernel
theorem dX6_turn_176 : decode cX6_turn 176 = .ok (.ifCond .eq 63, 3) := by decide +kernel
theorem dX6_turn_179 : decode cX6_turn 179 = .ok (.aload_n 0, 1) := by decide +kernel
theorem dX6_turn_180 : decode cX6_turn 180 = .ok (.iload_n 2, 1) := by decide +kernel
theorem dX6_turn_181 : decode cX6_turn 181 = .ok (.bipush 16, 2) := by decide +kernel
theorem dX6_turn_183 : decode cX6_turn 183 = .ok (.irem, 1) := by decide +kernel
theorem dX6_turn_184 : decode cX6_turn 184 = .ok (.invokestatic 201, 3) := by decide +kernel
theorem dX6_turn_187 : decode cX6_turn 187 = .ok (.pop, 1) := by decide +kernel
theorem dX6_turn_188 : decode cX6_turn 188 = .ok (.goto 51, 3) := by decide +kernel
theorem dX6_turn_191 : decode cX6_turn 191 = .ok (.aload_n 0, 1) := by decide +kernel
theorem dX6_turn_192 : decode cX6_turn 192 = .ok (.iload_n 2, 1) := by decide +kernel
theorem dX6_turn_193 : decode cX6_turn 193 = .ok (.bipush 10, 2) := by decide +kernel
theorem dX6_turn_195 : decode cX6_turn 195 = .ok (.irem, 1) := by decide +kernel
theorem dX6_turn_196 : decode cX6_turn 196 = .ok (.invokestatic 44, 3) := by decide +kernel
theorem dX6_turn_199 : decode cX6_turn 199 = .ok (.ifCond .eq 40, 3) := by decide +kernel
theorem dX6_turn_202 : decode cX6_turn 202 = .ok (.aload_n 0, 1) := by decide +kernel
theorem dX6_turn_203 : decode cX6_turn 203 = .ok (.bipush 6, 2) := by decide +kernel
theorem dX6_turn_205 : decode cX6_turn 205 = .ok (.bipush 7, 2) := by decide +kernel
theorem dX6_turn_207 : decode cX6_turn 207 = .ok (.iload_n 2, 1) := by decide +kernel
theorem dX6_turn_208 : decode cX6_turn 208 = .ok (.bipush 10, 2) := by decide +kernel
theorem dX6_turn_210 : decode cX6_turn 210 = .ok (.irem, 1) := by decide +kernel
theorem dX6_turn_211 : decode cX6_turn 211 = .ok (.imul, 1) := by decide +kernel
theorem dX6_turn_212 : decode cX6_turn 212 = .ok (.iadd, 1) := by decide +kernel
theorem dX6_turn_213 : decode cX6_turn 213 = .ok (.iconst 1, 1) := by decide +kernel
theorem dX6_turn_214 : decode cX6_turn 214 = .ok (.iadd, 1) := by decide +kernel
theorem dX6_turn_215 : decode cX6_turn 215 = .ok (.bipush 10, 2) := by decide +kernel
theorem dX6_turn_217 : decode cX6_turn 217 = .ok (.iload_n 2, 1) := by decide +kernel
theorem dX6_turn_218 : decode cX6_turn 218 = .ok (.bipush 16, 2) := by decide +kernel
theorem dX6_turn_220 : decode cX6_turn 220 = .ok (.idiv, 1) := by decide +kernel
theorem dX6_turn_221 : decode cX6_turn 221 = .ok (.bipush 90, 2) := by decide +kernel
theorem dX6_turn_223 : decode cX6_turn 223 = .ok (.irem, 1) := by decide +kernel
theorem dX6_turn_224 : decode cX6_turn 224 = .ok (.iadd, 1) := by decide +kernel
theorem dX6_turn_225 : decode cX6_turn 225 = .ok (.iastore, 1) := by decide +kernel
theorem dX6_turn_226 : decode cX6_turn 226 = .ok (.goto 13, 3) := by decide +kernel
theorem dX6_turn_229 : decode cX6_turn 229 = .ok (.aload_n 0, 1) := by decide +kernel
theorem dX6_turn_230 : decode cX6_turn 230 = .ok (.iconst 1, 1) := by decide +kernel
theorem dX6_turn_231 : decode cX6_turn 231 = .ok (.iload_n 2, 1) := by decide +kernel
theorem dX6_turn_232 : decode cX6_turn 232 = .ok (.bipush 20, 2) := by decide +kernel
theorem dX6_turn_234 : decode cX6_turn 234 = .ok (.irem, 1) := by decide +kernel
theorem dX6_turn_235 : decode cX6_turn 235 = .ok (.iadd, 1) := by decide +kernel
theorem dX6_turn_236 : decode cX6_turn 236 = .ok (.invokestatic 97, 3) := by decide +kernel
theorem dX6_turn_239 : decode cX6_turn 239 = .ok (.return_, 1) := by decide +kernel
theorem dX6_simulate_0 : decode cX6_simulate 0 = .ok (.aload_n 0, 1) := by decide +kernel
theorem dX6_simulate_1 : decode cX6_simulate 1 = .ok (.iload_n 3, 1) := by decide +kernel
theorem dX6_simulate_2 : decode cX6_simulate 2 = .ok (.i2l, 1) := by decide +kernel
theorem dX6_simulate_3 : decode cX6_simulate 3 = .ok (.lconst 1, 1) := by decide +kernel
theorem dX6_simulate_4 : decode cX6_simulate 4 = .ok (.ldc2_w 232, 3) := by decide +kernel
theorem dX6_simulate_7 : decode cX6_simulate 7 = .ok (.invokestatic 40, 3) := by decide +kernel
theorem dX6_simulate_10 : decode cX6_simulate 10 = .ok (.ifCond .eq 7, 3) := by decide +kernel
theorem dX6_simulate_13 : decode cX6_simulate 13 = .ok (.iconst 0, 1) := by decide +kernel
theorem dX6_simulate_14 : decode cX6_simulate 14 = .ok (.goto 4, 3) := by decide +kernel
theorem dX6_simulate_17 : decode cX6_simulate 17 = .ok (.iconst 1, 1) := by decide +kernel
theorem dX6_simulate_18 : decode cX6_simulate 18 = .ok (.invokevirtual 124, 3) := by decide +kernel
theorem dX6_simulate_21 : decode cX6_simulate 21 = .ok (.ifCond .eq 5, 3) := by decide +kernel
theorem dX6_simulate_24 : decode cX6_simulate 24 = .ok (.iconst 0, 1) := by decide +kernel
theorem dX6_simulate_25 : decode cX6_simulate 25 = .ok (.ireturn, 1) := by decide +kernel
theorem dX6_simulate_26 : decode cX6_simulate 26 = .ok (.aload_n 0, 1) := by decide +kernel
theorem dX6_simulate_27 : decode cX6_simulate 27 = .ok (.getfield 13, 3) := by decide +kernel
theorem dX6_simulate_30 : decode cX6_simulate 30 = .ok (.iconst 0, 1) := by decide +kernel
theorem dX6_simulate_31 : decode cX6_simulate 31 = .ok (.aload_n 0, 1) := by decide +kernel
theorem dX6_simulate_32 : decode cX6_simulate 32 = .ok (.getfield 16, 3) := by decide +kernel
theorem dX6_simulate_35 : decode cX6_simulate 35 = .ok (.iconst 0, 1) := by decide +kernel
theorem dX6_simulate_36 : decode cX6_simulate 36 = .ok (.invokestatic 93, 3) := by decide +kernel
theorem dX6_simulate_39 : decode cX6_simulate 39 = .ok (.lload_n 1, 1) := by decide +kernel
theorem dX6_simulate_40 : decode cX6_simulate 40 = .ok (.lstore 4, 2) := by decide +kernel
theorem dX6_simulate_42 : decode cX6_simulate 42 = .ok (.iconst 0, 1) := by decide +kernel
theorem dX6_simulate_43 : decode cX6_simulate 43 = .ok (.istore 6, 2) := by decide +kernel
theorem dX6_simulate_45 : decode cX6_simulate 45 = .ok (.iload 6, 2) := by decide +kernel
theorem dX6_simulate_47 : decode cX6_simulate 47 = .ok (.iload_n 3, 1) := by decide +kernel
theorem dX6_simulate_48 : decode cX6_simulate 48 = .ok (.if_icmp .ge 34, 3) := by decide +kernel
theorem dX6_simulate_51 : decode cX6_simulate 51 = .ok (.lload 4, 2) := by decide +kernel
theorem dX6_simulate_53 : decode cX6_simulate 53 = .ok (.ldc2_w 234, 3) := by decide +kernel
theorem dX6_simulate_56 : decode cX6_simulate 56 = .ok (.lmul, 1) := by decide +kernel
theorem dX6_simulate_57 : decode cX6_simulate 57 = .ok (.ldc2_w 236, 3) := by decide +kernel
theorem dX6_simulate_60 : decode cX6_simulate 60 = .ok (.ladd, 1) := by decide +kernel
theorem dX6_simulate_61 : decode cX6_simulate 61 = .ok (.lstore 4, 2) := by decide +kernel
theorem dX6_simulate_63 : decode cX6_simulate 63 = .ok (.aload_n 0, 1) := by decide +kernel
theorem dX6_simulate_64 : decode cX6_simulate 64 = .ok (.getfield 16, 3) := by decide +kernel
theorem dX6_simulate_67 : decode cX6_simulate 67 = .ok (.lload 4, 2) := by decide +kernel
theorem dX6_simulate_69 : decode cX6_simulate 69 = .ok (.bipush 33, 2) := by decide +kernel
theorem dX6_simulate_71 : decode cX6_simulate 71 = .ok (.lushr, 1) := by decide +kernel
theorem dX6_simulate_72 : decode cX6_simulate 72 = .ok (.l2i, 1) := by decide +kernel
theorem dX6_simulate_73 : decode cX6_simulate 73 = .ok (.invokestatic 238, 3) := by decide +kernel
theorem dX6_simulate_76 : decode cX6_simulate 76 = .ok (.iinc 6 1, 3) := by decide +kernel
theorem dX6_simulate_79 : decode cX6_simulate 79 = .ok (.goto (-34), 3) := by decide +kernel
theorem dX6_simulate_82 : decode cX6_simulate 82 = .ok (.sipush 1000, 3) := by decide +kernel
theorem dX6_simulate_85 : decode cX6_simulate 85 = .ok (.aload_n 0, 1) := by decide +kernel
theorem dX6_simulate_86 : decode cX6_simulate 86 = .ok (.getfield 16, 3) := by decide +kernel
theorem dX6_simulate_89 : decode cX6_simulate 89 = .ok (.invokestatic 183, 3) := by decide +kernel
theorem dX6_simulate_92 : decode cX6_simulate 92 = .ok (.imul, 1) := by decide +kernel
theorem dX6_simulate_93 : decode cX6_simulate 93 = .ok (.aload_n 0, 1) := by decide +kernel
theorem dX6_simulate_94 : decode cX6_simulate 94 = .ok (.getfield 16, 3) := by decide +kernel
theorem dX6_simulate_97 : decode cX6_simulate 97 = .ok (.invokestatic 186, 3) := by decide +kernel
theorem dX6_simulate_100 : decode cX6_simulate 100 = .ok (.sipush 1000, 3) := by decide +kernel
theorem dX6_simulate_103 : decode cX6_simulate 103 = .ok (.irem, 1) := by decide +kernel
theorem dX6_simulate_104 : decode cX6_simulate 104 = .ok (.iadd, 1) := by decide +kernel
theorem dX6_simulate_105 : decode cX6_simulate 105 = .ok (.ireturn, 1) := by decide +kernel
theorem dX6_save_0 : decode cX6_save 0 = .ok (.aload_n 0, 1) := by decide +kernel
theorem dX6_save_1 : decode cX6_save 1 = .ok (.iload_n 1, 1) := by decide +kernel
theorem dX6_save_2 : decode cX6_save 2 = .ok (.i2l, 1) := by decide +kernel
theorem dX6_save_3 : decode cX6_save 3 = .ok (.lconst 0, 1) := by decide +kernel
theorem dX6_save_4 : decode cX6_save 4 = .ok (.lconst 1, 1) := by decide +kernel
theorem dX6_save_5 : decode cX6_save 5 = .ok (.invokestatic 40, 3) := by decide +kernel
theorem dX6_save_8 : decode cX6_save 8 = .ok (.ifCond .eq 7, 3) := by decide +kernel
theorem dX6_save_11 : decode cX6_save 11 = .ok (.iconst 0, 1) := by decide +kernel
theorem dX6_save_12 : decode cX6_save 12 = .ok (.goto 4, 3) := by decide +kernel
theorem dX6_save_15 : decode cX6_save 15 = .ok (.iconst 1, 1) := by decide +kernel
theorem dX6_save_16 : decode cX6_save 16 = .ok (.invokevirtual 124, 3) := by decide +kernel
theorem dX6_save_19 : decode cX6_save 19 = .ok (.ifCond .eq 5, 3) := by decide +kernel
theorem dX6_save_22 : decode cX6_save 22 = .ok (.iconst 0, 1) := by decide +kernel
theorem dX6_save_23 : decode cX6_save 23 = .ok (.ireturn, 1) := by decide +kernel
theorem dX6_save_24 : decode cX6_save 24 = .ok (.aload_n 0, 1) := by decide +kernel
theorem dX6_save_25 : decode cX6_save 25 = .ok (.getfield 13, 3) := by decide +kernel
theorem dX6_save_28 : decode cX6_save 28 = .ok (.iconst 0, 1) := by decide +kernel
theorem dX6_save_29 : decode cX6_save 29 = .ok (.aload_n 0, 1) := by decide +kernel
theorem dX6_save_30 : decode cX6_save 30 = .ok (.getfield 25, 3) := by decide +kernel
theorem dX6_save_33 : decode cX6_save 33 = .ok (.sipush 268, 3) := by decide +kernel
theorem dX6_save_36 : decode cX6_save 36 = .ok (.iload_n 1, 1) := by decide +kernel
theorem dX6_save_37 : decode cX6_save 37 = .ok (.imul, 1) := by decide +kernel
theorem dX6_save_38 : decode cX6_save 38 = .ok (.invokestatic 93, 3) := by decide +kernel
theorem dX6_save_41 : decode cX6_save 41 = .ok (.aload_n 0, 1) := by decide +kernel
theorem dX6_save_42 : decode cX6_save 42 = .ok (.getfield 28, 3) := by decide +kernel
theorem dX6_save_45 : decode cX6_save 45 = .ok (.iload_n 1, 1) := by decide +kernel
theorem dX6_save_46 : decode cX6_save 46 = .ok (.iconst 1, 1) := by decide +kernel
theorem dX6_save_47 : decode cX6_save 47 = .ok (.bastore, 1) := by decide +kernel
theorem dX6_save_48 : decode cX6_save 48 = .ok (.aload_n 0, 1) := by decide +kernel
theorem dX6_save_49 : decode cX6_save 49 = .ok (.getfield 13, 3) := by decide +kernel
theorem dX6_save_52 : decode cX6_save 52 = .ok (.iconst 2, 1) := by decide +kernel
theorem dX6_save_53 : decode cX6_save 53 = .ok (.iaload, 1) := by decide +kernel
theorem dX6_save_54 : decode cX6_save 54 = .ok (.ireturn, 1) := by decide +kernel
theorem dX6_restore_0 : decode cX6_restore 0 = .ok (.aload_n 0, 1) := by decide +kernel
theorem dX6_restore_1 : decode cX6_restore 1 = .ok (.iload_n 1, 1) := by decide +kernel
theorem dX6_restore_2 : decode cX6_restore 2 = .ok (.i2l, 1) := by decide +kernel
theorem dX6_restore_3 : decode cX6_restore 3 = .ok (.lconst 0, 1) := by decide +kernel
theorem dX6_restore_4 : decode cX6_restore 4 = .ok (.lconst 1, 1) := by decide +kernel
theorem dX6_restore_5 : decode cX6_restore 5 = .ok (.invokestatic 40, 3) := by decide +kernel
theorem dX6_restore_8 : decode cX6_restore 8 = .ok (.ifCond .ne 7, 3) := by decide +kernel
theorem dX6_restore_11 : decode cX6_restore 11 = .ok (.iconst 1, 1) := by decide +kernel
theorem dX6_restore_12 : decode cX6_restore 12 = .ok (.goto 17, 3) := by decide +kernel
theorem dX6_restore_15 : decode cX6_restore 15 = .ok (.aload_n 0, 1) := by decide +kernel
theorem dX6_restore_16 : decode cX6_restore 16 = .ok (.getfield 28, 3) := by decide +kernel
theorem dX6_restore_19 : decode cX6_restore 19 = .ok (.iload_n 1, 1) := by decide +kernel
theorem dX6_restore_20 : decode cX6_restore 20 = .ok (.baload, 1) := by decide +kernel
theorem dX6_restore_21 : decode cX6_restore 21 = .ok (.ifCond .ne 7, 3) := by decide +kernel
theorem dX6_restore_24 : decode cX6_restore 24 = .ok (.iconst 2, 1) := by decide +kernel
theorem dX6_restore_25 : decode cX6_restore 25 = .ok (.goto 4, 3) := by decide +kernel
theorem dX6_restore_28 : decode cX6_restore 28 = .ok (.iconst 0, 1) := by decide +kernel
theorem dX6_restore_29 : decode cX6_restore 29 = .ok (.invokevirtual 124, 3) := by decide +kernel
theorem dX6_restore_32 : decode cX6_restore 32 = .ok (.ifCond .eq 5, 3) := by decide +kernel
theorem dX6_restore_35 : decode cX6_restore 35 = .ok (.iconst 0, 1) := by decide +kernel
theorem dX6_restore_36 : decode cX6_restore 36 = .ok (.ireturn, 1) := by decide +kernel
theorem dX6_restore_37 : decode cX6_restore 37 = .ok (.aload_n 0, 1) := by decide +kernel
theorem dX6_restore_38 : decode cX6_restore 38 = .ok (.getfield 25, 3) := by decide +kernel
theorem dX6_restore_41 : decode cX6_restore 41 = .ok (.sipush 268, 3) := by decide +kernel
theorem dX6_restore_44 : decode cX6_restore 44 = .ok (.iload_n 1, 1) := by decide +kernel
theorem dX6_restore_45 : decode cX6_restore 45 = .ok (.imul, 1) := by decide +kernel
theorem dX6_restore_46 : decode cX6_restore 46 = .ok (.aload_n 0, 1) := by decide +kernel
theorem dX6_restore_47 : decode cX6_restore 47 = .ok (.getfield 13, 3) := by decide +kernel
theorem dX6_restore_50 : decode cX6_restore 50 = .ok (.iconst 0, 1) := by decide +kernel
theorem dX6_restore_51 : decode cX6_restore 51 = .ok (.invokestatic 93, 3) := by decide +kernel
theorem dX6_restore_54 : decode cX6_restore 54 = .ok (.aload_n 0, 1) := by decide +kernel
theorem dX6_restore_55 : decode cX6_restore 55 = .ok (.iconst 0, 1) := by decide +kernel
theorem dX6_restore_56 : decode cX6_restore 56 = .ok (.putfield 180, 3) := by decide +kernel
theorem dX6_restore_59 : decode cX6_restore 59 = .ok (.aload_n 0, 1) := by decide +kernel
theorem dX6_restore_60 : decode cX6_restore 60 = .ok (.getfield 13, 3) := by decide +kernel
theorem dX6_restore_63 : decode cX6_restore 63 = .ok (.iconst 2, 1) := by decide +kernel
theorem dX6_restore_64 : decode cX6_restore 64 = .ok (.iaload, 1) := by decide +kernel
theorem dX6_restore_65 : decode cX6_restore 65 = .ok (.ireturn, 1) := by decide +kernel
theorem dJ7_rangeCheck_23922_0 : decode cJ7_rangeCheck_23922 0 = .ok (.iload_n 1, 1) := by decide +kernel
theorem dJ7_rangeCheck_23922_1 : decode cJ7_rangeCheck_23922 1 = .ok (.iload_n 2, 1) := by decide +kernel
theorem dJ7_rangeCheck_23922_2 : decode cJ7_rangeCheck_23922 2 = .ok (.if_icmp .le 44, 3) := by decide +kernel
theorem dJ7_rangeCheck_23922_5 : decode cJ7_rangeCheck_23922 5 = .ok (.new 43, 3) := by decide +kernel
theorem dJ7_rangeCheck_23922_8 : decode cJ7_rangeCheck_23922 8 = .ok (.dup, 1) := by decide +kernel
theorem dJ7_rangeCheck_23922_9 : decode cJ7_rangeCheck_23922 9 = .ok (.new 45, 3) := by decide +kernel
theorem dJ7_rangeCheck_23922_12 : decode cJ7_rangeCheck_23922 12 = .ok (.dup, 1) := by decide +kernel
theorem dJ7_rangeCheck_23922_13 : decode cJ7_rangeCheck_23922 13 = .ok (.invokespecial 47, 3) := by decide +kernel
theorem dJ7_rangeCheck_23922_16 : decode cJ7_rangeCheck_23922 16 = .ok (.ldc 48, 2) := by decide +kernel
theorem dJ7_rangeCheck_23922_18 : decode cJ7_rangeCheck_23922 18 = .ok (.invokevirtual 50, 3) := by decide +kernel
theorem dJ7_rangeCheck_23922_21 : decode cJ7_rangeCheck_23922 21 = .ok (.iload_n 1, 1) := by decide +kernel
theorem dJ7_rangeCheck_23922_22 : decode cJ7_rangeCheck_23922 22 = .ok (.invokevirtual 54, 3) := by decide +kernel
theorem dJ7_rangeCheck_23922_25 : decode cJ7_rangeCheck_23922 25 = .ok (.ldc 57, 2) := by decide +kernel
theorem dJ7_rangeCheck_23922_27 : decode cJ7_rangeCheck_23922 27 = .ok (.invokevirtual 50, 3) := by decide +kernel
theorem dJ7_rangeCheck_23922_30 : decode cJ7_rangeCheck_23922 30 = .ok (.iload_n 2, 1) := by decide +kernel
theorem dJ7_rangeCheck_23922_31 : decode cJ7_rangeCheck_23922 31 = .ok (.invokevirtual 54, 3) := by decide +kernel
theorem dJ7_rangeCheck_23922_34 : decode cJ7_rangeCheck_23922 34 = .ok (.ldc 59, 2) := by decide +kernel
theorem dJ7_rangeCheck_23922_36 : decode cJ7_rangeCheck_23922 36 = .ok (.invokevirtual 50, 3) := by decide +kernel
theorem dJ7_rangeCheck_23922_39 : decode cJ7_rangeCheck_23922 39 = .ok (.invokevirtual 61, 3) := by decide +kernel
theorem dJ7_rangeCheck_23922_42 : decode cJ7_rangeCheck_23922 42 = .ok (.invokespecial 65, 3) := by decide +kernel
theorem dJ7_rangeCheck_23922_45 : decode cJ7_rangeCheck_23922 45 = .ok (.athrow, 1) := by decide +kernel
theorem dJ7_rangeCheck_23922_46 : decode cJ7_rangeCheck_23922 46 = .ok (.iload_n 1, 1) := by decide +kernel
theorem dJ7_rangeCheck_23922_47 : decode cJ7_rangeCheck_23922 47 = .ok (.ifCond .ge 12, 3) := by decide +kernel
theorem dJ7_rangeCheck_23922_50 : decode cJ7_rangeCheck_23922 50 = .ok (.new 68, 3) := by decide +kernel
theorem dJ7_rangeCheck_23922_53 : decode cJ7_rangeCheck_23922 53 = .ok (.dup, 1) := by decide +kernel
theorem dJ7_rangeCheck_23922_54 : decode cJ7_rangeCheck_23922 54 = .ok (.iload_n 1, 1) := by decide +kernel
theorem dJ7_rangeCheck_23922_55 : decode cJ7_rangeCheck_23922 55 = .ok (.invokespecial 70, 3) := by decide +kernel
theorem dJ7_rangeCheck_23922_58 : decode cJ7_rangeCheck_23922 58 = .ok (.athrow, 1) := by decide +kernel
theorem dJ7_rangeCheck_23922_59 : decode cJ7_rangeCheck_23922 59 = .ok (.iload_n 2, 1) := by decide +kernel
theorem dJ7_rangeCheck_23922_60 : decode cJ7_rangeCheck_23922 60 = .ok (.iload_n 0, 1) := by decide +kernel
theorem dJ7_rangeCheck_23922_61 : decode cJ7_rangeCheck_23922 61 = .ok (.if_icmp .le 12, 3) := by decide +kernel
theorem dJ7_rangeCheck_23922_64 : decode cJ7_rangeCheck_23922 64 = .ok (.new 68, 3) := by decide +kernel
theorem dJ7_rangeCheck_23922_67 : decode cJ7_rangeCheck_23922 67 = .ok (.dup, 1) := by decide +kernel
theorem dJ7_rangeCheck_23922_68 : decode cJ7_rangeCheck_23922 68 = .ok (.iload_n 2, 1) := by decide +kernel
theorem dJ7_rangeCheck_23922_69 : decode cJ7_rangeCheck_23922 69 = .ok (.invokespecial 70, 3) := by decide +kernel
theorem dJ7_rangeCheck_23922_72 : decode cJ7_rangeCheck_23922 72 = .ok (.athrow, 1) := by decide +kernel
theorem dJ7_rangeCheck_23922_73 : decode cJ7_rangeCheck_23922 73 = .ok (.return_, 1) := by decide +kernel
theorem dJ7_fill_53178_0 : decode cJ7_fill_53178 0 = .ok (.iconst 0, 1) := by decide +kernel
theorem dJ7_fill_53178_1 : decode cJ7_fill_53178 1 = .ok (.istore_n 2, 1) := by decide +kernel
theorem dJ7_fill_53178_2 : decode cJ7_fill_53178 2 = .ok (.aload_n 0, 1) := by decide +kernel
theorem dJ7_fill_53178_3 : decode cJ7_fill_53178 3 = .ok (.arraylength, 1) := by decide +kernel
theorem dJ7_fill_53178_4 : decode cJ7_fill_53178 4 = .ok (.istore_n 3, 1) := by decide +kernel
theorem dJ7_fill_53178_5 : decode cJ7_fill_53178 5 = .ok (.iload_n 2, 1) := by decide +kernel
theorem dJ7_fill_53178_6 : decode cJ7_fill_53178 6 = .ok (.iload_n 3, 1) := by decide +kernel
theorem dJ7_fill_53178_7 : decode cJ7_fill_53178 7 = .ok (.if_icmp .ge 13, 3) := by decide +kernel
theorem dJ7_fill_53178_10 : decode cJ7_fill_53178 10 = .ok (.aload_n 0, 1) := by decide +kernel
theorem dJ7_fill_53178_11 : decode cJ7_fill_53178 11 = .ok (.iload_n 2, 1) := by decide +kernel
theorem dJ7_fill_53178_12 : decode cJ7_fill_53178 12 = .ok (.iload_n 1, 1) := by decide +kernel
theorem dJ7_fill_53178_13 : decode cJ7_fill_53178 13 = .ok (.iastore, 1) := by decide +kernel
theorem dJ7_fill_53178_14 : decode cJ7_fill_53178 14 = .ok (.iinc 2 1, 3) := by decide +kernel
theorem dJ7_fill_53178_17 : decode cJ7_fill_53178 17 = .ok (.goto (-12), 3) := by decide +kernel
theorem dJ7_fill_53178_20 : decode cJ7_fill_53178 20 = .ok (.return_, 1) := by decide +kernel
theorem dJ7_fill_fda19_0 : decode cJ7_fill_fda19 0 = .ok (.aload_n 0, 1) := by decide +kernel
theorem dJ7_fill_fda19_1 : decode cJ7_fill_fda19 1 = .ok (.arraylength, 1) := by decide +kernel
theorem dJ7_fill_fda19_2 : decode cJ7_fill_fda19 2 = .ok (.iload_n 1, 1) := by decide +kernel
theorem dJ7_fill_fda19_3 : decode cJ7_fill_fda19 3 = .ok (.iload_n 2, 1) := by decide +kernel
theorem dJ7_fill_fda19_4 : decode cJ7_fill_fda19 4 = .ok (.invokestatic 13, 3) := by decide +kernel
theorem dJ7_fill_fda19_7 : decode cJ7_fill_fda19 7 = .ok (.iload_n 1, 1) := by decide +kernel
theorem dJ7_fill_fda19_8 : decode cJ7_fill_fda19 8 = .ok (.istore 4, 2) := by decide +kernel
theorem dJ7_fill_fda19_10 : decode cJ7_fill_fda19 10 = .ok (.iload 4, 2) := by decide +kernel
theorem dJ7_fill_fda19_12 : decode cJ7_fill_fda19 12 = .ok (.iload_n 2, 1) := by decide +kernel
theorem dJ7_fill_fda19_13 : decode cJ7_fill_fda19 13 = .ok (.if_icmp .ge 14, 3) := by decide +kernel
theorem dJ7_fill_fda19_16 : decode cJ7_fill_fda19 16 = .ok (.aload_n 0, 1) := by decide +kernel
theorem dJ7_fill_fda19_17 : decode cJ7_fill_fda19 17 = .ok (.iload 4, 2) := by decide +kernel
theorem dJ7_fill_fda19_19 : decode cJ7_fill_fda19 19 = .ok (.iload_n 3, 1) := by decide +kernel
theorem dJ7_fill_fda19_20 : decode cJ7_fill_fda19 20 = .ok (.iastore, 1) := by decide +kernel
theorem dJ7_fill_fda19_21 : decode cJ7_fill_fda19 21 = .ok (.iinc 4 1, 3) := by decide +kernel
theorem dJ7_fill_fda19_24 : decode cJ7_fill_fda19 24 = .ok (.goto (-14), 3) := by decide +kernel
theorem dJ7_fill_fda19_27 : decode cJ7_fill_fda19 27 = .ok (.return_, 1) := by decide +kernel
end
section
theorem dL_append_0 : decode cL_append 0 = .ok (.aload_n 2, 1) := by decide +kernel
theorem dL_append_1 : decode cL_append 1 = .ok (.iconst 0, 1) := by decide +kernel
theorem dL_append_2 : decode cL_append 2 = .ok (.aload_n 0, 1) := by decide +kernel
theorem dL_append_3 : decode cL_append 3 = .ok (.iload_n 1, 1) := by decide +kernel
theorem dL_append_4 : decode cL_append 4 = .ok (.invokevirtual 7, 3) := by decide +kernel
theorem dL_append_7 : decode cL_append 7 = .ok (.i2l, 1) := by decide +kernel
theorem dL_append_8 : decode cL_append 8 = .ok (.lastore, 1) := by decide +kernel
theorem dL_append_9 : decode cL_append 9 = .ok (.goto 9, 3) := by decide +kernel
theorem dL_append_12 : decode cL_append 12 = .ok (.astore_n 3, 1) := by decide +kernel
theorem dL_append_13 : decode cL_append 13 = .ok (.iconst 1, 1) := by decide +kernel
theorem dL_append_14 : decode cL_append 14 = .ok (.ireturn, 1) := by decide +kernel
theorem dL_append_15 : decode cL_append 15 = .ok (.astore_n 3, 1) := by decide +kernel
theorem dL_append_16 : decode cL_append 16 = .ok (.iconst 2, 1) := by decide +kernel
theorem dL_append_17 : decode cL_append 17 = .ok (.ireturn, 1) := by decide +kernel
theorem dL_append_18 : decode cL_append 18 = .ok (.iconst 0, 1) := by decide +kernel
theorem dL_append_19 : decode cL_append 19 = .ok (.ireturn, 1) := by decide +kernel
theorem dL_load_0 : decode cL_load 0 = .ok (.aload_n 1, 1) := by decide +kernel
theorem dL_load_1 : decode cL_load 1 = .ok (.iconst 0, 1) := by decide +kernel
theorem dL_load_2 : decode cL_load 2 = .ok (.aload_n 0, 1) := by decide +kernel
theorem dL_load_3 : decode cL_load 3 = .ok (.invokevirtual 17, 3) := by decide +kernel
theorem dL_load_6 : decode cL_load 6 = .ok (.i2l, 1) := by decide +kernel
theorem dL_load_7 : decode cL_load 7 = .ok (.lastore, 1) := by decide +kernel
theorem dL_load_8 : decode cL_load 8 = .ok (.goto 6, 3) := by decide +kernel
theorem dL_load_11 : decode cL_load 11 = .ok (.astore_n 2, 1) := by decide +kernel
theorem dL_load_12 : decode cL_load 12 = .ok (.iconst 1, 1) := by decide +kernel
theorem dL_load_13 : decode cL_load 13 = .ok (.ireturn, 1) := by decide +kernel
theorem dL_load_14 : decode cL_load 14 = .ok (.iconst 0, 1) := by decide +kernel
theorem dL_load_15 : decode cL_load 15 = .ok (.ireturn, 1) := by decide +kernel
theorem dL_about_0 : decode cL_about 0 = .ok (.aload_n 2, 1) := by decide +kernel
theorem dL_about_1 : decode cL_about 1 = .ok (.iconst 0, 1) := by decide +kernel
theorem dL_about_2 : decode cL_about 2 = .ok (.aload_n 0, 1) := by decide +kernel
theorem dL_about_3 : decode cL_about 3 = .ok (.iload_n 1, 1) := by decide +kernel
theorem dL_about_4 : decode cL_about 4 = .ok (.invokevirtual 21, 3) := by decide +kernel
theorem dL_about_7 : decode cL_about 7 = .ok (.i2l, 1) := by decide +kernel
theorem dL_about_8 : decode cL_about 8 = .ok (.lastore, 1) := by decide +kernel
theorem dL_about_9 : decode cL_about 9 = .ok (.goto 6, 3) := by decide +kernel
theorem dL_about_12 : decode cL_about 12 = .ok (.astore_n 3, 1) := by decide +kernel
theorem dL_about_13 : decode cL_about 13 = .ok (.iconst 1, 1) := by decide +kernel
theorem dL_about_14 : decode cL_about 14 = .ok (.ireturn, 1) := by decide +kernel
theorem dL_about_15 : decode cL_about 15 = .ok (.iconst 0, 1) := by decide +kernel
theorem dL_about_16 : decode cL_about 16 = .ok (.ireturn, 1) := by decide +kernel
theorem dL_valveOf_0 : decode cL_valveOf 0 = .ok (.aload_n 3, 1) := by decide +kernel
theorem dL_valveOf_1 : decode cL_valveOf 1 = .ok (.iconst 0, 1) := by decide +kernel
theorem dL_valveOf_2 : decode cL_valveOf 2 = .ok (.aload_n 0, 1) := by decide +kernel
theorem dL_valveOf_3 : decode cL_valveOf 3 = .ok (.iload_n 1, 1) := by decide +kernel
theorem dL_valveOf_4 : decode cL_valveOf 4 = .ok (.iload_n 2, 1) := by decide +kernel
theorem dL_valveOf_5 : decode cL_valveOf 5 = .ok (.invokevirtual 24, 3) := by decide +kernel
theorem dL_valveOf_8 : decode cL_valveOf 8 = .ok (.i2l, 1) := by decide +kernel
theorem dL_valveOf_9 : decode cL_valveOf 9 = .ok (.lastore, 1) := by decide +kernel
theorem dL_valveOf_10 : decode cL_valveOf 10 = .ok (.goto 11, 3) := by decide +kernel
theorem dL_valveOf_13 : decode cL_valveOf 13 = .ok (.astore 4, 2) := by decide +kernel
theorem dL_valveOf_15 : decode cL_valveOf 15 = .ok (.iconst 1, 1) := by decide +kernel
theorem dL_valveOf_16 : decode cL_valveOf 16 = .ok (.ireturn, 1) := by decide +kernel
theorem dL_valveOf_17 : decode cL_valveOf 17 = .ok (.astore 4, 2) := by decide +kernel
theorem dL_valveOf_19 : decode cL_valveOf 19 = .ok (.iconst 2, 1) := by decide +kernel
theorem dL_valveOf_20 : decode cL_valveOf 20 = .ok (.ireturn, 1) := by decide +kernel
theorem dL_valveOf_21 : decode cL_valveOf 21 = .ok (.iconst 0, 1) := by decide +kernel
theorem dL_valveOf_22 : decode cL_valveOf 22 = .ok (.ireturn, 1) := by decide +kernel
theorem dL_leg_0 : decode cL_leg 0 = .ok (.aload_n 3, 1) := by decide +kernel
theorem dL_leg_1 : decode cL_leg 1 = .ok (.iconst 0, 1) := by decide +kernel
theorem dL_leg_2 : decode cL_leg 2 = .ok (.aload_n 0, 1) := by decide +kernel
theorem dL_leg_3 : decode cL_leg 3 = .ok (.iload_n 1, 1) := by decide +kernel
theorem dL_leg_4 : decode cL_leg 4 = .ok (.iload_n 2, 1) := by decide +kernel
theorem dL_leg_5 : decode cL_leg 5 = .ok (.invokevirtual 30, 3) := by decide +kernel
theorem dL_leg_8 : decode cL_leg 8 = .ok (.i2l, 1) := by decide +kernel
theorem dL_leg_9 : decode cL_leg 9 = .ok (.lastore, 1) := by decide +kernel
theorem dL_leg_10 : decode cL_leg 10 = .ok (.goto 7, 3) := by decide +kernel
theorem dL_leg_13 : decode cL_leg 13 = .ok (.astore 4, 2) := by decide +kernel
theorem dL_leg_15 : decode cL_leg 15 = .ok (.iconst 1, 1) := by decide +kernel
theorem dL_leg_16 : decode cL_leg 16 = .ok (.ireturn, 1) := by decide +kernel
theorem dL_leg_17 : decode cL_leg 17 = .ok (.iconst 0, 1) := by decide +kernel
theorem dL_leg_18 : decode cL_leg 18 = .ok (.ireturn, 1) := by decide +kernel
theorem dL_push_0 : decode cL_push 0 = .ok (.aload 4, 2) := by decide +kernel
theorem dL_push_2 : decode cL_push 2 = .ok (.iconst 0, 1) := by decide +kernel
theorem dL_push_3 : decode cL_push 3 = .ok (.aload_n 0, 1) := by decide +kernel
theorem dL_push_4 : decode cL_push 4 = .ok (.iload_n 1, 1) := by decide +kernel
theorem dL_push_5 : decode cL_push 5 = .ok (.iload_n 2, 1) := by decide +kernel
theorem dL_push_6 : decode cL_push 6 = .ok (.iload_n 3, 1) := by decide +kernel
theorem dL_push_7 : decode cL_push 7 = .ok (.invokevirtual 33, 3) := by decide +kernel
theorem dL_push_10 : decode cL_push 10 = .ok (.i2l, 1) := by decide +kernel
theorem dL_push_11 : decode cL_push 11 = .ok (.lastore, 1) := by decide +kernel
theorem dL_push_12 : decode cL_push 12 = .ok (.goto 11, 3) := by decide +kernel
theorem dL_push_15 : decode cL_push 15 = .ok (.astore 5, 2) := by decide +kernel
theorem dL_push_17 : decode cL_push 17 = .ok (.iconst 1, 1) := by decide +kernel
theorem dL_push_18 : decode cL_push 18 = .ok (.ireturn, 1) := by decide +kernel
theorem dL_push_19 : decode cL_push 19 = .ok (.astore 5, 2) := by decide +kernel
theorem dL_push_21 : decode cL_push 21 = .ok (.iconst 2, 1) := by decide +kernel
theorem dL_push_22 : decode cL_push 22 = .ok (.ireturn, 1) := by decide +kernel
theorem dL_push_23 : decode cL_push 23 = .ok (.iconst 0, 1) := by decide +kernel
theorem dL_push_24 : decode cL_push 24 = .ok (.ireturn, 1) := by decide +kernel
theorem dL_ductOf_0 : decode cL_ductOf 0 = .ok (.aload_n 3, 1) := by decide +kernel
theorem dL_ductOf_1 : decode cL_ductOf 1 = .ok (.iconst 0, 1) := by decide +kernel
theorem dL_ductOf_2 : decode cL_ductOf 2 = .ok (.aload_n 0, 1) := by decide +kernel
theorem dL_ductOf_3 : decode cL_ductOf 3 = .ok (.iload_n 1, 1) := by decide +kernel
theorem dL_ductOf_4 : decode cL_ductOf 4 = .ok (.iload_n 2, 1) := by decide +kernel
theorem dL_ductOf_5 : decode cL_ductOf 5 = .ok (.invokevirtual 37, 3) := by decide +kernel
theorem dL_ductOf_8 : decode cL_ductOf 8 = .ok (.i2l, 1) := by decide +kernel
theorem dL_ductOf_9 : decode cL_ductOf 9 = .ok (.lastore, 1) := by decide +kernel
theorem dL_ductOf_10 : decode cL_ductOf 10 = .ok (.goto 11, 3) := by decide +kernel
theorem dL_ductOf_13 : decode cL_ductOf 13 = .ok (.astore 4, 2) := by decide +kernel
theorem dL_ductOf_15 : decode cL_ductOf 15 = .ok (.iconst 1, 1) := by decide +kernel
theorem dL_ductOf_16 : decode cL_ductOf 16 = .ok (.ireturn, 1) := by decide +kernel
theorem dL_ductOf_17 : decode cL_ductOf 17 = .ok (.astore 4, 2) := by decide +kernel
theorem dL_ductOf_19 : decode cL_ductOf 19 = .ok (.iconst 2, 1) := by decide +kernel
theorem dL_ductOf_20 : decode cL_ductOf 20 = .ok (.ireturn, 1) := by decide +kernel
theorem dL_ductOf_21 : decode cL_ductOf 21 = .ok (.iconst 0, 1) := by decide +kernel
theorem dL_ductOf_22 : decode cL_ductOf 22 = .ok (.ireturn, 1) := by decide +kernel
theorem dL_setting_0 : decode cL_setting 0 = .ok (.aload_n 2, 1) := by decide +kernel
theorem dL_setting_1 : decode cL_setting 1 = .ok (.iconst 0, 1) := by decide +kernel
theorem dL_setting_2 : decode cL_setting 2 = .ok (.aload_n 0, 1) := by decide +kernel
theorem dL_setting_3 : decode cL_setting 3 = .ok (.iload_n 1, 1) := by decide +kernel
theorem dL_setting_4 : decode cL_setting 4 = .ok (.invokevirtual 40, 3) := by decide +kernel
theorem dL_setting_7 : decode cL_setting 7 = .ok (.i2l, 1) := by decide +kernel
theorem dL_setting_8 : decode cL_setting 8 = .ok (.lastore, 1) := by decide +kernel
theorem dL_setting_9 : decode cL_setting 9 = .ok (.goto 6, 3) := by decide +kernel
theorem dL_setting_12 : decode cL_setting 12 = .ok (.astore_n 3, 1) := by decide +kernel
theorem dL_setting_13 : decode cL_setting 13 = .ok (.iconst 1, 1) := by decide +kernel
theorem dL_setting_14 : decode cL_setting 14 = .ok (.ireturn, 1) := by decide +kernel
theorem dL_setting_15 : decode cL_setting 15 = .ok (.iconst 0, 1) := by decide +kernel
theorem dL_setting_16 : decode cL_setting 16 = .ok (.ireturn, 1) := by decide +kernel
theorem dL_valve_0 : decode cL_valve 0 = .ok (.aload_n 3, 1) := by decide +kernel
theorem dL_valve_1 : decode cL_valve 1 = .ok (.iconst 0, 1) := by decide +kernel
theorem dL_valve_2 : decode cL_valve 2 = .ok (.aload_n 0, 1) := by decide +kernel
theorem dL_valve_3 : decode cL_valve 3 = .ok (.iload_n 1, 1) := by decide +kernel
theorem dL_valve_4 : decode cL_valve 4 = .ok (.iload_n 2, 1) := by decide +kernel
theorem dL_valve_5 : decode cL_valve 5 = .ok (.invokevirtual 43, 3) := by decide +kernel
theorem dL_valve_8 : decode cL_valve 8 = .ok (.i2l, 1) := by decide +kernel
theorem dL_valve_9 : decode cL_valve 9 = .ok (.lastore, 1) := by decide +kernel
theorem dL_valve_10 : decode cL_valve 10 = .ok (.goto 11, 3) := by decide +kernel
theorem dL_valve_13 : decode cL_valve 13 = .ok (.astore 4, 2) := by decide +kernel
theorem dL_valve_15 : decode cL_valve 15 = .ok (.iconst 1, 1) := by decide +kernel
theorem dL_valve_16 : decode cL_valve 16 = .ok (.ireturn, 1) := by decide +kernel
theorem dL_valve_17 : decode cL_valve 17 = .ok (.astore 4, 2) := by decide +kernel
theorem dL_valve_19 : decode cL_valve 19 = .ok (.iconst 2, 1) := by decide +kernel
theorem dL_valve_20 : decode cL_valve 20 = .ok (.ireturn, 1) := by decide +kernel
theorem dL_valve_21 : decode cL_valve 21 = .ok (.iconst 0, 1) := by decide +kernel
theorem dL_valve_22 : decode cL_valve 22 = .ok (.ireturn, 1) := by decide +kernel
theorem dL_duct_0 : decode cL_duct 0 = .ok (.aload 6, 2) := by decide +kernel
theorem dL_duct_2 : decode cL_duct 2 = .ok (.iconst 0, 1) := by decide +kernel
theorem dL_duct_3 : decode cL_duct 3 = .ok (.aload_n 0, 1) := by decide +kernel
theorem dL_duct_4 : decode cL_duct 4 = .ok (.iload_n 1, 1) := by decide +kernel
theorem dL_duct_5 : decode cL_duct 5 = .ok (.iload_n 2, 1) := by decide +kernel
theorem dL_duct_6 : decode cL_duct 6 = .ok (.iload_n 3, 1) := by decide +kernel
theorem dL_duct_7 : decode cL_duct 7 = .ok (.iload 4, 2) := by decide +kernel
theorem dL_duct_9 : decode cL_duct 9 = .ok (.iload 5, 2) := by decide +kernel
theorem dL_duct_11 : decode cL_duct 11 = .ok (.invokevirtual 46, 3) := by decide +kernel
theorem dL_duct_14 : decode cL_duct 14 = .ok (.i2l, 1) := by decide +kernel
theorem dL_duct_15 : decode cL_duct 15 = .ok (.lastore, 1) := by decide +kernel
theorem dL_duct_16 : decode cL_duct 16 = .ok (.goto 15, 3) := by decide +kernel
theorem dL_duct_19 : decode cL_duct 19 = .ok (.astore 7, 2) := by decide +kernel
theorem dL_duct_21 : decode cL_duct 21 = .ok (.iconst 1, 1) := by decide +kernel
theorem dL_duct_22 : decode cL_duct 22 = .ok (.ireturn, 1) := by decide +kernel
theorem dL_duct_23 : decode cL_duct 23 = .ok (.astore 7, 2) := by decide +kernel
theorem dL_duct_25 : decode cL_duct 25 = .ok (.iconst 2, 1) := by decide +kernel
theorem dL_duct_26 : decode cL_duct 26 = .ok (.ireturn, 1) := by decide +kernel
theorem dL_duct_27 : decode cL_duct 27 = .ok (.astore 7, 2) := by decide +kernel
theorem dL_duct_29 : decode cL_duct 29 = .ok (.iconst 3, 1) := by decide +kernel
theorem dL_duct_30 : decode cL_duct 30 = .ok (.ireturn, 1) := by decide +kernel
theorem dL_duct_31 : decode cL_duct 31 = .ok (.iconst 0, 1) := by decide +kernel
theorem dL_duct_32 : decode cL_duct 32 = .ok (.ireturn, 1) := by decide +kernel
theorem dL_remove_0 : decode cL_remove 0 = .ok (.aload_n 2, 1) := by decide +kernel
theorem dL_remove_1 : decode cL_remove 1 = .ok (.iconst 0, 1) := by decide +kernel
theorem dL_remove_2 : decode cL_remove 2 = .ok (.aload_n 0, 1) := by decide +kernel
theorem dL_remove_3 : decode cL_remove 3 = .ok (.iload_n 1, 1) := by decide +kernel
theorem dL_remove_4 : decode cL_remove 4 = .ok (.invokevirtual 50, 3) := by decide +kernel
theorem dL_remove_7 : decode cL_remove 7 = .ok (.i2l, 1) := by decide +kernel
theorem dL_remove_8 : decode cL_remove 8 = .ok (.lastore, 1) := by decide +kernel
theorem dL_remove_9 : decode cL_remove 9 = .ok (.goto 6, 3) := by decide +kernel
theorem dL_remove_12 : decode cL_remove 12 = .ok (.astore_n 3, 1) := by decide +kernel
theorem dL_remove_13 : decode cL_remove 13 = .ok (.iconst 1, 1) := by decide +kernel
theorem dL_remove_14 : decode cL_remove 14 = .ok (.ireturn, 1) := by decide +kernel
theorem dL_remove_15 : decode cL_remove 15 = .ok (.iconst 0, 1) := by decide +kernel
theorem dL_remove_16 : decode cL_remove 16 = .ok (.ireturn, 1) := by decide +kernel
theorem dL_press_0 : decode cL_press 0 = .ok (.aload_n 3, 1) := by decide +kernel
theorem dL_press_1 : decode cL_press 1 = .ok (.iconst 0, 1) := by decide +kernel
theorem dL_press_2 : decode cL_press 2 = .ok (.aload_n 0, 1) := by decide +kernel
theorem dL_press_3 : decode cL_press 3 = .ok (.iload_n 1, 1) := by decide +kernel
theorem dL_press_4 : decode cL_press 4 = .ok (.iload_n 2, 1) := by decide +kernel
theorem dL_press_5 : decode cL_press 5 = .ok (.invokevirtual 53, 3) := by decide +kernel
theorem dL_press_8 : decode cL_press 8 = .ok (.i2l, 1) := by decide +kernel
theorem dL_press_9 : decode cL_press 9 = .ok (.lastore, 1) := by decide +kernel
theorem dL_press_10 : decode cL_press 10 = .ok (.goto 11, 3) := by decide +kernel
theorem dL_press_13 : decode cL_press 13 = .ok (.astore 4, 2) := by decide +kernel
theorem dL_press_15 : decode cL_press 15 = .ok (.iconst 1, 1) := by decide +kernel
theorem dL_press_16 : decode cL_press 16 = .ok (.ireturn, 1) := by decide +kernel
theorem dL_press_17 : decode cL_press 17 = .ok (.astore 4, 2) := by decide +kernel
theorem dL_press_19 : decode cL_press 19 = .ok (.iconst 2, 1) := by decide +kernel
theorem dL_press_20 : decode cL_press 20 = .ok (.ireturn, 1) := by decide +kernel
theorem dL_press_21 : decode cL_press 21 = .ok (.iconst 0, 1) := by decide +kernel
theorem dL_press_22 : decode cL_press 22 = .ok (.ireturn, 1) := by decide +kernel
theorem dL_leak_0 : decode cL_leak 0 = .ok (.aload_n 3, 1) := by decide +kernel
theorem dL_leak_1 : decode cL_leak 1 = .ok (.iconst 0, 1) := by decide +kernel
theorem dL_leak_2 : decode cL_leak 2 = .ok (.aload_n 0, 1) := by decide +kernel
theorem dL_leak_3 : decode cL_leak 3 = .ok (.iload_n 1, 1) := by decide +kernel
theorem dL_leak_4 : decode cL_leak 4 = .ok (.iload_n 2, 1) := by decide +kernel
theorem dL_leak_5 : decode cL_leak 5 = .ok (.invokevirtual 57, 3) := by decide +kernel
theorem dL_leak_8 : decode cL_leak 8 = .ok (.i2l, 1) := by decide +kernel
theorem dL_leak_9 : decode cL_leak 9 = .ok (.lastore, 1) := by decide +kernel
theorem dL_leak_10 : decode cL_leak 10 = .ok (.goto 11, 3) := by decide +kernel
theorem dL_leak_13 : decode cL_leak 13 = .ok (.astore 4, 2) := by decide +kernel
theorem dL_leak_15 : decode cL_leak 15 = .ok (.iconst 1, 1) := by decide +kernel
theorem dL_leak_16 : decode cL_leak 16 = .ok (.ireturn, 1) := by decide +kernel
theorem dL_leak_17 : decode cL_leak 17 = .ok (.astore 4, 2) := by decide +kernel
theorem dL_leak_19 : decode cL_leak 19 = .ok (.iconst 2, 1) := by decide +kernel
theorem dL_leak_20 : decode cL_leak 20 = .ok (.ireturn, 1) := by decide +kernel
theorem dL_leak_21 : decode cL_leak 21 = .ok (.iconst 0, 1) := by decide +kernel
theorem dL_leak_22 : decode cL_leak 22 = .ok (.ireturn, 1) := by decide +kernel
theorem dL_feed_0 : decode cL_feed 0 = .ok (.aload_n 3, 1) := by decide +kernel
theorem dL_feed_1 : decode cL_feed 1 = .ok (.iconst 0, 1) := by decide +kernel
theorem dL_feed_2 : decode cL_feed 2 = .ok (.aload_n 0, 1) := by decide +kernel
theorem dL_feed_3 : decode cL_feed 3 = .ok (.iload_n 1, 1) := by decide +kernel
theorem dL_feed_4 : decode cL_feed 4 = .ok (.iload_n 2, 1) := by decide +kernel
theorem dL_feed_5 : decode cL_feed 5 = .ok (.invokevirtual 60, 3) := by decide +kernel
theorem dL_feed_8 : decode cL_feed 8 = .ok (.i2l, 1) := by decide +kernel
theorem dL_feed_9 : decode cL_feed 9 = .ok (.lastore, 1) := by decide +kernel
theorem dL_feed_10 : decode cL_feed 10 = .ok (.goto 11, 3) := by decide +kernel
theorem dL_feed_13 : decode cL_feed 13 = .ok (.astore 4, 2) := by decide +kernel
theorem dL_feed_15 : decode cL_feed 15 = .ok (.iconst 1, 1) := by decide +kernel
theorem dL_feed_16 : decode cL_feed 16 = .ok (.ireturn, 1) := by decide +kernel
theorem dL_feed_17 : decode cL_feed 17 = .ok (.astore 4, 2) := by decide +kernel
theorem dL_feed_19 : decode cL_feed 19 = .ok (.iconst 2, 1) := by decide +kernel
theorem dL_feed_20 : decode cL_feed 20 = .ok (.ireturn, 1) := by decide +kernel
theorem dL_feed_21 : decode cL_feed 21 = .ok (.iconst 0, 1) := by decide +kernel
theorem dL_feed_22 : decode cL_feed 22 = .ok (.ireturn, 1) := by decide +kernel
theorem dL_set_0 : decode cL_set 0 = .ok (.aload_n 3, 1) := by decide +kernel
theorem dL_set_1 : decode cL_set 1 = .ok (.iconst 0, 1) := by decide +kernel
theorem dL_set_2 : decode cL_set 2 = .ok (.aload_n 0, 1) := by decide +kernel
theorem dL_set_3 : decode cL_set 3 = .ok (.iload_n 1, 1) := by decide +kernel
theorem dL_set_4 : decode cL_set 4 = .ok (.iload_n 2, 1) := by decide +kernel
theorem dL_set_5 : decode cL_set 5 = .ok (.invokevirtual 63, 3) := by decide +kernel
theorem dL_set_8 : decode cL_set 8 = .ok (.i2l, 1) := by decide +kernel
theorem dL_set_9 : decode cL_set 9 = .ok (.lastore, 1) := by decide +kernel
theorem dL_set_10 : decode cL_set 10 = .ok (.goto 7, 3) := by decide +kernel
theorem dL_set_13 : decode cL_set 13 = .ok (.astore 4, 2) := by decide +kernel
theorem dL_set_15 : decode cL_set 15 = .ok (.iconst 1, 1) := by decide +kernel
theorem dL_set_16 : decode cL_set 16 = .ok (.ireturn, 1) := by decide +kernel
theorem dL_set_17 : decode cL_set 17 = .ok (.iconst 0, 1) := by decide +kernel
theorem dL_set_18 : decode cL_set 18 = .ok (.ireturn, 1) := by decide +kernel
theorem dL_ticks_0 : decode cL_ticks 0 = .ok (.aload_n 2, 1) := by decide +kernel
theorem dL_ticks_1 : decode cL_ticks 1 = .ok (.iconst 0, 1) := by decide +kernel
theorem dL_ticks_2 : decode cL_ticks 2 = .ok (.aload_n 0, 1) := by decide +kernel
theorem dL_ticks_3 : decode cL_ticks 3 = .ok (.iload_n 1, 1) := by decide +kernel
theorem dL_ticks_4 : decode cL_ticks 4 = .ok (.invokevirtual 66, 3) := by decide +kernel
theorem dL_ticks_7 : decode cL_ticks 7 = .ok (.i2l, 1) := by decide +kernel
theorem dL_ticks_8 : decode cL_ticks 8 = .ok (.lastore, 1) := by decide +kernel
theorem dL_ticks_9 : decode cL_ticks 9 = .ok (.goto 6, 3) := by decide +kernel
theorem dL_ticks_12 : decode cL_ticks 12 = .ok (.astore_n 3, 1) := by decide +kernel
theorem dL_ticks_13 : decode cL_ticks 13 = .ok (.iconst 1, 1) := by decide +kernel
theorem dL_ticks_14 : decode cL_ticks 14 = .ok (.ireturn, 1) := by decide +kernel
theorem dL_ticks_15 : decode cL_ticks 15 = .ok (.iconst 0, 1) := by decide +kernel
theorem dL_ticks_16 : decode cL_ticks 16 = .ok (.ireturn, 1) := by decide +kernel
theorem dL_undo_0 : decode cL_undo 0 = .ok (.aload_n 1, 1) := by decide +kernel
theorem dL_undo_1 : decode cL_undo 1 = .ok (.iconst 0, 1) := by decide +kernel
theorem dL_undo_2 : decode cL_undo 2 = .ok (.aload_n 0, 1) := by decide +kernel
theorem dL_undo_3 : decode cL_undo 3 = .ok (.invokevirtual 69, 3) := by decide +kernel
theorem dL_undo_6 : decode cL_undo 6 = .ok (.i2l, 1) := by decide +kernel
theorem dL_undo_7 : decode cL_undo 7 = .ok (.lastore, 1) := by decide +kernel
theorem dL_undo_8 : decode cL_undo 8 = .ok (.goto 6, 3) := by decide +kernel
theorem dL_undo_11 : decode cL_undo 11 = .ok (.astore_n 2, 1) := by decide +kernel
theorem dL_undo_12 : decode cL_undo 12 = .ok (.iconst 1, 1) := by decide +kernel
theorem dL_undo_13 : decode cL_undo 13 = .ok (.ireturn, 1) := by decide +kernel
theorem dL_undo_14 : decode cL_undo 14 = .ok (.iconst 0, 1) := by decide +kernel
theorem dL_undo_15 : decode cL_undo 15 = .ok (.ireturn, 1) := by decide +kernel
theorem dL_beat_0 : decode cL_beat 0 = .ok (.aload_n 2, 1) := by decide +kernel
theorem dL_beat_1 : decode cL_beat 1 = .ok (.iconst 0, 1) := by decide +kernel
theorem dL_beat_2 : decode cL_beat 2 = .ok (.aload_n 0, 1) := by decide +kernel
theorem dL_beat_3 : decode cL_beat 3 = .ok (.iload_n 1, 1) := by decide +kernel
theorem dL_beat_4 : decode cL_beat 4 = .ok (.invokevirtual 72, 3) := by decide +kernel
theorem dL_beat_7 : decode cL_beat 7 = .ok (.i2l, 1) := by decide +kernel
theorem dL_beat_8 : decode cL_beat 8 = .ok (.lastore, 1) := by decide +kernel
theorem dL_beat_9 : decode cL_beat 9 = .ok (.goto 6, 3) := by decide +kernel
theorem dL_beat_12 : decode cL_beat 12 = .ok (.astore_n 3, 1) := by decide +kernel
theorem dL_beat_13 : decode cL_beat 13 = .ok (.iconst 1, 1) := by decide +kernel
theorem dL_beat_14 : decode cL_beat 14 = .ok (.ireturn, 1) := by decide +kernel
theorem dL_beat_15 : decode cL_beat 15 = .ok (.iconst 0, 1) := by decide +kernel
theorem dL_beat_16 : decode cL_beat 16 = .ok (.ireturn, 1) := by decide +kernel
theorem dL_rule_0 : decode cL_rule 0 = .ok (.aload 4, 2) := by decide +kernel
theorem dL_rule_2 : decode cL_rule 2 = .ok (.iconst 0, 1) := by decide +kernel
theorem dL_rule_3 : decode cL_rule 3 = .ok (.aload_n 0, 1) := by decide +kernel
theorem dL_rule_4 : decode cL_rule 4 = .ok (.iload_n 1, 1) := by decide +kernel
theorem dL_rule_5 : decode cL_rule 5 = .ok (.iload_n 2, 1) := by decide +kernel
theorem dL_rule_6 : decode cL_rule 6 = .ok (.iload_n 3, 1) := by decide +kernel
theorem dL_rule_7 : decode cL_rule 7 = .ok (.invokevirtual 75, 3) := by decide +kernel
theorem dL_rule_10 : decode cL_rule 10 = .ok (.i2l, 1) := by decide +kernel
theorem dL_rule_11 : decode cL_rule 11 = .ok (.lastore, 1) := by decide +kernel
theorem dL_rule_12 : decode cL_rule 12 = .ok (.goto 11, 3) := by decide +kernel
theorem dL_rule_15 : decode cL_rule 15 = .ok (.astore 5, 2) := by decide +kernel
theorem dL_rule_17 : decode cL_rule 17 = .ok (.iconst 1, 1) := by decide +kernel
theorem dL_rule_18 : decode cL_rule 18 = .ok (.ireturn, 1) := by decide +kernel
theorem dL_rule_19 : decode cL_rule 19 = .ok (.astore 5, 2) := by decide +kernel
theorem dL_rule_21 : decode cL_rule 21 = .ok (.iconst 2, 1) := by decide +kernel
theorem dL_rule_22 : decode cL_rule 22 = .ok (.ireturn, 1) := by decide +kernel
theorem dL_rule_23 : decode cL_rule 23 = .ok (.iconst 0, 1) := by decide +kernel
theorem dL_rule_24 : decode cL_rule 24 = .ok (.ireturn, 1) := by decide +kernel
theorem dL_ifLeak_0 : decode cL_ifLeak 0 = .ok (.aload 4, 2) := by decide +kernel
theorem dL_ifLeak_2 : decode cL_ifLeak 2 = .ok (.iconst 0, 1) := by decide +kernel
theorem dL_ifLeak_3 : decode cL_ifLeak 3 = .ok (.aload_n 0, 1) := by decide +kernel
theorem dL_ifLeak_4 : decode cL_ifLeak 4 = .ok (.iload_n 1, 1) := by decide +kernel
theorem dL_ifLeak_5 : decode cL_ifLeak 5 = .ok (.iload_n 2, 1) := by decide +kernel
theorem dL_ifLeak_6 : decode cL_ifLeak 6 = .ok (.iload_n 3, 1) := by decide +kernel
theorem dL_ifLeak_7 : decode cL_ifLeak 7 = .ok (.invokevirtual 78, 3) := by decide +kernel
theorem dL_ifLeak_10 : decode cL_ifLeak 10 = .ok (.i2l, 1) := by decide +kernel
theorem dL_ifLeak_11 : decode cL_ifLeak 11 = .ok (.lastore, 1) := by decide +kernel
theorem dL_ifLeak_12 : decode cL_ifLeak 12 = .ok (.goto 11, 3) := by decide +kernel
theorem dL_ifLeak_15 : decode cL_ifLeak 15 = .ok (.astore 5, 2) := by decide +kernel
theorem dL_ifLeak_17 : decode cL_ifLeak 17 = .ok (.iconst 1, 1) := by decide +kernel
theorem dL_ifLeak_18 : decode cL_ifLeak 18 = .ok (.ireturn, 1) := by decide +kernel
theorem dL_ifLeak_19 : decode cL_ifLeak 19 = .ok (.astore 5, 2) := by decide +kernel
theorem dL_ifLeak_21 : decode cL_ifLeak 21 = .ok (.iconst 2, 1) := by decide +kernel
theorem dL_ifLeak_22 : decode cL_ifLeak 22 = .ok (.ireturn, 1) := by decide +kernel
theorem dL_ifLeak_23 : decode cL_ifLeak 23 = .ok (.iconst 0, 1) := by decide +kernel
theorem dL_ifLeak_24 : decode cL_ifLeak 24 = .ok (.ireturn, 1) := by decide +kernel
theorem dL_suspect_0 : decode cL_suspect 0 = .ok (.aload_n 3, 1) := by decide +kernel
theorem dL_suspect_1 : decode cL_suspect 1 = .ok (.iconst 0, 1) := by decide +kernel
theorem dL_suspect_2 : decode cL_suspect 2 = .ok (.aload_n 0, 1) := by decide +kernel
theorem dL_suspect_3 : decode cL_suspect 3 = .ok (.iload_n 1, 1) := by decide +kernel
theorem dL_suspect_4 : decode cL_suspect 4 = .ok (.iload_n 2, 1) := by decide +kernel
theorem dL_suspect_5 : decode cL_suspect 5 = .ok (.invokevirtual 81, 3) := by decide +kernel
theorem dL_suspect_8 : decode cL_suspect 8 = .ok (.i2l, 1) := by decide +kernel
theorem dL_suspect_9 : decode cL_suspect 9 = .ok (.lastore, 1) := by decide +kernel
theorem dL_suspect_10 : decode cL_suspect 10 = .ok (.goto 11, 3) := by decide +kernel
theorem dL_suspect_13 : decode cL_suspect 13 = .ok (.astore 4, 2) := by decide +kernel
theorem dL_suspect_15 : decode cL_suspect 15 = .ok (.iconst 1, 1) := by decide +kernel
theorem dL_suspect_16 : decode cL_suspect 16 = .ok (.ireturn, 1) := by decide +kernel
theorem dL_suspect_17 : decode cL_suspect 17 = .ok (.astore 4, 2) := by decide +kernel
theorem dL_suspect_19 : decode cL_suspect 19 = .ok (.iconst 2, 1) := by decide +kernel
theorem dL_suspect_20 : decode cL_suspect 20 = .ok (.ireturn, 1) := by decide +kernel
theorem dL_suspect_21 : decode cL_suspect 21 = .ok (.iconst 0, 1) := by decide +kernel
theorem dL_suspect_22 : decode cL_suspect 22 = .ok (.ireturn, 1) := by decide +kernel
theorem dL_runScript_0 : decode cL_runScript 0 = .ok (.aload 4, 2) := by decide +kernel
theorem dL_runScript_2 : decode cL_runScript 2 = .ok (.iconst 0, 1) := by decide +kernel
theorem dL_runScript_3 : decode cL_runScript 3 = .ok (.aload_n 0, 1) := by decide +kernel
theorem dL_runScript_4 : decode cL_runScript 4 = .ok (.iload_n 1, 1) := by decide +kernel
theorem dL_runScript_5 : decode cL_runScript 5 = .ok (.lload_n 2, 1) := by decide +kernel
theorem dL_runScript_6 : decode cL_runScript 6 = .ok (.invokevirtual 84, 3) := by decide +kernel
theorem dL_runScript_9 : decode cL_runScript 9 = .ok (.i2l, 1) := by decide +kernel
theorem dL_runScript_10 : decode cL_runScript 10 = .ok (.lastore, 1) := by decide +kernel
theorem dL_runScript_11 : decode cL_runScript 11 = .ok (.goto 7, 3) := by decide +kernel
theorem dL_runScript_14 : decode cL_runScript 14 = .ok (.astore 5, 2) := by decide +kernel
theorem dL_runScript_16 : decode cL_runScript 16 = .ok (.iconst 1, 1) := by decide +kernel
theorem dL_runScript_17 : decode cL_runScript 17 = .ok (.ireturn, 1) := by decide +kernel
theorem dL_runScript_18 : decode cL_runScript 18 = .ok (.iconst 0, 1) := by decide +kernel
theorem dL_runScript_19 : decode cL_runScript 19 = .ok (.ireturn, 1) := by decide +kernel
theorem dL_simulate_0 : decode cL_simulate 0 = .ok (.aload 4, 2) := by decide +kernel
theorem dL_simulate_2 : decode cL_simulate 2 = .ok (.iconst 0, 1) := by decide +kernel
theorem dL_simulate_3 : decode cL_simulate 3 = .ok (.aload_n 0, 1) := by decide +kernel
theorem dL_simulate_4 : decode cL_simulate 4 = .ok (.lload_n 1, 1) := by decide +kernel
theorem dL_simulate_5 : decode cL_simulate 5 = .ok (.iload_n 3, 1) := by decide +kernel
theorem dL_simulate_6 : decode cL_simulate 6 = .ok (.invokevirtual 88, 3) := by decide +kernel
theorem dL_simulate_9 : decode cL_simulate 9 = .ok (.i2l, 1) := by decide +kernel
theorem dL_simulate_10 : decode cL_simulate 10 = .ok (.lastore, 1) := by decide +kernel
theorem dL_simulate_11 : decode cL_simulate 11 = .ok (.goto 7, 3) := by decide +kernel
theorem dL_simulate_14 : decode cL_simulate 14 = .ok (.astore 5, 2) := by decide +kernel
theorem dL_simulate_16 : decode cL_simulate 16 = .ok (.iconst 1, 1) := by decide +kernel
theorem dL_simulate_17 : decode cL_simulate 17 = .ok (.ireturn, 1) := by decide +kernel
theorem dL_simulate_18 : decode cL_simulate 18 = .ok (.iconst 0, 1) := by decide +kernel
theorem dL_simulate_19 : decode cL_simulate 19 = .ok (.ireturn, 1) := by decide +kernel
theorem dL_save_0 : decode cL_save 0 = .ok (.aload_n 2, 1) := by decide +kernel
theorem dL_save_1 : decode cL_save 1 = .ok (.iconst 0, 1) := by decide +kernel
theorem dL_save_2 : decode cL_save 2 = .ok (.aload_n 0, 1) := by decide +kernel
theorem dL_save_3 : decode cL_save 3 = .ok (.iload_n 1, 1) := by decide +kernel
theorem dL_save_4 : decode cL_save 4 = .ok (.invokevirtual 92, 3) := by decide +kernel
theorem dL_save_7 : decode cL_save 7 = .ok (.i2l, 1) := by decide +kernel
theorem dL_save_8 : decode cL_save 8 = .ok (.lastore, 1) := by decide +kernel
theorem dL_save_9 : decode cL_save 9 = .ok (.goto 6, 3) := by decide +kernel
theorem dL_save_12 : decode cL_save 12 = .ok (.astore_n 3, 1) := by decide +kernel
theorem dL_save_13 : decode cL_save 13 = .ok (.iconst 1, 1) := by decide +kernel
theorem dL_save_14 : decode cL_save 14 = .ok (.ireturn, 1) := by decide +kernel
theorem dL_save_15 : decode cL_save 15 = .ok (.iconst 0, 1) := by decide +kernel
theorem dL_save_16 : decode cL_save 16 = .ok (.ireturn, 1) := by decide +kernel
theorem dL_restore_0 : decode cL_restore 0 = .ok (.aload_n 2, 1) := by decide +kernel
theorem dL_restore_1 : decode cL_restore 1 = .ok (.iconst 0, 1) := by decide +kernel
theorem dL_restore_2 : decode cL_restore 2 = .ok (.aload_n 0, 1) := by decide +kernel
theorem dL_restore_3 : decode cL_restore 3 = .ok (.iload_n 1, 1) := by decide +kernel
theorem dL_restore_4 : decode cL_restore 4 = .ok (.invokevirtual 95, 3) := by decide +kernel
theorem dL_restore_7 : decode cL_restore 7 = .ok (.i2l, 1) := by decide +kernel
theorem dL_restore_8 : decode cL_restore 8 = .ok (.lastore, 1) := by decide +kernel
theorem dL_restore_9 : decode cL_restore 9 = .ok (.goto 9, 3) := by decide +kernel
theorem dL_restore_12 : decode cL_restore 12 = .ok (.astore_n 3, 1) := by decide +kernel
theorem dL_restore_13 : decode cL_restore 13 = .ok (.iconst 1, 1) := by decide +kernel
theorem dL_restore_14 : decode cL_restore 14 = .ok (.ireturn, 1) := by decide +kernel
theorem dL_restore_15 : decode cL_restore 15 = .ok (.astore_n 3, 1) := by decide +kernel
theorem dL_restore_16 : decode cL_restore 16 = .ok (.iconst 2, 1) := by decide +kernel
theorem dL_restore_17 : decode cL_restore 17 = .ok (.ireturn, 1) := by decide +kernel
theorem dL_restore_18 : decode cL_restore 18 = .ok (.iconst 0, 1) := by decide +kernel
theorem dL_restore_19 : decode cL_restore 19 = .ok (.ireturn, 1) := by decide +kernel
theorem dL_law_0 : decode cL_law 0 = .ok (.new 8, 3) := by decide +kernel
theorem dL_law_3 : decode cL_law 3 = .ok (.dup, 1) := by decide +kernel
theorem dL_law_4 : decode cL_law 4 = .ok (.invokespecial 98, 3) := by decide +kernel
theorem dL_law_7 : decode cL_law 7 = .ok (.astore_n 1, 1) := by decide +kernel
theorem dL_law_8 : decode cL_law 8 = .ok (.new 99, 3) := by decide +kernel
theorem dL_law_11 : decode cL_law 11 = .ok (.dup, 1) := by decide +kernel
theorem dL_law_12 : decode cL_law 12 = .ok (.invokespecial 101, 3) := by decide +kernel
theorem dL_law_15 : decode cL_law 15 = .ok (.astore_n 2, 1) := by decide +kernel
theorem dL_law_16 : decode cL_law 16 = .ok (.iconst 1, 1) := by decide +kernel
theorem dL_law_17 : decode cL_law 17 = .ok (.newarray .long, 2) := by decide +kernel
theorem dL_law_19 : decode cL_law 19 = .ok (.astore_n 3, 1) := by decide +kernel
theorem dL_law_20 : decode cL_law 20 = .ok (.iconst 0, 1) := by decide +kernel
theorem dL_law_21 : decode cL_law 21 = .ok (.istore 4, 2) := by decide +kernel
theorem dL_law_23 : decode cL_law 23 = .ok (.iload 4, 2) := by decide +kernel
theorem dL_law_25 : decode cL_law 25 = .ok (.aload_n 0, 1) := by decide +kernel
theorem dL_law_26 : decode cL_law 26 = .ok (.arraylength, 1) := by decide +kernel
theorem dL_law_27 : decode cL_law 27 = .ok (.bipush 6, 2) := by decide +kernel
theorem dL_law_29 : decode cL_law 29 = .ok (.isub, 1) := by decide +kernel
theorem dL_law_30 : decode cL_law 30 = .ok (.if_icmp .gt 1908, 3) := by decide +kernel
theorem dL_law_33 : decode cL_law 33 = .ok (.aload_n 0, 1) := by decide +kernel
theorem dL_law_34 : decode cL_law 34 = .ok (.iload 4, 2) := by decide +kernel
theorem dL_law_36 : decode cL_law 36 = .ok (.iaload, 1) := by decide +kernel
theorem dL_law_37 : decode cL_law 37 = .ok (.bipush 31, 2) := by decide +kernel
theorem dL_law_39 : decode cL_law 39 = .ok (.iand, 1) := by decide +kernel
theorem dL_law_40 : decode cL_law 40 = .ok (.tableswitch 1892 0 28 #[132, 188, 201, 214, 258, 314, 382, 450, 530, 598, 654, 722, 826, 882, 966, 1034, 1102, 1170, 1226, 1270, 1283, 1339, 1419, 1499, 1567, 1580, 1680, 1780, 1836], 132) := by decide +kernel
theorem dL_law_172 : decode cL_law 172 = .ok (.aload_n 1, 1) := by decide +kernel
theorem dL_law_173 : decode cL_law 173 = .ok (.aload_n 0, 1) := by decide +kernel
theorem dL_law_174 : decode cL_law 174 = .ok (.iload 4, 2) := by decide +kernel
theorem dL_law_176 : decode cL_law 176 = .ok (.iconst 1, 1) := by decide +kernel
theorem dL_law_177 : decode cL_law 177 = .ok (.iadd, 1) := by decide +kernel
theorem dL_law_178 : decode cL_law 178 = .ok (.iaload, 1) := by decide +kernel
theorem dL_law_179 : decode cL_law 179 = .ok (.aload_n 3, 1) := by decide +kernel
theorem dL_law_180 : decode cL_law 180 = .ok (.invokestatic 102, 3) := by decide +kernel
theorem dL_law_183 : decode cL_law 183 = .ok (.istore 5, 2) := by decide +kernel
theorem dL_law_185 : decode cL_law 185 = .ok (.aload_n 2, 1) := by decide +kernel
theorem dL_law_186 : decode cL_law 186 = .ok (.aload_n 0, 1) := by decide +kernel
theorem dL_law_187 : decode cL_law 187 = .ok (.iload 4, 2) := by decide +kernel
theorem dL_law_189 : decode cL_law 189 = .ok (.iconst 1, 1) := by decide +kernel
theorem dL_law_190 : decode cL_law 190 = .ok (.iadd, 1) := by decide +kernel
theorem dL_law_191 : decode cL_law 191 = .ok (.iaload, 1) := by decide +kernel
theorem dL_law_192 : decode cL_law 192 = .ok (.invokevirtual 107, 3) := by decide +kernel
theorem dL_law_195 : decode cL_law 195 = .ok (.istore 6, 2) := by decide +kernel
theorem dL_law_197 : decode cL_law 197 = .ok (.aload_n 2, 1) := by decide +kernel
theorem dL_law_198 : decode cL_law 198 = .ok (.invokevirtual 108, 3) := by decide +kernel
theorem dL_law_201 : decode cL_law 201 = .ok (.iload 5, 2) := by decide +kernel
theorem dL_law_203 : decode cL_law 203 = .ok (.if_icmp .eq 5, 3) := by decide +kernel
theorem dL_law_206 : decode cL_law 206 = .ok (.iconst 0, 1) := by decide +kernel
theorem dL_law_207 : decode cL_law 207 = .ok (.ireturn, 1) := by decide +kernel
theorem dL_law_208 : decode cL_law 208 = .ok (.iload 5, 2) := by decide +kernel
theorem dL_law_210 : decode cL_law 210 = .ok (.ifCond .ne 15, 3) := by decide +kernel
theorem dL_law_213 : decode cL_law 213 = .ok (.aload_n 3, 1) := by decide +kernel
theorem dL_law_214 : decode cL_law 214 = .ok (.iconst 0, 1) := by decide +kernel
theorem dL_law_215 : decode cL_law 215 = .ok (.laload, 1) := by decide +kernel
theorem dL_law_216 : decode cL_law 216 = .ok (.iload 6, 2) := by decide +kernel
theorem dL_law_218 : decode cL_law 218 = .ok (.i2l, 1) := by decide +kernel
theorem dL_law_219 : decode cL_law 219 = .ok (.lcmp, 1) := by decide +kernel
theorem dL_law_220 : decode cL_law 220 = .ok (.ifCond .eq 5, 3) := by decide +kernel
theorem dL_law_223 : decode cL_law 223 = .ok (.iconst 0, 1) := by decide +kernel
theorem dL_law_224 : decode cL_law 224 = .ok (.ireturn, 1) := by decide +kernel
theorem dL_law_225 : decode cL_law 225 = .ok (.goto 1707, 3) := by decide +kernel
theorem dL_law_228 : decode cL_law 228 = .ok (.aload_n 1, 1) := by decide +kernel
theorem dL_law_229 : decode cL_law 229 = .ok (.invokevirtual 111, 3) := by decide +kernel
theorem dL_law_232 : decode cL_law 232 = .ok (.aload_n 2, 1) := by decide +kernel
theorem dL_law_233 : decode cL_law 233 = .ok (.invokevirtual 114, 3) := by decide +kernel
theorem dL_law_236 : decode cL_law 236 = .ok (.if_icmp .eq 1696, 3) := by decide +kernel
theorem dL_law_239 : decode cL_law 239 = .ok (.iconst 0, 1) := by decide +kernel
theorem dL_law_240 : decode cL_law 240 = .ok (.ireturn, 1) := by decide +kernel
theorem dL_law_241 : decode cL_law 241 = .ok (.aload_n 1, 1) := by decide +kernel
theorem dL_law_242 : decode cL_law 242 = .ok (.invokevirtual 115, 3) := by decide +kernel
theorem dL_law_245 : decode cL_law 245 = .ok (.aload_n 2, 1) := by decide +kernel
theorem dL_law_246 : decode cL_law 246 = .ok (.invokevirtual 118, 3) := by decide +kernel
theorem dL_law_249 : decode cL_law 249 = .ok (.if_icmp .eq 1683, 3) := by decide +kernel
theorem dL_law_252 : decode cL_law 252 = .ok (.iconst 0, 1) := by decide +kernel
theorem dL_law_253 : decode cL_law 253 = .ok (.ireturn, 1) := by decide +kernel
theorem dL_law_254 : decode cL_law 254 = .ok (.aload_n 1, 1) := by decide +kernel
theorem dL_law_255 : decode cL_law 255 = .ok (.aload_n 3, 1) := by decide +kernel
theorem dL_law_256 : decode cL_law 256 = .ok (.invokestatic 119, 3) := by decide +kernel
theorem dL_law_259 : decode cL_law 259 = .ok (.istore 5, 2) := by decide +kernel
theorem dL_law_261 : decode cL_law 261 = .ok (.aload_n 2, 1) := by decide +kernel
theorem dL_law_262 : decode cL_law 262 = .ok (.invokevirtual 122, 3) := by decide +kernel
theorem dL_law_265 : decode cL_law 265 = .ok (.istore 6, 2) := by decide +kernel
theorem dL_law_267 : decode cL_law 267 = .ok (.aload_n 2, 1) := by decide +kernel
theorem dL_law_268 : decode cL_law 268 = .ok (.invokevirtual 108, 3) := by decide +kernel
theorem dL_law_271 : decode cL_law 271 = .ok (.iload 5, 2) := by decide +kernel
theorem dL_law_273 : decode cL_law 273 = .ok (.if_icmp .eq 5, 3) := by decide +kernel
theorem dL_law_276 : decode cL_law 276 = .ok (.iconst 0, 1) := by decide +kernel
theorem dL_law_277 : decode cL_law 277 = .ok (.ireturn, 1) := by decide +kernel
theorem dL_law_278 : decode cL_law 278 = .ok (.iload 5, 2) := by decide +kernel
theorem dL_law_280 : decode cL_law 280 = .ok (.ifCond .ne 15, 3) := by decide +kernel
theorem dL_law_283 : decode cL_law 283 = .ok (.aload_n 3, 1) := by decide +kernel
theorem dL_law_284 : decode cL_law 284 = .ok (.iconst 0, 1) := by decide +kernel
theorem dL_law_285 : decode cL_law 285 = .ok (.laload, 1) := by decide +kernel
theorem dL_law_286 : decode cL_law 286 = .ok (.iload 6, 2) := by decide +kernel
theorem dL_law_288 : decode cL_law 288 = .ok (.i2l, 1) := by decide +kernel
theorem dL_law_289 : decode cL_law 289 = .ok (.lcmp, 1) := by decide +kernel
theorem dL_law_290 : decode cL_law 290 = .ok (.ifCond .eq 5, 3) := by decide +kernel
theorem dL_law_293 : decode cL_law 293 = .ok (.iconst 0, 1) := by decide +kernel
theorem dL_law_294 : decode cL_law 294 = .ok (.ireturn, 1) := by decide +kernel
theorem dL_law_295 : decode cL_law 295 = .ok (.goto 1637, 3) := by decide +kernel
theorem dL_law_298 : decode cL_law 298 = .ok (.aload_n 1, 1) := by decide +kernel
theorem dL_law_299 : decode cL_law 299 = .ok (.aload_n 0, 1) := by decide +kernel
theorem dL_law_300 : decode cL_law 300 = .ok (.iload 4, 2) := by decide +kernel
theorem dL_law_302 : decode cL_law 302 = .ok (.iconst 1, 1) := by decide +kernel
theorem dL_law_303 : decode cL_law 303 = .ok (.iadd, 1) := by decide +kernel
theorem dL_law_304 : decode cL_law 304 = .ok (.iaload, 1) := by decide +kernel
theorem dL_law_305 : decode cL_law 305 = .ok (.aload_n 3, 1) := by decide +kernel
theorem dL_law_306 : decode cL_law 306 = .ok (.invokestatic 123, 3) := by decide +kernel
theorem dL_law_309 : decode cL_law 309 = .ok (.istore 5, 2) := by decide +kernel
theorem dL_law_311 : decode cL_law 311 = .ok (.aload_n 2, 1) := by decide +kernel
theorem dL_law_312 : decode cL_law 312 = .ok (.aload_n 0, 1) := by decide +kernel
theorem dL_law_313 : decode cL_law 313 = .ok (.iload 4, 2) := by decide +kernel
theorem dL_law_315 : decode cL_law 315 = .ok (.iconst 1, 1) := by decide +kernel
theorem dL_law_316 : decode cL_law 316 = .ok (.iadd, 1) := by decide +kernel
theorem dL_law_317 : decode cL_law 317 = .ok (.iaload, 1) := by decide +kernel
theorem dL_law_318 : decode cL_law 318 = .ok (.invokevirtual 125, 3) := by decide +kernel
theorem dL_law_321 : decode cL_law 321 = .ok (.istore 6, 2) := by decide +kernel
theorem dL_law_323 : decode cL_law 323 = .ok (.aload_n 2, 1) := by decide +kernel
theorem dL_law_324 : decode cL_law 324 = .ok (.invokevirtual 108, 3) := by decide +kernel
theorem dL_law_327 : decode cL_law 327 = .ok (.iload 5, 2) := by decide +kernel
theorem dL_law_329 : decode cL_law 329 = .ok (.if_icmp .eq 5, 3) := by decide +kernel
theorem dL_law_332 : decode cL_law 332 = .ok (.iconst 0, 1) := by decide +kernel
theorem dL_law_333 : decode cL_law 333 = .ok (.ireturn, 1) := by decide +kernel
theorem dL_law_334 : decode cL_law 334 = .ok (.iload 5, 2) := by decide +kernel
theorem dL_law_336 : decode cL_law 336 = .ok (.ifCond .ne 15, 3) := by decide +kernel
theorem dL_law_339 : decode cL_law 339 = .ok (.aload_n 3, 1) := by decide +kernel
theorem dL_law_340 : decode cL_law 340 = .ok (.iconst 0, 1) := by decide +kernel
theorem dL_law_341 : decode cL_law 341 = .ok (.laload, 1) := by decide +kernel
theorem dL_law_342 : decode cL_law 342 = .ok (.iload 6, 2) := by decide +kernel
theorem dL_law_344 : decode cL_law 344 = .ok (.i2l, 1) := by decide +kernel
theorem dL_law_345 : decode cL_law 345 = .ok (.lcmp, 1) := by decide +kernel
theorem dL_law_346 : decode cL_law 346 = .ok (.ifCond .eq 5, 3) := by decide +kernel
theorem dL_law_349 : decode cL_law 349 = .ok (.iconst 0, 1) := by decide +kernel
theorem dL_law_350 : decode cL_law 350 = .ok (.ireturn, 1) := by decide +kernel
theorem dL_law_351 : decode cL_law 351 = .ok (.goto 1581, 3) := by decide +kernel
theorem dL_law_354 : decode cL_law 354 = .ok (.aload_n 1, 1) := by decide +kernel
theorem dL_law_355 : decode cL_law 355 = .ok (.aload_n 0, 1) := by decide +kernel
theorem dL_law_356 : decode cL_law 356 = .ok (.iload 4, 2) := by decide +kernel
theorem dL_law_358 : decode cL_law 358 = .ok (.iconst 1, 1) := by decide +kernel
theorem dL_law_359 : decode cL_law 359 = .ok (.iadd, 1) := by decide +kernel
theorem dL_law_360 : decode cL_law 360 = .ok (.iaload, 1) := by decide +kernel
theorem dL_law_361 : decode cL_law 361 = .ok (.aload_n 0, 1) := by decide +kernel
theorem dL_law_362 : decode cL_law 362 = .ok (.iload 4, 2) := by decide +kernel
theorem dL_law_364 : decode cL_law 364 = .ok (.iconst 2, 1) := by decide +kernel
theorem dL_law_365 : decode cL_law 365 = .ok (.iadd, 1) := by decide +kernel
theorem dL_law_366 : decode cL_law 366 = .ok (.iaload, 1) := by decide +kernel
theorem dL_law_367 : decode cL_law 367 = .ok (.aload_n 3, 1) := by decide +kernel
theorem dL_law_368 : decode cL_law 368 = .ok (.invokestatic 126, 3) := by decide +kernel
theorem dL_law_371 : decode cL_law 371 = .ok (.istore 5, 2) := by decide +kernel
theorem dL_law_373 : decode cL_law 373 = .ok (.aload_n 2, 1) := by decide +kernel
theorem dL_law_374 : decode cL_law 374 = .ok (.aload_n 0, 1) := by decide +kernel
theorem dL_law_375 : decode cL_law 375 = .ok (.iload 4, 2) := by decide +kernel
theorem dL_law_377 : decode cL_law 377 = .ok (.iconst 1, 1) := by decide +kernel
theorem dL_law_378 : decode cL_law 378 = .ok (.iadd, 1) := by decide +kernel
theorem dL_law_379 : decode cL_law 379 = .ok (.iaload, 1) := by decide +kernel
theorem dL_law_380 : decode cL_law 380 = .ok (.aload_n 0, 1) := by decide +kernel
theorem dL_law_381 : decode cL_law 381 = .ok (.iload 4, 2) := by decide +kernel
theorem dL_law_383 : decode cL_law 383 = .ok (.iconst 2, 1) := by decide +kernel
theorem dL_law_384 : decode cL_law 384 = .ok (.iadd, 1) := by decide +kernel
theorem dL_law_385 : decode cL_law 385 = .ok (.iaload, 1) := by decide +kernel
theorem dL_law_386 : decode cL_law 386 = .ok (.invokevirtual 129, 3) := by decide +kernel
theorem dL_law_389 : decode cL_law 389 = .ok (.istore 6, 2) := by decide +kernel
theorem dL_law_391 : decode cL_law 391 = .ok (.aload_n 2, 1) := by decide +kernel
theorem dL_law_392 : decode cL_law 392 = .ok (.invokevirtual 108, 3) := by decide +kernel
theorem dL_law_395 : decode cL_law 395 = .ok (.iload 5, 2) := by decide +kernel
theorem dL_law_397 : decode cL_law 397 = .ok (.if_icmp .eq 5, 3) := by decide +kernel
theorem dL_law_400 : decode cL_law 400 = .ok (.iconst 0, 1) := by decide +kernel
theorem dL_law_401 : decode cL_law 401 = .ok (.ireturn, 1) := by decide +kernel
theorem dL_law_402 : decode cL_law 402 = .ok (.iload 5, 2) := by decide +kernel
theorem dL_law_404 : decode cL_law 404 = .ok (.ifCond .ne 15, 3) := by decide +kernel
theorem dL_law_407 : decode cL_law 407 = .ok (.aload_n 3, 1) := by decide +kernel
theorem dL_law_408 : decode cL_law 408 = .ok (.iconst 0, 1) := by decide +kernel
theorem dL_law_409 : decode cL_law 409 = .ok (.laload, 1) := by decide +kernel
theorem dL_law_410 : decode cL_law 410 = .ok (.iload 6, 2) := by decide +kernel
theorem dL_law_412 : decode cL_law 412 = .ok (.i2l, 1) := by decide +kernel
theorem dL_law_413 : decode cL_law 413 = .ok (.lcmp, 1) := by decide +kernel
theorem dL_law_414 : decode cL_law 414 = .ok (.ifCond .eq 5, 3) := by decide +kernel
theorem dL_law_417 : decode cL_law 417 = .ok (.iconst 0, 1) := by decide +kernel
theorem dL_law_418 : decode cL_law 418 = .ok (.ireturn, 1) := by decide +kernel
theorem dL_law_419 : decode cL_law 419 = .ok (.goto 1513, 3) := by decide +kernel
theorem dL_law_422 : decode cL_law 422 = .ok (.aload_n 1, 1) := by decide +kernel
theorem dL_law_423 : decode cL_law 423 = .ok (.aload_n 0, 1) := by decide +kernel
theorem dL_law_424 : decode cL_law 424 = .ok (.iload 4, 2) := by decide +kernel
theorem dL_law_426 : decode cL_law 426 = .ok (.iconst 1, 1) := by decide +kernel
theorem dL_law_427 : decode cL_law 427 = .ok (.iadd, 1) := by decide +kernel
theorem dL_law_428 : decode cL_law 428 = .ok (.iaload, 1) := by decide +kernel
theorem dL_law_429 : decode cL_law 429 = .ok (.aload_n 0, 1) := by decide +kernel
theorem dL_law_430 : decode cL_law 430 = .ok (.iload 4, 2) := by decide +kernel
theorem dL_law_432 : decode cL_law 432 = .ok (.iconst 2, 1) := by decide +kernel
theorem dL_law_433 : decode cL_law 433 = .ok (.iadd, 1) := by decide +kernel
theorem dL_law_434 : decode cL_law 434 = .ok (.iaload, 1) := by decide +kernel
theorem dL_law_435 : decode cL_law 435 = .ok (.aload_n 3, 1) := by decide +kernel
theorem dL_law_436 : decode cL_law 436 = .ok (.invokestatic 130, 3) := by decide +kernel
theorem dL_law_439 : decode cL_law 439 = .ok (.istore 5, 2) := by decide +kernel
theorem dL_law_441 : decode cL_law 441 = .ok (.aload_n 2, 1) := by decide +kernel
theorem dL_law_442 : decode cL_law 442 = .ok (.aload_n 0, 1) := by decide +kernel
theorem dL_law_443 : decode cL_law 443 = .ok (.iload 4, 2) := by decide +kernel
theorem dL_law_445 : decode cL_law 445 = .ok (.iconst 1, 1) := by decide +kernel
theorem dL_law_446 : decode cL_law 446 = .ok (.iadd, 1) := by decide +kernel
theorem dL_law_447 : decode cL_law 447 = .ok (.iaload, 1) := by decide +kernel
theorem dL_law_448 : decode cL_law 448 = .ok (.aload_n 0, 1) := by decide +kernel
theorem dL_law_449 : decode cL_law 449 = .ok (.iload 4, 2) := by decide +kernel
theorem dL_law_451 : decode cL_law 451 = .ok (.iconst 2, 1) := by decide +kernel
theorem dL_law_452 : decode cL_law 452 = .ok (.iadd, 1) := by decide +kernel
theorem dL_law_453 : decode cL_law 453 = .ok (.iaload, 1) := by decide +kernel
theorem dL_law_454 : decode cL_law 454 = .ok (.invokevirtual 132, 3) := by decide +kernel
theorem dL_law_457 : decode cL_law 457 = .ok (.istore 6, 2) := by decide +kernel
theorem dL_law_459 : decode cL_law 459 = .ok (.aload_n 2, 1) := by decide +kernel
theorem dL_law_460 : decode cL_law 460 = .ok (.invokevirtual 108, 3) := by decide +kernel
theorem dL_law_463 : decode cL_law 463 = .ok (.iload 5, 2) := by decide +kernel
theorem dL_law_465 : decode cL_law 465 = .ok (.if_icmp .eq 5, 3) := by decide +kernel
theorem dL_law_468 : decode cL_law 468 = .ok (.iconst 0, 1) := by decide +kernel
theorem dL_law_469 : decode cL_law 469 = .ok (.ireturn, 1) := by decide +kernel
theorem dL_law_470 : decode cL_law 470 = .ok (.iload 5, 2) := by decide +kernel
theorem dL_law_472 : decode cL_law 472 = .ok (.ifCond .ne 15, 3) := by decide +kernel
theorem dL_law_475 : decode cL_law 475 = .ok (.aload_n 3, 1) := by decide +kernel
theorem dL_law_476 : decode cL_law 476 = .ok (.iconst 0, 1) := by decide +kernel
theorem dL_law_477 : decode cL_law 477 = .ok (.laload, 1) := by decide +kernel
theorem dL_law_478 : decode cL_law 478 = .ok (.iload 6, 2) := by decide +kernel
theorem dL_law_480 : decode cL_law 480 = .ok (.i2l, 1) := by decide +kernel
theorem dL_law_481 : decode cL_law 481 = .ok (.lcmp, 1) := by decide +kernel
theorem dL_law_482 : decode cL_law 482 = .ok (.ifCond .eq 5, 3) := by decide +kernel
theorem dL_law_485 : decode cL_law 485 = .ok (.iconst 0, 1) := by decide +kernel
theorem dL_law_486 : decode cL_law 486 = .ok (.ireturn, 1) := by decide +kernel
theorem dL_law_487 : decode cL_law 487 = .ok (.goto 1445, 3) := by decide +kernel
theorem dL_law_490 : decode cL_law 490 = .ok (.aload_n 1, 1) := by decide +kernel
theorem dL_law_491 : decode cL_law 491 = .ok (.aload_n 0, 1) := by decide +kernel
theorem dL_law_492 : decode cL_law 492 = .ok (.iload 4, 2) := by decide +kernel
theorem dL_law_494 : decode cL_law 494 = .ok (.iconst 1, 1) := by decide +kernel
theorem dL_law_495 : decode cL_law 495 = .ok (.iadd, 1) := by decide +kernel
theorem dL_law_496 : decode cL_law 496 = .ok (.iaload, 1) := by decide +kernel
theorem dL_law_497 : decode cL_law 497 = .ok (.aload_n 0, 1) := by decide +kernel
theorem dL_law_498 : decode cL_law 498 = .ok (.iload 4, 2) := by decide +kernel
theorem dL_law_500 : decode cL_law 500 = .ok (.iconst 2, 1) := by decide +kernel
theorem dL_law_501 : decode cL_law 501 = .ok (.iadd, 1) := by decide +kernel
theorem dL_law_502 : decode cL_law 502 = .ok (.iaload, 1) := by decide +kernel
theorem dL_law_503 : decode cL_law 503 = .ok (.aload_n 0, 1) := by decide +kernel
theorem dL_law_504 : decode cL_law 504 = .ok (.iload 4, 2) := by decide +kernel
theorem dL_law_506 : decode cL_law 506 = .ok (.iconst 3, 1) := by decide +kernel
theorem dL_law_507 : decode cL_law 507 = .ok (.iadd, 1) := by decide +kernel
theorem dL_law_508 : decode cL_law 508 = .ok (.iaload, 1) := by decide +kernel
theorem dL_law_509 : decode cL_law 509 = .ok (.aload_n 3, 1) := by decide +kernel
theorem dL_law_510 : decode cL_law 510 = .ok (.invokestatic 133, 3) := by decide +kernel
theorem dL_law_513 : decode cL_law 513 = .ok (.istore 5, 2) := by decide +kernel
theorem dL_law_515 : decode cL_law 515 = .ok (.aload_n 2, 1) := by decide +kernel
theorem dL_law_516 : decode cL_law 516 = .ok (.aload_n 0, 1) := by decide +kernel
theorem dL_law_517 : decode cL_law 517 = .ok (.iload 4, 2) := by decide +kernel
theorem dL_law_519 : decode cL_law 519 = .ok (.iconst 1, 1) := by decide +kernel
theorem dL_law_520 : decode cL_law 520 = .ok (.iadd, 1) := by decide +kernel
theorem dL_law_521 : decode cL_law 521 = .ok (.iaload, 1) := by decide +kernel
theorem dL_law_522 : decode cL_law 522 = .ok (.aload_n 0, 1) := by decide +kernel
theorem dL_law_523 : decode cL_law 523 = .ok (.iload 4, 2) := by decide +kernel
theorem dL_law_525 : decode cL_law 525 = .ok (.iconst 2, 1) := by decide +kernel
theorem dL_law_526 : decode cL_law 526 = .ok (.iadd, 1) := by decide +kernel
theorem dL_law_527 : decode cL_law 527 = .ok (.iaload, 1) := by decide +kernel
theorem dL_law_528 : decode cL_law 528 = .ok (.aload_n 0, 1) := by decide +kernel
theorem dL_law_529 : decode cL_law 529 = .ok (.iload 4, 2) := by decide +kernel
theorem dL_law_531 : decode cL_law 531 = .ok (.iconst 3, 1) := by decide +kernel
theorem dL_law_532 : decode cL_law 532 = .ok (.iadd, 1) := by decide +kernel
theorem dL_law_533 : decode cL_law 533 = .ok (.iaload, 1) := by decide +kernel
theorem dL_law_534 : decode cL_law 534 = .ok (.invokevirtual 136, 3) := by decide +kernel
theorem dL_law_537 : decode cL_law 537 = .ok (.istore 6, 2) := by decide +kernel
theorem dL_law_539 : decode cL_law 539 = .ok (.aload_n 2, 1) := by decide +kernel
theorem dL_law_540 : decode cL_law 540 = .ok (.invokevirtual 108, 3) := by decide +kernel
theorem dL_law_543 : decode cL_law 543 = .ok (.iload 5, 2) := by decide +kernel
theorem dL_law_545 : decode cL_law 545 = .ok (.if_icmp .eq 5, 3) := by decide +kernel
theorem dL_law_548 : decode cL_law 548 = .ok (.iconst 0, 1) := by decide +kernel
theorem dL_law_549 : decode cL_law 549 = .ok (.ireturn, 1) := by decide +kernel
theorem dL_law_550 : decode cL_law 550 = .ok (.iload 5, 2) := by decide +kernel
theorem dL_law_552 : decode cL_law 552 = .ok (.ifCond .ne 15, 3) := by decide +kernel
theorem dL_law_555 : decode cL_law 555 = .ok (.aload_n 3, 1) := by decide +kernel
theorem dL_law_556 : decode cL_law 556 = .ok (.iconst 0, 1) := by decide +kernel
theorem dL_law_557 : decode cL_law 557 = .ok (.laload, 1) := by decide +kernel
theorem dL_law_558 : decode cL_law 558 = .ok (.iload 6, 2) := by decide +kernel
theorem dL_law_560 : decode cL_law 560 = .ok (.i2l, 1) := by decide +kernel
theorem dL_law_561 : decode cL_law 561 = .ok (.lcmp, 1) := by decide +kernel
theorem dL_law_562 : decode cL_law 562 = .ok (.ifCond .eq 5, 3) := by decide +kernel
theorem dL_law_565 : decode cL_law 565 = .ok (.iconst 0, 1) := by decide +kernel
theorem dL_law_566 : decode cL_law 566 = .ok (.ireturn, 1) := by decide +kernel
theorem dL_law_567 : decode cL_law 567 = .ok (.goto 1365, 3) := by decide +kernel
theorem dL_law_570 : decode cL_law 570 = .ok (.aload_n 1, 1) := by decide +kernel
theorem dL_law_571 : decode cL_law 571 = .ok (.aload_n 0, 1) := by decide +kernel
theorem dL_law_572 : decode cL_law 572 = .ok (.iload 4, 2) := by decide +kernel
theorem dL_law_574 : decode cL_law 574 = .ok (.iconst 1, 1) := by decide +kernel
theorem dL_law_575 : decode cL_law 575 = .ok (.iadd, 1) := by decide +kernel
theorem dL_law_576 : decode cL_law 576 = .ok (.iaload, 1) := by decide +kernel
theorem dL_law_577 : decode cL_law 577 = .ok (.aload_n 0, 1) := by decide +kernel
theorem dL_law_578 : decode cL_law 578 = .ok (.iload 4, 2) := by decide +kernel
theorem dL_law_580 : decode cL_law 580 = .ok (.iconst 2, 1) := by decide +kernel
theorem dL_law_581 : decode cL_law 581 = .ok (.iadd, 1) := by decide +kernel
theorem dL_law_582 : decode cL_law 582 = .ok (.iaload, 1) := by decide +kernel
theorem dL_law_583 : decode cL_law 583 = .ok (.aload_n 3, 1) := by decide +kernel
theorem dL_law_584 : decode cL_law 584 = .ok (.invokestatic 137, 3) := by decide +kernel
theorem dL_law_587 : decode cL_law 587 = .ok (.istore 5, 2) := by decide +kernel
theorem dL_law_589 : decode cL_law 589 = .ok (.aload_n 2, 1) := by decide +kernel
theorem dL_law_590 : decode cL_law 590 = .ok (.aload_n 0, 1) := by decide +kernel
theorem dL_law_591 : decode cL_law 591 = .ok (.iload 4, 2) := by decide +kernel
theorem dL_law_593 : decode cL_law 593 = .ok (.iconst 1, 1) := by decide +kernel
theorem dL_law_594 : decode cL_law 594 = .ok (.iadd, 1) := by decide +kernel
theorem dL_law_595 : decode cL_law 595 = .ok (.iaload, 1) := by decide +kernel
theorem dL_law_596 : decode cL_law 596 = .ok (.aload_n 0, 1) := by decide +kernel
theorem dL_law_597 : decode cL_law 597 = .ok (.iload 4, 2) := by decide +kernel
theorem dL_law_599 : decode cL_law 599 = .ok (.iconst 2, 1) := by decide +kernel
theorem dL_law_600 : decode cL_law 600 = .ok (.iadd, 1) := by decide +kernel
theorem dL_law_601 : decode cL_law 601 = .ok (.iaload, 1) := by decide +kernel
theorem dL_law_602 : decode cL_law 602 = .ok (.invokevirtual 139, 3) := by decide +kernel
theorem dL_law_605 : decode cL_law 605 = .ok (.istore 6, 2) := by decide +kernel
theorem dL_law_607 : decode cL_law 607 = .ok (.aload_n 2, 1) := by decide +kernel
theorem dL_law_608 : decode cL_law 608 = .ok (.invokevirtual 108, 3) := by decide +kernel
theorem dL_law_611 : decode cL_law 611 = .ok (.iload 5, 2) := by decide +kernel
theorem dL_law_613 : decode cL_law 613 = .ok (.if_icmp .eq 5, 3) := by decide +kernel
theorem dL_law_616 : decode cL_law 616 = .ok (.iconst 0, 1) := by decide +kernel
theorem dL_law_617 : decode cL_law 617 = .ok (.ireturn, 1) := by decide +kernel
theorem dL_law_618 : decode cL_law 618 = .ok (.iload 5, 2) := by decide +kernel
theorem dL_law_620 : decode cL_law 620 = .ok (.ifCond .ne 15, 3) := by decide +kernel
theorem dL_law_623 : decode cL_law 623 = .ok (.aload_n 3, 1) := by decide +kernel
theorem dL_law_624 : decode cL_law 624 = .ok (.iconst 0, 1) := by decide +kernel
theorem dL_law_625 : decode cL_law 625 = .ok (.laload, 1) := by decide +kernel
theorem dL_law_626 : decode cL_law 626 = .ok (.iload 6, 2) := by decide +kernel
theorem dL_law_628 : decode cL_law 628 = .ok (.i2l, 1) := by decide +kernel
theorem dL_law_629 : decode cL_law 629 = .ok (.lcmp, 1) := by decide +kernel
theorem dL_law_630 : decode cL_law 630 = .ok (.ifCond .eq 5, 3) := by decide +kernel
theorem dL_law_633 : decode cL_law 633 = .ok (.iconst 0, 1) := by decide +kernel
theorem dL_law_634 : decode cL_law 634 = .ok (.ireturn, 1) := by decide +kernel
theorem dL_law_635 : decode cL_law 635 = .ok (.goto 1297, 3) := by decide +kernel
theorem dL_law_638 : decode cL_law 638 = .ok (.aload_n 1, 1) := by decide +kernel
theorem dL_law_639 : decode cL_law 639 = .ok (.aload_n 0, 1) := by decide +kernel
theorem dL_law_640 : decode cL_law 640 = .ok (.iload 4, 2) := by decide +kernel
theorem dL_law_642 : decode cL_law 642 = .ok (.iconst 1, 1) := by decide +kernel
theorem dL_law_643 : decode cL_law 643 = .ok (.iadd, 1) := by decide +kernel
theorem dL_law_644 : decode cL_law 644 = .ok (.iaload, 1) := by decide +kernel
theorem dL_law_645 : decode cL_law 645 = .ok (.aload_n 3, 1) := by decide +kernel
theorem dL_law_646 : decode cL_law 646 = .ok (.invokestatic 140, 3) := by decide +kernel
theorem dL_law_649 : decode cL_law 649 = .ok (.istore 5, 2) := by decide +kernel
theorem dL_law_651 : decode cL_law 651 = .ok (.aload_n 2, 1) := by decide +kernel
theorem dL_law_652 : decode cL_law 652 = .ok (.aload_n 0, 1) := by decide +kernel
theorem dL_law_653 : decode cL_law 653 = .ok (.iload 4, 2) := by decide +kernel
theorem dL_law_655 : decode cL_law 655 = .ok (.iconst 1, 1) := by decide +kernel
theorem dL_law_656 : decode cL_law 656 = .ok (.iadd, 1) := by decide +kernel
theorem dL_law_657 : decode cL_law 657 = .ok (.iaload, 1) := by decide +kernel
theorem dL_law_658 : decode cL_law 658 = .ok (.invokevirtual 142, 3) := by decide +kernel
theorem dL_law_661 : decode cL_law 661 = .ok (.istore 6, 2) := by decide +kernel
theorem dL_law_663 : decode cL_law 663 = .ok (.aload_n 2, 1) := by decide +kernel
theorem dL_law_664 : decode cL_law 664 = .ok (.invokevirtual 108, 3) := by decide +kernel
theorem dL_law_667 : decode cL_law 667 = .ok (.iload 5, 2) := by decide +kernel
theorem dL_law_669 : decode cL_law 669 = .ok (.if_icmp .eq 5, 3) := by decide +kernel
theorem dL_law_672 : decode cL_law 672 = .ok (.iconst 0, 1) := by decide +kernel
theorem dL_law_673 : decode cL_law 673 = .ok (.ireturn, 1) := by decide +kernel
theorem dL_law_674 : decode cL_law 674 = .ok (.iload 5, 2) := by decide +kernel
theorem dL_law_676 : decode cL_law 676 = .ok (.ifCond .ne 15, 3) := by decide +kernel
theorem dL_law_679 : decode cL_law 679 = .ok (.aload_n 3, 1) := by decide +kernel
theorem dL_law_680 : decode cL_law 680 = .ok (.iconst 0, 1) := by decide +kernel
theorem dL_law_681 : decode cL_law 681 = .ok (.laload, 1) := by decide +kernel
theorem dL_law_682 : decode cL_law 682 = .ok (.iload 6, 2) := by decide +kernel
theorem dL_law_684 : decode cL_law 684 = .ok (.i2l, 1) := by decide +kernel
theorem dL_law_685 : decode cL_law 685 = .ok (.lcmp, 1) := by decide +kernel
theorem dL_law_686 : decode cL_law 686 = .ok (.ifCond .eq 5, 3) := by decide +kernel
theorem dL_law_689 : decode cL_law 689 = .ok (.iconst 0, 1) := by decide +kernel
theorem dL_law_690 : decode cL_law 690 = .ok (.ireturn, 1) := by decide +kernel
theorem dL_law_691 : decode cL_law 691 = .ok (.goto 1241, 3) := by decide +kernel
theorem dL_law_694 : decode cL_law 694 = .ok (.aload_n 1, 1) := by decide +kernel
theorem dL_law_695 : decode cL_law 695 = .ok (.aload_n 0, 1) := by decide +kernel
theorem dL_law_696 : decode cL_law 696 = .ok (.iload 4, 2) := by decide +kernel
theorem dL_law_698 : decode cL_law 698 = .ok (.iconst 1, 1) := by decide +kernel
theorem dL_law_699 : decode cL_law 699 = .ok (.iadd, 1) := by decide +kernel
theorem dL_law_700 : decode cL_law 700 = .ok (.iaload, 1) := by decide +kernel
theorem dL_law_701 : decode cL_law 701 = .ok (.aload_n 0, 1) := by decide +kernel
theorem dL_law_702 : decode cL_law 702 = .ok (.iload 4, 2) := by decide +kernel
theorem dL_law_704 : decode cL_law 704 = .ok (.iconst 2, 1) := by decide +kernel
theorem dL_law_705 : decode cL_law 705 = .ok (.iadd, 1) := by decide +kernel
theorem dL_law_706 : decode cL_law 706 = .ok (.iaload, 1) := by decide +kernel
theorem dL_law_707 : decode cL_law 707 = .ok (.aload_n 3, 1) := by decide +kernel
theorem dL_law_708 : decode cL_law 708 = .ok (.invokestatic 143, 3) := by decide +kernel
theorem dL_law_711 : decode cL_law 711 = .ok (.istore 5, 2) := by decide +kernel
theorem dL_law_713 : decode cL_law 713 = .ok (.aload_n 2, 1) := by decide +kernel
theorem dL_law_714 : decode cL_law 714 = .ok (.aload_n 0, 1) := by decide +kernel
theorem dL_law_715 : decode cL_law 715 = .ok (.iload 4, 2) := by decide +kernel
theorem dL_law_717 : decode cL_law 717 = .ok (.iconst 1, 1) := by decide +kernel
theorem dL_law_718 : decode cL_law 718 = .ok (.iadd, 1) := by decide +kernel
theorem dL_law_719 : decode cL_law 719 = .ok (.iaload, 1) := by decide +kernel
theorem dL_law_720 : decode cL_law 720 = .ok (.aload_n 0, 1) := by decide +kernel
theorem dL_law_721 : decode cL_law 721 = .ok (.iload 4, 2) := by decide +kernel
theorem dL_law_723 : decode cL_law 723 = .ok (.iconst 2, 1) := by decide +kernel
theorem dL_law_724 : decode cL_law 724 = .ok (.iadd, 1) := by decide +kernel
theorem dL_law_725 : decode cL_law 725 = .ok (.iaload, 1) := by decide +kernel
theorem dL_law_726 : decode cL_law 726 = .ok (.invokevirtual 145, 3) := by decide +kernel
theorem dL_law_729 : decode cL_law 729 = .ok (.istore 6, 2) := by decide +kernel
theorem dL_law_731 : decode cL_law 731 = .ok (.aload_n 2, 1) := by decide +kernel
theorem dL_law_732 : decode cL_law 732 = .ok (.invokevirtual 108, 3) := by decide +kernel
theorem dL_law_735 : decode cL_law 735 = .ok (.iload 5, 2) := by decide +kernel
theorem dL_law_737 : decode cL_law 737 = .ok (.if_icmp .eq 5, 3) := by decide +kernel
theorem dL_law_740 : decode cL_law 740 = .ok (.iconst 0, 1) := by decide +kernel
theorem dL_law_741 : decode cL_law 741 = .ok (.ireturn, 1) := by decide +kernel
theorem dL_law_742 : decode cL_law 742 = .ok (.iload 5, 2) := by decide +kernel
theorem dL_law_744 : decode cL_law 744 = .ok (.ifCond .ne 15, 3) := by decide +kernel
theorem dL_law_747 : decode cL_law 747 = .ok (.aload_n 3, 1) := by decide +kernel
theorem dL_law_748 : decode cL_law 748 = .ok (.iconst 0, 1) := by decide +kernel
theorem dL_law_749 : decode cL_law 749 = .ok (.laload, 1) := by decide +kernel
theorem dL_law_750 : decode cL_law 750 = .ok (.iload 6, 2) := by decide +kernel
theorem dL_law_752 : decode cL_law 752 = .ok (.i2l, 1) := by decide +kernel
theorem dL_law_753 : decode cL_law 753 = .ok (.lcmp, 1) := by decide +kernel
theorem dL_law_754 : decode cL_law 754 = .ok (.ifCond .eq 5, 3) := by decide +kernel
theorem dL_law_757 : decode cL_law 757 = .ok (.iconst 0, 1) := by decide +kernel
theorem dL_law_758 : decode cL_law 758 = .ok (.ireturn, 1) := by decide +kernel
theorem dL_law_759 : decode cL_law 759 = .ok (.goto 1173, 3) := by decide +kernel
theorem dL_law_762 : decode cL_law 762 = .ok (.aload_n 1, 1) := by decide +kernel
theorem dL_law_763 : decode cL_law 763 = .ok (.aload_n 0, 1) := by decide +kernel
theorem dL_law_764 : decode cL_law 764 = .ok (.iload 4, 2) := by decide +kernel
theorem dL_law_766 : decode cL_law 766 = .ok (.iconst 1, 1) := by decide +kernel
theorem dL_law_767 : decode cL_law 767 = .ok (.iadd, 1) := by decide +kernel
theorem dL_law_768 : decode cL_law 768 = .ok (.iaload, 1) := by decide +kernel
theorem dL_law_769 : decode cL_law 769 = .ok (.aload_n 0, 1) := by decide +kernel
theorem dL_law_770 : decode cL_law 770 = .ok (.iload 4, 2) := by decide +kernel
theorem dL_law_772 : decode cL_law 772 = .ok (.iconst 2, 1) := by decide +kernel
theorem dL_law_773 : decode cL_law 773 = .ok (.iadd, 1) := by decide +kernel
theorem dL_law_774 : decode cL_law 774 = .ok (.iaload, 1) := by decide +kernel
theorem dL_law_775 : decode cL_law 775 = .ok (.aload_n 0, 1) := by decide +kernel
theorem dL_law_776 : decode cL_law 776 = .ok (.iload 4, 2) := by decide +kernel
theorem dL_law_778 : decode cL_law 778 = .ok (.iconst 3, 1) := by decide +kernel
theorem dL_law_779 : decode cL_law 779 = .ok (.iadd, 1) := by decide +kernel
theorem dL_law_780 : decode cL_law 780 = .ok (.iaload, 1) := by decide +kernel
theorem dL_law_781 : decode cL_law 781 = .ok (.aload_n 0, 1) := by decide +kernel
theorem dL_law_782 : decode cL_law 782 = .ok (.iload 4, 2) := by decide +kernel
theorem dL_law_784 : decode cL_law 784 = .ok (.iconst 4, 1) := by decide +kernel
theorem dL_law_785 : decode cL_law 785 = .ok (.iadd, 1) := by decide +kernel
theorem dL_law_786 : decode cL_law 786 = .ok (.iaload, 1) := by decide +kernel
theorem dL_law_787 : decode cL_law 787 = .ok (.aload_n 0, 1) := by decide +kernel
theorem dL_law_788 : decode cL_law 788 = .ok (.iload 4, 2) := by decide +kernel
theorem dL_law_790 : decode cL_law 790 = .ok (.iconst 5, 1) := by decide +kernel
theorem dL_law_791 : decode cL_law 791 = .ok (.iadd, 1) := by decide +kernel
theorem dL_law_792 : decode cL_law 792 = .ok (.iaload, 1) := by decide +kernel
theorem dL_law_793 : decode cL_law 793 = .ok (.aload_n 3, 1) := by decide +kernel
theorem dL_law_794 : decode cL_law 794 = .ok (.invokestatic 146, 3) := by decide +kernel
theorem dL_law_797 : decode cL_law 797 = .ok (.istore 5, 2) := by decide +kernel
theorem dL_law_799 : decode cL_law 799 = .ok (.aload_n 2, 1) := by decide +kernel
theorem dL_law_800 : decode cL_law 800 = .ok (.aload_n 0, 1) := by decide +kernel
theorem dL_law_801 : decode cL_law 801 = .ok (.iload 4, 2) := by decide +kernel
theorem dL_law_803 : decode cL_law 803 = .ok (.iconst 1, 1) := by decide +kernel
theorem dL_law_804 : decode cL_law 804 = .ok (.iadd, 1) := by decide +kernel
theorem dL_law_805 : decode cL_law 805 = .ok (.iaload, 1) := by decide +kernel
theorem dL_law_806 : decode cL_law 806 = .ok (.aload_n 0, 1) := by decide +kernel
theorem dL_law_807 : decode cL_law 807 = .ok (.iload 4, 2) := by decide +kernel
theorem dL_law_809 : decode cL_law 809 = .ok (.iconst 2, 1) := by decide +kernel
theorem dL_law_810 : decode cL_law 810 = .ok (.iadd, 1) := by decide +kernel
theorem dL_law_811 : decode cL_law 811 = .ok (.iaload, 1) := by decide +kernel
theorem dL_law_812 : decode cL_law 812 = .ok (.aload_n 0, 1) := by decide +kernel
theorem dL_law_813 : decode cL_law 813 = .ok (.iload 4, 2) := by decide +kernel
theorem dL_law_815 : decode cL_law 815 = .ok (.iconst 3, 1) := by decide +kernel
theorem dL_law_816 : decode cL_law 816 = .ok (.iadd, 1) := by decide +kernel
theorem dL_law_817 : decode cL_law 817 = .ok (.iaload, 1) := by decide +kernel
theorem dL_law_818 : decode cL_law 818 = .ok (.aload_n 0, 1) := by decide +kernel
theorem dL_law_819 : decode cL_law 819 = .ok (.iload 4, 2) := by decide +kernel
theorem dL_law_821 : decode cL_law 821 = .ok (.iconst 4, 1) := by decide +kernel
theorem dL_law_822 : decode cL_law 822 = .ok (.iadd, 1) := by decide +kernel
theorem dL_law_823 : decode cL_law 823 = .ok (.iaload, 1) := by decide +kernel
theorem dL_law_824 : decode cL_law 824 = .ok (.aload_n 0, 1) := by decide +kernel
theorem dL_law_825 : decode cL_law 825 = .ok (.iload 4, 2) := by decide +kernel
theorem dL_law_827 : decode cL_law 827 = .ok (.iconst 5, 1) := by decide +kernel
theorem dL_law_828 : decode cL_law 828 = .ok (.iadd, 1) := by decide +kernel
theorem dL_law_829 : decode cL_law 829 = .ok (.iaload, 1) := by decide +kernel
theorem dL_law_830 : decode cL_law 830 = .ok (.invokevirtual 149, 3) := by decide +kernel
theorem dL_law_833 : decode cL_law 833 = .ok (.istore 6, 2) := by decide +kernel
theorem dL_law_835 : decode cL_law 835 = .ok (.aload_n 2, 1) := by decide +kernel
theorem dL_law_836 : decode cL_law 836 = .ok (.invokevirtual 108, 3) := by decide +kernel
theorem dL_law_839 : decode cL_law 839 = .ok (.iload 5, 2) := by decide +kernel
theorem dL_law_841 : decode cL_law 841 = .ok (.if_icmp .eq 5, 3) := by decide +kernel
theorem dL_law_844 : decode cL_law 844 = .ok (.iconst 0, 1) := by decide +kernel
theorem dL_law_845 : decode cL_law 845 = .ok (.ireturn, 1) := by decide +kernel
theorem dL_law_846 : decode cL_law 846 = .ok (.iload 5, 2) := by decide +kernel
theorem dL_law_848 : decode cL_law 848 = .ok (.ifCond .ne 15, 3) := by decide +kernel
theorem dL_law_851 : decode cL_law 851 = .ok (.aload_n 3, 1) := by decide +kernel
theorem dL_law_852 : decode cL_law 852 = .ok (.iconst 0, 1) := by decide +kernel
theorem dL_law_853 : decode cL_law 853 = .ok (.laload, 1) := by decide +kernel
theorem dL_law_854 : decode cL_law 854 = .ok (.iload 6, 2) := by decide +kernel
theorem dL_law_856 : decode cL_law 856 = .ok (.i2l, 1) := by decide +kernel
theorem dL_law_857 : decode cL_law 857 = .ok (.lcmp, 1) := by decide +kernel
theorem dL_law_858 : decode cL_law 858 = .ok (.ifCond .eq 5, 3) := by decide +kernel
theorem dL_law_861 : decode cL_law 861 = .ok (.iconst 0, 1) := by decide +kernel
theorem dL_law_862 : decode cL_law 862 = .ok (.ireturn, 1) := by decide +kernel
theorem dL_law_863 : decode cL_law 863 = .ok (.goto 1069, 3) := by decide +kernel
theorem dL_law_866 : decode cL_law 866 = .ok (.aload_n 1, 1) := by decide +kernel
theorem dL_law_867 : decode cL_law 867 = .ok (.aload_n 0, 1) := by decide +kernel
theorem dL_law_868 : decode cL_law 868 = .ok (.iload 4, 2) := by decide +kernel
theorem dL_law_870 : decode cL_law 870 = .ok (.iconst 1, 1) := by decide +kernel
theorem dL_law_871 : decode cL_law 871 = .ok (.iadd, 1) := by decide +kernel
theorem dL_law_872 : decode cL_law 872 = .ok (.iaload, 1) := by decide +kernel
theorem dL_law_873 : decode cL_law 873 = .ok (.aload_n 3, 1) := by decide +kernel
theorem dL_law_874 : decode cL_law 874 = .ok (.invokestatic 150, 3) := by decide +kernel
theorem dL_law_877 : decode cL_law 877 = .ok (.istore 5, 2) := by decide +kernel
theorem dL_law_879 : decode cL_law 879 = .ok (.aload_n 2, 1) := by decide +kernel
theorem dL_law_880 : decode cL_law 880 = .ok (.aload_n 0, 1) := by decide +kernel
theorem dL_law_881 : decode cL_law 881 = .ok (.iload 4, 2) := by decide +kernel
theorem dL_law_883 : decode cL_law 883 = .ok (.iconst 1, 1) := by decide +kernel
theorem dL_law_884 : decode cL_law 884 = .ok (.iadd, 1) := by decide +kernel
theorem dL_law_885 : decode cL_law 885 = .ok (.iaload, 1) := by decide +kernel
theorem dL_law_886 : decode cL_law 886 = .ok (.invokevirtual 152, 3) := by decide +kernel
theorem dL_law_889 : decode cL_law 889 = .ok (.istore 6, 2) := by decide +kernel
theorem dL_law_891 : decode cL_law 891 = .ok (.aload_n 2, 1) := by decide +kernel
theorem dL_law_892 : decode cL_law 892 = .ok (.invokevirtual 108, 3) := by decide +kernel
theorem dL_law_895 : decode cL_law 895 = .ok (.iload 5, 2) := by decide +kernel
theorem dL_law_897 : decode cL_law 897 = .ok (.if_icmp .eq 5, 3) := by decide +kernel
theorem dL_law_900 : decode cL_law 900 = .ok (.iconst 0, 1) := by decide +kernel
theorem dL_law_901 : decode cL_law 901 = .ok (.ireturn, 1) := by decide +kernel
theorem dL_law_902 : decode cL_law 902 = .ok (.iload 5, 2) := by decide +kernel
theorem dL_law_904 : decode cL_law 904 = .ok (.ifCond .ne 15, 3) := by decide +kernel
theorem dL_law_907 : decode cL_law 907 = .ok (.aload_n 3, 1) := by decide +kernel
theorem dL_law_908 : decode cL_law 908 = .ok (.iconst 0, 1) := by decide +kernel
theorem dL_law_909 : decode cL_law 909 = .ok (.laload, 1) := by decide +kernel
theorem dL_law_910 : decode cL_law 910 = .ok (.iload 6, 2) := by decide +kernel
theorem dL_law_912 : decode cL_law 912 = .ok (.i2l, 1) := by decide +kernel
theorem dL_law_913 : decode cL_law 913 = .ok (.lcmp, 1) := by decide +kernel
theorem dL_law_914 : decode cL_law 914 = .ok (.ifCond .eq 5, 3) := by decide +kernel
theorem dL_law_917 : decode cL_law 917 = .ok (.iconst 0, 1) := by decide +kernel
theorem dL_law_918 : decode cL_law 918 = .ok (.ireturn, 1) := by decide +kernel
theorem dL_law_919 : decode cL_law 919 = .ok (.goto 1013, 3) := by decide +kernel
theorem dL_law_922 : decode cL_law 922 = .ok (.aload_n 1, 1) := by decide +kernel
theorem dL_law_923 : decode cL_law 923 = .ok (.aload_n 0, 1) := by decide +kernel
theorem dL_law_924 : decode cL_law 924 = .ok (.iload 4, 2) := by decide +kernel
theorem dL_law_926 : decode cL_law 926 = .ok (.iconst 1, 1) := by decide +kernel
theorem dL_law_927 : decode cL_law 927 = .ok (.iadd, 1) := by decide +kernel
theorem dL_law_928 : decode cL_law 928 = .ok (.iaload, 1) := by decide +kernel
theorem dL_law_929 : decode cL_law 929 = .ok (.aload_n 0, 1) := by decide +kernel
theorem dL_law_930 : decode cL_law 930 = .ok (.iload 4, 2) := by decide +kernel
theorem dL_law_932 : decode cL_law 932 = .ok (.iconst 2, 1) := by decide +kernel
theorem dL_law_933 : decode cL_law 933 = .ok (.iadd, 1) := by decide +kernel
theorem dL_law_934 : decode cL_law 934 = .ok (.iaload, 1) := by decide +kernel
theorem dL_law_935 : decode cL_law 935 = .ok (.ifCond .eq 7, 3) := by decide +kernel
theorem dL_law_938 : decode cL_law 938 = .ok (.iconst 1, 1) := by decide +kernel
theorem dL_law_939 : decode cL_law 939 = .ok (.goto 4, 3) := by decide +kernel
theorem dL_law_942 : decode cL_law 942 = .ok (.iconst 0, 1) := by decide +kernel
theorem dL_law_943 : decode cL_law 943 = .ok (.aload_n 3, 1) := by decide +kernel
theorem dL_law_944 : decode cL_law 944 = .ok (.invokestatic 153, 3) := by decide +kernel
theorem dL_law_947 : decode cL_law 947 = .ok (.istore 5, 2) := by decide +kernel
theorem dL_law_949 : decode cL_law 949 = .ok (.aload_n 2, 1) := by decide +kernel
theorem dL_law_950 : decode cL_law 950 = .ok (.aload_n 0, 1) := by decide +kernel
theorem dL_law_951 : decode cL_law 951 = .ok (.iload 4, 2) := by decide +kernel
theorem dL_law_953 : decode cL_law 953 = .ok (.iconst 1, 1) := by decide +kernel
theorem dL_law_954 : decode cL_law 954 = .ok (.iadd, 1) := by decide +kernel
theorem dL_law_955 : decode cL_law 955 = .ok (.iaload, 1) := by decide +kernel
theorem dL_law_956 : decode cL_law 956 = .ok (.aload_n 0, 1) := by decide +kernel
theorem dL_law_957 : decode cL_law 957 = .ok (.iload 4, 2) := by decide +kernel
theorem dL_law_959 : decode cL_law 959 = .ok (.iconst 2, 1) := by decide +kernel
theorem dL_law_960 : decode cL_law 960 = .ok (.iadd, 1) := by decide +kernel
theorem dL_law_961 : decode cL_law 961 = .ok (.iaload, 1) := by decide +kernel
theorem dL_law_962 : decode cL_law 962 = .ok (.ifCond .eq 7, 3) := by decide +kernel
theorem dL_law_965 : decode cL_law 965 = .ok (.iconst 1, 1) := by decide +kernel
theorem dL_law_966 : decode cL_law 966 = .ok (.goto 4, 3) := by decide +kernel
theorem dL_law_969 : decode cL_law 969 = .ok (.iconst 0, 1) := by decide +kernel
theorem dL_law_970 : decode cL_law 970 = .ok (.invokevirtual 156, 3) := by decide +kernel
theorem dL_law_973 : decode cL_law 973 = .ok (.istore 6, 2) := by decide +kernel
theorem dL_law_975 : decode cL_law 975 = .ok (.aload_n 2, 1) := by decide +kernel
theorem dL_law_976 : decode cL_law 976 = .ok (.invokevirtual 108, 3) := by decide +kernel
theorem dL_law_979 : decode cL_law 979 = .ok (.iload 5, 2) := by decide +kernel
theorem dL_law_981 : decode cL_law 981 = .ok (.if_icmp .eq 5, 3) := by decide +kernel
theorem dL_law_984 : decode cL_law 984 = .ok (.iconst 0, 1) := by decide +kernel
theorem dL_law_985 : decode cL_law 985 = .ok (.ireturn, 1) := by decide +kernel
theorem dL_law_986 : decode cL_law 986 = .ok (.iload 5, 2) := by decide +kernel
theorem dL_law_988 : decode cL_law 988 = .ok (.ifCond .ne 15, 3) := by decide +kernel
theorem dL_law_991 : decode cL_law 991 = .ok (.aload_n 3, 1) := by decide +kernel
theorem dL_law_992 : decode cL_law 992 = .ok (.iconst 0, 1) := by decide +kernel
theorem dL_law_993 : decode cL_law 993 = .ok (.laload, 1) := by decide +kernel
theorem dL_law_994 : decode cL_law 994 = .ok (.iload 6, 2) := by decide +kernel
theorem dL_law_996 : decode cL_law 996 = .ok (.i2l, 1) := by decide +kernel
theorem dL_law_997 : decode cL_law 997 = .ok (.lcmp, 1) := by decide +kernel
theorem dL_law_998 : decode cL_law 998 = .ok (.ifCond .eq 5, 3) := by decide +kernel
theorem dL_law_1001 : decode cL_law 1001 = .ok (.iconst 0, 1) := by decide +kernel
theorem dL_law_1002 : decode cL_law 1002 = .ok (.ireturn, 1) := by decide +kernel
theorem dL_law_1003 : decode cL_law 1003 = .ok (.goto 929, 3) := by decide +kernel
theorem dL_law_1006 : decode cL_law 1006 = .ok (.aload_n 1, 1) := by decide +kernel
theorem dL_law_1007 : decode cL_law 1007 = .ok (.aload_n 0, 1) := by decide +kernel
theorem dL_law_1008 : decode cL_law 1008 = .ok (.iload 4, 2) := by decide +kernel
theorem dL_law_1010 : decode cL_law 1010 = .ok (.iconst 1, 1) := by decide +kernel
theorem dL_law_1011 : decode cL_law 1011 = .ok (.iadd, 1) := by decide +kernel
theorem dL_law_1012 : decode cL_law 1012 = .ok (.iaload, 1) := by decide +kernel
theorem dL_law_1013 : decode cL_law 1013 = .ok (.aload_n 0, 1) := by decide +kernel
theorem dL_law_1014 : decode cL_law 1014 = .ok (.iload 4, 2) := by decide +kernel
theorem dL_law_1016 : decode cL_law 1016 = .ok (.iconst 2, 1) := by decide +kernel
theorem dL_law_1017 : decode cL_law 1017 = .ok (.iadd, 1) := by decide +kernel
theorem dL_law_1018 : decode cL_law 1018 = .ok (.iaload, 1) := by decide +kernel
theorem dL_law_1019 : decode cL_law 1019 = .ok (.aload_n 3, 1) := by decide +kernel
theorem dL_law_1020 : decode cL_law 1020 = .ok (.invokestatic 157, 3) := by decide +kernel
theorem dL_law_1023 : decode cL_law 1023 = .ok (.istore 5, 2) := by decide +kernel
theorem dL_law_1025 : decode cL_law 1025 = .ok (.aload_n 2, 1) := by decide +kernel
theorem dL_law_1026 : decode cL_law 1026 = .ok (.aload_n 0, 1) := by decide +kernel
theorem dL_law_1027 : decode cL_law 1027 = .ok (.iload 4, 2) := by decide +kernel
theorem dL_law_1029 : decode cL_law 1029 = .ok (.iconst 1, 1) := by decide +kernel
theorem dL_law_1030 : decode cL_law 1030 = .ok (.iadd, 1) := by decide +kernel
theorem dL_law_1031 : decode cL_law 1031 = .ok (.iaload, 1) := by decide +kernel
theorem dL_law_1032 : decode cL_law 1032 = .ok (.aload_n 0, 1) := by decide +kernel
theorem dL_law_1033 : decode cL_law 1033 = .ok (.iload 4, 2) := by decide +kernel
theorem dL_law_1035 : decode cL_law 1035 = .ok (.iconst 2, 1) := by decide +kernel
theorem dL_law_1036 : decode cL_law 1036 = .ok (.iadd, 1) := by decide +kernel
theorem dL_law_1037 : decode cL_law 1037 = .ok (.iaload, 1) := by decide +kernel
theorem dL_law_1038 : decode cL_law 1038 = .ok (.invokevirtual 159, 3) := by decide +kernel
theorem dL_law_1041 : decode cL_law 1041 = .ok (.istore 6, 2) := by decide +kernel
theorem dL_law_1043 : decode cL_law 1043 = .ok (.aload_n 2, 1) := by decide +kernel
theorem dL_law_1044 : decode cL_law 1044 = .ok (.invokevirtual 108, 3) := by decide +kernel
theorem dL_law_1047 : decode cL_law 1047 = .ok (.iload 5, 2) := by decide +kernel
theorem dL_law_1049 : decode cL_law 1049 = .ok (.if_icmp .eq 5, 3) := by decide +kernel
theorem dL_law_1052 : decode cL_law 1052 = .ok (.iconst 0, 1) := by decide +kernel
theorem dL_law_1053 : decode cL_law 1053 = .ok (.ireturn, 1) := by decide +kernel
theorem dL_law_1054 : decode cL_law 1054 = .ok (.iload 5, 2) := by decide +kernel
theorem dL_law_1056 : decode cL_law 1056 = .ok (.ifCond .ne 15, 3) := by decide +kernel
theorem dL_law_1059 : decode cL_law 1059 = .ok (.aload_n 3, 1) := by decide +kernel
theorem dL_law_1060 : decode cL_law 1060 = .ok (.iconst 0, 1) := by decide +kernel
theorem dL_law_1061 : decode cL_law 1061 = .ok (.laload, 1) := by decide +kernel
theorem dL_law_1062 : decode cL_law 1062 = .ok (.iload 6, 2) := by decide +kernel
theorem dL_law_1064 : decode cL_law 1064 = .ok (.i2l, 1) := by decide +kernel
theorem dL_law_1065 : decode cL_law 1065 = .ok (.lcmp, 1) := by decide +kernel
theorem dL_law_1066 : decode cL_law 1066 = .ok (.ifCond .eq 5, 3) := by decide +kernel
theorem dL_law_1069 : decode cL_law 1069 = .ok (.iconst 0, 1) := by decide +kernel
theorem dL_law_1070 : decode cL_law 1070 = .ok (.ireturn, 1) := by decide +kernel
theorem dL_law_1071 : decode cL_law 1071 = .ok (.goto 861, 3) := by decide +kernel
theorem dL_law_1074 : decode cL_law 1074 = .ok (.aload_n 1, 1) := by decide +kernel
theorem dL_law_1075 : decode cL_law 1075 = .ok (.aload_n 0, 1) := by decide +kernel
theorem dL_law_1076 : decode cL_law 1076 = .ok (.iload 4, 2) := by decide +kernel
theorem dL_law_1078 : decode cL_law 1078 = .ok (.iconst 1, 1) := by decide +kernel
theorem dL_law_1079 : decode cL_law 1079 = .ok (.iadd, 1) := by decide +kernel
theorem dL_law_1080 : decode cL_law 1080 = .ok (.iaload, 1) := by decide +kernel
theorem dL_law_1081 : decode cL_law 1081 = .ok (.aload_n 0, 1) := by decide +kernel
theorem dL_law_1082 : decode cL_law 1082 = .ok (.iload 4, 2) := by decide +kernel
theorem dL_law_1084 : decode cL_law 1084 = .ok (.iconst 2, 1) := by decide +kernel
theorem dL_law_1085 : decode cL_law 1085 = .ok (.iadd, 1) := by decide +kernel
theorem dL_law_1086 : decode cL_law 1086 = .ok (.iaload, 1) := by decide +kernel
theorem dL_law_1087 : decode cL_law 1087 = .ok (.aload_n 3, 1) := by decide +kernel
theorem dL_law_1088 : decode cL_law 1088 = .ok (.invokestatic 160, 3) := by decide +kernel
theorem dL_law_1091 : decode cL_law 1091 = .ok (.istore 5, 2) := by decide +kernel
theorem dL_law_1093 : decode cL_law 1093 = .ok (.aload_n 2, 1) := by decide +kernel
theorem dL_law_1094 : decode cL_law 1094 = .ok (.aload_n 0, 1) := by decide +kernel
theorem dL_law_1095 : decode cL_law 1095 = .ok (.iload 4, 2) := by decide +kernel
theorem dL_law_1097 : decode cL_law 1097 = .ok (.iconst 1, 1) := by decide +kernel
theorem dL_law_1098 : decode cL_law 1098 = .ok (.iadd, 1) := by decide +kernel
theorem dL_law_1099 : decode cL_law 1099 = .ok (.iaload, 1) := by decide +kernel
theorem dL_law_1100 : decode cL_law 1100 = .ok (.aload_n 0, 1) := by decide +kernel
theorem dL_law_1101 : decode cL_law 1101 = .ok (.iload 4, 2) := by decide +kernel
theorem dL_law_1103 : decode cL_law 1103 = .ok (.iconst 2, 1) := by decide +kernel
theorem dL_law_1104 : decode cL_law 1104 = .ok (.iadd, 1) := by decide +kernel
theorem dL_law_1105 : decode cL_law 1105 = .ok (.iaload, 1) := by decide +kernel
theorem dL_law_1106 : decode cL_law 1106 = .ok (.invokevirtual 162, 3) := by decide +kernel
theorem dL_law_1109 : decode cL_law 1109 = .ok (.istore 6, 2) := by decide +kernel
theorem dL_law_1111 : decode cL_law 1111 = .ok (.aload_n 2, 1) := by decide +kernel
theorem dL_law_1112 : decode cL_law 1112 = .ok (.invokevirtual 108, 3) := by decide +kernel
theorem dL_law_1115 : decode cL_law 1115 = .ok (.iload 5, 2) := by decide +kernel
theorem dL_law_1117 : decode cL_law 1117 = .ok (.if_icmp .eq 5, 3) := by decide +kernel
theorem dL_law_1120 : decode cL_law 1120 = .ok (.iconst 0, 1) := by decide +kernel
theorem dL_law_1121 : decode cL_law 1121 = .ok (.ireturn, 1) := by decide +kernel
theorem dL_law_1122 : decode cL_law 1122 = .ok (.iload 5, 2) := by decide +kernel
theorem dL_law_1124 : decode cL_law 1124 = .ok (.ifCond .ne 15, 3) := by decide +kernel
theorem dL_law_1127 : decode cL_law 1127 = .ok (.aload_n 3, 1) := by decide +kernel
theorem dL_law_1128 : decode cL_law 1128 = .ok (.iconst 0, 1) := by decide +kernel
theorem dL_law_1129 : decode cL_law 1129 = .ok (.laload, 1) := by decide +kernel
theorem dL_law_1130 : decode cL_law 1130 = .ok (.iload 6, 2) := by decide +kernel
theorem dL_law_1132 : decode cL_law 1132 = .ok (.i2l, 1) := by decide +kernel
theorem dL_law_1133 : decode cL_law 1133 = .ok (.lcmp, 1) := by decide +kernel
theorem dL_law_1134 : decode cL_law 1134 = .ok (.ifCond .eq 5, 3) := by decide +kernel
theorem dL_law_1137 : decode cL_law 1137 = .ok (.iconst 0, 1) := by decide +kernel
theorem dL_law_1138 : decode cL_law 1138 = .ok (.ireturn, 1) := by decide +kernel
theorem dL_law_1139 : decode cL_law 1139 = .ok (.goto 793, 3) := by decide +kernel
theorem dL_law_1142 : decode cL_law 1142 = .ok (.aload_n 1, 1) := by decide +kernel
theorem dL_law_1143 : decode cL_law 1143 = .ok (.aload_n 0, 1) := by decide +kernel
theorem dL_law_1144 : decode cL_law 1144 = .ok (.iload 4, 2) := by decide +kernel
theorem dL_law_1146 : decode cL_law 1146 = .ok (.iconst 1, 1) := by decide +kernel
theorem dL_law_1147 : decode cL_law 1147 = .ok (.iadd, 1) := by decide +kernel
theorem dL_law_1148 : decode cL_law 1148 = .ok (.iaload, 1) := by decide +kernel
theorem dL_law_1149 : decode cL_law 1149 = .ok (.aload_n 0, 1) := by decide +kernel
theorem dL_law_1150 : decode cL_law 1150 = .ok (.iload 4, 2) := by decide +kernel
theorem dL_law_1152 : decode cL_law 1152 = .ok (.iconst 2, 1) := by decide +kernel
theorem dL_law_1153 : decode cL_law 1153 = .ok (.iadd, 1) := by decide +kernel
theorem dL_law_1154 : decode cL_law 1154 = .ok (.iaload, 1) := by decide +kernel
theorem dL_law_1155 : decode cL_law 1155 = .ok (.aload_n 3, 1) := by decide +kernel
theorem dL_law_1156 : decode cL_law 1156 = .ok (.invokestatic 163, 3) := by decide +kernel
theorem dL_law_1159 : decode cL_law 1159 = .ok (.istore 5, 2) := by decide +kernel
theorem dL_law_1161 : decode cL_law 1161 = .ok (.aload_n 2, 1) := by decide +kernel
theorem dL_law_1162 : decode cL_law 1162 = .ok (.aload_n 0, 1) := by decide +kernel
theorem dL_law_1163 : decode cL_law 1163 = .ok (.iload 4, 2) := by decide +kernel
theorem dL_law_1165 : decode cL_law 1165 = .ok (.iconst 1, 1) := by decide +kernel
theorem dL_law_1166 : decode cL_law 1166 = .ok (.iadd, 1) := by decide +kernel
theorem dL_law_1167 : decode cL_law 1167 = .ok (.iaload, 1) := by decide +kernel
theorem dL_law_1168 : decode cL_law 1168 = .ok (.aload_n 0, 1) := by decide +kernel
theorem dL_law_1169 : decode cL_law 1169 = .ok (.iload 4, 2) := by decide +kernel
theorem dL_law_1171 : decode cL_law 1171 = .ok (.iconst 2, 1) := by decide +kernel
theorem dL_law_1172 : decode cL_law 1172 = .ok (.iadd, 1) := by decide +kernel
theorem dL_law_1173 : decode cL_law 1173 = .ok (.iaload, 1) := by decide +kernel
theorem dL_law_1174 : decode cL_law 1174 = .ok (.invokevirtual 165, 3) := by decide +kernel
theorem dL_law_1177 : decode cL_law 1177 = .ok (.istore 6, 2) := by decide +kernel
theorem dL_law_1179 : decode cL_law 1179 = .ok (.aload_n 2, 1) := by decide +kernel
theorem dL_law_1180 : decode cL_law 1180 = .ok (.invokevirtual 108, 3) := by decide +kernel
theorem dL_law_1183 : decode cL_law 1183 = .ok (.iload 5, 2) := by decide +kernel
theorem dL_law_1185 : decode cL_law 1185 = .ok (.if_icmp .eq 5, 3) := by decide +kernel
theorem dL_law_1188 : decode cL_law 1188 = .ok (.iconst 0, 1) := by decide +kernel
theorem dL_law_1189 : decode cL_law 1189 = .ok (.ireturn, 1) := by decide +kernel
theorem dL_law_1190 : decode cL_law 1190 = .ok (.iload 5, 2) := by decide +kernel
theorem dL_law_1192 : decode cL_law 1192 = .ok (.ifCond .ne 15, 3) := by decide +kernel
theorem dL_law_1195 : decode cL_law 1195 = .ok (.aload_n 3, 1) := by decide +kernel
theorem dL_law_1196 : decode cL_law 1196 = .ok (.iconst 0, 1) := by decide +kernel
theorem dL_law_1197 : decode cL_law 1197 = .ok (.laload, 1) := by decide +kernel
theorem dL_law_1198 : decode cL_law 1198 = .ok (.iload 6, 2) := by decide +kernel
theorem dL_law_1200 : decode cL_law 1200 = .ok (.i2l, 1) := by decide +kernel
theorem dL_law_1201 : decode cL_law 1201 = .ok (.lcmp, 1) := by decide +kernel
theorem dL_law_1202 : decode cL_law 1202 = .ok (.ifCond .eq 5, 3) := by decide +kernel
theorem dL_law_1205 : decode cL_law 1205 = .ok (.iconst 0, 1) := by decide +kernel
theorem dL_law_1206 : decode cL_law 1206 = .ok (.ireturn, 1) := by decide +kernel
theorem dL_law_1207 : decode cL_law 1207 = .ok (.goto 725, 3) := by decide +kernel
theorem dL_law_1210 : decode cL_law 1210 = .ok (.aload_n 1, 1) := by decide +kernel
theorem dL_law_1211 : decode cL_law 1211 = .ok (.aload_n 0, 1) := by decide +kernel
theorem dL_law_1212 : decode cL_law 1212 = .ok (.iload 4, 2) := by decide +kernel
theorem dL_law_1214 : decode cL_law 1214 = .ok (.iconst 1, 1) := by decide +kernel
theorem dL_law_1215 : decode cL_law 1215 = .ok (.iadd, 1) := by decide +kernel
theorem dL_law_1216 : decode cL_law 1216 = .ok (.iaload, 1) := by decide +kernel
theorem dL_law_1217 : decode cL_law 1217 = .ok (.aload_n 3, 1) := by decide +kernel
theorem dL_law_1218 : decode cL_law 1218 = .ok (.invokestatic 166, 3) := by decide +kernel
theorem dL_law_1221 : decode cL_law 1221 = .ok (.istore 5, 2) := by decide +kernel
theorem dL_law_1223 : decode cL_law 1223 = .ok (.aload_n 2, 1) := by decide +kernel
theorem dL_law_1224 : decode cL_law 1224 = .ok (.aload_n 0, 1) := by decide +kernel
theorem dL_law_1225 : decode cL_law 1225 = .ok (.iload 4, 2) := by decide +kernel
theorem dL_law_1227 : decode cL_law 1227 = .ok (.iconst 1, 1) := by decide +kernel
theorem dL_law_1228 : decode cL_law 1228 = .ok (.iadd, 1) := by decide +kernel
theorem dL_law_1229 : decode cL_law 1229 = .ok (.iaload, 1) := by decide +kernel
theorem dL_law_1230 : decode cL_law 1230 = .ok (.invokevirtual 168, 3) := by decide +kernel
theorem dL_law_1233 : decode cL_law 1233 = .ok (.istore 6, 2) := by decide +kernel
theorem dL_law_1235 : decode cL_law 1235 = .ok (.aload_n 2, 1) := by decide +kernel
theorem dL_law_1236 : decode cL_law 1236 = .ok (.invokevirtual 108, 3) := by decide +kernel
theorem dL_law_1239 : decode cL_law 1239 = .ok (.iload 5, 2) := by decide +kernel
theorem dL_law_1241 : decode cL_law 1241 = .ok (.if_icmp .eq 5, 3) := by decide +kernel
theorem dL_law_1244 : decode cL_law 1244 = .ok (.iconst 0, 1) := by decide +kernel
theorem dL_law_1245 : decode cL_law 1245 = .ok (.ireturn, 1) := by decide +kernel
theorem dL_law_1246 : decode cL_law 1246 = .ok (.iload 5, 2) := by decide +kernel
theorem dL_law_1248 : decode cL_law 1248 = .ok (.ifCond .ne 15, 3) := by decide +kernel
theorem dL_law_1251 : decode cL_law 1251 = .ok (.aload_n 3, 1) := by decide +kernel
theorem dL_law_1252 : decode cL_law 1252 = .ok (.iconst 0, 1) := by decide +kernel
theorem dL_law_1253 : decode cL_law 1253 = .ok (.laload, 1) := by decide +kernel
theorem dL_law_1254 : decode cL_law 1254 = .ok (.iload 6, 2) := by decide +kernel
theorem dL_law_1256 : decode cL_law 1256 = .ok (.i2l, 1) := by decide +kernel
theorem dL_law_1257 : decode cL_law 1257 = .ok (.lcmp, 1) := by decide +kernel
theorem dL_law_1258 : decode cL_law 1258 = .ok (.ifCond .eq 5, 3) := by decide +kernel
theorem dL_law_1261 : decode cL_law 1261 = .ok (.iconst 0, 1) := by decide +kernel
theorem dL_law_1262 : decode cL_law 1262 = .ok (.ireturn, 1) := by decide +kernel
theorem dL_law_1263 : decode cL_law 1263 = .ok (.goto 669, 3) := by decide +kernel
theorem dL_law_1266 : decode cL_law 1266 = .ok (.aload_n 1, 1) := by decide +kernel
theorem dL_law_1267 : decode cL_law 1267 = .ok (.aload_n 3, 1) := by decide +kernel
theorem dL_law_1268 : decode cL_law 1268 = .ok (.invokestatic 169, 3) := by decide +kernel
theorem dL_law_1271 : decode cL_law 1271 = .ok (.istore 5, 2) := by decide +kernel
theorem dL_law_1273 : decode cL_law 1273 = .ok (.aload_n 2, 1) := by decide +kernel
theorem dL_law_1274 : decode cL_law 1274 = .ok (.invokevirtual 171, 3) := by decide +kernel
theorem dL_law_1277 : decode cL_law 1277 = .ok (.istore 6, 2) := by decide +kernel
theorem dL_law_1279 : decode cL_law 1279 = .ok (.aload_n 2, 1) := by decide +kernel
theorem dL_law_1280 : decode cL_law 1280 = .ok (.invokevirtual 108, 3) := by decide +kernel
theorem dL_law_1283 : decode cL_law 1283 = .ok (.iload 5, 2) := by decide +kernel
theorem dL_law_1285 : decode cL_law 1285 = .ok (.if_icmp .eq 5, 3) := by decide +kernel
theorem dL_law_1288 : decode cL_law 1288 = .ok (.iconst 0, 1) := by decide +kernel
theorem dL_law_1289 : decode cL_law 1289 = .ok (.ireturn, 1) := by decide +kernel
theorem dL_law_1290 : decode cL_law 1290 = .ok (.iload 5, 2) := by decide +kernel
theorem dL_law_1292 : decode cL_law 1292 = .ok (.ifCond .ne 15, 3) := by decide +kernel
theorem dL_law_1295 : decode cL_law 1295 = .ok (.aload_n 3, 1) := by decide +kernel
theorem dL_law_1296 : decode cL_law 1296 = .ok (.iconst 0, 1) := by decide +kernel
theorem dL_law_1297 : decode cL_law 1297 = .ok (.laload, 1) := by decide +kernel
theorem dL_law_1298 : decode cL_law 1298 = .ok (.iload 6, 2) := by decide +kernel
theorem dL_law_1300 : decode cL_law 1300 = .ok (.i2l, 1) := by decide +kernel
theorem dL_law_1301 : decode cL_law 1301 = .ok (.lcmp, 1) := by decide +kernel
theorem dL_law_1302 : decode cL_law 1302 = .ok (.ifCond .eq 5, 3) := by decide +kernel
theorem dL_law_1305 : decode cL_law 1305 = .ok (.iconst 0, 1) := by decide +kernel
theorem dL_law_1306 : decode cL_law 1306 = .ok (.ireturn, 1) := by decide +kernel
theorem dL_law_1307 : decode cL_law 1307 = .ok (.goto 625, 3) := by decide +kernel
theorem dL_law_1310 : decode cL_law 1310 = .ok (.aload_n 1, 1) := by decide +kernel
theorem dL_law_1311 : decode cL_law 1311 = .ok (.invokevirtual 172, 3) := by decide +kernel
theorem dL_law_1314 : decode cL_law 1314 = .ok (.aload_n 2, 1) := by decide +kernel
theorem dL_law_1315 : decode cL_law 1315 = .ok (.invokevirtual 175, 3) := by decide +kernel
theorem dL_law_1318 : decode cL_law 1318 = .ok (.if_icmp .eq 614, 3) := by decide +kernel
theorem dL_law_1321 : decode cL_law 1321 = .ok (.iconst 0, 1) := by decide +kernel
theorem dL_law_1322 : decode cL_law 1322 = .ok (.ireturn, 1) := by decide +kernel
theorem dL_law_1323 : decode cL_law 1323 = .ok (.aload_n 1, 1) := by decide +kernel
theorem dL_law_1324 : decode cL_law 1324 = .ok (.aload_n 0, 1) := by decide +kernel
theorem dL_law_1325 : decode cL_law 1325 = .ok (.iload 4, 2) := by decide +kernel
theorem dL_law_1327 : decode cL_law 1327 = .ok (.iconst 1, 1) := by decide +kernel
theorem dL_law_1328 : decode cL_law 1328 = .ok (.iadd, 1) := by decide +kernel
theorem dL_law_1329 : decode cL_law 1329 = .ok (.iaload, 1) := by decide +kernel
theorem dL_law_1330 : decode cL_law 1330 = .ok (.aload_n 3, 1) := by decide +kernel
theorem dL_law_1331 : decode cL_law 1331 = .ok (.invokestatic 176, 3) := by decide +kernel
theorem dL_law_1334 : decode cL_law 1334 = .ok (.istore 5, 2) := by decide +kernel
theorem dL_law_1336 : decode cL_law 1336 = .ok (.aload_n 2, 1) := by decide +kernel
theorem dL_law_1337 : decode cL_law 1337 = .ok (.aload_n 0, 1) := by decide +kernel
theorem dL_law_1338 : decode cL_law 1338 = .ok (.iload 4, 2) := by decide +kernel
theorem dL_law_1340 : decode cL_law 1340 = .ok (.iconst 1, 1) := by decide +kernel
theorem dL_law_1341 : decode cL_law 1341 = .ok (.iadd, 1) := by decide +kernel
theorem dL_law_1342 : decode cL_law 1342 = .ok (.iaload, 1) := by decide +kernel
theorem dL_law_1343 : decode cL_law 1343 = .ok (.invokevirtual 178, 3) := by decide +kernel
theorem dL_law_1346 : decode cL_law 1346 = .ok (.istore 6, 2) := by decide +kernel
theorem dL_law_1348 : decode cL_law 1348 = .ok (.aload_n 2, 1) := by decide +kernel
theorem dL_law_1349 : decode cL_law 1349 = .ok (.invokevirtual 108, 3) := by decide +kernel
theorem dL_law_1352 : decode cL_law 1352 = .ok (.iload 5, 2) := by decide +kernel
theorem dL_law_1354 : decode cL_law 1354 = .ok (.if_icmp .eq 5, 3) := by decide +kernel
theorem dL_law_1357 : decode cL_law 1357 = .ok (.iconst 0, 1) := by decide +kernel
theorem dL_law_1358 : decode cL_law 1358 = .ok (.ireturn, 1) := by decide +kernel
theorem dL_law_1359 : decode cL_law 1359 = .ok (.iload 5, 2) := by decide +kernel
theorem dL_law_1361 : decode cL_law 1361 = .ok (.ifCond .ne 15, 3) := by decide +kernel
theorem dL_law_1364 : decode cL_law 1364 = .ok (.aload_n 3, 1) := by decide +kernel
theorem dL_law_1365 : decode cL_law 1365 = .ok (.iconst 0, 1) := by decide +kernel
theorem dL_law_1366 : decode cL_law 1366 = .ok (.laload, 1) := by decide +kernel
theorem dL_law_1367 : decode cL_law 1367 = .ok (.iload 6, 2) := by decide +kernel
theorem dL_law_1369 : decode cL_law 1369 = .ok (.i2l, 1) := by decide +kernel
theorem dL_law_1370 : decode cL_law 1370 = .ok (.lcmp, 1) := by decide +kernel
theorem dL_law_1371 : decode cL_law 1371 = .ok (.ifCond .eq 5, 3) := by decide +kernel
theorem dL_law_1374 : decode cL_law 1374 = .ok (.iconst 0, 1) := by decide +kernel
theorem dL_law_1375 : decode cL_law 1375 = .ok (.ireturn, 1) := by decide +kernel
theorem dL_law_1376 : decode cL_law 1376 = .ok (.goto 556, 3) := by decide +kernel
theorem dL_law_1379 : decode cL_law 1379 = .ok (.aload_n 1, 1) := by decide +kernel
theorem dL_law_1380 : decode cL_law 1380 = .ok (.aload_n 0, 1) := by decide +kernel
theorem dL_law_1381 : decode cL_law 1381 = .ok (.iload 4, 2) := by decide +kernel
theorem dL_law_1383 : decode cL_law 1383 = .ok (.iconst 1, 1) := by decide +kernel
theorem dL_law_1384 : decode cL_law 1384 = .ok (.iadd, 1) := by decide +kernel
theorem dL_law_1385 : decode cL_law 1385 = .ok (.iaload, 1) := by decide +kernel
theorem dL_law_1386 : decode cL_law 1386 = .ok (.aload_n 0, 1) := by decide +kernel
theorem dL_law_1387 : decode cL_law 1387 = .ok (.iload 4, 2) := by decide +kernel
theorem dL_law_1389 : decode cL_law 1389 = .ok (.iconst 2, 1) := by decide +kernel
theorem dL_law_1390 : decode cL_law 1390 = .ok (.iadd, 1) := by decide +kernel
theorem dL_law_1391 : decode cL_law 1391 = .ok (.iaload, 1) := by decide +kernel
theorem dL_law_1392 : decode cL_law 1392 = .ok (.aload_n 0, 1) := by decide +kernel
theorem dL_law_1393 : decode cL_law 1393 = .ok (.iload 4, 2) := by decide +kernel
theorem dL_law_1395 : decode cL_law 1395 = .ok (.iconst 3, 1) := by decide +kernel
theorem dL_law_1396 : decode cL_law 1396 = .ok (.iadd, 1) := by decide +kernel
theorem dL_law_1397 : decode cL_law 1397 = .ok (.iaload, 1) := by decide +kernel
theorem dL_law_1398 : decode cL_law 1398 = .ok (.aload_n 3, 1) := by decide +kernel
theorem dL_law_1399 : decode cL_law 1399 = .ok (.invokestatic 179, 3) := by decide +kernel
theorem dL_law_1402 : decode cL_law 1402 = .ok (.istore 5, 2) := by decide +kernel
theorem dL_law_1404 : decode cL_law 1404 = .ok (.aload_n 2, 1) := by decide +kernel
theorem dL_law_1405 : decode cL_law 1405 = .ok (.aload_n 0, 1) := by decide +kernel
theorem dL_law_1406 : decode cL_law 1406 = .ok (.iload 4, 2) := by decide +kernel
theorem dL_law_1408 : decode cL_law 1408 = .ok (.iconst 1, 1) := by decide +kernel
theorem dL_law_1409 : decode cL_law 1409 = .ok (.iadd, 1) := by decide +kernel
theorem dL_law_1410 : decode cL_law 1410 = .ok (.iaload, 1) := by decide +kernel
theorem dL_law_1411 : decode cL_law 1411 = .ok (.aload_n 0, 1) := by decide +kernel
theorem dL_law_1412 : decode cL_law 1412 = .ok (.iload 4, 2) := by decide +kernel
theorem dL_law_1414 : decode cL_law 1414 = .ok (.iconst 2, 1) := by decide +kernel
theorem dL_law_1415 : decode cL_law 1415 = .ok (.iadd, 1) := by decide +kernel
theorem dL_law_1416 : decode cL_law 1416 = .ok (.iaload, 1) := by decide +kernel
theorem dL_law_1417 : decode cL_law 1417 = .ok (.aload_n 0, 1) := by decide +kernel
theorem dL_law_1418 : decode cL_law 1418 = .ok (.iload 4, 2) := by decide +kernel
theorem dL_law_1420 : decode cL_law 1420 = .ok (.iconst 3, 1) := by decide +kernel
theorem dL_law_1421 : decode cL_law 1421 = .ok (.iadd, 1) := by decide +kernel
theorem dL_law_1422 : decode cL_law 1422 = .ok (.iaload, 1) := by decide +kernel
theorem dL_law_1423 : decode cL_law 1423 = .ok (.invokevirtual 181, 3) := by decide +kernel
theorem dL_law_1426 : decode cL_law 1426 = .ok (.istore 6, 2) := by decide +kernel
theorem dL_law_1428 : decode cL_law 1428 = .ok (.aload_n 2, 1) := by decide +kernel
theorem dL_law_1429 : decode cL_law 1429 = .ok (.invokevirtual 108, 3) := by decide +kernel
theorem dL_law_1432 : decode cL_law 1432 = .ok (.iload 5, 2) := by decide +kernel
theorem dL_law_1434 : decode cL_law 1434 = .ok (.if_icmp .eq 5, 3) := by decide +kernel
theorem dL_law_1437 : decode cL_law 1437 = .ok (.iconst 0, 1) := by decide +kernel
theorem dL_law_1438 : decode cL_law 1438 = .ok (.ireturn, 1) := by decide +kernel
theorem dL_law_1439 : decode cL_law 1439 = .ok (.iload 5, 2) := by decide +kernel
theorem dL_law_1441 : decode cL_law 1441 = .ok (.ifCond .ne 15, 3) := by decide +kernel
theorem dL_law_1444 : decode cL_law 1444 = .ok (.aload_n 3, 1) := by decide +kernel
theorem dL_law_1445 : decode cL_law 1445 = .ok (.iconst 0, 1) := by decide +kernel
theorem dL_law_1446 : decode cL_law 1446 = .ok (.laload, 1) := by decide +kernel
theorem dL_law_1447 : decode cL_law 1447 = .ok (.iload 6, 2) := by decide +kernel
theorem dL_law_1449 : decode cL_law 1449 = .ok (.i2l, 1) := by decide +kernel
theorem dL_law_1450 : decode cL_law 1450 = .ok (.lcmp, 1) := by decide +kernel
theorem dL_law_1451 : decode cL_law 1451 = .ok (.ifCond .eq 5, 3) := by decide +kernel
theorem dL_law_1454 : decode cL_law 1454 = .ok (.iconst 0, 1) := by decide +kernel
theorem dL_law_1455 : decode cL_law 1455 = .ok (.ireturn, 1) := by decide +kernel
theorem dL_law_1456 : decode cL_law 1456 = .ok (.goto 476, 3) := by decide +kernel
theorem dL_law_1459 : decode cL_law 1459 = .ok (.aload_n 1, 1) := by decide +kernel
theorem dL_law_1460 : decode cL_law 1460 = .ok (.aload_n 0, 1) := by decide +kernel
theorem dL_law_1461 : decode cL_law 1461 = .ok (.iload 4, 2) := by decide +kernel
theorem dL_law_1463 : decode cL_law 1463 = .ok (.iconst 1, 1) := by decide +kernel
theorem dL_law_1464 : decode cL_law 1464 = .ok (.iadd, 1) := by decide +kernel
theorem dL_law_1465 : decode cL_law 1465 = .ok (.iaload, 1) := by decide +kernel
theorem dL_law_1466 : decode cL_law 1466 = .ok (.aload_n 0, 1) := by decide +kernel
theorem dL_law_1467 : decode cL_law 1467 = .ok (.iload 4, 2) := by decide +kernel
theorem dL_law_1469 : decode cL_law 1469 = .ok (.iconst 2, 1) := by decide +kernel
theorem dL_law_1470 : decode cL_law 1470 = .ok (.iadd, 1) := by decide +kernel
theorem dL_law_1471 : decode cL_law 1471 = .ok (.iaload, 1) := by decide +kernel
theorem dL_law_1472 : decode cL_law 1472 = .ok (.aload_n 0, 1) := by decide +kernel
theorem dL_law_1473 : decode cL_law 1473 = .ok (.iload 4, 2) := by decide +kernel
theorem dL_law_1475 : decode cL_law 1475 = .ok (.iconst 3, 1) := by decide +kernel
theorem dL_law_1476 : decode cL_law 1476 = .ok (.iadd, 1) := by decide +kernel
theorem dL_law_1477 : decode cL_law 1477 = .ok (.iaload, 1) := by decide +kernel
theorem dL_law_1478 : decode cL_law 1478 = .ok (.aload_n 3, 1) := by decide +kernel
theorem dL_law_1479 : decode cL_law 1479 = .ok (.invokestatic 182, 3) := by decide +kernel
theorem dL_law_1482 : decode cL_law 1482 = .ok (.istore 5, 2) := by decide +kernel
theorem dL_law_1484 : decode cL_law 1484 = .ok (.aload_n 2, 1) := by decide +kernel
theorem dL_law_1485 : decode cL_law 1485 = .ok (.aload_n 0, 1) := by decide +kernel
theorem dL_law_1486 : decode cL_law 1486 = .ok (.iload 4, 2) := by decide +kernel
theorem dL_law_1488 : decode cL_law 1488 = .ok (.iconst 1, 1) := by decide +kernel
theorem dL_law_1489 : decode cL_law 1489 = .ok (.iadd, 1) := by decide +kernel
theorem dL_law_1490 : decode cL_law 1490 = .ok (.iaload, 1) := by decide +kernel
theorem dL_law_1491 : decode cL_law 1491 = .ok (.aload_n 0, 1) := by decide +kernel
theorem dL_law_1492 : decode cL_law 1492 = .ok (.iload 4, 2) := by decide +kernel
theorem dL_law_1494 : decode cL_law 1494 = .ok (.iconst 2, 1) := by decide +kernel
theorem dL_law_1495 : decode cL_law 1495 = .ok (.iadd, 1) := by decide +kernel
theorem dL_law_1496 : decode cL_law 1496 = .ok (.iaload, 1) := by decide +kernel
theorem dL_law_1497 : decode cL_law 1497 = .ok (.aload_n 0, 1) := by decide +kernel
theorem dL_law_1498 : decode cL_law 1498 = .ok (.iload 4, 2) := by decide +kernel
theorem dL_law_1500 : decode cL_law 1500 = .ok (.iconst 3, 1) := by decide +kernel
theorem dL_law_1501 : decode cL_law 1501 = .ok (.iadd, 1) := by decide +kernel
theorem dL_law_1502 : decode cL_law 1502 = .ok (.iaload, 1) := by decide +kernel
theorem dL_law_1503 : decode cL_law 1503 = .ok (.invokevirtual 184, 3) := by decide +kernel
theorem dL_law_1506 : decode cL_law 1506 = .ok (.istore 6, 2) := by decide +kernel
theorem dL_law_1508 : decode cL_law 1508 = .ok (.aload_n 2, 1) := by decide +kernel
theorem dL_law_1509 : decode cL_law 1509 = .ok (.invokevirtual 108, 3) := by decide +kernel
theorem dL_law_1512 : decode cL_law 1512 = .ok (.iload 5, 2) := by decide +kernel
theorem dL_law_1514 : decode cL_law 1514 = .ok (.if_icmp .eq 5, 3) := by decide +kernel
theorem dL_law_1517 : decode cL_law 1517 = .ok (.iconst 0, 1) := by decide +kernel
theorem dL_law_1518 : decode cL_law 1518 = .ok (.ireturn, 1) := by decide +kernel
theorem dL_law_1519 : decode cL_law 1519 = .ok (.iload 5, 2) := by decide +kernel
theorem dL_law_1521 : decode cL_law 1521 = .ok (.ifCond .ne 15, 3) := by decide +kernel
theorem dL_law_1524 : decode cL_law 1524 = .ok (.aload_n 3, 1) := by decide +kernel
theorem dL_law_1525 : decode cL_law 1525 = .ok (.iconst 0, 1) := by decide +kernel
theorem dL_law_1526 : decode cL_law 1526 = .ok (.laload, 1) := by decide +kernel
theorem dL_law_1527 : decode cL_law 1527 = .ok (.iload 6, 2) := by decide +kernel
theorem dL_law_1529 : decode cL_law 1529 = .ok (.i2l, 1) := by decide +kernel
theorem dL_law_1530 : decode cL_law 1530 = .ok (.lcmp, 1) := by decide +kernel
theorem dL_law_1531 : decode cL_law 1531 = .ok (.ifCond .eq 5, 3) := by decide +kernel
theorem dL_law_1534 : decode cL_law 1534 = .ok (.iconst 0, 1) := by decide +kernel
theorem dL_law_1535 : decode cL_law 1535 = .ok (.ireturn, 1) := by decide +kernel
theorem dL_law_1536 : decode cL_law 1536 = .ok (.goto 396, 3) := by decide +kernel
theorem dL_law_1539 : decode cL_law 1539 = .ok (.aload_n 1, 1) := by decide +kernel
theorem dL_law_1540 : decode cL_law 1540 = .ok (.aload_n 0, 1) := by decide +kernel
theorem dL_law_1541 : decode cL_law 1541 = .ok (.iload 4, 2) := by decide +kernel
theorem dL_law_1543 : decode cL_law 1543 = .ok (.iconst 1, 1) := by decide +kernel
theorem dL_law_1544 : decode cL_law 1544 = .ok (.iadd, 1) := by decide +kernel
theorem dL_law_1545 : decode cL_law 1545 = .ok (.iaload, 1) := by decide +kernel
theorem dL_law_1546 : decode cL_law 1546 = .ok (.aload_n 0, 1) := by decide +kernel
theorem dL_law_1547 : decode cL_law 1547 = .ok (.iload 4, 2) := by decide +kernel
theorem dL_law_1549 : decode cL_law 1549 = .ok (.iconst 2, 1) := by decide +kernel
theorem dL_law_1550 : decode cL_law 1550 = .ok (.iadd, 1) := by decide +kernel
theorem dL_law_1551 : decode cL_law 1551 = .ok (.iaload, 1) := by decide +kernel
theorem dL_law_1552 : decode cL_law 1552 = .ok (.aload_n 3, 1) := by decide +kernel
theorem dL_law_1553 : decode cL_law 1553 = .ok (.invokestatic 185, 3) := by decide +kernel
theorem dL_law_1556 : decode cL_law 1556 = .ok (.istore 5, 2) := by decide +kernel
theorem dL_law_1558 : decode cL_law 1558 = .ok (.aload_n 2, 1) := by decide +kernel
theorem dL_law_1559 : decode cL_law 1559 = .ok (.aload_n 0, 1) := by decide +kernel
theorem dL_law_1560 : decode cL_law 1560 = .ok (.iload 4, 2) := by decide +kernel
theorem dL_law_1562 : decode cL_law 1562 = .ok (.iconst 1, 1) := by decide +kernel
theorem dL_law_1563 : decode cL_law 1563 = .ok (.iadd, 1) := by decide +kernel
theorem dL_law_1564 : decode cL_law 1564 = .ok (.iaload, 1) := by decide +kernel
theorem dL_law_1565 : decode cL_law 1565 = .ok (.aload_n 0, 1) := by decide +kernel
theorem dL_law_1566 : decode cL_law 1566 = .ok (.iload 4, 2) := by decide +kernel
theorem dL_law_1568 : decode cL_law 1568 = .ok (.iconst 2, 1) := by decide +kernel
theorem dL_law_1569 : decode cL_law 1569 = .ok (.iadd, 1) := by decide +kernel
theorem dL_law_1570 : decode cL_law 1570 = .ok (.iaload, 1) := by decide +kernel
theorem dL_law_1571 : decode cL_law 1571 = .ok (.invokevirtual 187, 3) := by decide +kernel
theorem dL_law_1574 : decode cL_law 1574 = .ok (.istore 6, 2) := by decide +kernel
theorem dL_law_1576 : decode cL_law 1576 = .ok (.aload_n 2, 1) := by decide +kernel
theorem dL_law_1577 : decode cL_law 1577 = .ok (.invokevirtual 108, 3) := by decide +kernel
theorem dL_law_1580 : decode cL_law 1580 = .ok (.iload 5, 2) := by decide +kernel
theorem dL_law_1582 : decode cL_law 1582 = .ok (.if_icmp .eq 5, 3) := by decide +kernel
theorem dL_law_1585 : decode cL_law 1585 = .ok (.iconst 0, 1) := by decide +kernel
theorem dL_law_1586 : decode cL_law 1586 = .ok (.ireturn, 1) := by decide +kernel
theorem dL_law_1587 : decode cL_law 1587 = .ok (.iload 5, 2) := by decide +kernel
theorem dL_law_1589 : decode cL_law 1589 = .ok (.ifCond .ne 15, 3) := by decide +kernel
theorem dL_law_1592 : decode cL_law 1592 = .ok (.aload_n 3, 1) := by decide +kernel
theorem dL_law_1593 : decode cL_law 1593 = .ok (.iconst 0, 1) := by decide +kernel
theorem dL_law_1594 : decode cL_law 1594 = .ok (.laload, 1) := by decide +kernel
theorem dL_law_1595 : decode cL_law 1595 = .ok (.iload 6, 2) := by decide +kernel
theorem dL_law_1597 : decode cL_law 1597 = .ok (.i2l, 1) := by decide +kernel
theorem dL_law_1598 : decode cL_law 1598 = .ok (.lcmp, 1) := by decide +kernel
theorem dL_law_1599 : decode cL_law 1599 = .ok (.ifCond .eq 5, 3) := by decide +kernel
theorem dL_law_1602 : decode cL_law 1602 = .ok (.iconst 0, 1) := by decide +kernel
theorem dL_law_1603 : decode cL_law 1603 = .ok (.ireturn, 1) := by decide +kernel
theorem dL_law_1604 : decode cL_law 1604 = .ok (.goto 328, 3) := by decide +kernel
theorem dL_law_1607 : decode cL_law 1607 = .ok (.aload_n 1, 1) := by decide +kernel
theorem dL_law_1608 : decode cL_law 1608 = .ok (.invokevirtual 188, 3) := by decide +kernel
theorem dL_law_1611 : decode cL_law 1611 = .ok (.aload_n 2, 1) := by decide +kernel
theorem dL_law_1612 : decode cL_law 1612 = .ok (.invokevirtual 191, 3) := by decide +kernel
theorem dL_law_1615 : decode cL_law 1615 = .ok (.if_icmp .eq 317, 3) := by decide +kernel
theorem dL_law_1618 : decode cL_law 1618 = .ok (.iconst 0, 1) := by decide +kernel
theorem dL_law_1619 : decode cL_law 1619 = .ok (.ireturn, 1) := by decide +kernel
theorem dL_law_1620 : decode cL_law 1620 = .ok (.aload_n 1, 1) := by decide +kernel
theorem dL_law_1621 : decode cL_law 1621 = .ok (.aload_n 0, 1) := by decide +kernel
theorem dL_law_1622 : decode cL_law 1622 = .ok (.iload 4, 2) := by decide +kernel
theorem dL_law_1624 : decode cL_law 1624 = .ok (.iconst 1, 1) := by decide +kernel
theorem dL_law_1625 : decode cL_law 1625 = .ok (.iadd, 1) := by decide +kernel
theorem dL_law_1626 : decode cL_law 1626 = .ok (.iaload, 1) := by decide +kernel
theorem dL_law_1627 : decode cL_law 1627 = .ok (.aload_n 0, 1) := by decide +kernel
theorem dL_law_1628 : decode cL_law 1628 = .ok (.iload 4, 2) := by decide +kernel
theorem dL_law_1630 : decode cL_law 1630 = .ok (.iconst 2, 1) := by decide +kernel
theorem dL_law_1631 : decode cL_law 1631 = .ok (.iadd, 1) := by decide +kernel
theorem dL_law_1632 : decode cL_law 1632 = .ok (.iaload, 1) := by decide +kernel
theorem dL_law_1633 : decode cL_law 1633 = .ok (.i2l, 1) := by decide +kernel
theorem dL_law_1634 : decode cL_law 1634 = .ok (.bipush 32, 2) := by decide +kernel
theorem dL_law_1636 : decode cL_law 1636 = .ok (.lshl, 1) := by decide +kernel
theorem dL_law_1637 : decode cL_law 1637 = .ok (.aload_n 0, 1) := by decide +kernel
theorem dL_law_1638 : decode cL_law 1638 = .ok (.iload 4, 2) := by decide +kernel
theorem dL_law_1640 : decode cL_law 1640 = .ok (.iconst 3, 1) := by decide +kernel
theorem dL_law_1641 : decode cL_law 1641 = .ok (.iadd, 1) := by decide +kernel
theorem dL_law_1642 : decode cL_law 1642 = .ok (.iaload, 1) := by decide +kernel
theorem dL_law_1643 : decode cL_law 1643 = .ok (.i2l, 1) := by decide +kernel
theorem dL_law_1644 : decode cL_law 1644 = .ok (.ldc2_w 192, 3) := by decide +kernel
theorem dL_law_1647 : decode cL_law 1647 = .ok (.land, 1) := by decide +kernel
theorem dL_law_1648 : decode cL_law 1648 = .ok (.lor, 1) := by decide +kernel
theorem dL_law_1649 : decode cL_law 1649 = .ok (.aload_n 3, 1) := by decide +kernel
theorem dL_law_1650 : decode cL_law 1650 = .ok (.invokestatic 194, 3) := by decide +kernel
theorem dL_law_1653 : decode cL_law 1653 = .ok (.istore 5, 2) := by decide +kernel
theorem dL_law_1655 : decode cL_law 1655 = .ok (.aload_n 2, 1) := by decide +kernel
theorem dL_law_1656 : decode cL_law 1656 = .ok (.aload_n 0, 1) := by decide +kernel
theorem dL_law_1657 : decode cL_law 1657 = .ok (.iload 4, 2) := by decide +kernel
theorem dL_law_1659 : decode cL_law 1659 = .ok (.iconst 1, 1) := by decide +kernel
theorem dL_law_1660 : decode cL_law 1660 = .ok (.iadd, 1) := by decide +kernel
theorem dL_law_1661 : decode cL_law 1661 = .ok (.iaload, 1) := by decide +kernel
theorem dL_law_1662 : decode cL_law 1662 = .ok (.aload_n 0, 1) := by decide +kernel
theorem dL_law_1663 : decode cL_law 1663 = .ok (.iload 4, 2) := by decide +kernel
theorem dL_law_1665 : decode cL_law 1665 = .ok (.iconst 2, 1) := by decide +kernel
theorem dL_law_1666 : decode cL_law 1666 = .ok (.iadd, 1) := by decide +kernel
theorem dL_law_1667 : decode cL_law 1667 = .ok (.iaload, 1) := by decide +kernel
theorem dL_law_1668 : decode cL_law 1668 = .ok (.i2l, 1) := by decide +kernel
theorem dL_law_1669 : decode cL_law 1669 = .ok (.bipush 32, 2) := by decide +kernel
theorem dL_law_1671 : decode cL_law 1671 = .ok (.lshl, 1) := by decide +kernel
theorem dL_law_1672 : decode cL_law 1672 = .ok (.aload_n 0, 1) := by decide +kernel
theorem dL_law_1673 : decode cL_law 1673 = .ok (.iload 4, 2) := by decide +kernel
theorem dL_law_1675 : decode cL_law 1675 = .ok (.iconst 3, 1) := by decide +kernel
theorem dL_law_1676 : decode cL_law 1676 = .ok (.iadd, 1) := by decide +kernel
theorem dL_law_1677 : decode cL_law 1677 = .ok (.iaload, 1) := by decide +kernel
theorem dL_law_1678 : decode cL_law 1678 = .ok (.i2l, 1) := by decide +kernel
theorem dL_law_1679 : decode cL_law 1679 = .ok (.ldc2_w 192, 3) := by decide +kernel
theorem dL_law_1682 : decode cL_law 1682 = .ok (.land, 1) := by decide +kernel
theorem dL_law_1683 : decode cL_law 1683 = .ok (.lor, 1) := by decide +kernel
theorem dL_law_1684 : decode cL_law 1684 = .ok (.invokevirtual 197, 3) := by decide +kernel
theorem dL_law_1687 : decode cL_law 1687 = .ok (.istore 6, 2) := by decide +kernel
theorem dL_law_1689 : decode cL_law 1689 = .ok (.aload_n 2, 1) := by decide +kernel
theorem dL_law_1690 : decode cL_law 1690 = .ok (.invokevirtual 108, 3) := by decide +kernel
theorem dL_law_1693 : decode cL_law 1693 = .ok (.iload 5, 2) := by decide +kernel
theorem dL_law_1695 : decode cL_law 1695 = .ok (.if_icmp .eq 5, 3) := by decide +kernel
theorem dL_law_1698 : decode cL_law 1698 = .ok (.iconst 0, 1) := by decide +kernel
theorem dL_law_1699 : decode cL_law 1699 = .ok (.ireturn, 1) := by decide +kernel
theorem dL_law_1700 : decode cL_law 1700 = .ok (.iload 5, 2) := by decide +kernel
theorem dL_law_1702 : decode cL_law 1702 = .ok (.ifCond .ne 15, 3) := by decide +kernel
theorem dL_law_1705 : decode cL_law 1705 = .ok (.aload_n 3, 1) := by decide +kernel
theorem dL_law_1706 : decode cL_law 1706 = .ok (.iconst 0, 1) := by decide +kernel
theorem dL_law_1707 : decode cL_law 1707 = .ok (.laload, 1) := by decide +kernel
theorem dL_law_1708 : decode cL_law 1708 = .ok (.iload 6, 2) := by decide +kernel
theorem dL_law_1710 : decode cL_law 1710 = .ok (.i2l, 1) := by decide +kernel
theorem dL_law_1711 : decode cL_law 1711 = .ok (.lcmp, 1) := by decide +kernel
theorem dL_law_1712 : decode cL_law 1712 = .ok (.ifCond .eq 5, 3) := by decide +kernel
theorem dL_law_1715 : decode cL_law 1715 = .ok (.iconst 0, 1) := by decide +kernel
theorem dL_law_1716 : decode cL_law 1716 = .ok (.ireturn, 1) := by decide +kernel
theorem dL_law_1717 : decode cL_law 1717 = .ok (.goto 215, 3) := by decide +kernel
theorem dL_law_1720 : decode cL_law 1720 = .ok (.aload_n 1, 1) := by decide +kernel
theorem dL_law_1721 : decode cL_law 1721 = .ok (.aload_n 0, 1) := by decide +kernel
theorem dL_law_1722 : decode cL_law 1722 = .ok (.iload 4, 2) := by decide +kernel
theorem dL_law_1724 : decode cL_law 1724 = .ok (.iconst 1, 1) := by decide +kernel
theorem dL_law_1725 : decode cL_law 1725 = .ok (.iadd, 1) := by decide +kernel
theorem dL_law_1726 : decode cL_law 1726 = .ok (.iaload, 1) := by decide +kernel
theorem dL_law_1727 : decode cL_law 1727 = .ok (.i2l, 1) := by decide +kernel
theorem dL_law_1728 : decode cL_law 1728 = .ok (.bipush 32, 2) := by decide +kernel
theorem dL_law_1730 : decode cL_law 1730 = .ok (.lshl, 1) := by decide +kernel
theorem dL_law_1731 : decode cL_law 1731 = .ok (.aload_n 0, 1) := by decide +kernel
theorem dL_law_1732 : decode cL_law 1732 = .ok (.iload 4, 2) := by decide +kernel
theorem dL_law_1734 : decode cL_law 1734 = .ok (.iconst 2, 1) := by decide +kernel
theorem dL_law_1735 : decode cL_law 1735 = .ok (.iadd, 1) := by decide +kernel
theorem dL_law_1736 : decode cL_law 1736 = .ok (.iaload, 1) := by decide +kernel
theorem dL_law_1737 : decode cL_law 1737 = .ok (.i2l, 1) := by decide +kernel
theorem dL_law_1738 : decode cL_law 1738 = .ok (.ldc2_w 192, 3) := by decide +kernel
theorem dL_law_1741 : decode cL_law 1741 = .ok (.land, 1) := by decide +kernel
theorem dL_law_1742 : decode cL_law 1742 = .ok (.lor, 1) := by decide +kernel
theorem dL_law_1743 : decode cL_law 1743 = .ok (.aload_n 0, 1) := by decide +kernel
theorem dL_law_1744 : decode cL_law 1744 = .ok (.iload 4, 2) := by decide +kernel
theorem dL_law_1746 : decode cL_law 1746 = .ok (.iconst 3, 1) := by decide +kernel
theorem dL_law_1747 : decode cL_law 1747 = .ok (.iadd, 1) := by decide +kernel
theorem dL_law_1748 : decode cL_law 1748 = .ok (.iaload, 1) := by decide +kernel
theorem dL_law_1749 : decode cL_law 1749 = .ok (.aload_n 3, 1) := by decide +kernel
theorem dL_law_1750 : decode cL_law 1750 = .ok (.invokestatic 198, 3) := by decide +kernel
theorem dL_law_1753 : decode cL_law 1753 = .ok (.istore 5, 2) := by decide +kernel
theorem dL_law_1755 : decode cL_law 1755 = .ok (.aload_n 2, 1) := by decide +kernel
theorem dL_law_1756 : decode cL_law 1756 = .ok (.aload_n 0, 1) := by decide +kernel
theorem dL_law_1757 : decode cL_law 1757 = .ok (.iload 4, 2) := by decide +kernel
theorem dL_law_1759 : decode cL_law 1759 = .ok (.iconst 1, 1) := by decide +kernel
theorem dL_law_1760 : decode cL_law 1760 = .ok (.iadd, 1) := by decide +kernel
theorem dL_law_1761 : decode cL_law 1761 = .ok (.iaload, 1) := by decide +kernel
theorem dL_law_1762 : decode cL_law 1762 = .ok (.i2l, 1) := by decide +kernel
theorem dL_law_1763 : decode cL_law 1763 = .ok (.bipush 32, 2) := by decide +kernel
theorem dL_law_1765 : decode cL_law 1765 = .ok (.lshl, 1) := by decide +kernel
theorem dL_law_1766 : decode cL_law 1766 = .ok (.aload_n 0, 1) := by decide +kernel
theorem dL_law_1767 : decode cL_law 1767 = .ok (.iload 4, 2) := by decide +kernel
theorem dL_law_1769 : decode cL_law 1769 = .ok (.iconst 2, 1) := by decide +kernel
theorem dL_law_1770 : decode cL_law 1770 = .ok (.iadd, 1) := by decide +kernel
theorem dL_law_1771 : decode cL_law 1771 = .ok (.iaload, 1) := by decide +kernel
theorem dL_law_1772 : decode cL_law 1772 = .ok (.i2l, 1) := by decide +kernel
theorem dL_law_1773 : decode cL_law 1773 = .ok (.ldc2_w 192, 3) := by decide +kernel
theorem dL_law_1776 : decode cL_law 1776 = .ok (.land, 1) := by decide +kernel
theorem dL_law_1777 : decode cL_law 1777 = .ok (.lor, 1) := by decide +kernel
theorem dL_law_1778 : decode cL_law 1778 = .ok (.aload_n 0, 1) := by decide +kernel
theorem dL_law_1779 : decode cL_law 1779 = .ok (.iload 4, 2) := by decide +kernel
theorem dL_law_1781 : decode cL_law 1781 = .ok (.iconst 3, 1) := by decide +kernel
theorem dL_law_1782 : decode cL_law 1782 = .ok (.iadd, 1) := by decide +kernel
theorem dL_law_1783 : decode cL_law 1783 = .ok (.iaload, 1) := by decide +kernel
theorem dL_law_1784 : decode cL_law 1784 = .ok (.invokevirtual 201, 3) := by decide +kernel
theorem dL_law_1787 : decode cL_law 1787 = .ok (.istore 6, 2) := by decide +kernel
theorem dL_law_1789 : decode cL_law 1789 = .ok (.aload_n 2, 1) := by decide +kernel
theorem dL_law_1790 : decode cL_law 1790 = .ok (.invokevirtual 108, 3) := by decide +kernel
theorem dL_law_1793 : decode cL_law 1793 = .ok (.iload 5, 2) := by decide +kernel
theorem dL_law_1795 : decode cL_law 1795 = .ok (.if_icmp .eq 5, 3) := by decide +kernel
theorem dL_law_1798 : decode cL_law 1798 = .ok (.iconst 0, 1) := by decide +kernel
theorem dL_law_1799 : decode cL_law 1799 = .ok (.ireturn, 1) := by decide +kernel
theorem dL_law_1800 : decode cL_law 1800 = .ok (.iload 5, 2) := by decide +kernel
theorem dL_law_1802 : decode cL_law 1802 = .ok (.ifCond .ne 15, 3) := by decide +kernel
theorem dL_law_1805 : decode cL_law 1805 = .ok (.aload_n 3, 1) := by decide +kernel
theorem dL_law_1806 : decode cL_law 1806 = .ok (.iconst 0, 1) := by decide +kernel
theorem dL_law_1807 : decode cL_law 1807 = .ok (.laload, 1) := by decide +kernel
theorem dL_law_1808 : decode cL_law 1808 = .ok (.iload 6, 2) := by decide +kernel
theorem dL_law_1810 : decode cL_law 1810 = .ok (.i2l, 1) := by decide +kernel
theorem dL_law_1811 : decode cL_law 1811 = .ok (.lcmp, 1) := by decide +kernel
theorem dL_law_1812 : decode cL_law 1812 = .ok (.ifCond .eq 5, 3) := by decide +kernel
theorem dL_law_1815 : decode cL_law 1815 = .ok (.iconst 0, 1) := by decide +kernel
theorem dL_law_1816 : decode cL_law 1816 = .ok (.ireturn, 1) := by decide +kernel
theorem dL_law_1817 : decode cL_law 1817 = .ok (.goto 115, 3) := by decide +kernel
theorem dL_law_1820 : decode cL_law 1820 = .ok (.aload_n 1, 1) := by decide +kernel
theorem dL_law_1821 : decode cL_law 1821 = .ok (.aload_n 0, 1) := by decide +kernel
theorem dL_law_1822 : decode cL_law 1822 = .ok (.iload 4, 2) := by decide +kernel
theorem dL_law_1824 : decode cL_law 1824 = .ok (.iconst 1, 1) := by decide +kernel
theorem dL_law_1825 : decode cL_law 1825 = .ok (.iadd, 1) := by decide +kernel
theorem dL_law_1826 : decode cL_law 1826 = .ok (.iaload, 1) := by decide +kernel
theorem dL_law_1827 : decode cL_law 1827 = .ok (.aload_n 3, 1) := by decide +kernel
theorem dL_law_1828 : decode cL_law 1828 = .ok (.invokestatic 202, 3) := by decide +kernel
theorem dL_law_1831 : decode cL_law 1831 = .ok (.istore 5, 2) := by decide +kernel
theorem dL_law_1833 : decode cL_law 1833 = .ok (.aload_n 2, 1) := by decide +kernel
theorem dL_law_1834 : decode cL_law 1834 = .ok (.aload_n 0, 1) := by decide +kernel
theorem dL_law_1835 : decode cL_law 1835 = .ok (.iload 4, 2) := by decide +kernel
theorem dL_law_1837 : decode cL_law 1837 = .ok (.iconst 1, 1) := by decide +kernel
theorem dL_law_1838 : decode cL_law 1838 = .ok (.iadd, 1) := by decide +kernel
theorem dL_law_1839 : decode cL_law 1839 = .ok (.iaload, 1) := by decide +kernel
theorem dL_law_1840 : decode cL_law 1840 = .ok (.invokevirtual 204, 3) := by decide +kernel
theorem dL_law_1843 : decode cL_law 1843 = .ok (.istore 6, 2) := by decide +kernel
theorem dL_law_1845 : decode cL_law 1845 = .ok (.aload_n 2, 1) := by decide +kernel
theorem dL_law_1846 : decode cL_law 1846 = .ok (.invokevirtual 108, 3) := by decide +kernel
theorem dL_law_1849 : decode cL_law 1849 = .ok (.iload 5, 2) := by decide +kernel
theorem dL_law_1851 : decode cL_law 1851 = .ok (.if_icmp .eq 5, 3) := by decide +kernel
theorem dL_law_1854 : decode cL_law 1854 = .ok (.iconst 0, 1) := by decide +kernel
theorem dL_law_1855 : decode cL_law 1855 = .ok (.ireturn, 1) := by decide +kernel
theorem dL_law_1856 : decode cL_law 1856 = .ok (.iload 5, 2) := by decide +kernel
theorem dL_law_1858 : decode cL_law 1858 = .ok (.ifCond .ne 15, 3) := by decide +kernel
theorem dL_law_1861 : decode cL_law 1861 = .ok (.aload_n 3, 1) := by decide +kernel
theorem dL_law_1862 : decode cL_law 1862 = .ok (.iconst 0, 1) := by decide +kernel
theorem dL_law_1863 : decode cL_law 1863 = .ok (.laload, 1) := by decide +kernel
theorem dL_law_1864 : decode cL_law 1864 = .ok (.iload 6, 2) := by decide +kernel
theorem dL_law_1866 : decode cL_law 1866 = .ok (.i2l, 1) := by decide +kernel
theorem dL_law_1867 : decode cL_law 1867 = .ok (.lcmp, 1) := by decide +kernel
theorem dL_law_1868 : decode cL_law 1868 = .ok (.ifCond .eq 5, 3) := by decide +kernel
theorem dL_law_1871 : decode cL_law 1871 = .ok (.iconst 0, 1) := by decide +kernel
theorem dL_law_1872 : decode cL_law 1872 = .ok (.ireturn, 1) := by decide +kernel
theorem dL_law_1873 : decode cL_law 1873 = .ok (.goto 59, 3) := by decide +kernel
theorem dL_law_1876 : decode cL_law 1876 = .ok (.aload_n 1, 1) := by decide +kernel
theorem dL_law_1877 : decode cL_law 1877 = .ok (.aload_n 0, 1) := by decide +kernel
theorem dL_law_1878 : decode cL_law 1878 = .ok (.iload 4, 2) := by decide +kernel
theorem dL_law_1880 : decode cL_law 1880 = .ok (.iconst 1, 1) := by decide +kernel
theorem dL_law_1881 : decode cL_law 1881 = .ok (.iadd, 1) := by decide +kernel
theorem dL_law_1882 : decode cL_law 1882 = .ok (.iaload, 1) := by decide +kernel
theorem dL_law_1883 : decode cL_law 1883 = .ok (.aload_n 3, 1) := by decide +kernel
theorem dL_law_1884 : decode cL_law 1884 = .ok (.invokestatic 205, 3) := by decide +kernel
theorem dL_law_1887 : decode cL_law 1887 = .ok (.istore 5, 2) := by decide +kernel
theorem dL_law_1889 : decode cL_law 1889 = .ok (.aload_n 2, 1) := by decide +kernel
theorem dL_law_1890 : decode cL_law 1890 = .ok (.aload_n 0, 1) := by decide +kernel
theorem dL_law_1891 : decode cL_law 1891 = .ok (.iload 4, 2) := by decide +kernel
theorem dL_law_1893 : decode cL_law 1893 = .ok (.iconst 1, 1) := by decide +kernel
theorem dL_law_1894 : decode cL_law 1894 = .ok (.iadd, 1) := by decide +kernel
theorem dL_law_1895 : decode cL_law 1895 = .ok (.iaload, 1) := by decide +kernel
theorem dL_law_1896 : decode cL_law 1896 = .ok (.invokevirtual 207, 3) := by decide +kernel
theorem dL_law_1899 : decode cL_law 1899 = .ok (.istore 6, 2) := by decide +kernel
theorem dL_law_1901 : decode cL_law 1901 = .ok (.aload_n 2, 1) := by decide +kernel
theorem dL_law_1902 : decode cL_law 1902 = .ok (.invokevirtual 108, 3) := by decide +kernel
theorem dL_law_1905 : decode cL_law 1905 = .ok (.iload 5, 2) := by decide +kernel
theorem dL_law_1907 : decode cL_law 1907 = .ok (.if_icmp .eq 5, 3) := by decide +kernel
theorem dL_law_1910 : decode cL_law 1910 = .ok (.iconst 0, 1) := by decide +kernel
theorem dL_law_1911 : decode cL_law 1911 = .ok (.ireturn, 1) := by decide +kernel
theorem dL_law_1912 : decode cL_law 1912 = .ok (.iload 5, 2) := by decide +kernel
theorem dL_law_1914 : decode cL_law 1914 = .ok (.ifCond .ne 15, 3) := by decide +kernel
theorem dL_law_1917 : decode cL_law 1917 = .ok (.aload_n 3, 1) := by decide +kernel
theorem dL_law_1918 : decode cL_law 1918 = .ok (.iconst 0, 1) := by decide +kernel
theorem dL_law_1919 : decode cL_law 1919 = .ok (.laload, 1) := by decide +kernel
theorem dL_law_1920 : decode cL_law 1920 = .ok (.iload 6, 2) := by decide +kernel
theorem dL_law_1922 : decode cL_law 1922 = .ok (.i2l, 1) := by decide +kernel
theorem dL_law_1923 : decode cL_law 1923 = .ok (.lcmp, 1) := by decide +kernel
theorem dL_law_1924 : decode cL_law 1924 = .ok (.ifCond .eq 5, 3) := by decide +kernel
theorem dL_law_1927 : decode cL_law 1927 = .ok (.iconst 0, 1) := by decide +kernel
theorem dL_law_1928 : decode cL_law 1928 = .ok (.ireturn, 1) := by decide +kernel
theorem dL_law_1929 : decode cL_law 1929 = .ok (.goto 3, 3) := by decide +kernel
theorem dL_law_1932 : decode cL_law 1932 = .ok (.iinc 4 6, 3) := by decide +kernel
theorem dL_law_1935 : decode cL_law 1935 = .ok (.goto (-1912), 3) := by decide +kernel
theorem dL_law_1938 : decode cL_law 1938 = .ok (.iconst 1, 1) := by decide +kernel
theorem dL_law_1939 : decode cL_law 1939 = .ok (.ireturn, 1) := by decide +kernel
end
section
/-! whole numbers for the machine's ints and longs -/
def iI (z : Int) : Int32 := Int32.ofInt z
def lI (z : Int) : Int64 := Int64.ofInt z
def R32 (z : Int) : Prop := -2147483648 ≤ z ∧ z < 2147483648
def R64 (z : Int) : Prop := -9223372036854775808 ≤ z ∧ z < 9223372036854775808
theorem iI_t {z : Int} (h : -2147483648 ≤ z ∧ z < 2147483648) : (iI z).toInt = z := Int32.toInt_ofInt_of_le (by omega) (by omega)
theorem lI_t {z : Int} (h : -9223372036854775808 ≤ z ∧ z < 9223372036854775808) : (lI z).toInt = z := Int64.toInt_ofInt_of_le (by omega) (by omega)
theorem iI_asI (x : Int32) : iI x.toInt = x := Int32.ofInt_toInt x
theorem lI_asL (x : Int64) : lI x.toInt = x := Int64.ofInt_toInt x
theorem iI_rng (x : Int32) : -2147483648 ≤ x.toInt ∧ x.toInt < 2147483648 := by
  have h1 := Int32.le_toInt x
  have h2 := Int32.toInt_lt x
  omega
theorem lI_rng (x : Int64) : -9223372036854775808 ≤ x.toInt ∧ x.toInt < 9223372036854775808 := by
  have h1 := Int64.le_toInt x
  have h2 := Int64.toInt_lt x
  omega
theorem iI_add (a b : Int) : iI a + iI b = iI (a + b) := (Int32.ofInt_add a b).symm
theorem iI_sub (a b : Int) : iI a - iI b = iI (a - b) := (Int32.ofInt_sub a b).symm
theorem iI_mul (a b : Int) : iI a * iI b = iI (a * b) := (Int32.ofInt_mul a b).symm
theorem lI_add (a b : Int) : lI a + lI b = lI (a + b) := (Int64.ofInt_add a b).symm
theorem lI_sub (a b : Int) : lI a - lI b = lI (a - b) := (Int64.ofInt_sub a b).symm
theorem lI_mul (a b : Int) : lI a * lI b = lI (a * b) := (Int64.ofInt_mul a b).symm
theorem iI_lt {a b : Int} (ha : -2147483648 ≤ a ∧ a < 2147483648) (hb : -2147483648 ≤ b ∧ b < 2147483648) : iI a < iI b ↔ a < b := by
  rw [Int32.lt_iff_toInt_lt, iI_t ha, iI_t hb]
theorem iI_le {a b : Int} (ha : -2147483648 ≤ a ∧ a < 2147483648) (hb : -2147483648 ≤ b ∧ b < 2147483648) : iI a ≤ iI b ↔ a ≤ b := by
  rw [Int32.le_iff_toInt_le, iI_t ha, iI_t hb]
theorem iI_eq {a b : Int} (ha : -2147483648 ≤ a ∧ a < 2147483648) (hb : -2147483648 ≤ b ∧ b < 2147483648) : iI a = iI b ↔ a = b := by
  rw [← Int32.toInt_inj, iI_t ha, iI_t hb]
theorem lI_lt {a b : Int} (ha : -9223372036854775808 ≤ a ∧ a < 9223372036854775808) (hb : -9223372036854775808 ≤ b ∧ b < 9223372036854775808) : lI a < lI b ↔ a < b := by
  rw [Int64.lt_iff_toInt_lt, lI_t ha, lI_t hb]
theorem lI_eq {a b : Int} (ha : -9223372036854775808 ≤ a ∧ a < 9223372036854775808) (hb : -9223372036854775808 ≤ b ∧ b < 9223372036854775808) : lI a = lI b ↔ a = b := by
  rw [← Int64.toInt_inj, lI_t ha, lI_t hb]
theorem iI_0 : (0 : Int32) = iI 0 := rfl
theorem lI_0 : (0 : Int64) = lI 0 := rfl
theorem iI_div {a b : Int} (ha : 0 ≤ a ∧ a < 2147483648) (hb : 0 < b ∧ b < 2147483648) : iI a / iI b = iI (a / b) := by
  have hq : 0 ≤ a / b ∧ a / b < 2147483648 := by
    refine ⟨Int.ediv_nonneg ha.1 (by omega), ?_⟩
    exact Int.lt_of_le_of_lt (Int.ediv_le_self b ha.1) ha.2
  rw [← Int32.toInt_inj, Int32.toInt_div_of_ne_right, iI_t (by omega), iI_t (by omega), iI_t (by omega), Int.tdiv_eq_ediv_of_nonneg ha.1]
  intro h
  have h2 : (iI b).toInt = (-1 : Int32).toInt := by rw [h]
  rw [iI_t (by omega)] at h2
  have h3 : ((-1 : Int32)).toInt = -1 := by decide
  omega
theorem lI_div {a b : Int} (ha : 0 ≤ a ∧ a < 9223372036854775808) (hb : 0 < b ∧ b < 9223372036854775808) : lI a / lI b = lI (a / b) := by
  have hq : 0 ≤ a / b ∧ a / b < 9223372036854775808 := by
    refine ⟨Int.ediv_nonneg ha.1 (by omega), ?_⟩
    exact Int.lt_of_le_of_lt (Int.ediv_le_self b ha.1) ha.2
  rw [← Int64.toInt_inj, Int64.toInt_div_of_ne_right, lI_t (by omega), lI_t (by omega), lI_t (by omega), Int.tdiv_eq_ediv_of_nonneg ha.1]
  intro h
  have h2 : (lI b).toInt = (-1 : Int64).toInt := by rw [h]
  rw [lI_t (by omega)] at h2
  have h3 : ((-1 : Int64)).toInt = -1 := by decide
  omega
theorem iI_rem {a b : Int} (ha : 0 ≤ a ∧ a < 2147483648) (hb : 0 < b ∧ b < 2147483648) : iI a - iI a / iI b * iI b = iI (a % b) := by
  rw [iI_div ha hb, iI_mul, iI_sub, Int.emod_def, Int.mul_comm (a / b) b]
theorem lI_rem {a b : Int} (ha : 0 ≤ a ∧ a < 9223372036854775808) (hb : 0 < b ∧ b < 9223372036854775808) : lI a - lI a / lI b * lI b = lI (a % b) := by
  rw [lI_div ha hb, lI_mul, lI_sub, Int.emod_def, Int.mul_comm (a / b) b]
theorem iI_cl {a : Int} (ha : 0 ≤ a ∧ a < 2147483648) : (iI a).toNatClampNeg = a.toNat := Int32.toNatClampNeg_ofInt_of_le (by omega) (by omega)
theorem iI_in {a : Int} {n : Nat} (h : 0 ≤ a ∧ a < n) (hn : n ≤ 2147483648) : vp_in (iI a) n := by
  rw [vp_in_iff, iI_t (by omega)]
  omega
theorem iI_l {a : Int} (h : -2147483648 ≤ a ∧ a < 2147483648) : (iI a).toInt64 = lI a := by
  rw [← Int64.toInt_inj, Int32.toInt_toInt64, iI_t h, lI_t (by omega)]
def bmz (z : Int) : Int := (iI z).toInt
theorem bmz_r (z : Int) : -2147483648 ≤ bmz z ∧ bmz z < 2147483648 := iI_rng _
theorem bmz_i (z : Int) : iI (bmz z) = iI z := iI_asI _
theorem bmz_e {z : Int} (h : -2147483648 ≤ z ∧ z < 2147483648) : bmz z = z := iI_t h
theorem lI_i (a : Int) : (lI a).toInt32 = iI a := by
  rw [← Int32.toInt_inj]
  show _ = (Int32.ofInt a).toInt
  rw [Int64.toInt_toInt32, Int32.toInt_ofInt]
  show (Int64.ofInt a).toInt.bmod (2 ^ 32) = a.bmod (2 ^ 32)
  rw [Int64.toInt_ofInt]
  exact Int.bmod_bmod_of_dvd (by decide)
theorem lg_cmp_I {a b : Int} (ha : -9223372036854775808 ≤ a ∧ a < 9223372036854775808) (hb : -9223372036854775808 ≤ b ∧ b < 9223372036854775808) : lg_cmp (lI a) (lI b) = iI (if a < b then -1 else if a = b then 0 else 1) := by
  unfold lg_cmp
  by_cases h1 : a < b
  · have h2 : ¬ lI b < lI a := by rw [lI_lt hb ha]; omega
    have h3 : ¬ lI a = lI b := by rw [lI_eq ha hb]; omega
    simp [h1, h2, h3]; rfl
  · by_cases h2 : a = b
    · subst h2
      simp; rfl
    · have h3 : lI b < lI a := by rw [lI_lt hb ha]; omega
      simp [h1, h2, h3]; rfl
end
section
/-! the world: one map from cell numbers to rows of whole numbers, for the class's and the model's objects together -/
abbrev St : Type := Nat → Int → Int
abbrev Gm : Type := Launch × State × Array Value × va_G × (Nat → ClassId) × (Nat → Nat)
abbrev Fx : Type := Program × Env × Room × State × MethodId × Array Value × List Frame × Method × Code
def bs (γ : Gm) : Nat := γ.2.1.heap.size
def Ar (γ : Gm) : Nat → Prop := fun q => bs γ ≤ q
def setc (σ : St) (c : Nat) (r : Int → Int) : St := fun k => if k = c then r else σ k
def upr (r : Int → Int) (j z : Int) : Int → Int := fun i => if i = j then z else r i
theorem setc_at (σ : St) (c : Nat) (r : Int → Int) : setc σ c r c = r := if_pos rfl
theorem setc_ne (σ : St) {c k : Nat} (r : Int → Int) (h : k ≠ c) : setc σ c r k = σ k := if_neg h
theorem setc_setc (σ : St) (c : Nat) (r r' : Int → Int) : setc (setc σ c r) c r' = setc σ c r' := by
  funext k
  unfold setc
  by_cases h : k = c
  · rw [if_pos h, if_pos h]
  · rw [if_neg h, if_neg h, if_neg h]
theorem setc_eta (σ : St) (c : Nat) : setc σ c (σ c) = σ := by
  funext k
  unfold setc
  by_cases h : k = c
  · rw [if_pos h, h]
  · rw [if_neg h]
theorem upr_at (r : Int → Int) (j z : Int) : upr r j z j = z := if_pos rfl
theorem upr_ne (r : Int → Int) {j i : Int} (z : Int) (h : i ≠ j) : upr r j z i = r i := if_neg h
-- classes whose objects the world holds
abbrev classes : List vw_C := [(RX1, TX1, 3), (RX2, TX2, 16), (RX4, TX4, 5), (RX5, TX5, 7), (RX6, TX6, 12)]
def tys (γ : Gm) : List (ClassId × FieldType) := [(γ.2.2.2.2.1 0, .int), (γ.2.2.2.2.1 1, .char), (γ.2.2.2.2.1 2, .boolean), (γ.2.2.2.2.1 3, .long), (γ.2.2.2.2.1 4, .object RX2)]
/-- the kinds of the cells: (0, n) ints, (1, n) chars, (2, n) booleans, (3, n) longs, (4, n) nets, (5, k) an object of classes[k] -/
def shN : List (Nat × Nat) := [(5, 1), (0, 2), (0, 10), (0, 10), (0, 10), (0, 20), (0, 20), (0, 16), (0, 16), (0, 16), (0, 16), (0, 96), (0, 20)]
def shT : List (Nat × Nat) := [(5, 3), (5, 2), (1, 120), (0, 5)] ++ (shN ++ ([(5, 0), (4, 14)] ++ ((List.replicate 14 shN).flatten ++ ([(4, 2), (2, 2)] ++ (shN ++ (shN ++ (shN ++ (shN ++ [(5, 4), (0, 120), (0, 268), (0, 268), (0, 268), (0, 3752), (0, 536), (2, 2), (3, 1)]))))))))
def sh (c : Nat) : Nat × Nat := shT.getD c (9, 0)
def nref (c j : Nat) : Nat := if c = 18 then 19 + 13 * j else 229 + 13 * j
def obF (γ : Gm) (ci c : Nat) (r : Int → Int) : List Value := match ci with
  | 0 => [.int (iI (r 0)), .int (iI (r 1)), .ref (bs γ + (c + 1))]
  | 1 => [.int (iI (r 0)), .int (iI (r 1)), .int (iI (r 2)), .int (iI (r 3)), .ref (bs γ + (c + 1)), .ref (bs γ + (c + 2)), .ref (bs γ + (c + 3)), .ref (bs γ + (c + 4)), .ref (bs γ + (c + 5)), .ref (bs γ + (c + 6)), .ref (bs γ + (c + 7)), .ref (bs γ + (c + 8)), .ref (bs γ + (c + 9)), .ref (bs γ + (c + 10)), .ref (bs γ + (c + 11)), .ref (bs γ + (c + 12))]
  | 2 => [.ref (bs γ + (c + 1)), .int (iI (r 1)), .int (iI (r 2)), .int (iI (r 3)), .ref (bs γ + (c + 2))]
  | 3 => [.ref (bs γ + (c + 1)), .ref (bs γ + (c + 4)), .ref (bs γ + (c + 17)), .ref (bs γ + (c + 201)), .ref (bs γ + (c + 202)), .ref (bs γ + (c + 203)), .ref (bs γ + (c + 216))]
  | _ => [.int (iI (r 0)), .ref (bs γ + (c + 1)), .int (iI (r 2)), .ref (bs γ + (c + 2)), .ref (bs γ + (c + 3)), .ref (bs γ + (c + 4)), .ref (bs γ + (c + 5)), .int (iI (r 7)), .ref (bs γ + (c + 6)), .ref (bs γ + (c + 7)), .int (iI (r 10)), .int (iI (r 11))]
def cellK (γ : Gm) (k : Nat × Nat) (c : Nat) (r : Int → Int) : va_E := match k.1 with
  | 0 => .inl (γ.2.2.2.2.1 0, k.2, .inl (fun j => iI (r (j : Int))))
  | 1 => .inl (γ.2.2.2.2.1 1, k.2, .inl (fun j => iI (r (j : Int))))
  | 2 => .inl (γ.2.2.2.2.1 2, k.2, .inl (fun j => iI (r (j : Int))))
  | 3 => .inl (γ.2.2.2.2.1 3, k.2, .inr (.inl (fun j => lI (r (j : Int)))))
  | 4 => .inl (γ.2.2.2.2.1 4, k.2, .inr (.inr (.inr (.inr (fun j => some (bs γ + nref c j))))))
  | _ => .inr (k.2, obF γ k.2 c r)
def wl (γ : Gm) (σ : St) : va_W := (List.range 264).map (fun c => (bs γ + c, cellK γ (sh c) c (σ c)))
def Wd (γ : Gm) (σ : St) (H : Heap) : Prop := va_P γ.2.2.2.1 classes (wl γ σ) H ∧ ∀ c j, -2147483648 ≤ σ c j ∧ σ c j < 2147483648
theorem wl_get (γ : Gm) (σ : St) {c : Nat} (h : c < 264) : (wl γ σ)[c]? = some (bs γ + c, cellK γ (sh c) c (σ c)) := by
  unfold wl
  rw [List.getElem?_map, List.getElem?_range h]
  rfl
theorem wl_set (γ : Gm) (σ : St) (c : Nat) (r : Int → Int) : (wl γ σ).set c (bs γ + c, cellK γ (sh c) c r) = wl γ (setc σ c r) := by
  apply List.ext_getElem?
  intro i
  unfold wl
  by_cases hi : i < 264
  · by_cases hc : c = i
    · subst hc
      rw [List.getElem?_set_self (by simpa using hi), List.getElem?_map, List.getElem?_range hi]
      simp [setc_at]
    · rw [List.getElem?_set_ne hc, List.getElem?_map, List.getElem?_map, List.getElem?_range hi]
      simp [setc_ne σ r (Ne.symm hc)]
  · rw [List.getElem?_eq_none (by simp; omega), List.getElem?_eq_none (by simp; omega)]
theorem wl_D (γ : Gm) (σ : St) : va_D (Ar γ) (wl γ σ) := by
  have key : ∀ (i : Nat) (p : Nat × va_E), (wl γ σ)[i]? = some p → p.1 = bs γ + i := by
    intro i p h
    have hi : i < 264 := by
      have := (List.getElem?_eq_some_iff.mp h).1
      simpa [wl] using this
    rw [wl_get γ σ hi] at h
    cases h
    rfl
  refine ⟨fun i j p q hi hj h => ?_, fun k q h => ?_⟩
  · have h1 := key i p hi
    have h2 := key j q hj
    omega
  · have h1 := key k q h
    show bs γ ≤ q.1
    omega
theorem sh_lt {c : Nat} (h : (sh c).1 ≠ 9) : c < 264 := by
  rcases Nat.lt_or_ge c 264 with q | q
  · exact q
  · refine absurd ?_ h
    unfold sh
    rw [List.getD_eq_getElem?_getD, List.getElem?_eq_none]
    · rfl
    · have e : shT.length = 264 := by decide +kernel
      omega
theorem Wd.lt {γ : Gm} {σ : St} {H : Heap} (h : Wd γ σ H) {c : Nat} (hc : c < 264) : bs γ + c < H.size := (h.1 c _ (wl_get γ σ hc)).lt
theorem Wd.r {γ : Gm} {σ : St} {H : Heap} (h : Wd γ σ H) (c : Nat) (j : Int) : -2147483648 ≤ σ c j ∧ σ c j < 2147483648 := h.2 c j
theorem cellK_upd (γ : Gm) {k : Nat × Nat} (hk : k.1 = 0 ∨ k.1 = 1 ∨ k.1 = 2) (c : Nat) (r : Int → Int) {z : Int} {j : Nat} : ∃ cA : ClassId, cA = γ.2.2.2.2.1 k.1 ∧ cellK γ k c (upr r (j : Int) z) = .inl (cA, k.2, .inl (upd (fun j => iI (r (j : Int))) j (iI z))) := by
  have key : (fun i : Nat => iI (upr r (j : Int) z (i : Int))) = upd (fun j => iI (r (j : Int))) j (iI z) := by
    funext i
    unfold upr upd
    by_cases h : i = j
    · subst h; simp
    · rw [if_neg h, if_neg (by omega)]
  obtain ⟨k1, k2⟩ := k
  refine ⟨_, rfl, ?_⟩
  dsimp only at hk
  rcases hk with rfl | rfl | rfl <;> (show Sum.inl _ = _; rw [← key])
-- the nets
def NetB (n : Nat) : Prop := n = 4 ∨ n = 203 ∨ n = 216 ∨ n = 229 ∨ n = 242 ∨ ∃ i : Nat, i < 14 ∧ n = 19 + 13 * i
def netL : List Nat := [4, 203, 216, 229, 242] ++ (List.range 14).map (fun i => 19 + 13 * i)
theorem NetB.mem {n : Nat} (h : NetB n) : n ∈ netL := by
  unfold netL
  rcases h with h | h | h | h | h | ⟨i, hi, h⟩
  · subst h; decide
  · subst h; decide
  · subst h; decide
  · subst h; decide
  · subst h; decide
  · exact List.mem_append_right _ (List.mem_map.mpr ⟨i, List.mem_range.mpr hi, h.symm⟩)
theorem netL_sh : ∀ n ∈ netL, ∀ k, k < 13 → sh (n + k) = shN.getD k (9, 0) := by decide +kernel
theorem NetB.sh {n : Nat} (h : NetB n) {k : Nat} (hk : k < 13) : sh (n + k) = shN.getD k (9, 0) := netL_sh n h.mem k hk
theorem NetB.lt {n : Nat} (h : NetB n) : n + 12 < 255 := by
  rcases h with h | h | h | h | h | ⟨i, hi, h⟩ <;> omega
def setN (σ : St) (n : Nat) (a : St) : St := fun c => if n ≤ c ∧ c < n + 13 then a (c - n) else σ c
def getN (σ : St) (n : Nat) : St := fun k => if k < 13 then σ (n + k) else fun _ => 0
theorem setN_at (σ : St) (n : Nat) (a : St) {k : Nat} (hk : k < 13) : setN σ n a (n + k) = a k := by
  unfold setN
  rw [if_pos ⟨by omega, by omega⟩, Nat.add_sub_cancel_left]
theorem setN_out (σ : St) (n : Nat) (a : St) {c : Nat} (h : c < n ∨ n + 13 ≤ c) : setN σ n a c = σ c := by
  unfold setN
  rw [if_neg (by omega)]
theorem setN_setN (σ : St) (n : Nat) (a b : St) : setN (setN σ n a) n b = setN σ n b := by
  funext c
  unfold setN
  by_cases h : n ≤ c ∧ c < n + 13
  · rw [if_pos h, if_pos h]
  · rw [if_neg h, if_neg h, if_neg h]
theorem setN_eta (σ : St) (n : Nat) : setN σ n (getN σ n) = σ := by
  funext c
  unfold setN getN
  by_cases h : n ≤ c ∧ c < n + 13
  · rw [if_pos h, if_pos (by omega), show n + (c - n) = c by omega]
  · rw [if_neg h]
theorem setN_cong (σ : St) (n : Nat) {a b : St} (h : ∀ k, k < 13 → a k = b k) : setN σ n a = setN σ n b := by
  funext c
  unfold setN
  by_cases hc : n ≤ c ∧ c < n + 13
  · rw [if_pos hc, if_pos hc, h _ (by omega)]
  · rw [if_neg hc, if_neg hc]
theorem setc_setN (σ : St) (n : Nat) (a : St) {k : Nat} (hk : k < 13) (r : Int → Int) : setc (setN σ n a) (n + k) r = setN σ n (setc a k r) := by
  funext c
  unfold setc setN
  by_cases h : n ≤ c ∧ c < n + 13
  · rw [if_pos h, if_pos h]
    show _ = if c - n = k then r else a (c - n)
    by_cases hc : c = n + k
    · rw [if_pos hc, if_pos (by omega)]
    · rw [if_neg hc, if_neg (by omega)]
  · rw [if_neg h, if_neg h, if_neg (by omega)]
-- what holds of the launch, at the law's start
def tbN : Nat → String := fun k => match k with
  | 0 => "VALVE_NUMBERS" | 1 => "DUCT_NUMBERS" | 2 => "KEY_NUMBERS" | 3 => "LEAK_NUMBERS" | 4 => "TICK_NUMBERS" | _ => "NO_NUMBERS"
def tbL : Nat → List Int := fun k => match k with
  | 0 => [0, 4, 10, 99] | 1 => [0, 9, 0, 1, 0, 9, 0, 1, 1, 6] | 2 => [0, 9] | 3 => [0, 15, 0, 30] | 4 => [1, 99] | _ => []
def Glo (γ : Gm) : Prop := γ.1.stackTraces = false ∧ (∀ w ∈ lw_tbl, w.before γ.2.2.1 γ.2.1 = true) ∧ va_K γ.2.2.2.1 classes (tys γ) γ.2.1 ∧
  (∀ k, k < 6 → va_Z RX4 (tbN k) "[I" (.ref (γ.2.2.2.2.2 k)) (Ar γ) γ.2.1 γ.2.1.heap ∧ va_T .int (γ.2.2.2.2.2 k) (tbL k).length (fun j => .int (iI ((tbL k).getD j 0))) (Ar γ) γ.2.1 γ.2.1.heap) ∧
  vx_Zq Bundle.tN "UNASSIGNED_STACK" Bundle.steD (Ar γ) γ.2.1 γ.2.1.heap ∧ vx_Zq Bundle.tN "SUPPRESSED_SENTINEL" Bundle.listD (Ar γ) γ.2.1 γ.2.1.heap
/-- a later state of the same run -/
def Gs (γ : Gm) (s : State) : Prop := γ.2.1.WarmedH s.vm ∧ γ.2.1.heap.size ≤ s.heap.size ∧ ∀ q, q < bs γ → s.heap[q]? = γ.2.1.heap[q]?
/-- a word that holds at every later state -/
def Wrd (γ : Gm) (w : Cond) : Prop := ∀ (a : Array Value) (U : State), γ.2.1.WarmedH U.vm → w.before a U = true
theorem wrd_of {γ : Gm} (G : Glo γ) {w : Cond} (k : Nat) (hm : lw_tbl[k]? = some w) (hg : goodWord w = true) : Wrd γ w := fun a U hW => word_at hW (good_of_word hg) (G.2.1 w (List.mem_of_getElem? hm))
def WrdN (γ : Gm) (w : Cond) : Prop := ∀ U : State, γ.2.1.WarmedH U.vm → va_Nw w U
theorem wrdN_of {γ : Gm} (G : Glo γ) {a h : String} {i : Nat} {y : MethodName} (k : Nat) (hm : lw_tbl[k]? = some (.methodLinkNest a i y h)) : WrdN γ (.methodLinkNest a i y h) := fun _ hW => va_Nw.warmM hW (va_Nw.of rfl (G.2.1 _ (List.mem_of_getElem? hm)))
def rmL (lev c s : Nat) : Room := { frames := 10 + lev, cells := c, slots := s, locals := 400 + 60 * lev }
/-- where a walk stands -/
def Cx (γ : Gm) (φ : Fx) (own : String) (cc : ByteArray) (nL lev : Nat) : Prop :=
  Glo γ ∧ φ.1.tables.exec = Jvm.exec ∧ φ.2.2.2.2.2.2.2.2.code = cc ∧ φ.2.2.2.2.2.2.2.2.maxLocals = nL ∧ φ.2.2.2.1.vm.findClass own = some φ.2.2.2.2.1.cls ∧ Gs γ φ.2.2.2.1 ∧ φ.2.2.2.2.2.2.2.1.locks = false ∧ 10 + lev ≤ φ.2.2.1.frames ∧ 400 + 60 * lev ≤ φ.2.2.1.locals
def Vw (γ : Gm) (φ : Fx) (nL a b : Nat) (Q : State → Prop) (σ : St) (pc : Nat) (lv : List (Nat × Value)) (st : List Value) : Prop :=
  ∀ (H : Heap) (locs : List Loc) (ls : Array Slot), Wd γ σ H → va_S (Ar γ) φ.2.2.2.1.heap H locs → lv_has ls nL lv →
    W φ.1 γ.1 φ.2.1 φ.2.2.1 φ.2.2.2.1 φ.2.2.2.2.1 φ.2.2.2.2.2.1 φ.2.2.2.2.2.2.1 φ.2.2.2.2.2.2.2.1 φ.2.2.2.2.2.2.2.2 H locs a b Q (F0 φ.2.2.2.2.1 pc ls st)
theorem Cx.K {γ : Gm} {φ : Fx} {own : String} {cc : ByteArray} {nL lev : Nat} (C : Cx γ φ own cc nL lev) : va_K γ.2.2.2.1 classes (tys γ) φ.2.2.2.1 := va_K.moved C.2.2.2.2.2.1.1.alike C.1.2.2.1
/-- a contract: from the world σ, with these arguments, it returns v in a world σ' of post -/
def Qcc (γ : Gm) (post : Option Value → St → Prop) : Array Value → State → Outcome → State → Prop := fun _ st oc t => ∃ (v : Option Value) (σ' : St), oc = .returned v ∧ post v σ' ∧ Wd γ σ' t.heap ∧ va_F (Ar γ) st t
def Pcc (γ : Gm) (as : List Value) (σ : St) : Array Value → State → Prop := va_Pc as (fun U => Gs γ U ∧ Wd γ σ U.heap)
def Ct (γ : Gm) (y : MethodName) (cc : ByteArray) (maxL : Nat) (rt : Option FieldType) (lev : Nat) (as : List Value) (σ : St) (post : Option Value → St → Prop) : Prop :=
  Met γ.1 y [.code y cc maxL rt] (rmL lev 0 0) (Pcc γ as σ) (Qcc γ post) 0 0 (Ar γ)
def QE (γ : Gm) (φ : Fx) (post : Option Value → St → Prop) : State → Prop := MQ φ.2.2.2.2.2.2.1 (Qcc γ post) φ.2.2.2.2.2.1 φ.2.2.2.1 0 0 (Ar γ)
theorem Pcc.blind (γ : Gm) (as : List Value) (σ : St) : FrameBlind (Pcc γ as σ) := fun _ _ _ _ q => q
theorem Gs.next {γ : Gm} {s U : State} {H : Heap} {locs : List Loc} (h : Gs γ s) (hS : va_S (Ar γ) s.heap H locs) (hU : U.heap = H) (hW : s.WarmedH U.vm) : Gs γ U := by
  obtain ⟨h1, h2, h3⟩ := h
  refine ⟨State.WarmedH.trans h1 hW, ?_, fun q hq => ?_⟩
  · rw [hU]; exact Nat.le_trans h2 hS.1
  · rw [hU, hS.2.1 q (Nat.lt_of_lt_of_le hq h2) (fun z => absurd (show bs γ ≤ q from z) (Nat.not_le.mpr hq))]
    exact h3 q hq
theorem Ct.of {γ : Gm} (G : Glo γ) {y : MethodName} {cc : ByteArray} {maxL lev : Nat} {rt : Option FieldType} {as : List Value} {σ : St} {post : Option Value → St → Prop} (hy : plainName y.cls = true) (hL : (lg_sl as).length ≤ maxL)
    (body : ∀ φ : Fx, Cx γ φ y.cls cc maxL lev → φ.2.2.2.2.2.2.2.1.sig.returnType = rt → Vw γ φ maxL 0 0 (QE γ φ post) σ 0 (lv_args 0 as) []) : Ct γ y cc maxL rt lev as σ post := by
  refine Met.ofW (cc := cc) (maxL := maxL) (ret := rt) hy rfl ?_
  intro p e s m args below meth c s₁ B hml hv
  obtain ⟨rfl, hG, hWd⟩ := hv
  have hown : s.vm.findClass y.cls = some m.cls := findClass_of_methodNamed B.named
  have h := body (p, e, rmL lev 0 0, s, m, as.toArray, below, meth, c) ⟨G, B.exec, B.bytes, hml, hown, hG, B.notSynchronized, Nat.le_refl _, Nat.le_refl _⟩ B.returns s.heap [] _ hWd va_S.rf (lv_entry as hL)
  rw [lg_entry_eq]
  exact h
/-- a contract whose answer is an int -/
abbrev pI (post : Int → St → Prop) : Option Value → St → Prop := fun v σ' => ∃ z : Int, v = some (.int (iI z)) ∧ post z σ'
abbrev pL (post : Int → St → Prop) : Option Value → St → Prop := fun v σ' => ∃ z : Int, v = some (.long (lI z)) ∧ post z σ'
abbrev pR (post : Nat → St → Prop) : Option Value → St → Prop := fun v σ' => ∃ z : Nat, v = some (.ref z) ∧ post z σ'
abbrev pV (post : St → Prop) : Option Value → St → Prop := fun v σ' => v = none ∧ post σ'
theorem Ct.weak {γ : Gm} {y : MethodName} {cc : ByteArray} {maxL lev : Nat} {rt : Option FieldType} {as : List Value} {σ : St} {post post' : Option Value → St → Prop} (h : Ct γ y cc maxL rt lev as σ post) (hp : ∀ v σ', post v σ' → post' v σ') : Ct γ y cc maxL rt lev as σ post' := by
  intro p e h1 h2 h3 s m args below h4 h5 h6 h7
  obtain ⟨n, o, g1, g2, g3, ⟨v, σ', e1, e2, e3⟩, g4⟩ := h p e h1 h2 h3 s m args below h4 h5 h6 h7
  exact ⟨n, o, g1, g2, g3, ⟨v, σ', e1, hp _ _ e2, e3⟩, g4⟩
end
section
theorem iI_c {x : Int} (hx : 0 ≤ x ∧ x < 65536) : ((iI x).toUInt32 % 65536).toInt32 = iI x := by
  obtain ⟨n, rfl⟩ : ∃ n : Nat, x = n := ⟨x.toNat, by omega⟩
  have h1 : iI (n : Int) = nI n := Int32.ofInt_eq_ofNat
  rw [h1]
  have h2 := pk_char (nI n)
  rw [pk_tn (by omega), Nat.mod_eq_of_lt (by omega)] at h2
  exact h2
theorem vp_nar_cI {x : Int} (hx : 0 ≤ x ∧ x < 65536) : vp_nar .char (iI x) = iI x := by
  rw [vp_nar_char]
  obtain ⟨n, rfl⟩ : ∃ n : Nat, x = n := ⟨x.toNat, by omega⟩
  have h1 : iI (n : Int) = nI n := Int32.ofInt_eq_ofNat
  rw [h1, ← vp_nar_char]
  have h := (pk_charN (q := n) (by omega)).1
  unfold vp_nar
  rw [h]
theorem vp_nar_zI {x : Int} (hx : x = 0 ∨ x = 1) : vp_nar .boolean (iI x) = iI x := by
  rcases hx with rfl | rfl <;> rfl
theorem rng_up {σ : St} (h : ∀ c j, -2147483648 ≤ σ c j ∧ σ c j < 2147483648) {c0 : Nat} {j0 x : Int} (hx : -2147483648 ≤ x ∧ x < 2147483648) (c : Nat) (j : Int) : -2147483648 ≤ setc σ c0 (upr (σ c0) j0 x) c j ∧ setc σ c0 (upr (σ c0) j0 x) c j < 2147483648 := by
  by_cases hc : c = c0
  · subst hc
    rw [setc_at]
    by_cases hj : j = j0
    · subst hj
      rw [upr_at]
      exact hx
    · rw [upr_ne _ _ hj]
      exact h _ _
  · rw [setc_ne _ _ hc]
    exact h _ _
section VR
variable {γ : Gm} {φ : Fx} {own : String} {cc : ByteArray} {nL lev a b : Nat} {Q : State → Prop} {σ : St} {pc : Nat} {lv lv2 : List (Nat × Value)} {st : List Value}
theorem v_iconst (C : Cx γ φ own cc nL lev) {n : Int} (d : decode cc pc = .ok (.iconst n, 1)) (k : Vw γ φ nL a b Q σ (pc + 1) lv (.int (iI n) :: st)) : Vw γ φ nL a b Q σ pc lv st := fun H locs ls hW hS hl => lv_iconst C.2.1 C.2.2.1 d rfl (k H locs ls hW hS hl)
theorem v_bipush (C : Cx γ φ own cc nL lev) {n : Int} (hv : (Int8.ofInt n).toInt32 = iI n) (d : decode cc pc = .ok (.bipush n, 2)) (k : Vw γ φ nL a b Q σ (pc + 2) lv (.int (iI n) :: st)) : Vw γ φ nL a b Q σ pc lv st := fun H locs ls hW hS hl => lv_bipush C.2.1 C.2.2.1 d hv (k H locs ls hW hS hl)
theorem v_sipush (C : Cx γ φ own cc nL lev) {n : Int} (hv : (Int16.ofInt n).toInt32 = iI n) (d : decode cc pc = .ok (.sipush n, 3)) (k : Vw γ φ nL a b Q σ (pc + 3) lv (.int (iI n) :: st)) : Vw γ φ nL a b Q σ pc lv st := fun H locs ls hW hS hl => lv_sipush C.2.1 C.2.2.1 d hv (k H locs ls hW hS hl)
theorem v_lconst (C : Cx γ φ own cc nL lev) {n : Fin 2} {z : Int} (hv : Int64.ofNat (n : Nat) = lI z) (d : decode cc pc = .ok (.lconst n, 1)) (k : Vw γ φ nL a b Q σ (pc + 1) lv (.long (lI z) :: st)) : Vw γ φ nL a b Q σ pc lv st := fun H locs ls hW hS hl => lv_lconst C.2.1 C.2.2.1 d hv (k H locs ls hW hS hl)
theorem v_ldc (C : Cx γ φ own cc nL lev) {ix : Nat} {z : Int} (hw : Wrd γ (.constant own ix (iI z))) (d : decode cc pc = .ok (.ldc ix, 2)) (k : Vw γ φ nL a b Q σ (pc + 2) lv (.int (iI z) :: st)) : Vw γ φ nL a b Q σ pc lv st := fun H locs ls hW hS hl => lv_ldc C.2.1 C.2.2.1 C.2.2.2.2.1 (hw _ _ C.2.2.2.2.2.1.1) d (k H locs ls hW hS hl)
theorem v_ldc2 (C : Cx γ φ own cc nL lev) {ix : Nat} {z : Int} (hw : Wrd γ (.constantLong own ix (lI z))) (d : decode cc pc = .ok (.ldc2_w ix, 3)) (k : Vw γ φ nL a b Q σ (pc + 3) lv (.long (lI z) :: st)) : Vw γ φ nL a b Q σ pc lv st := fun H locs ls hW hS hl => lv_ldc2 C.2.1 C.2.2.1 C.2.2.2.2.1 (hw _ _ C.2.2.2.2.2.1.1) d (k H locs ls hW hS hl)
theorem v_iload_n (C : Cx γ φ own cc nL lev) {k3 : Fin 4} {x : Int} (k0 : Nat) (hk : lv[k0]? = some ((k3 : Nat), .int (iI x))) (d : decode cc pc = .ok (.iload_n k3, 1)) (k : Vw γ φ nL a b Q σ (pc + 1) lv (.int (iI x) :: st)) : Vw γ φ nL a b Q σ pc lv st := fun H locs ls hW hS hl => lv_iload_n C.2.1 C.2.2.1 d rfl (lv_at hl k0 hk) (k H locs ls hW hS hl)
theorem v_iload (C : Cx γ φ own cc nL lev) {i : Nat} {x : Int} (k0 : Nat) (hk : lv[k0]? = some (i, .int (iI x))) (d : decode cc pc = .ok (.iload i, 2)) (k : Vw γ φ nL a b Q σ (pc + 2) lv (.int (iI x) :: st)) : Vw γ φ nL a b Q σ pc lv st := fun H locs ls hW hS hl => lv_iload C.2.1 C.2.2.1 d (lv_at hl k0 hk) (k H locs ls hW hS hl)
theorem v_lload_n (C : Cx γ φ own cc nL lev) {k3 : Fin 4} {x : Int} (k0 : Nat) (hk : lv[k0]? = some ((k3 : Nat), .long (lI x))) (d : decode cc pc = .ok (.lload_n k3, 1)) (k : Vw γ φ nL a b Q σ (pc + 1) lv (.long (lI x) :: st)) : Vw γ φ nL a b Q σ pc lv st := fun H locs ls hW hS hl => lv_lload_n C.2.1 C.2.2.1 d rfl (lv_at hl k0 hk) (k H locs ls hW hS hl)
theorem v_lload (C : Cx γ φ own cc nL lev) {i : Nat} {x : Int} (k0 : Nat) (hk : lv[k0]? = some (i, .long (lI x))) (d : decode cc pc = .ok (.lload i, 2)) (k : Vw γ φ nL a b Q σ (pc + 2) lv (.long (lI x) :: st)) : Vw γ φ nL a b Q σ pc lv st := fun H locs ls hW hS hl => lv_lload C.2.1 C.2.2.1 d (lv_at hl k0 hk) (k H locs ls hW hS hl)
theorem v_aload_n (C : Cx γ φ own cc nL lev) {k3 : Fin 4} {x : Nat} (k0 : Nat) (hk : lv[k0]? = some ((k3 : Nat), .ref x)) (d : decode cc pc = .ok (.aload_n k3, 1)) (k : Vw γ φ nL a b Q σ (pc + 1) lv (.ref x :: st)) : Vw γ φ nL a b Q σ pc lv st := fun H locs ls hW hS hl => lv_aload_n C.2.1 C.2.2.1 d rfl (lv_at hl k0 hk) (k H locs ls hW hS hl)
theorem v_aload (C : Cx γ φ own cc nL lev) {i : Nat} {x : Nat} (k0 : Nat) (hk : lv[k0]? = some (i, .ref x)) (d : decode cc pc = .ok (.aload i, 2)) (k : Vw γ φ nL a b Q σ (pc + 2) lv (.ref x :: st)) : Vw γ φ nL a b Q σ pc lv st := fun H locs ls hW hS hl => lv_aload C.2.1 C.2.2.1 d (lv_at hl k0 hk) (k H locs ls hW hS hl)
theorem v_istore_n (C : Cx γ φ own cc nL lev) {k3 : Fin 4} {i : Nat} {x : Int} (lv2 : List (Nat × Value)) (d : decode cc pc = .ok (.istore_n k3, 1)) (hi : (k3 : Nat) = i) (hn : i < nL) (hl2 : (i, Value.int (iI x)) :: lv.filter (fun q => !(q.1 == i) && !(q.1 + 1 == i && q.2.category == 2)) = lv2) (k : Vw γ φ nL a b Q σ (pc + 1) lv2 st) : Vw γ φ nL a b Q σ pc lv (.int (iI x) :: st) := fun H locs ls hW hS hl => lv_istore_n C.2.1 C.2.2.1 d hi hl hn hl2 (fun ls2 h2 => k H locs ls2 hW hS h2)
theorem v_istore (C : Cx γ φ own cc nL lev) {i : Nat} {x : Int} (lv2 : List (Nat × Value)) (d : decode cc pc = .ok (.istore i, 2)) (hn : i < nL) (hl2 : (i, Value.int (iI x)) :: lv.filter (fun q => !(q.1 == i) && !(q.1 + 1 == i && q.2.category == 2)) = lv2) (k : Vw γ φ nL a b Q σ (pc + 2) lv2 st) : Vw γ φ nL a b Q σ pc lv (.int (iI x) :: st) := fun H locs ls hW hS hl => lv_istore C.2.1 C.2.2.1 d hl hn hl2 (fun ls2 h2 => k H locs ls2 hW hS h2)
theorem v_lstore_n (C : Cx γ φ own cc nL lev) {k3 : Fin 4} {i : Nat} {x : Int} (lv2 : List (Nat × Value)) (d : decode cc pc = .ok (.lstore_n k3, 1)) (hi : (k3 : Nat) = i) (hn : i + 1 < nL) (hl2 : (i, Value.long (lI x)) :: lv.filter (fun q => !(q.1 == i) && (!(q.1 == i + 1) && !(q.1 + 1 == i && q.2.category == 2))) = lv2) (k : Vw γ φ nL a b Q σ (pc + 1) lv2 st) : Vw γ φ nL a b Q σ pc lv (.long (lI x) :: st) := fun H locs ls hW hS hl => lv_lstore_n C.2.1 C.2.2.1 d hi hl hn hl2 (fun ls2 h2 => k H locs ls2 hW hS h2)
theorem v_lstore (C : Cx γ φ own cc nL lev) {i : Nat} {x : Int} (lv2 : List (Nat × Value)) (d : decode cc pc = .ok (.lstore i, 2)) (hn : i + 1 < nL) (hl2 : (i, Value.long (lI x)) :: lv.filter (fun q => !(q.1 == i) && (!(q.1 == i + 1) && !(q.1 + 1 == i && q.2.category == 2))) = lv2) (k : Vw γ φ nL a b Q σ (pc + 2) lv2 st) : Vw γ φ nL a b Q σ pc lv (.long (lI x) :: st) := fun H locs ls hW hS hl => lv_lstore C.2.1 C.2.2.1 d hl hn hl2 (fun ls2 h2 => k H locs ls2 hW hS h2)
theorem v_astore_n (C : Cx γ φ own cc nL lev) {k3 : Fin 4} {i : Nat} {x : Nat} (lv2 : List (Nat × Value)) (d : decode cc pc = .ok (.astore_n k3, 1)) (hi : (k3 : Nat) = i) (hn : i < nL) (hl2 : (i, Value.ref x) :: lv.filter (fun q => !(q.1 == i) && !(q.1 + 1 == i && q.2.category == 2)) = lv2) (k : Vw γ φ nL a b Q σ (pc + 1) lv2 st) : Vw γ φ nL a b Q σ pc lv (.ref x :: st) := fun H locs ls hW hS hl => lv_astore_n C.2.1 C.2.2.1 d hi hl hn hl2 (fun ls2 h2 => k H locs ls2 hW hS h2)
theorem v_astore (C : Cx γ φ own cc nL lev) {i : Nat} {x : Nat} (lv2 : List (Nat × Value)) (d : decode cc pc = .ok (.astore i, 2)) (hn : i < nL) (hl2 : (i, Value.ref x) :: lv.filter (fun q => !(q.1 == i) && !(q.1 + 1 == i && q.2.category == 2)) = lv2) (k : Vw γ φ nL a b Q σ (pc + 2) lv2 st) : Vw γ φ nL a b Q σ pc lv (.ref x :: st) := fun H locs ls hW hS hl => lv_astore C.2.1 C.2.2.1 d hl hn hl2 (fun ls2 h2 => k H locs ls2 hW hS h2)
theorem v_iinc (C : Cx γ φ own cc nL lev) {i : Nat} {n x : Int} (k0 : Nat) (lv2 : List (Nat × Value)) (d : decode cc pc = .ok (.iinc i n, 3)) (hk : lv[k0]? = some (i, .int (iI x))) (hn : i < nL) (hl2 : (i, Value.int (iI (x + n))) :: lv.filter (fun q => !(q.1 == i) && !(q.1 + 1 == i && q.2.category == 2)) = lv2) (k : Vw γ φ nL a b Q σ (pc + 3) lv2 st) : Vw γ φ nL a b Q σ pc lv st := fun H locs ls hW hS hl => lv_iinc C.2.1 C.2.2.1 d hl hk (iI_add x n) hn hl2 (fun ls2 h2 => k H locs ls2 hW hS h2)
theorem v_iadd (C : Cx γ φ own cc nL lev) {x y : Int} (d : decode cc pc = .ok (.iadd, 1)) (k : Vw γ φ nL a b Q σ (pc + 1) lv (.int (iI (x + y)) :: st)) : Vw γ φ nL a b Q σ pc lv (.int (iI y) :: .int (iI x) :: st) := fun H locs ls hW hS hl => lv_iadd C.2.1 C.2.2.1 d (by rw [iI_add]; exact k H locs ls hW hS hl)
theorem v_ladd (C : Cx γ φ own cc nL lev) {x y : Int} (d : decode cc pc = .ok (.ladd, 1)) (k : Vw γ φ nL a b Q σ (pc + 1) lv (.long (lI (x + y)) :: st)) : Vw γ φ nL a b Q σ pc lv (.long (lI y) :: .long (lI x) :: st) := fun H locs ls hW hS hl => lv_ladd C.2.1 C.2.2.1 d (by rw [lI_add]; exact k H locs ls hW hS hl)
theorem v_isub (C : Cx γ φ own cc nL lev) {x y : Int} (d : decode cc pc = .ok (.isub, 1)) (k : Vw γ φ nL a b Q σ (pc + 1) lv (.int (iI (x - y)) :: st)) : Vw γ φ nL a b Q σ pc lv (.int (iI y) :: .int (iI x) :: st) := fun H locs ls hW hS hl => lv_isub C.2.1 C.2.2.1 d (by rw [iI_sub]; exact k H locs ls hW hS hl)
theorem v_lsub (C : Cx γ φ own cc nL lev) {x y : Int} (d : decode cc pc = .ok (.lsub, 1)) (k : Vw γ φ nL a b Q σ (pc + 1) lv (.long (lI (x - y)) :: st)) : Vw γ φ nL a b Q σ pc lv (.long (lI y) :: .long (lI x) :: st) := fun H locs ls hW hS hl => lv_lsub C.2.1 C.2.2.1 d (by rw [lI_sub]; exact k H locs ls hW hS hl)
theorem v_imul (C : Cx γ φ own cc nL lev) {x y : Int} (d : decode cc pc = .ok (.imul, 1)) (k : Vw γ φ nL a b Q σ (pc + 1) lv (.int (iI (x * y)) :: st)) : Vw γ φ nL a b Q σ pc lv (.int (iI y) :: .int (iI x) :: st) := fun H locs ls hW hS hl => lv_imul C.2.1 C.2.2.1 d (by rw [iI_mul]; exact k H locs ls hW hS hl)
theorem v_lmul (C : Cx γ φ own cc nL lev) {x y : Int} (d : decode cc pc = .ok (.lmul, 1)) (k : Vw γ φ nL a b Q σ (pc + 1) lv (.long (lI (x * y)) :: st)) : Vw γ φ nL a b Q σ pc lv (.long (lI y) :: .long (lI x) :: st) := fun H locs ls hW hS hl => lv_lmul C.2.1 C.2.2.1 d (by rw [lI_mul]; exact k H locs ls hW hS hl)
theorem v_idiv (C : Cx γ φ own cc nL lev) {x y : Int} (hx : 0 ≤ x ∧ x < 2147483648) (hy : 0 < y ∧ y < 2147483648) (d : decode cc pc = .ok (.idiv, 1)) (k : Vw γ φ nL a b Q σ (pc + 1) lv (.int (iI (x / y)) :: st)) : Vw γ φ nL a b Q σ pc lv (.int (iI y) :: .int (iI x) :: st) := fun H locs ls hW hS hl => lv_idiv C.2.1 C.2.2.1 d (by rw [iI_0, iI_eq (by omega) (by omega)]; omega) (by rw [iI_div hx hy]; exact k H locs ls hW hS hl)
theorem v_irem (C : Cx γ φ own cc nL lev) {x y : Int} (hx : 0 ≤ x ∧ x < 2147483648) (hy : 0 < y ∧ y < 2147483648) (d : decode cc pc = .ok (.irem, 1)) (k : Vw γ φ nL a b Q σ (pc + 1) lv (.int (iI (x % y)) :: st)) : Vw γ φ nL a b Q σ pc lv (.int (iI y) :: .int (iI x) :: st) := fun H locs ls hW hS hl => lv_irem C.2.1 C.2.2.1 d (by rw [iI_0, iI_eq (by omega) (by omega)]; omega) (by rw [iI_rem hx hy]; exact k H locs ls hW hS hl)
theorem v_ldiv (C : Cx γ φ own cc nL lev) {x y : Int} (hx : 0 ≤ x ∧ x < 9223372036854775808) (hy : 0 < y ∧ y < 9223372036854775808) (d : decode cc pc = .ok (.ldiv, 1)) (k : Vw γ φ nL a b Q σ (pc + 1) lv (.long (lI (x / y)) :: st)) : Vw γ φ nL a b Q σ pc lv (.long (lI y) :: .long (lI x) :: st) := fun H locs ls hW hS hl => lv_ldiv C.2.1 C.2.2.1 d (by rw [lI_0, lI_eq (by omega) (by omega)]; omega) (by rw [lI_div hx hy]; exact k H locs ls hW hS hl)
theorem v_lrem (C : Cx γ φ own cc nL lev) {x y : Int} (hx : 0 ≤ x ∧ x < 9223372036854775808) (hy : 0 < y ∧ y < 9223372036854775808) (d : decode cc pc = .ok (.lrem, 1)) (k : Vw γ φ nL a b Q σ (pc + 1) lv (.long (lI (x % y)) :: st)) : Vw γ φ nL a b Q σ pc lv (.long (lI y) :: .long (lI x) :: st) := fun H locs ls hW hS hl => lv_lrem C.2.1 C.2.2.1 d (by rw [lI_0, lI_eq (by omega) (by omega)]; omega) (by rw [lI_rem hx hy]; exact k H locs ls hW hS hl)
theorem v_i2l (C : Cx γ φ own cc nL lev) {x : Int} (hx : -2147483648 ≤ x ∧ x < 2147483648) (d : decode cc pc = .ok (.i2l, 1)) (k : Vw γ φ nL a b Q σ (pc + 1) lv (.long (lI x) :: st)) : Vw γ φ nL a b Q σ pc lv (.int (iI x) :: st) := fun H locs ls hW hS hl => lv_i2l C.2.1 C.2.2.1 d (iI_l hx) (k H locs ls hW hS hl)
theorem v_l2i (C : Cx γ φ own cc nL lev) {x : Int} (d : decode cc pc = .ok (.l2i, 1)) (k : Vw γ φ nL a b Q σ (pc + 1) lv (.int (iI x) :: st)) : Vw γ φ nL a b Q σ pc lv (.long (lI x) :: st) := fun H locs ls hW hS hl => lv_l2i C.2.1 C.2.2.1 d (lI_i x) (k H locs ls hW hS hl)
theorem v_i2c (C : Cx γ φ own cc nL lev) {x : Int} (hx : 0 ≤ x ∧ x < 65536) (d : decode cc pc = .ok (.i2c, 1)) (k : Vw γ φ nL a b Q σ (pc + 1) lv (.int (iI x) :: st)) : Vw γ φ nL a b Q σ pc lv (.int (iI x) :: st) := fun H locs ls hW hS hl => lv_i2c C.2.1 C.2.2.1 d (iI_c hx) (k H locs ls hW hS hl)
theorem v_lcmp (C : Cx γ φ own cc nL lev) {x y : Int} (hx : -9223372036854775808 ≤ x ∧ x < 9223372036854775808) (hy : -9223372036854775808 ≤ y ∧ y < 9223372036854775808) (d : decode cc pc = .ok (.lcmp, 1)) (k : Vw γ φ nL a b Q σ (pc + 1) lv (.int (iI (if x < y then -1 else if x = y then 0 else 1)) :: st)) : Vw γ φ nL a b Q σ pc lv (.long (lI y) :: .long (lI x) :: st) := fun H locs ls hW hS hl => W.lcmp C.2.1 C.2.2.1 d (by rw [lg_cmp_I hx hy]; exact k H locs ls hW hS hl)
def iShl (x y : Int) : Int := (iI x <<< (iI y &&& 31)).toInt
def iOr (x y : Int) : Int := (iI x ||| iI y).toInt
def iAnd (x y : Int) : Int := (iI x &&& iI y).toInt
def lShl (x y : Int) : Int := (lI x <<< ((iI y).toInt64 &&& 63)).toInt
def lUsh (x y : Int) : Int := ((lI x).toUInt64 >>> ((iI y).toInt64.toUInt64 &&& Int64.toUInt64 63)).toInt64.toInt
def lAnd (x y : Int) : Int := (lI x &&& lI y).toInt
def lOr (x y : Int) : Int := (lI x ||| lI y).toInt
theorem v_ishl (C : Cx γ φ own cc nL lev) {x y : Int} (d : decode cc pc = .ok (.ishl, 1)) (k : Vw γ φ nL a b Q σ (pc + 1) lv (.int (iI (iShl x y)) :: st)) : Vw γ φ nL a b Q σ pc lv (.int (iI y) :: .int (iI x) :: st) := fun H locs ls hW hS hl => lv_ishl C.2.1 C.2.2.1 d (by have h := k H locs ls hW hS hl; rw [show iI (iShl x y) = _ from iI_asI _] at h; exact h)
theorem v_ior (C : Cx γ φ own cc nL lev) {x y : Int} (d : decode cc pc = .ok (.ior, 1)) (k : Vw γ φ nL a b Q σ (pc + 1) lv (.int (iI (iOr x y)) :: st)) : Vw γ φ nL a b Q σ pc lv (.int (iI y) :: .int (iI x) :: st) := fun H locs ls hW hS hl => lv_ior C.2.1 C.2.2.1 d (by have h := k H locs ls hW hS hl; rw [show iI (iOr x y) = _ from iI_asI _] at h; exact h)
theorem v_iand (C : Cx γ φ own cc nL lev) {x y : Int} (d : decode cc pc = .ok (.iand, 1)) (k : Vw γ φ nL a b Q σ (pc + 1) lv (.int (iI (iAnd x y)) :: st)) : Vw γ φ nL a b Q σ pc lv (.int (iI y) :: .int (iI x) :: st) := fun H locs ls hW hS hl => lv_iand C.2.1 C.2.2.1 d (by have h := k H locs ls hW hS hl; rw [show iI (iAnd x y) = _ from iI_asI _] at h; exact h)
theorem v_land (C : Cx γ φ own cc nL lev) {x y : Int} (d : decode cc pc = .ok (.land, 1)) (k : Vw γ φ nL a b Q σ (pc + 1) lv (.long (lI (lAnd x y)) :: st)) : Vw γ φ nL a b Q σ pc lv (.long (lI y) :: .long (lI x) :: st) := fun H locs ls hW hS hl => lv_land C.2.1 C.2.2.1 d (by have h := k H locs ls hW hS hl; rw [show lI (lAnd x y) = _ from lI_asL _] at h; exact h)
theorem v_lor (C : Cx γ φ own cc nL lev) {x y : Int} (d : decode cc pc = .ok (.lor, 1)) (k : Vw γ φ nL a b Q σ (pc + 1) lv (.long (lI (lOr x y)) :: st)) : Vw γ φ nL a b Q σ pc lv (.long (lI y) :: .long (lI x) :: st) := fun H locs ls hW hS hl => lv_lor C.2.1 C.2.2.1 d (by have h := k H locs ls hW hS hl; rw [show lI (lOr x y) = _ from lI_asL _] at h; exact h)
theorem v_lshl (C : Cx γ φ own cc nL lev) {x y : Int} (d : decode cc pc = .ok (.lshl, 1)) (k : Vw γ φ nL a b Q σ (pc + 1) lv (.long (lI (lShl x y)) :: st)) : Vw γ φ nL a b Q σ pc lv (.int (iI y) :: .long (lI x) :: st) := fun H locs ls hW hS hl => lv_lshl C.2.1 C.2.2.1 d (lI_asL _).symm (k H locs ls hW hS hl)
theorem v_lushr (C : Cx γ φ own cc nL lev) {x y : Int} (d : decode cc pc = .ok (.lushr, 1)) (k : Vw γ φ nL a b Q σ (pc + 1) lv (.long (lI (lUsh x y)) :: st)) : Vw γ φ nL a b Q σ pc lv (.int (iI y) :: .long (lI x) :: st) := fun H locs ls hW hS hl => lv_lushr C.2.1 C.2.2.1 d (lI_asL _).symm (k H locs ls hW hS hl)
theorem v_dup (C : Cx γ φ own cc nL lev) {va : Value} (hva : va.category = 1) (d : decode cc pc = .ok (.dup, 1)) (k : Vw γ φ nL a b Q σ (pc + 1) lv (va :: va :: st)) : Vw γ φ nL a b Q σ pc lv (va :: st) := fun H locs ls hW hS hl => lv_dup C.2.1 C.2.2.1 d hva (k H locs ls hW hS hl)
theorem v_dup2 (C : Cx γ φ own cc nL lev) {va vb : Value} (hva : va.category = 1) (hvb : vb.category = 1) (d : decode cc pc = .ok (.dup2, 1)) (k : Vw γ φ nL a b Q σ (pc + 1) lv (va :: vb :: va :: vb :: st)) : Vw γ φ nL a b Q σ pc lv (va :: vb :: st) := fun H locs ls hW hS hl => lv_dup2_11 C.2.1 C.2.2.1 d hva hvb (k H locs ls hW hS hl)
theorem v_pop (C : Cx γ φ own cc nL lev) {va : Value} (hva : va.category = 1) (d : decode cc pc = .ok (.pop, 1)) (k : Vw γ φ nL a b Q σ (pc + 1) lv st) : Vw γ φ nL a b Q σ pc lv (va :: st) := fun H locs ls hW hS hl => lv_pop C.2.1 C.2.2.1 d hva (k H locs ls hW hS hl)
theorem v_goto (C : Cx γ φ own cc nL lev) {off : Int} (tgt : Nat) (d : decode cc pc = .ok (.goto off, 3)) (ht : (pc : Int) + off = (tgt : Int)) (k : Vw γ φ nL a b Q σ tgt lv st) : Vw γ φ nL a b Q σ pc lv st := fun H locs ls hW hS hl => lv_goto C.2.1 C.2.2.1 d ht (k H locs ls hW hS hl)
theorem v_if_eq (C : Cx γ φ own cc nL lev) {x : Int} {off : Int} (tgt : Nat) (hx : -2147483648 ≤ x ∧ x < 2147483648) (d : decode cc pc = .ok (.ifCond .eq off, 3)) (ht : (pc : Int) + off = (tgt : Int)) (kt : x = 0 → Vw γ φ nL a b Q σ tgt lv st) (kf : ¬ x = 0 → Vw γ φ nL a b Q σ (pc + 3) lv st) : Vw γ φ nL a b Q σ pc lv (.int (iI x) :: st) := fun H locs ls hW hS hl => lv_if_eq C.2.1 C.2.2.1 d ht (fun h => kt (by rw [iI_0] at h; rw [iI_eq hx (by omega)] at h; exact h) H locs ls hW hS hl) (fun h => kf (by rw [iI_0] at h; rw [iI_eq hx (by omega)] at h; exact h) H locs ls hW hS hl)
theorem v_icmp_eq (C : Cx γ φ own cc nL lev) {x y : Int} {off : Int} (tgt : Nat) (hx : -2147483648 ≤ x ∧ x < 2147483648) (hy : -2147483648 ≤ y ∧ y < 2147483648) (d : decode cc pc = .ok (.if_icmp .eq off, 3)) (ht : (pc : Int) + off = (tgt : Int)) (kt : x = y → Vw γ φ nL a b Q σ tgt lv st) (kf : ¬ x = y → Vw γ φ nL a b Q σ (pc + 3) lv st) : Vw γ φ nL a b Q σ pc lv (.int (iI y) :: .int (iI x) :: st) := fun H locs ls hW hS hl => lv_icmp_eq C.2.1 C.2.2.1 d ht (fun h => kt (by rw [iI_eq hx hy] at h; exact h) H locs ls hW hS hl) (fun h => kf (by rw [iI_eq hx hy] at h; exact h) H locs ls hW hS hl)
theorem v_if_ne (C : Cx γ φ own cc nL lev) {x : Int} {off : Int} (tgt : Nat) (hx : -2147483648 ≤ x ∧ x < 2147483648) (d : decode cc pc = .ok (.ifCond .ne off, 3)) (ht : (pc : Int) + off = (tgt : Int)) (kt : ¬ x = 0 → Vw γ φ nL a b Q σ tgt lv st) (kf : x = 0 → Vw γ φ nL a b Q σ (pc + 3) lv st) : Vw γ φ nL a b Q σ pc lv (.int (iI x) :: st) := fun H locs ls hW hS hl => lv_if_ne C.2.1 C.2.2.1 d ht (fun h => kt (by rw [iI_0] at h; rw [iI_eq hx (by omega)] at h; exact h) H locs ls hW hS hl) (fun h => kf (by rw [iI_0] at h; rw [iI_eq hx (by omega)] at h; exact h) H locs ls hW hS hl)
theorem v_icmp_ne (C : Cx γ φ own cc nL lev) {x y : Int} {off : Int} (tgt : Nat) (hx : -2147483648 ≤ x ∧ x < 2147483648) (hy : -2147483648 ≤ y ∧ y < 2147483648) (d : decode cc pc = .ok (.if_icmp .ne off, 3)) (ht : (pc : Int) + off = (tgt : Int)) (kt : ¬ x = y → Vw γ φ nL a b Q σ tgt lv st) (kf : x = y → Vw γ φ nL a b Q σ (pc + 3) lv st) : Vw γ φ nL a b Q σ pc lv (.int (iI y) :: .int (iI x) :: st) := fun H locs ls hW hS hl => lv_icmp_ne C.2.1 C.2.2.1 d ht (fun h => kt (by rw [iI_eq hx hy] at h; exact h) H locs ls hW hS hl) (fun h => kf (by rw [iI_eq hx hy] at h; exact h) H locs ls hW hS hl)
theorem v_if_lt (C : Cx γ φ own cc nL lev) {x : Int} {off : Int} (tgt : Nat) (hx : -2147483648 ≤ x ∧ x < 2147483648) (d : decode cc pc = .ok (.ifCond .lt off, 3)) (ht : (pc : Int) + off = (tgt : Int)) (kt : x < 0 → Vw γ φ nL a b Q σ tgt lv st) (kf : ¬ x < 0 → Vw γ φ nL a b Q σ (pc + 3) lv st) : Vw γ φ nL a b Q σ pc lv (.int (iI x) :: st) := fun H locs ls hW hS hl => lv_if_lt C.2.1 C.2.2.1 d ht (fun h => kt (by rw [iI_0] at h; rw [iI_lt hx (by omega)] at h; exact h) H locs ls hW hS hl) (fun h => kf (by rw [iI_0] at h; rw [iI_lt hx (by omega)] at h; exact h) H locs ls hW hS hl)
theorem v_icmp_lt (C : Cx γ φ own cc nL lev) {x y : Int} {off : Int} (tgt : Nat) (hx : -2147483648 ≤ x ∧ x < 2147483648) (hy : -2147483648 ≤ y ∧ y < 2147483648) (d : decode cc pc = .ok (.if_icmp .lt off, 3)) (ht : (pc : Int) + off = (tgt : Int)) (kt : x < y → Vw γ φ nL a b Q σ tgt lv st) (kf : ¬ x < y → Vw γ φ nL a b Q σ (pc + 3) lv st) : Vw γ φ nL a b Q σ pc lv (.int (iI y) :: .int (iI x) :: st) := fun H locs ls hW hS hl => lv_icmp_lt C.2.1 C.2.2.1 d ht (fun h => kt (by rw [iI_lt hx hy] at h; exact h) H locs ls hW hS hl) (fun h => kf (by rw [iI_lt hx hy] at h; exact h) H locs ls hW hS hl)
theorem v_if_ge (C : Cx γ φ own cc nL lev) {x : Int} {off : Int} (tgt : Nat) (hx : -2147483648 ≤ x ∧ x < 2147483648) (d : decode cc pc = .ok (.ifCond .ge off, 3)) (ht : (pc : Int) + off = (tgt : Int)) (kt : 0 ≤ x → Vw γ φ nL a b Q σ tgt lv st) (kf : ¬ 0 ≤ x → Vw γ φ nL a b Q σ (pc + 3) lv st) : Vw γ φ nL a b Q σ pc lv (.int (iI x) :: st) := fun H locs ls hW hS hl => lv_if_ge C.2.1 C.2.2.1 d ht (fun h => kt (by rw [iI_0] at h; rw [iI_le (by omega) hx] at h; exact h) H locs ls hW hS hl) (fun h => kf (by rw [iI_0] at h; rw [iI_le (by omega) hx] at h; exact h) H locs ls hW hS hl)
theorem v_icmp_ge (C : Cx γ φ own cc nL lev) {x y : Int} {off : Int} (tgt : Nat) (hx : -2147483648 ≤ x ∧ x < 2147483648) (hy : -2147483648 ≤ y ∧ y < 2147483648) (d : decode cc pc = .ok (.if_icmp .ge off, 3)) (ht : (pc : Int) + off = (tgt : Int)) (kt : y ≤ x → Vw γ φ nL a b Q σ tgt lv st) (kf : ¬ y ≤ x → Vw γ φ nL a b Q σ (pc + 3) lv st) : Vw γ φ nL a b Q σ pc lv (.int (iI y) :: .int (iI x) :: st) := fun H locs ls hW hS hl => lv_icmp_ge C.2.1 C.2.2.1 d ht (fun h => kt (by rw [iI_le hy hx] at h; exact h) H locs ls hW hS hl) (fun h => kf (by rw [iI_le hy hx] at h; exact h) H locs ls hW hS hl)
theorem v_if_gt (C : Cx γ φ own cc nL lev) {x : Int} {off : Int} (tgt : Nat) (hx : -2147483648 ≤ x ∧ x < 2147483648) (d : decode cc pc = .ok (.ifCond .gt off, 3)) (ht : (pc : Int) + off = (tgt : Int)) (kt : 0 < x → Vw γ φ nL a b Q σ tgt lv st) (kf : ¬ 0 < x → Vw γ φ nL a b Q σ (pc + 3) lv st) : Vw γ φ nL a b Q σ pc lv (.int (iI x) :: st) := fun H locs ls hW hS hl => lv_if_gt C.2.1 C.2.2.1 d ht (fun h => kt (by rw [iI_0] at h; rw [iI_lt (by omega) hx] at h; exact h) H locs ls hW hS hl) (fun h => kf (by rw [iI_0] at h; rw [iI_lt (by omega) hx] at h; exact h) H locs ls hW hS hl)
theorem v_icmp_gt (C : Cx γ φ own cc nL lev) {x y : Int} {off : Int} (tgt : Nat) (hx : -2147483648 ≤ x ∧ x < 2147483648) (hy : -2147483648 ≤ y ∧ y < 2147483648) (d : decode cc pc = .ok (.if_icmp .gt off, 3)) (ht : (pc : Int) + off = (tgt : Int)) (kt : y < x → Vw γ φ nL a b Q σ tgt lv st) (kf : ¬ y < x → Vw γ φ nL a b Q σ (pc + 3) lv st) : Vw γ φ nL a b Q σ pc lv (.int (iI y) :: .int (iI x) :: st) := fun H locs ls hW hS hl => lv_icmp_gt C.2.1 C.2.2.1 d ht (fun h => kt (by rw [iI_lt hy hx] at h; exact h) H locs ls hW hS hl) (fun h => kf (by rw [iI_lt hy hx] at h; exact h) H locs ls hW hS hl)
theorem v_if_le (C : Cx γ φ own cc nL lev) {x : Int} {off : Int} (tgt : Nat) (hx : -2147483648 ≤ x ∧ x < 2147483648) (d : decode cc pc = .ok (.ifCond .le off, 3)) (ht : (pc : Int) + off = (tgt : Int)) (kt : x ≤ 0 → Vw γ φ nL a b Q σ tgt lv st) (kf : ¬ x ≤ 0 → Vw γ φ nL a b Q σ (pc + 3) lv st) : Vw γ φ nL a b Q σ pc lv (.int (iI x) :: st) := fun H locs ls hW hS hl => lv_if_le C.2.1 C.2.2.1 d ht (fun h => kt (by rw [iI_0] at h; rw [iI_le hx (by omega)] at h; exact h) H locs ls hW hS hl) (fun h => kf (by rw [iI_0] at h; rw [iI_le hx (by omega)] at h; exact h) H locs ls hW hS hl)
theorem v_icmp_le (C : Cx γ φ own cc nL lev) {x y : Int} {off : Int} (tgt : Nat) (hx : -2147483648 ≤ x ∧ x < 2147483648) (hy : -2147483648 ≤ y ∧ y < 2147483648) (d : decode cc pc = .ok (.if_icmp .le off, 3)) (ht : (pc : Int) + off = (tgt : Int)) (kt : x ≤ y → Vw γ φ nL a b Q σ tgt lv st) (kf : ¬ x ≤ y → Vw γ φ nL a b Q σ (pc + 3) lv st) : Vw γ φ nL a b Q σ pc lv (.int (iI y) :: .int (iI x) :: st) := fun H locs ls hW hS hl => lv_icmp_le C.2.1 C.2.2.1 d ht (fun h => kt (by rw [iI_le hx hy] at h; exact h) H locs ls hW hS hl) (fun h => kf (by rw [iI_le hx hy] at h; exact h) H locs ls hW hS hl)
theorem v_tabIn (C : Cx γ φ own cc nL lev) {x dflt lo hi : Int} {offs : Array Int} {len : Nat} {off : Int} (tgt : Nat) (hx : -2147483648 ≤ x ∧ x < 2147483648) (d : decode cc pc = .ok (.tableswitch dflt lo hi offs, len)) (h1 : lo ≤ x ∧ x ≤ hi) (ho : offs[(x - lo).toNat]? = some off) (ht : (pc : Int) + off = (tgt : Int)) (k : Vw γ φ nL a b Q σ tgt lv st) : Vw γ φ nL a b Q σ pc lv (.int (iI x) :: st) := fun H locs ls hW hS hl => lv_tableIn C.2.1 C.2.2.1 d (by rw [iI_t hx]; omega) (by rw [iI_t hx]; omega) (by rw [iI_t hx]; exact ho) ht (k H locs ls hW hS hl)
theorem v_tabOut (C : Cx γ φ own cc nL lev) {x dflt lo hi : Int} {offs : Array Int} {len : Nat} (tgt : Nat) (hx : -2147483648 ≤ x ∧ x < 2147483648) (d : decode cc pc = .ok (.tableswitch dflt lo hi offs, len)) (h1 : x < lo ∨ hi < x) (ht : (pc : Int) + dflt = (tgt : Int)) (k : Vw γ φ nL a b Q σ tgt lv st) : Vw γ φ nL a b Q σ pc lv (.int (iI x) :: st) := fun H locs ls hW hS hl => lv_tableOut C.2.1 C.2.2.1 d (by rw [iI_t hx]; exact h1) ht (k H locs ls hW hS hl)
theorem v_look (C : Cx γ φ own cc nL lev) {x dflt : Int} {ps : Array (Int × Int)} {len : Nat} {off : Int} (tgt : Nat) (hx : -2147483648 ≤ x ∧ x < 2147483648) (d : decode cc pc = .ok (.lookupswitch dflt ps, len)) (hp : (ps.toList.zip (ps.toList.drop 1)).all (fun (a, next) => a.1 < next.1) = true) (ho : Op.lookupswitch.offset ps.toList dflt x = off) (ht : (pc : Int) + off = (tgt : Int)) (k : Vw γ φ nL a b Q σ tgt lv st) : Vw γ φ nL a b Q σ pc lv (.int (iI x) :: st) := fun H locs ls hW hS hl => lv_lookup C.2.1 C.2.2.1 d hp (by rw [iI_t hx]; exact ho) ht (k H locs ls hW hS hl)
theorem v_lv (lv2 : List (Nat × Value)) (ks : List Nat) (hk : lv_pick lv ks = lv2) (k : Vw γ φ nL a b Q σ pc lv2 st) : Vw γ φ nL a b Q σ pc lv st := fun H locs ls hW hS hl => k H locs ls hW hS (lv_sub hl ks hk)
theorem v_st {σ2 : St} (e : σ = σ2) (k : Vw γ φ nL a b Q σ2 pc lv st) : Vw γ φ nL a b Q σ pc lv st := e ▸ k
theorem v_ti {x x2 : Int} (e : x = x2) (k : Vw γ φ nL a b Q σ pc lv (.int (iI x2) :: st)) : Vw γ φ nL a b Q σ pc lv (.int (iI x) :: st) := e ▸ k
theorem v_nm {x : Int} (k : ∀ z : Int, z = x → Vw γ φ nL a b Q σ pc lv (.int (iI z) :: st)) : Vw γ φ nL a b Q σ pc lv (.int (iI x) :: st) := k x rfl
theorem v_nml {x : Int} (k : ∀ z : Int, z = x → Vw γ φ nL a b Q σ pc lv (.long (lI z) :: st)) : Vw γ φ nL a b Q σ pc lv (.long (lI x) :: st) := k x rfl
theorem v_bm {x : Int} (k : Vw γ φ nL a b Q σ pc lv (.int (iI (bmz x)) :: st)) : Vw γ φ nL a b Q σ pc lv (.int (iI x) :: st) := by rw [bmz_i] at k; exact k
theorem v_geti (C : Cx γ φ own cc nL lev) {ref : String} {R0 : String} {T : u_T} {N ci ix c0 : Nat} (hin : ∀ w ∈ u_ws R0 T N, w ∈ lw_tbl) (hg : ∀ w ∈ u_ws R0 T N, goodWord w = true) (hcl : classes[ci]? = some (R0, T, N)) (k0 : Nat) (hk : k0 < N) (hw : Wrd γ (.fieldLink own ix ref (T k0).2.1 (T k0).2.2.1)) (href : (T k0).1 = ref) (hs : sh c0 = (5, ci)) (j0 : Int) (hv : (obF γ ci c0 (σ c0))[k0]? = some (.int (iI (σ c0 j0)))) (d : decode cc pc = .ok (.getfield ix, 3)) (k : ∀ z : Int, z = σ c0 j0 → (-2147483648 ≤ z ∧ z < 2147483648) → Vw γ φ nL a b Q σ (pc + 3) lv (.int (iI z) :: st)) : Vw γ φ nL a b Q σ pc lv (.ref (bs γ + c0) :: st) := fun H locs ls hW hS hl => by
  have he := wl_get γ σ (sh_lt (by rw [hs]; simp))
  rw [hs] at he
  exact va_get C.2.1 C.2.2.1 (fun w h => word_at C.2.2.2.2.2.1.1 (good_of_word (hg w h)) (C.1.2.1 w (hin w h))) (fun _ h => h) C.2.2.2.2.1 C.K hW.1 c0 he hcl k0 hk (hw _ _ C.2.2.2.2.2.1.1) (fun x hx => by rw [← href]; exact hx) hv d (k _ rfl (hW.r _ _) H locs ls hW hS hl)
theorem v_getr (C : Cx γ φ own cc nL lev) {ref : String} {R0 : String} {T : u_T} {N ci ix c0 : Nat} (hin : ∀ w ∈ u_ws R0 T N, w ∈ lw_tbl) (hg : ∀ w ∈ u_ws R0 T N, goodWord w = true) (hcl : classes[ci]? = some (R0, T, N)) (k0 : Nat) (hk : k0 < N) (hw : Wrd γ (.fieldLink own ix ref (T k0).2.1 (T k0).2.2.1)) (href : (T k0).1 = ref) (hs : sh c0 = (5, ci)) (c1 : Nat) (hv : (obF γ ci c0 (σ c0))[k0]? = some (.ref (bs γ + c1))) (d : decode cc pc = .ok (.getfield ix, 3)) (k : Vw γ φ nL a b Q σ (pc + 3) lv (.ref (bs γ + c1) :: st)) : Vw γ φ nL a b Q σ pc lv (.ref (bs γ + c0) :: st) := fun H locs ls hW hS hl => by
  have he := wl_get γ σ (sh_lt (by rw [hs]; simp))
  rw [hs] at he
  exact va_get C.2.1 C.2.2.1 (fun w h => word_at C.2.2.2.2.2.1.1 (good_of_word (hg w h)) (C.1.2.1 w (hin w h))) (fun _ h => h) C.2.2.2.2.1 C.K hW.1 c0 he hcl k0 hk (hw _ _ C.2.2.2.2.2.1.1) (fun x hx => by rw [← href]; exact hx) hv d (k H locs ls hW hS hl)
theorem v_puti (C : Cx γ φ own cc nL lev) {ref : String} {R0 : String} {T : u_T} {N ci ix c0 : Nat} (hin : ∀ w ∈ u_ws R0 T N, w ∈ lw_tbl) (hg : ∀ w ∈ u_ws R0 T N, goodWord w = true) (hcl : classes[ci]? = some (R0, T, N)) (k0 : Nat) (hk : k0 < N) (hw : Wrd γ (.fieldLink own ix ref (T k0).2.1 (T k0).2.2.1)) (href : (T k0).1 = ref) (hs : sh c0 = (5, ci)) (ty0 : Nat → FieldType) (hty : ∀ k, k < N → parseFieldDescriptor (T k).2.2.1 = some (ty0 k)) (hnm : ∀ a, a < N → ∀ b, b < N → a ≠ b → (T a).2.1 ≠ (T b).2.1) (hfin : (T k0).2.2.2 = false) (hti : ty0 k0 = .int) (hlen : ∀ r : Int → Int, k0 < (obF γ ci c0 r).length) (hset : ∀ (r : Int → Int) (z : Int), (obF γ ci c0 r).set k0 (.int (iI z)) = obF γ ci c0 (upr r (k0 : Int) z)) {x : Int} (hx : -2147483648 ≤ x ∧ x < 2147483648) (d : decode cc pc = .ok (.putfield ix, 3)) (k : Vw γ φ nL a b Q (setc σ c0 (upr (σ c0) (k0 : Int) x)) (pc + 3) lv st) : Vw γ φ nL a b Q σ pc lv (.int (iI x) :: .ref (bs γ + c0) :: st) := fun H locs ls hW hS hl => by
  have he := wl_get γ σ (sh_lt (by rw [hs]; simp))
  rw [hs] at he
  refine va_put C.2.1 C.2.2.1 (fun w h => word_at C.2.2.2.2.2.1.1 (good_of_word (hg w h)) (C.1.2.1 w (hin w h))) (fun _ h => h) ty0 hty hnm C.2.2.2.2.1 C.K hW.1 (wl_D γ σ) hS c0 he hcl k0 hk (hw _ _ C.2.2.2.2.2.1.1) (fun x hx => by rw [← href]; exact hx) hfin (ty := .int) (by rw [hty k0 hk, hti]) rfl rfl (hlen _) d ?_
  intro H1 locs1 hP1 _ hS1
  refine k H1 locs1 ls ⟨?_, fun c j => ?_⟩ hS1 hl
  · have e := wl_set γ σ c0 (upr (σ c0) (k0 : Int) x)
    rw [hs] at e
    rw [← e]
    rw [hset] at hP1
    exact hP1
  · exact rng_up hW.2 hx c j
theorem v_iald (C : Cx γ φ own cc nL lev) {c0 n : Nat} {j : Int} (hs : sh c0 = (0, n)) (hn : n ≤ 4000) (hj : 0 ≤ j ∧ j < n) (d : decode cc pc = .ok (.iaload, 1)) (k : ∀ z : Int, z = σ c0 j → (-2147483648 ≤ z ∧ z < 2147483648) → Vw γ φ nL a b Q σ (pc + 1) lv (.int (iI z) :: st)) : Vw γ φ nL a b Q σ pc lv (.int (iI j) :: .ref (bs γ + c0) :: st) := fun H locs ls hW hS hl => by
  have he := wl_get γ σ (sh_lt (by rw [hs]; simp))
  rw [hs] at he
  refine va_iald C.2.1 C.2.2.1 C.K hW.1 c0 0 he rfl (iI_in hj (by omega)) d ?_
  have e : σ c0 ((iI j).toNatClampNeg : Int) = σ c0 j := by rw [iI_cl (by omega)]; congr 1; omega
  rw [e]
  exact k _ rfl (hW.r _ _) H locs ls hW hS hl
theorem v_iast (C : Cx γ φ own cc nL lev) {c0 n : Nat} {j x : Int} (hs : sh c0 = (0, n)) (hn : n ≤ 4000) (hj : 0 ≤ j ∧ j < n) (hx : -2147483648 ≤ x ∧ x < 2147483648) (d : decode cc pc = .ok (.iastore, 1)) (k : Vw γ φ nL a b Q (setc σ c0 (upr (σ c0) j x)) (pc + 1) lv st) : Vw γ φ nL a b Q σ pc lv (.int (iI x) :: .int (iI j) :: .ref (bs γ + c0) :: st) := fun H locs ls hW hS hl => by
  have he := wl_get γ σ (sh_lt (by rw [hs]; simp))
  rw [hs] at he
  refine va_iast C.2.1 C.2.2.1 C.K hW.1 (wl_D γ σ) hS c0 0 he rfl (iI_in hj (by omega)) d ?_
  intro H1 locs1 hP1 _ hS1
  refine k H1 locs1 ls ⟨?_, fun c j => ?_⟩ hS1 hl
  · have ej : j = ((iI j).toNatClampNeg : Int) := by rw [iI_cl (by omega)]; omega
    obtain ⟨cA, hcA, ec⟩ := cellK_upd γ (k := (0, n)) (by simp) c0 (σ c0) (z := x) (j := (iI j).toNatClampNeg)
    rw [← ej] at ec
    have e := wl_set γ σ c0 (upr (σ c0) j x)
    rw [hs, ec] at e
    rw [← e]
    rw [hcA]
    exact hP1
  · exact rng_up hW.2 (by omega) c j
theorem v_cald (C : Cx γ φ own cc nL lev) {c0 n : Nat} {j : Int} (hs : sh c0 = (1, n)) (hn : n ≤ 4000) (hj : 0 ≤ j ∧ j < n) (d : decode cc pc = .ok (.caload, 1)) (k : ∀ z : Int, z = σ c0 j → (-2147483648 ≤ z ∧ z < 2147483648) → Vw γ φ nL a b Q σ (pc + 1) lv (.int (iI z) :: st)) : Vw γ φ nL a b Q σ pc lv (.int (iI j) :: .ref (bs γ + c0) :: st) := fun H locs ls hW hS hl => by
  have he := wl_get γ σ (sh_lt (by rw [hs]; simp))
  rw [hs] at he
  refine va_cald C.2.1 C.2.2.1 C.K hW.1 c0 1 he rfl (iI_in hj (by omega)) d ?_
  have e : σ c0 ((iI j).toNatClampNeg : Int) = σ c0 j := by rw [iI_cl (by omega)]; congr 1; omega
  rw [e]
  exact k _ rfl (hW.r _ _) H locs ls hW hS hl
theorem v_cast (C : Cx γ φ own cc nL lev) {c0 n : Nat} {j x : Int} (hs : sh c0 = (1, n)) (hn : n ≤ 4000) (hj : 0 ≤ j ∧ j < n) (hx : 0 ≤ x ∧ x < 65536) (d : decode cc pc = .ok (.castore, 1)) (k : Vw γ φ nL a b Q (setc σ c0 (upr (σ c0) j x)) (pc + 1) lv st) : Vw γ φ nL a b Q σ pc lv (.int (iI x) :: .int (iI j) :: .ref (bs γ + c0) :: st) := fun H locs ls hW hS hl => by
  have he := wl_get γ σ (sh_lt (by rw [hs]; simp))
  rw [hs] at he
  refine va_cast C.2.1 C.2.2.1 C.K hW.1 (wl_D γ σ) hS c0 1 he rfl (iI_in hj (by omega)) d ?_
  intro H1 locs1 hP1 _ hS1
  refine k H1 locs1 ls ⟨?_, fun c j => ?_⟩ hS1 hl
  · have ej : j = ((iI j).toNatClampNeg : Int) := by rw [iI_cl (by omega)]; omega
    obtain ⟨cA, hcA, ec⟩ := cellK_upd γ (k := (1, n)) (by simp) c0 (σ c0) (z := x) (j := (iI j).toNatClampNeg)
    rw [← ej] at ec
    rw [vp_nar_cI hx] at hP1
    have e := wl_set γ σ c0 (upr (σ c0) j x)
    rw [hs, ec] at e
    rw [← e]
    rw [hcA]
    exact hP1
  · exact rng_up hW.2 (by omega) c j
theorem v_zald (C : Cx γ φ own cc nL lev) {c0 n : Nat} {j : Int} (hs : sh c0 = (2, n)) (hn : n ≤ 4000) (hj : 0 ≤ j ∧ j < n) (d : decode cc pc = .ok (.baload, 1)) (k : ∀ z : Int, z = σ c0 j → (-2147483648 ≤ z ∧ z < 2147483648) → Vw γ φ nL a b Q σ (pc + 1) lv (.int (iI z) :: st)) : Vw γ φ nL a b Q σ pc lv (.int (iI j) :: .ref (bs γ + c0) :: st) := fun H locs ls hW hS hl => by
  have he := wl_get γ σ (sh_lt (by rw [hs]; simp))
  rw [hs] at he
  refine va_zald C.2.1 C.2.2.1 C.K hW.1 c0 2 he rfl (iI_in hj (by omega)) d ?_
  have e : σ c0 ((iI j).toNatClampNeg : Int) = σ c0 j := by rw [iI_cl (by omega)]; congr 1; omega
  rw [e]
  exact k _ rfl (hW.r _ _) H locs ls hW hS hl
theorem v_zast (C : Cx γ φ own cc nL lev) {c0 n : Nat} {j x : Int} (hs : sh c0 = (2, n)) (hn : n ≤ 4000) (hj : 0 ≤ j ∧ j < n) (hx : x = 0 ∨ x = 1) (d : decode cc pc = .ok (.bastore, 1)) (k : Vw γ φ nL a b Q (setc σ c0 (upr (σ c0) j x)) (pc + 1) lv st) : Vw γ φ nL a b Q σ pc lv (.int (iI x) :: .int (iI j) :: .ref (bs γ + c0) :: st) := fun H locs ls hW hS hl => by
  have he := wl_get γ σ (sh_lt (by rw [hs]; simp))
  rw [hs] at he
  refine va_zast C.2.1 C.2.2.1 C.K hW.1 (wl_D γ σ) hS c0 2 he rfl (iI_in hj (by omega)) d ?_
  intro H1 locs1 hP1 _ hS1
  refine k H1 locs1 ls ⟨?_, fun c j => ?_⟩ hS1 hl
  · have ej : j = ((iI j).toNatClampNeg : Int) := by rw [iI_cl (by omega)]; omega
    obtain ⟨cA, hcA, ec⟩ := cellK_upd γ (k := (2, n)) (by simp) c0 (σ c0) (z := x) (j := (iI j).toNatClampNeg)
    rw [← ej] at ec
    rw [vp_nar_zI hx] at hP1
    have e := wl_set γ σ c0 (upr (σ c0) j x)
    rw [hs, ec] at e
    rw [← e]
    rw [hcA]
    exact hP1
  · exact rng_up hW.2 (by omega) c j
theorem v_aald (C : Cx γ φ own cc nL lev) {c0 n : Nat} {j : Int} (hs : sh c0 = (4, n)) (hn : n ≤ 4000) (hj : 0 ≤ j ∧ j < n) (d : decode cc pc = .ok (.aaload, 1)) (k : Vw γ φ nL a b Q σ (pc + 1) lv (.ref (bs γ + nref c0 j.toNat) :: st)) : Vw γ φ nL a b Q σ pc lv (.int (iI j) :: .ref (bs γ + c0) :: st) := fun H locs ls hW hS hl => by
  have he := wl_get γ σ (sh_lt (by rw [hs]; simp))
  rw [hs] at he
  refine va_aldq C.2.1 C.2.2.1 C.K hW.1 c0 4 he rfl (iI_in hj (by omega)) d ?_
  rw [iI_cl (by omega)]
  exact k H locs ls hW hS hl
theorem v_lald (C : Cx γ φ own cc nL lev) {c0 n : Nat} {j : Int} (hs : sh c0 = (3, n)) (hn : n ≤ 4000) (hj : 0 ≤ j ∧ j < n) (d : decode cc pc = .ok (.laload, 1)) (k : ∀ z : Int, z = σ c0 j → (-2147483648 ≤ z ∧ z < 2147483648) → Vw γ φ nL a b Q σ (pc + 1) lv (.long (lI z) :: st)) : Vw γ φ nL a b Q σ pc lv (.int (iI j) :: .ref (bs γ + c0) :: st) := fun H locs ls hW hS hl => by
  have he := wl_get γ σ (sh_lt (by rw [hs]; simp))
  rw [hs] at he
  refine va_lald C.2.1 C.2.2.1 C.K hW.1 c0 3 he rfl (iI_in hj (by omega)) d ?_
  have e : σ c0 ((iI j).toNatClampNeg : Int) = σ c0 j := by rw [iI_cl (by omega)]; congr 1; omega
  rw [e]
  exact k _ rfl (hW.r _ _) H locs ls hW hS hl
theorem v_last (C : Cx γ φ own cc nL lev) {c0 n : Nat} {j x : Int} (hs : sh c0 = (3, n)) (hn : n ≤ 4000) (hj : 0 ≤ j ∧ j < n) (hx : -2147483648 ≤ x ∧ x < 2147483648) (d : decode cc pc = .ok (.lastore, 1)) (k : Vw γ φ nL a b Q (setc σ c0 (upr (σ c0) j x)) (pc + 1) lv st) : Vw γ φ nL a b Q σ pc lv (.long (lI x) :: .int (iI j) :: .ref (bs γ + c0) :: st) := fun H locs ls hW hS hl => by
  have he := wl_get γ σ (sh_lt (by rw [hs]; simp))
  rw [hs] at he
  refine va_last C.2.1 C.2.2.1 C.K hW.1 (wl_D γ σ) hS c0 3 he rfl (iI_in hj (by omega)) d ?_
  intro H1 locs1 hP1 _ hS1
  refine k H1 locs1 ls ⟨?_, fun c j => ?_⟩ hS1 hl
  · have e := wl_set γ σ c0 (upr (σ c0) j x)
    rw [hs] at e
    rw [← e]
    have key : (fun i : Nat => lI (upr (σ c0) j x (i : Int))) = vp_updL (fun j => lI (σ c0 (j : Int))) (iI j).toNatClampNeg (lI x) := by
      funext i
      unfold upr vp_updL
      rw [iI_cl (by omega)]
      by_cases h : i = j.toNat
      · rw [if_pos h, if_pos (by omega)]
      · rw [if_neg h, if_neg (by omega)]
    show va_P γ.2.2.2.1 classes (List.set (wl γ σ) c0 (bs γ + c0, .inl (γ.2.2.2.2.1 3, n, .inr (.inl (fun i : Nat => lI (upr (σ c0) j x (i : Int))))))) H1
    rw [key]
    exact hP1
  · exact rng_up hW.2 hx c j
theorem v_gets (C : Cx γ φ own cc nL lev) {ix : Nat} (k0 : Nat) (hk : k0 < 6) (hw : Wrd γ (.fieldLink own ix RX4 (tbN k0) "[I")) (d : decode cc pc = .ok (.getstatic ix, 3)) (k : Vw γ φ nL a b Q σ (pc + 3) lv (.ref (γ.2.2.2.2.2 k0) :: st)) : Vw γ φ nL a b Q σ pc lv st := fun H locs ls hW hS hl => va_gets C.2.1 C.2.2.1 (va_Z.moved C.2.2.2.2.2.1.1.alike (va_Z.kept (C.1.2.2.2.1 k0 hk).1 (fun q hq hA => C.2.2.2.2.2.1.2.2 q hq))) hS C.2.2.2.2.1 (hw _ _ C.2.2.2.2.2.1.1) (fun _ h => h) d (k H locs ls hW hS hl)
theorem v_tlen (C : Cx γ φ own cc nL lev) (k0 : Nat) (hk : k0 < 6) (d : decode cc pc = .ok (.arraylength, 1)) (k : Vw γ φ nL a b Q σ (pc + 1) lv (.int (iI ((tbL k0).length : Int)) :: st)) : Vw γ φ nL a b Q σ pc lv (.ref (γ.2.2.2.2.2 k0) :: st) := fun H locs ls hW hS hl => va_tlen C.2.1 C.2.2.1 (va_T.moved C.2.2.2.2.2.1.1.alike (va_T.kept (C.1.2.2.2.1 k0 hk).2 (fun q hq hA => C.2.2.2.2.2.1.2.2 q hq))) hS (v := iI ((tbL k0).length : Int)) Int32.ofInt_eq_ofNat.symm d (k H locs ls hW hS hl)
theorem v_tald (C : Cx γ φ own cc nL lev) (k0 : Nat) (hk : k0 < 6) {j : Int} (hj : 0 ≤ j ∧ j < ((tbL k0).length : Int)) (hl9 : (tbL k0).length ≤ 4000) (d : decode cc pc = .ok (.iaload, 1)) (k : Vw γ φ nL a b Q σ (pc + 1) lv (.int (iI ((tbL k0).getD j.toNat 0)) :: st)) : Vw γ φ nL a b Q σ pc lv (.int (iI j) :: .ref (γ.2.2.2.2.2 k0) :: st) := fun H locs ls hW hS hl => va_ti C.2.1 C.2.2.1 (va_T.moved C.2.2.2.2.2.1.1.alike (va_T.kept (C.1.2.2.2.1 k0 hk).2 (fun q hq hA => C.2.2.2.2.2.1.2.2 q hq))) hS (iI_in hj (by omega)) (v := .int (iI ((tbL k0).getD j.toNat 0))) (by rw [iI_cl (by omega)]) d (k H locs ls hW hS hl)
theorem v_iret {post : Option Value → St → Prop} {rt : FieldType} (C : Cx γ φ own cc nL lev) (hr : φ.2.2.2.2.2.2.2.1.sig.returnType = some rt) {x : Int} (hn : narrow rt (.int (iI x)) = .int (iI x)) (d : decode cc pc = .ok (.ireturn, 1)) (hp : post (some (.int (iI x))) σ) : Vw γ φ nL 0 0 (QE γ φ post) σ pc lv [.int (iI x)] := fun H locs ls hW hS hl => W.zret C.2.1 C.2.2.1 hr hn (fun t ht hWt => ⟨_, σ, rfl, hp, by rw [ht]; exact hW, hS.F ht⟩) hS.2.2 d C.2.2.2.2.2.2.1
theorem v_lret {post : Option Value → St → Prop} (C : Cx γ φ own cc nL lev) (hr : φ.2.2.2.2.2.2.2.1.sig.returnType = some .long) {x : Int} (d : decode cc pc = .ok (.lreturn, 1)) (hp : post (some (.long (lI x))) σ) : Vw γ φ nL 0 0 (QE γ φ post) σ pc lv [.long (lI x)] := fun H locs ls hW hS hl => W.lret C.2.1 C.2.2.1 hr (fun t ht hWt => ⟨_, σ, rfl, hp, by rw [ht]; exact hW, hS.F ht⟩) hS.2.2 d C.2.2.2.2.2.2.1
theorem v_vret {post : Option Value → St → Prop} (C : Cx γ φ own cc nL lev) (hr : φ.2.2.2.2.2.2.2.1.sig.returnType = none) (d : decode cc pc = .ok (.return_, 1)) (hp : post none σ) : Vw γ φ nL 0 0 (QE γ φ post) σ pc lv [] := fun H locs ls hW hS hl => W.vret C.2.1 C.2.2.1 hr (fun t ht hWt => ⟨_, σ, rfl, hp, by rw [ht]; exact hW, hS.F ht⟩) hS.2.2 d C.2.2.2.2.2.2.1
theorem v_aret {post : Option Value → St → Prop} {rt : FieldType} (C : Cx γ φ own cc nL lev) (hr : φ.2.2.2.2.2.2.2.1.sig.returnType = some (.array rt)) {x : Nat} (d : decode cc pc = .ok (.areturn, 1)) (hp : post (some (.ref x)) σ) : Vw γ φ nL 0 0 (QE γ φ post) σ pc lv [.ref x] := fun H locs ls hW hS hl => W.aret C.2.1 C.2.2.1 hr (Or.inr ⟨_, rfl⟩) (Or.inr ⟨_, rfl⟩) (fun t ht hWt => ⟨_, σ, rfl, hp, by rw [ht]; exact hW, hS.F ht⟩) hS.2.2 d C.2.2.2.2.2.2.1
end VR
end
