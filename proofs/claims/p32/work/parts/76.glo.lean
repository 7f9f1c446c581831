/-! what the start gives: the classes, the arrays, the tables -/
theorem arr_prim {args : Array Value} {s : State} {ty : FieldType} (h : (Cond.arrayClass ty).before args s = true) (hr : ∀ cA : ClassId, s.vm.findClass ("[" ++ ty.toString) = some cA → va_RA s cA ty) : ∃ cA : ClassId, ArrOfT s cA ty ∧ va_RA s cA ty := by
  obtain ⟨cA, kA, comp, h1, h2, h3⟩ := Cond.arrayClass_spec h
  exact ⟨cA, fun N z => ⟨(fun k h => by cases h), kA, h2, comp, h3⟩, hr cA h1⟩
theorem arr_obj {args : Array Value} {s : State} {n : String} (h : (Cond.arrayOver (.object n)).before args s = true) : ∃ cA : ClassId, ArrOfT s cA (.object n) ∧ va_RA s cA (.object n) := by
  obtain ⟨comp, cA, kA, h1, h2, h3, h4, h5⟩ := Cond.arrayOver_spec h
  exact ⟨cA, fun N z => ⟨(fun k h => by cases h), kA, h3, comp, h4⟩, kA, comp, h3, h4, h1, h5⟩
theorem tab_0 {args : Array Value} {s : State} {A : Nat → Prop} (hgv : (Jvm.Cond.and given_1 narrow_1).before args s = true) (hts : ∀ w ∈ lw_tbl, w.before args s = true) (hA : ∀ a : Nat, a < s.heap.size → ¬ A a) : ∃ t : Nat, va_Z RX4 (tbN 0) "[I" (.ref t) A s s.heap ∧ va_T .int t (tbL 0).length (fun j => .int (iI ((tbL 0).getD j 0))) A s s.heap := by
  have hs := flat_of_before _ hgv
  have h1 : (Cond.arrayOf (.static RX4 "VALVE_NUMBERS" "[I") .int).before args s = true := hs _ (by decide +kernel)
  have h2 : (Cond.eq (.length (.static RX4 "VALVE_NUMBERS" "[I")) (.int 4)).before args s = true := hs _ (by decide +kernel)
  have h3 : (Cond.laysStatic RX4 "VALVE_NUMBERS" "[I").before args s = true := hts _ (List.mem_of_getElem? (i := 315) (by decide +kernel))
  have h4 : (Cond.initialized RX4).before args s = true := hts _ (List.mem_of_getElem? (i := 12) (by decide +kernel))
  have e0 : (Cond.eq (.elem (.static RX4 "VALVE_NUMBERS" "[I") (.int 0)) (.int 0)).before args s = true := hs _ (by decide +kernel)
  have e1 : (Cond.eq (.elem (.static RX4 "VALVE_NUMBERS" "[I") (.int 1)) (.int 4)).before args s = true := hs _ (by decide +kernel)
  have e2 : (Cond.eq (.elem (.static RX4 "VALVE_NUMBERS" "[I") (.int 2)) (.int 10)).before args s = true := hs _ (by decide +kernel)
  have e3 : (Cond.eq (.elem (.static RX4 "VALVE_NUMBERS" "[I") (.int 3)) (.int 99)).before args s = true := hs _ (by decide +kernel)
  have hel : ∀ j : Nat, j < 4 → (Term.elem (.static RX4 "VALVE_NUMBERS" "[I") (.int (Int32.ofNat j))).eval args s none [] s = some (.int (iI ((tbL 0).getD j 0))) := by
    intro j hj
    rcases (show j = 0 ∨ j = 1 ∨ j = 2 ∨ j = 3 by omega) with rfl | rfl | rfl | rfl
    · exact (va_eqt e0).trans (by decide)
    · exact (va_eqt e1).trans (by decide)
    · exact (va_eqt e2).trans (by decide)
    · exact (va_eqt e3).trans (by decide)
  obtain ⟨t, ht, hT⟩ := va_Tof (A := A) (N := 4) (by decide) h1 (va_eqt h2) hel hA
  exact ⟨t, va_Zref h3 h4 ht hA, hT⟩
theorem tab_1 {args : Array Value} {s : State} {A : Nat → Prop} (hgv : (Jvm.Cond.and given_1 narrow_1).before args s = true) (hts : ∀ w ∈ lw_tbl, w.before args s = true) (hA : ∀ a : Nat, a < s.heap.size → ¬ A a) : ∃ t : Nat, va_Z RX4 (tbN 1) "[I" (.ref t) A s s.heap ∧ va_T .int t (tbL 1).length (fun j => .int (iI ((tbL 1).getD j 0))) A s s.heap := by
  have hs := flat_of_before _ hgv
  have h1 : (Cond.arrayOf (.static RX4 "DUCT_NUMBERS" "[I") .int).before args s = true := hs _ (by decide +kernel)
  have h2 : (Cond.eq (.length (.static RX4 "DUCT_NUMBERS" "[I")) (.int 10)).before args s = true := hs _ (by decide +kernel)
  have h3 : (Cond.laysStatic RX4 "DUCT_NUMBERS" "[I").before args s = true := hts _ (List.mem_of_getElem? (i := 317) (by decide +kernel))
  have h4 : (Cond.initialized RX4).before args s = true := hts _ (List.mem_of_getElem? (i := 12) (by decide +kernel))
  have e0 : (Cond.eq (.elem (.static RX4 "DUCT_NUMBERS" "[I") (.int 0)) (.int 0)).before args s = true := hs _ (by decide +kernel)
  have e1 : (Cond.eq (.elem (.static RX4 "DUCT_NUMBERS" "[I") (.int 1)) (.int 9)).before args s = true := hs _ (by decide +kernel)
  have e2 : (Cond.eq (.elem (.static RX4 "DUCT_NUMBERS" "[I") (.int 2)) (.int 0)).before args s = true := hs _ (by decide +kernel)
  have e3 : (Cond.eq (.elem (.static RX4 "DUCT_NUMBERS" "[I") (.int 3)) (.int 1)).before args s = true := hs _ (by decide +kernel)
  have e4 : (Cond.eq (.elem (.static RX4 "DUCT_NUMBERS" "[I") (.int 4)) (.int 0)).before args s = true := hs _ (by decide +kernel)
  have e5 : (Cond.eq (.elem (.static RX4 "DUCT_NUMBERS" "[I") (.int 5)) (.int 9)).before args s = true := hs _ (by decide +kernel)
  have e6 : (Cond.eq (.elem (.static RX4 "DUCT_NUMBERS" "[I") (.int 6)) (.int 0)).before args s = true := hs _ (by decide +kernel)
  have e7 : (Cond.eq (.elem (.static RX4 "DUCT_NUMBERS" "[I") (.int 7)) (.int 1)).before args s = true := hs _ (by decide +kernel)
  have e8 : (Cond.eq (.elem (.static RX4 "DUCT_NUMBERS" "[I") (.int 8)) (.int 1)).before args s = true := hs _ (by decide +kernel)
  have e9 : (Cond.eq (.elem (.static RX4 "DUCT_NUMBERS" "[I") (.int 9)) (.int 6)).before args s = true := hs _ (by decide +kernel)
  have hel : ∀ j : Nat, j < 10 → (Term.elem (.static RX4 "DUCT_NUMBERS" "[I") (.int (Int32.ofNat j))).eval args s none [] s = some (.int (iI ((tbL 1).getD j 0))) := by
    intro j hj
    rcases (show j = 0 ∨ j = 1 ∨ j = 2 ∨ j = 3 ∨ j = 4 ∨ j = 5 ∨ j = 6 ∨ j = 7 ∨ j = 8 ∨ j = 9 by omega) with rfl | rfl | rfl | rfl | rfl | rfl | rfl | rfl | rfl | rfl
    · exact (va_eqt e0).trans (by decide)
    · exact (va_eqt e1).trans (by decide)
    · exact (va_eqt e2).trans (by decide)
    · exact (va_eqt e3).trans (by decide)
    · exact (va_eqt e4).trans (by decide)
    · exact (va_eqt e5).trans (by decide)
    · exact (va_eqt e6).trans (by decide)
    · exact (va_eqt e7).trans (by decide)
    · exact (va_eqt e8).trans (by decide)
    · exact (va_eqt e9).trans (by decide)
  obtain ⟨t, ht, hT⟩ := va_Tof (A := A) (N := 10) (by decide) h1 (va_eqt h2) hel hA
  exact ⟨t, va_Zref h3 h4 ht hA, hT⟩
theorem tab_2 {args : Array Value} {s : State} {A : Nat → Prop} (hgv : (Jvm.Cond.and given_1 narrow_1).before args s = true) (hts : ∀ w ∈ lw_tbl, w.before args s = true) (hA : ∀ a : Nat, a < s.heap.size → ¬ A a) : ∃ t : Nat, va_Z RX4 (tbN 2) "[I" (.ref t) A s s.heap ∧ va_T .int t (tbL 2).length (fun j => .int (iI ((tbL 2).getD j 0))) A s s.heap := by
  have hs := flat_of_before _ hgv
  have h1 : (Cond.arrayOf (.static RX4 "KEY_NUMBERS" "[I") .int).before args s = true := hs _ (by decide +kernel)
  have h2 : (Cond.eq (.length (.static RX4 "KEY_NUMBERS" "[I")) (.int 2)).before args s = true := hs _ (by decide +kernel)
  have h3 : (Cond.laysStatic RX4 "KEY_NUMBERS" "[I").before args s = true := hts _ (List.mem_of_getElem? (i := 319) (by decide +kernel))
  have h4 : (Cond.initialized RX4).before args s = true := hts _ (List.mem_of_getElem? (i := 12) (by decide +kernel))
  have e0 : (Cond.eq (.elem (.static RX4 "KEY_NUMBERS" "[I") (.int 0)) (.int 0)).before args s = true := hs _ (by decide +kernel)
  have e1 : (Cond.eq (.elem (.static RX4 "KEY_NUMBERS" "[I") (.int 1)) (.int 9)).before args s = true := hs _ (by decide +kernel)
  have hel : ∀ j : Nat, j < 2 → (Term.elem (.static RX4 "KEY_NUMBERS" "[I") (.int (Int32.ofNat j))).eval args s none [] s = some (.int (iI ((tbL 2).getD j 0))) := by
    intro j hj
    rcases (show j = 0 ∨ j = 1 by omega) with rfl | rfl
    · exact (va_eqt e0).trans (by decide)
    · exact (va_eqt e1).trans (by decide)
  obtain ⟨t, ht, hT⟩ := va_Tof (A := A) (N := 2) (by decide) h1 (va_eqt h2) hel hA
  exact ⟨t, va_Zref h3 h4 ht hA, hT⟩
theorem tab_3 {args : Array Value} {s : State} {A : Nat → Prop} (hgv : (Jvm.Cond.and given_1 narrow_1).before args s = true) (hts : ∀ w ∈ lw_tbl, w.before args s = true) (hA : ∀ a : Nat, a < s.heap.size → ¬ A a) : ∃ t : Nat, va_Z RX4 (tbN 3) "[I" (.ref t) A s s.heap ∧ va_T .int t (tbL 3).length (fun j => .int (iI ((tbL 3).getD j 0))) A s s.heap := by
  have hs := flat_of_before _ hgv
  have h1 : (Cond.arrayOf (.static RX4 "LEAK_NUMBERS" "[I") .int).before args s = true := hs _ (by decide +kernel)
  have h2 : (Cond.eq (.length (.static RX4 "LEAK_NUMBERS" "[I")) (.int 4)).before args s = true := hs _ (by decide +kernel)
  have h3 : (Cond.laysStatic RX4 "LEAK_NUMBERS" "[I").before args s = true := hts _ (List.mem_of_getElem? (i := 321) (by decide +kernel))
  have h4 : (Cond.initialized RX4).before args s = true := hts _ (List.mem_of_getElem? (i := 12) (by decide +kernel))
  have e0 : (Cond.eq (.elem (.static RX4 "LEAK_NUMBERS" "[I") (.int 0)) (.int 0)).before args s = true := hs _ (by decide +kernel)
  have e1 : (Cond.eq (.elem (.static RX4 "LEAK_NUMBERS" "[I") (.int 1)) (.int 15)).before args s = true := hs _ (by decide +kernel)
  have e2 : (Cond.eq (.elem (.static RX4 "LEAK_NUMBERS" "[I") (.int 2)) (.int 0)).before args s = true := hs _ (by decide +kernel)
  have e3 : (Cond.eq (.elem (.static RX4 "LEAK_NUMBERS" "[I") (.int 3)) (.int 30)).before args s = true := hs _ (by decide +kernel)
  have hel : ∀ j : Nat, j < 4 → (Term.elem (.static RX4 "LEAK_NUMBERS" "[I") (.int (Int32.ofNat j))).eval args s none [] s = some (.int (iI ((tbL 3).getD j 0))) := by
    intro j hj
    rcases (show j = 0 ∨ j = 1 ∨ j = 2 ∨ j = 3 by omega) with rfl | rfl | rfl | rfl
    · exact (va_eqt e0).trans (by decide)
    · exact (va_eqt e1).trans (by decide)
    · exact (va_eqt e2).trans (by decide)
    · exact (va_eqt e3).trans (by decide)
  obtain ⟨t, ht, hT⟩ := va_Tof (A := A) (N := 4) (by decide) h1 (va_eqt h2) hel hA
  exact ⟨t, va_Zref h3 h4 ht hA, hT⟩
theorem tab_4 {args : Array Value} {s : State} {A : Nat → Prop} (hgv : (Jvm.Cond.and given_1 narrow_1).before args s = true) (hts : ∀ w ∈ lw_tbl, w.before args s = true) (hA : ∀ a : Nat, a < s.heap.size → ¬ A a) : ∃ t : Nat, va_Z RX4 (tbN 4) "[I" (.ref t) A s s.heap ∧ va_T .int t (tbL 4).length (fun j => .int (iI ((tbL 4).getD j 0))) A s s.heap := by
  have hs := flat_of_before _ hgv
  have h1 : (Cond.arrayOf (.static RX4 "TICK_NUMBERS" "[I") .int).before args s = true := hs _ (by decide +kernel)
  have h2 : (Cond.eq (.length (.static RX4 "TICK_NUMBERS" "[I")) (.int 2)).before args s = true := hs _ (by decide +kernel)
  have h3 : (Cond.laysStatic RX4 "TICK_NUMBERS" "[I").before args s = true := hts _ (List.mem_of_getElem? (i := 323) (by decide +kernel))
  have h4 : (Cond.initialized RX4).before args s = true := hts _ (List.mem_of_getElem? (i := 12) (by decide +kernel))
  have e0 : (Cond.eq (.elem (.static RX4 "TICK_NUMBERS" "[I") (.int 0)) (.int 1)).before args s = true := hs _ (by decide +kernel)
  have e1 : (Cond.eq (.elem (.static RX4 "TICK_NUMBERS" "[I") (.int 1)) (.int 99)).before args s = true := hs _ (by decide +kernel)
  have hel : ∀ j : Nat, j < 2 → (Term.elem (.static RX4 "TICK_NUMBERS" "[I") (.int (Int32.ofNat j))).eval args s none [] s = some (.int (iI ((tbL 4).getD j 0))) := by
    intro j hj
    rcases (show j = 0 ∨ j = 1 by omega) with rfl | rfl
    · exact (va_eqt e0).trans (by decide)
    · exact (va_eqt e1).trans (by decide)
  obtain ⟨t, ht, hT⟩ := va_Tof (A := A) (N := 2) (by decide) h1 (va_eqt h2) hel hA
  exact ⟨t, va_Zref h3 h4 ht hA, hT⟩
theorem tab_5 {args : Array Value} {s : State} {A : Nat → Prop} (hgv : (Jvm.Cond.and given_1 narrow_1).before args s = true) (hts : ∀ w ∈ lw_tbl, w.before args s = true) (hA : ∀ a : Nat, a < s.heap.size → ¬ A a) : ∃ t : Nat, va_Z RX4 (tbN 5) "[I" (.ref t) A s s.heap ∧ va_T .int t (tbL 5).length (fun j => .int (iI ((tbL 5).getD j 0))) A s s.heap := by
  have hs := flat_of_before _ hgv
  have h1 : (Cond.arrayOf (.static RX4 "NO_NUMBERS" "[I") .int).before args s = true := hs _ (by decide +kernel)
  have h2 : (Cond.eq (.length (.static RX4 "NO_NUMBERS" "[I")) (.int 0)).before args s = true := hs _ (by decide +kernel)
  have h3 : (Cond.laysStatic RX4 "NO_NUMBERS" "[I").before args s = true := hts _ (List.mem_of_getElem? (i := 325) (by decide +kernel))
  have h4 : (Cond.initialized RX4).before args s = true := hts _ (List.mem_of_getElem? (i := 12) (by decide +kernel))
  have hel : ∀ j : Nat, j < 0 → (Term.elem (.static RX4 "NO_NUMBERS" "[I") (.int (Int32.ofNat j))).eval args s none [] s = some (.int (iI ((tbL 5).getD j 0))) := by
    intro j hj
    exact absurd hj (by omega)
  obtain ⟨t, ht, hT⟩ := va_Tof (A := A) (N := 0) (by decide) h1 (va_eqt h2) hel hA
  exact ⟨t, va_Zref h3 h4 ht hA, hT⟩

theorem va_Z_sub {C n d : String} {v : Value} {A A' : Nat → Prop} {U : State} {H : Heap} (h : va_Z C n d v A U H) (hA : ∀ q, A' q → A q) : va_Z C n d v A' U H := by
  obtain ⟨cf, kf, fi, f, a, cell, h1, h2, h3, h4, h5, h6, h7, h8⟩ := h
  exact ⟨cf, kf, fi, f, a, cell, h1, h2, h3, h4, h5, h6, h7, fun z => h8 (hA _ z)⟩
theorem va_T_sub {ty : FieldType} {t N : Nat} {f : Nat → Value} {A A' : Nat → Prop} {U : State} {H : Heap} (h : va_T ty t N f A U H) (hA : ∀ q, A' q → A q) : va_T ty t N f A' U H := by
  obtain ⟨cell, h1, h2, h3, h4, h5, h6, h7⟩ := h
  exact ⟨cell, h1, h2, h3, h4, h5, h6, fun z => h7 (hA _ z)⟩
set_option maxHeartbeats 4000000 in
theorem glo_of {l : Launch} {s : State} {args : Array Value} (hflags : l.flags = flags0) (hgv : (Jvm.Cond.and given_1 narrow_1).before args s = true) (hts : ∀ w ∈ lw_tbl, w.before args s = true) : ∃ (D : va_G) (aid : Nat → ClassId) (tb : Nat → Nat), tb 6 = 0 ∧ GL (l, s, args, D, aid, tb) := by
  have hs := flat_of_before _ hgv
  have hA : ∀ a : Nat, a < s.heap.size → ¬ (fun q : Nat => s.heap.size ≤ q) a := fun a h => Nat.not_le.mpr h
  obtain ⟨c0, iS0, hKn0⟩ := u_known (C := RX1) (T := TX1) (N := 3) (n := 3) hts inX1 (hts (.instantiable RX1 3) (List.mem_of_getElem? (i := 149) (by decide +kernel)))
  obtain ⟨c1, iS1, hKn1⟩ := u_known (C := RX2) (T := TX2) (N := 16) (n := 16) hts inX2 (hts (.instantiable RX2 16) (List.mem_of_getElem? (i := 71) (by decide +kernel)))
  obtain ⟨c2, iS2, hKn2⟩ := u_known (C := RX4) (T := TX4) (N := 5) (n := 5) hts inX4 (hts (.instantiable RX4 5) (List.mem_of_getElem? (i := 45) (by decide +kernel)))
  obtain ⟨c3, iS3, hKn3⟩ := u_known (C := RX5) (T := TX5) (N := 7) (n := 7) hts inX5 (hts (.instantiable RX5 7) (List.mem_of_getElem? (i := 37) (by decide +kernel)))
  obtain ⟨a0, hAr0, hRA0⟩ := arr_prim (hts (.arrayClass .int) (List.mem_of_getElem? (i := 69) (by decide +kernel))) (fun _ h => h)
  obtain ⟨a1, hAr1, hRA1⟩ := arr_prim (hts (.arrayClass .char) (List.mem_of_getElem? (i := 68) (by decide +kernel))) (fun _ h => h)
  obtain ⟨a2, hAr2, hRA2⟩ := arr_prim (hts (.arrayClass .boolean) (List.mem_of_getElem? (i := 190) (by decide +kernel))) (fun _ h => h)
  obtain ⟨a4, hAr4, hRA4⟩ := arr_obj (hts (.arrayOver (.object RX2)) (List.mem_of_getElem? (i := 155) (by decide +kernel)))
  obtain ⟨t0, hZ0, hT0⟩ := tab_0 (A := fun q : Nat => s.heap.size ≤ q) hgv hts hA
  obtain ⟨t1, hZ1, hT1⟩ := tab_1 (A := fun q : Nat => s.heap.size ≤ q) hgv hts hA
  obtain ⟨t2, hZ2, hT2⟩ := tab_2 (A := fun q : Nat => s.heap.size ≤ q) hgv hts hA
  obtain ⟨t3, hZ3, hT3⟩ := tab_3 (A := fun q : Nat => s.heap.size ≤ q) hgv hts hA
  obtain ⟨t4, hZ4, hT4⟩ := tab_4 (A := fun q : Nat => s.heap.size ≤ q) hgv hts hA
  obtain ⟨t5, hZ5, hT5⟩ := tab_5 (A := fun q : Nat => s.heap.size ≤ q) hgv hts hA
  have hst : l.stackTraces = false := by
    unfold Launch.stackTraces
    rw [hflags]
    decide +kernel
  have key : ∀ tb : Nat → Nat, tb 0 = t0 → tb 1 = t1 → tb 2 = t2 → tb 3 = t3 → tb 4 = t4 → tb 5 = t5 → Glo (l, s, args, (fun k => match k with | 0 => c0 | 1 => c1 | 2 => c2 | _ => c3, fun k => match k with | 0 => iS0 | 1 => iS1 | 2 => iS2 | _ => iS3), fun k => match k with | 0 => a0 | 1 => a1 | 2 => a2 | 3 => a0 | _ => a4, tb) := by
    intro tb b0 b1 b2 b3 b4 b5
    generalize hγ : ((l, s, args, (fun k => match k with | 0 => c0 | 1 => c1 | 2 => c2 | _ => c3, fun k => match k with | 0 => iS0 | 1 => iS1 | 2 => iS2 | _ => iS3), fun k => match k with | 0 => a0 | 1 => a1 | 2 => a2 | 3 => a0 | _ => a4, tb) : Gm) = γ
    have hsub : ∀ q, Ar γ q → s.heap.size ≤ q := by
      intro q hq
      rw [← hγ] at hq
      have h1 : s.heap.size + tb 6 ≤ q := hq.1
      omega
    have hAA : ∀ a : Nat, a < s.heap.size → ¬ Ar γ a := fun a h z => absurd (hsub a z) (Nat.not_le.mpr h)
    have e1 : γ.1 = l := by rw [← hγ]
    have e2 : γ.2.1 = s := by rw [← hγ]
    have e3 : γ.2.2.1 = args := by rw [← hγ]
    have e5 : γ.2.2.2.2.2 = tb := by rw [← hγ]
    refine ⟨by rw [e1]; exact hst, by rw [e2, e3]; exact hts, ?_, fun k hk => ?_, ?_, ?_⟩
    · rw [← hγ]
      refine ⟨fun k q hq => ?_, fun k q hq => ?_⟩
      · match k, hq with
        | 0, hq => cases hq; exact hKn0
        | 1, hq => cases hq; exact hKn1
        | 2, hq => cases hq; exact hKn2
        | 3, hq => cases hq; exact hKn3
        | k + 4, hq => simp [classes] at hq
      · match k, hq with
        | 0, hq => cases hq; exact ⟨hAr0, hRA0⟩
        | 1, hq => cases hq; exact ⟨hAr1, hRA1⟩
        | 2, hq => cases hq; exact ⟨hAr2, hRA2⟩
        | 3, hq => cases hq; exact ⟨hAr0, hRA0⟩
        | 4, hq => cases hq; exact ⟨hAr4, hRA4⟩
        | k + 5, hq => simp [tys] at hq
    · rw [e2, e5]
      match k, hk with
      | 0, _ => rw [b0]; exact ⟨va_Z_sub hZ0 hsub, va_T_sub hT0 hsub⟩
      | 1, _ => rw [b1]; exact ⟨va_Z_sub hZ1 hsub, va_T_sub hT1 hsub⟩
      | 2, _ => rw [b2]; exact ⟨va_Z_sub hZ2 hsub, va_T_sub hT2 hsub⟩
      | 3, _ => rw [b3]; exact ⟨va_Z_sub hZ3 hsub, va_T_sub hT3 hsub⟩
      | 4, _ => rw [b4]; exact ⟨va_Z_sub hZ4 hsub, va_T_sub hT4 hsub⟩
      | 5, _ => rw [b5]; exact ⟨va_Z_sub hZ5 hsub, va_T_sub hT5 hsub⟩
      | k + 6, hk => exact absurd hk (by omega)
    · rw [e2]
      exact vx_Zqof (hts _ (List.mem_of_getElem? (i := 233) (by decide +kernel))) (hts _ (List.mem_of_getElem? (i := 15) (by decide +kernel))) (hs _ (by decide +kernel)) hAA
    · rw [e2]
      exact vx_Zqof (hts _ (List.mem_of_getElem? (i := 235) (by decide +kernel))) (hts _ (List.mem_of_getElem? (i := 15) (by decide +kernel))) (hs _ (by decide +kernel)) hAA
  have neSeA : va_Nc eS eA s := va_Nc.of (args := args) (hs (.not (.castable eS eA)) (by decide +kernel))
  have neIeA : va_Nc eI eA s := va_Nc.of (args := args) (hs (.not (.castable eI eA)) (by decide +kernel))
  have neAeS : va_Nc eA eS s := va_Nc.of (args := args) (hs (.not (.castable eA eS)) (by decide +kernel))
  have neIeS : va_Nc eI eS s := va_Nc.of (args := args) (hs (.not (.castable eI eS)) (by decide +kernel))
  have neAeI : va_Nc eA eI s := va_Nc.of (args := args) (hs (.not (.castable eA eI)) (by decide +kernel))
  have neSeI : va_Nc eS eI s := va_Nc.of (args := args) (hs (.not (.castable eS eI)) (by decide +kernel))
  exact ⟨_, _, fun k => match k with | 0 => t0 | 1 => t1 | 2 => t2 | 3 => t3 | 4 => t4 | 5 => t5 | _ => 0, rfl, key _ rfl rfl rfl rfl rfl rfl, key _ rfl rfl rfl rfl rfl rfl, ⟨neSeA, neIeA⟩, ⟨neAeS, neIeS⟩, ⟨neAeI, neSeI⟩⟩
set_option maxHeartbeats 4000000 in
set_option maxRecDepth 100000 in
theorem law_start {γ : Gm} (G : GL γ) {φ : Fx} {b0 L : Nat} {xs : Nat → Int32} {Q : State → Prop} (C : Cx γ φ RL cL_law 9 20) (X : LE γ φ b0 L xs) (hcr : 40000 ≤ φ.2.2.1.cells ∧ 6 * 40000 ≤ φ.2.2.1.slots) (hex : ∀ S : St2, Vl γ φ 9 40000 Q S 325 [] [.int (iI 1)]) (E : Nat → va_E) : Vp γ φ 9 0 0 Q E 0 0 [(0, .ref b0)] [] := by
  refine p_new (pc := 0) C inX5 goX5 tyX5 tyX5_ok (ci := 3) rfl (wCl_L_8 G.1) (wIn_X5 G.1) (wIz_X5 G.1) (fs := [.null, .null, .null, .null, .null, .null, .null]) df_X5 ⟨by omega, by omega⟩ dL_law_0 (fun E1 hE1 hO1 => ?_)
  refine p_m (m' := 1) rfl ?_
  refine p_dup (pc := 3) C rfl dL_law_3 ?_
  refine p_ci (pc := 4) (c := 0) (as := []) C (cy_X5_init G.1) rfl (wM_L_197 G.1) (k_X5_init G.1 hE1) dL_law_4 rfl rfl (by decide) (by decide) (Nat.le_of_ble_eq_true rfl) ⟨by omega, by omega⟩ (fun E2 hF2 => ?_)
  refine p_m (m' := 255) rfl ?_
  refine p_astore_n (pc := 7) C [(1, .ref (bs γ + 0)), (0, .ref b0)] dL_law_7 rfl (by decide) rfl ?_
  refine q_from hF2 (E := fun _ => .inr (0, [])) ?_
  refine q_new (pc := 8) C inX5 goX5 tyX5 tyX5_ok (ci := 3) rfl (wCl_L_8 G.1) (wIn_X5 G.1) (wIz_X5 G.1) (fs := [.null, .null, .null, .null, .null, .null, .null]) df_X5 ⟨by omega, by omega⟩ dL_law_8 (fun E3 hE3 hO3 => ?_)
  refine q_m (m' := 1) rfl ?_
  refine q_dup (pc := 11) C rfl dL_law_11 ?_
  refine q_ci (pc := 12) (c := 0) (as := []) C (cy_X5_init G.1) rfl (wM_L_197 G.1) (k_X5_init G.2.1 hE3) dL_law_12 rfl rfl (by decide) (by decide) (Nat.le_of_ble_eq_true rfl) ⟨by omega, by omega⟩ (fun E4 hF4 => ?_)
  refine q_m (m' := 255) rfl ?_
  refine q_astore_n (pc := 15) C [(2, .ref (bs (gq γ) + 0)), (1, .ref (bs γ + 0)), (0, .ref b0)] dL_law_15 rfl (by decide) rfl ?_
  exact q_done hF4 ⟨by omega, by omega⟩ (law_body G C X hcr hex)
