theorem cA_I {D : va_G} {cl : List vw_C} {cI cJ cZ cO cA : ClassId} {s : State} (h : va_K D cl (TYS cI cJ cZ cO ++ [(cA, .int)]) s) : cI = cA := Option.some.inj (((h.2 0 (cI, .int) rfl).2).symm.trans ((h.2 4 (cA, .int) rfl).2))
theorem cA_J {D : va_G} {cl : List vw_C} {cI cJ cZ cO cA : ClassId} {s : State} (h : va_K D cl (TYS cI cJ cZ cO ++ [(cA, .long)]) s) : cJ = cA := Option.some.inj (((h.2 1 (cJ, .long) rfl).2).symm.trans ((h.2 4 (cA, .long) rfl).2))
theorem cA_Z {D : va_G} {cl : List vw_C} {cI cJ cZ cO cA : ClassId} {s : State} (h : va_K D cl (TYS cI cJ cZ cO ++ [(cA, .boolean)]) s) : cZ = cA := Option.some.inj (((h.2 2 (cZ, .boolean) rfl).2).symm.trans ((h.2 4 (cA, .boolean) rfl).2))
theorem cA_O {D : va_G} {cl : List vw_C} {cI cJ cZ cO cA : ClassId} {s : State} (h : va_K D cl (TYS cI cJ cZ cO ++ [(cA, .object "SimonSays$Image")]) s) : cO = cA := by
  obtain ⟨_, _, _, _, _, h1⟩ := (h.2 3 (cO, .object "SimonSays$Image") rfl).2
  obtain ⟨_, _, _, _, _, h2⟩ := (h.2 4 (cA, .object "SimonSays$Image") rfl).2
  exact Option.some.inj (h1.symm.trans h2)

set_option maxHeartbeats 8000000 in
set_option maxRecDepth 100000 in
theorem k_X8_init (l : Launch) (D : va_G) (cI cJ cZ cO : ClassId) (h0 sz : Nat) : Met l yX8_init wsX8_init ({ frames := 1, cells := 1, slots := 200, locals := 12 } : Room) (va_Pc [.ref h0] (fun U => U.heap.size = sz ∧ va_P D vwCl [(h0, .inr (8, [.null, .int 0]))] U.heap ∧ KK D cI cJ cZ cO U ∧ va_D (fun _ => True) [(h0, .inr (8, [.null, .int 0]))])) (va_Qv (fun (_ : Nat → Nat) => True) (fun q t => va_P D vwCl [(h0, .inr (8, [.ref (q 0), .int 0])), ((q 0), .inl (cI, 200, .inl (fun _ => 0)))] t.heap ∧ va_D (va_A [(h0, .inr (8, [.null, .int 0]))] sz) [(h0, .inr (8, [.ref (q 0), .int 0])), ((q 0), .inl (cI, 200, .inl (fun _ => 0)))]) (va_A [(h0, .inr (8, [.null, .int 0]))] sz)) 1 200 (va_A [(h0, .inr (8, [.null, .int 0]))] sz) := by
  refine Met.ofW (cc := cX8_init) (maxL := 1) (ret := none) (by decide) rfl ?_
  intro p e s m args below meth c s₁ B hml hv
  obtain ⟨rfl, hsz, hP, hKK, hD0⟩ := hv
  have hx := B.exec
  have hb := B.bytes
  have hr := B.returns
  have hts := atoms_spec (ws := wsX8_init) B.pre
  have hown : s.vm.findClass RX8 = some m.cls := findClass_of_methodNamed B.named
  have hlocks := B.notSynchronized
  have hK := hKK.1
  have hin : meth.name = "<init>" := (name_of_methodNamed B.named B.method).1
  have ol3 := hts (.methodLink RX8 3 objectInit) (by decide +kernel)
  have oi := hts (.instanceMethod objectInit) (by decide +kernel)
  have oc := hts (.code objectInit ⟨#[0xb1]⟩ 1 none) (by decide +kernel)
  have acI := hts (.arrayClass .int) (by decide +kernel)
  have fl9 := hts (.fieldLink RX8 9 "SimonSays$Text" "bytes" "[I") (by decide +kernel)
  have inX8 : ∀ w ∈ wsX80, w ∈ wsX8_init := by decide +kernel
  subst hsz
  have hD := hD0.self (sz := s.heap.size)
  generalize hAe : va_A [(h0, .inr (8, [.null, .int 0]))] s.heap.size = A at hD ⊢
  have hA : ∀ q : Nat, s.heap.size ≤ q → A q := fun q h => by rw [← hAe]; exact Or.inr h
  have hS : va_S A s.heap s.heap [] := va_S.rf
  have hl := lv_entry ([.ref h0]) (n := 1) (Nat.le_of_ble_eq_true rfl)
  rw [lg_entry_eq]
  generalize (lg_sl ([.ref h0]) ++ List.replicate (1 - (lg_sl ([.ref h0])).length) Slot.unset).toArray = ls at hl ⊢
  have hl : lv_has ls 1 [(0, .ref h0)] := hl
  refine lv_aload_n hx hb dX8_init_0 rfl (lv_at hl 0 rfl) ?_
  refine W.objInit hx hb hown ol3 oi oc rfl (by rw [hml]; exact hl.1) rfl dX8_init_1 (Nat.le_of_ble_eq_true rfl) (Nat.le_of_ble_eq_true rfl) ?_
  refine W.eq (g2 := F0 m 4 ls []) rfl ?_
  refine lv_aload_n hx hb dX8_init_4 rfl (lv_at hl 0 rfl) ?_
  refine lv_sipush (v := (200 : Int32)) hx hb dX8_init_5 (by decide) ?_
  refine va_newa (atype := .int) (ty := .int) (N' := 200) (a0 := (200, .inl (fun _ => 0))) hx hb acI rfl hK hP hD hS hA (fun _ => rfl) (by decide) (by decide) (by decide) (Nat.le_of_ble_eq_true rfl) (Nat.le_of_ble_eq_true rfl) dX8_init_8 (fun o1 cA H hK2 hP hD hS => ?_)
  have hcA := cA_I hK2
  subst hcA
  have hP : va_P D vwCl [(h0, .inr (8, [.null, .int 0])), (o1, .inl (cI, 200, .inl (fun _ => 0)))] H := hP
  have hD : va_D A [(h0, .inr (8, [.null, .int 0])), (o1, .inl (cI, 200, .inl (fun _ => 0)))] := hD
  refine va_putF (D := D) (ci := 8) (v := .ref o1) (ty := .array .int) (C := RX8) (T := TX8) (N := 2) hx hb hts inX8 tyX8 tyX8_ok nmX8 hown hK hP hD hS 0 rfl rfl 0 (by decide) fl9 (fun _ h9 => h9) rfl hin rfl (by decide +kernel) rfl rfl (Nat.le_of_ble_eq_true rfl) dX8_init_10 (fun H locs hP hD hS => ?_)
  have hP : va_P D vwCl [(h0, .inr (8, [.ref o1, .int 0])), (o1, .inl (cI, 200, .inl (fun _ => 0)))] H := hP
  have hD : va_D A [(h0, .inr (8, [.ref o1, .int 0])), (o1, .inl (cI, 200, .inl (fun _ => 0)))] := hD
  refine W.widen (k := 1) (n := 200) (Nat.le_of_ble_eq_true rfl) (Nat.le_of_ble_eq_true rfl) ?_
  exact W.vret hx hb hr (fun t ht hW => ⟨⟨(fun i => if i = 0 then o1 else  0), rfl, trivial, by rw [ht]; exact hP, hD⟩, hS.F ht⟩) hS.2.2 dX8_init_13

set_option maxHeartbeats 8000000 in
set_option maxRecDepth 100000 in
theorem k_X1_init (l : Launch) (D : va_G) (cI cJ cZ cO : ClassId) (h0 sz : Nat) : Met l yX1_init wsX1_init ({ frames := 1, cells := 3, slots := 18, locals := 12 } : Room) (va_Pc [.ref h0] (fun U => U.heap.size = sz ∧ va_P D vwCl [(h0, .inr (1, [.null, .null, .null, .int 0, .int 0]))] U.heap ∧ KK D cI cJ cZ cO U ∧ va_D (fun _ => True) [(h0, .inr (1, [.null, .null, .null, .int 0, .int 0]))])) (va_Qv (fun (_ : Nat → Nat) => True) (fun q t => va_P D vwCl [(h0, .inr (1, [.ref (q 0), .ref (q 1), .ref (q 2), .int 0, .int 0])), ((q 0), .inl (cI, 6, .inl (fun _ => 0))), ((q 1), .inl (cI, 6, .inl (fun _ => 0))), ((q 2), .inl (cI, 6, .inl (fun _ => 0)))] t.heap ∧ va_D (va_A [(h0, .inr (1, [.null, .null, .null, .int 0, .int 0]))] sz) [(h0, .inr (1, [.ref (q 0), .ref (q 1), .ref (q 2), .int 0, .int 0])), ((q 0), .inl (cI, 6, .inl (fun _ => 0))), ((q 1), .inl (cI, 6, .inl (fun _ => 0))), ((q 2), .inl (cI, 6, .inl (fun _ => 0)))]) (va_A [(h0, .inr (1, [.null, .null, .null, .int 0, .int 0]))] sz)) 3 18 (va_A [(h0, .inr (1, [.null, .null, .null, .int 0, .int 0]))] sz) := by
  refine Met.ofW (cc := cX1_init) (maxL := 1) (ret := none) (by decide) rfl ?_
  intro p e s m args below meth c s₁ B hml hv
  obtain ⟨rfl, hsz, hP, hKK, hD0⟩ := hv
  have hx := B.exec
  have hb := B.bytes
  have hr := B.returns
  have hts := atoms_spec (ws := wsX1_init) B.pre
  have hown : s.vm.findClass RX1 = some m.cls := findClass_of_methodNamed B.named
  have hlocks := B.notSynchronized
  have hK := hKK.1
  have hin : meth.name = "<init>" := (name_of_methodNamed B.named B.method).1
  have ol3 := hts (.methodLink RX1 3 objectInit) (by decide +kernel)
  have oi := hts (.instanceMethod objectInit) (by decide +kernel)
  have oc := hts (.code objectInit ⟨#[0xb1]⟩ 1 none) (by decide +kernel)
  have acI := hts (.arrayClass .int) (by decide +kernel)
  have fl9 := hts (.fieldLink RX1 9 "SimonSays$Children" "slips" "[I") (by decide +kernel)
  have inX1 : ∀ w ∈ wsX10, w ∈ wsX1_init := by decide +kernel
  have fl15 := hts (.fieldLink RX1 15 "SimonSays$Children" "lates" "[I") (by decide +kernel)
  have fl18 := hts (.fieldLink RX1 18 "SimonSays$Children" "copied" "[I") (by decide +kernel)
  subst hsz
  have hD := hD0.self (sz := s.heap.size)
  generalize hAe : va_A [(h0, .inr (1, [.null, .null, .null, .int 0, .int 0]))] s.heap.size = A at hD ⊢
  have hA : ∀ q : Nat, s.heap.size ≤ q → A q := fun q h => by rw [← hAe]; exact Or.inr h
  have hS : va_S A s.heap s.heap [] := va_S.rf
  have hl := lv_entry ([.ref h0]) (n := 1) (Nat.le_of_ble_eq_true rfl)
  rw [lg_entry_eq]
  generalize (lg_sl ([.ref h0]) ++ List.replicate (1 - (lg_sl ([.ref h0])).length) Slot.unset).toArray = ls at hl ⊢
  have hl : lv_has ls 1 [(0, .ref h0)] := hl
  refine lv_aload_n hx hb dX1_init_0 rfl (lv_at hl 0 rfl) ?_
  refine W.objInit hx hb hown ol3 oi oc rfl (by rw [hml]; exact hl.1) rfl dX1_init_1 (Nat.le_of_ble_eq_true rfl) (Nat.le_of_ble_eq_true rfl) ?_
  refine W.eq (g2 := F0 m 4 ls []) rfl ?_
  refine lv_aload_n hx hb dX1_init_4 rfl (lv_at hl 0 rfl) ?_
  refine lv_bipush (v := (6 : Int32)) hx hb dX1_init_5 (by decide) ?_
  refine va_newa (atype := .int) (ty := .int) (N' := 6) (a0 := (6, .inl (fun _ => 0))) hx hb acI rfl hK hP hD hS hA (fun _ => rfl) (by decide) (by decide) (by decide) (Nat.le_of_ble_eq_true rfl) (Nat.le_of_ble_eq_true rfl) dX1_init_7 (fun o1 cA H hK2 hP hD hS => ?_)
  have hcA := cA_I hK2
  subst hcA
  have hP : va_P D vwCl [(h0, .inr (1, [.null, .null, .null, .int 0, .int 0])), (o1, .inl (cI, 6, .inl (fun _ => 0)))] H := hP
  have hD : va_D A [(h0, .inr (1, [.null, .null, .null, .int 0, .int 0])), (o1, .inl (cI, 6, .inl (fun _ => 0)))] := hD
  refine va_putF (D := D) (ci := 1) (v := .ref o1) (ty := .array .int) (C := RX1) (T := TX1) (N := 5) hx hb hts inX1 tyX1 tyX1_ok nmX1 hown hK hP hD hS 0 rfl rfl 0 (by decide) fl9 (fun _ h9 => h9) rfl hin rfl (by decide +kernel) rfl rfl (Nat.le_of_ble_eq_true rfl) dX1_init_9 (fun H locs hP hD hS => ?_)
  have hP : va_P D vwCl [(h0, .inr (1, [.ref o1, .null, .null, .int 0, .int 0])), (o1, .inl (cI, 6, .inl (fun _ => 0)))] H := hP
  have hD : va_D A [(h0, .inr (1, [.ref o1, .null, .null, .int 0, .int 0])), (o1, .inl (cI, 6, .inl (fun _ => 0)))] := hD
  refine lv_aload_n hx hb dX1_init_12 rfl (lv_at hl 0 rfl) ?_
  refine lv_bipush (v := (6 : Int32)) hx hb dX1_init_13 (by decide) ?_
  refine va_newa (atype := .int) (ty := .int) (N' := 6) (a0 := (6, .inl (fun _ => 0))) hx hb acI rfl hK hP hD hS hA (fun _ => rfl) (by decide) (by decide) (by decide) (Nat.le_of_ble_eq_true rfl) (Nat.le_of_ble_eq_true rfl) dX1_init_15 (fun o2 cA H hK2 hP hD hS => ?_)
  have hcA := cA_I hK2
  subst hcA
  have hP : va_P D vwCl [(h0, .inr (1, [.ref o1, .null, .null, .int 0, .int 0])), (o1, .inl (cI, 6, .inl (fun _ => 0))), (o2, .inl (cI, 6, .inl (fun _ => 0)))] H := hP
  have hD : va_D A [(h0, .inr (1, [.ref o1, .null, .null, .int 0, .int 0])), (o1, .inl (cI, 6, .inl (fun _ => 0))), (o2, .inl (cI, 6, .inl (fun _ => 0)))] := hD
  refine va_putF (D := D) (ci := 1) (v := .ref o2) (ty := .array .int) (C := RX1) (T := TX1) (N := 5) hx hb hts inX1 tyX1 tyX1_ok nmX1 hown hK hP hD hS 0 rfl rfl 1 (by decide) fl15 (fun _ h9 => h9) rfl hin rfl (by decide +kernel) rfl rfl (Nat.le_of_ble_eq_true rfl) dX1_init_17 (fun H locs hP hD hS => ?_)
  have hP : va_P D vwCl [(h0, .inr (1, [.ref o1, .ref o2, .null, .int 0, .int 0])), (o1, .inl (cI, 6, .inl (fun _ => 0))), (o2, .inl (cI, 6, .inl (fun _ => 0)))] H := hP
  have hD : va_D A [(h0, .inr (1, [.ref o1, .ref o2, .null, .int 0, .int 0])), (o1, .inl (cI, 6, .inl (fun _ => 0))), (o2, .inl (cI, 6, .inl (fun _ => 0)))] := hD
  refine lv_aload_n hx hb dX1_init_20 rfl (lv_at hl 0 rfl) ?_
  refine lv_bipush (v := (6 : Int32)) hx hb dX1_init_21 (by decide) ?_
  refine va_newa (atype := .int) (ty := .int) (N' := 6) (a0 := (6, .inl (fun _ => 0))) hx hb acI rfl hK hP hD hS hA (fun _ => rfl) (by decide) (by decide) (by decide) (Nat.le_of_ble_eq_true rfl) (Nat.le_of_ble_eq_true rfl) dX1_init_23 (fun o3 cA H hK2 hP hD hS => ?_)
  have hcA := cA_I hK2
  subst hcA
  have hP : va_P D vwCl [(h0, .inr (1, [.ref o1, .ref o2, .null, .int 0, .int 0])), (o1, .inl (cI, 6, .inl (fun _ => 0))), (o2, .inl (cI, 6, .inl (fun _ => 0))), (o3, .inl (cI, 6, .inl (fun _ => 0)))] H := hP
  have hD : va_D A [(h0, .inr (1, [.ref o1, .ref o2, .null, .int 0, .int 0])), (o1, .inl (cI, 6, .inl (fun _ => 0))), (o2, .inl (cI, 6, .inl (fun _ => 0))), (o3, .inl (cI, 6, .inl (fun _ => 0)))] := hD
  refine va_putF (D := D) (ci := 1) (v := .ref o3) (ty := .array .int) (C := RX1) (T := TX1) (N := 5) hx hb hts inX1 tyX1 tyX1_ok nmX1 hown hK hP hD hS 0 rfl rfl 2 (by decide) fl18 (fun _ h9 => h9) rfl hin rfl (by decide +kernel) rfl rfl (Nat.le_of_ble_eq_true rfl) dX1_init_25 (fun H locs hP hD hS => ?_)
  have hP : va_P D vwCl [(h0, .inr (1, [.ref o1, .ref o2, .ref o3, .int 0, .int 0])), (o1, .inl (cI, 6, .inl (fun _ => 0))), (o2, .inl (cI, 6, .inl (fun _ => 0))), (o3, .inl (cI, 6, .inl (fun _ => 0)))] H := hP
  have hD : va_D A [(h0, .inr (1, [.ref o1, .ref o2, .ref o3, .int 0, .int 0])), (o1, .inl (cI, 6, .inl (fun _ => 0))), (o2, .inl (cI, 6, .inl (fun _ => 0))), (o3, .inl (cI, 6, .inl (fun _ => 0)))] := hD
  refine W.widen (k := 3) (n := 18) (Nat.le_of_ble_eq_true rfl) (Nat.le_of_ble_eq_true rfl) ?_
  exact W.vret hx hb hr (fun t ht hW => ⟨⟨(fun i => if i = 0 then o1 else if i = 1 then o2 else if i = 2 then o3 else  0), rfl, trivial, by rw [ht]; exact hP, hD⟩, hS.F ht⟩) hS.2.2 dX1_init_28

set_option maxHeartbeats 8000000 in
set_option maxRecDepth 100000 in
theorem k_X5_init (l : Launch) (D : va_G) (cI cJ cZ cO : ClassId) (h0 sz : Nat) (b0 : Nat) : Met l yX5_init wsX5_init ({ frames := 2, cells := 4, slots := 23, locals := 32 } : Room) (va_Pc [.ref h0, .ref b0] (fun U => U.heap.size = sz ∧ va_P D vwCl [(h0, .inr (5, [.null, .null, .int 0, .int 0, .int 0, .int 0]))] U.heap ∧ KK D cI cJ cZ cO U ∧ va_D (fun _ => True) [(h0, .inr (5, [.null, .null, .int 0, .int 0, .int 0, .int 0]))])) (va_Qv (fun (_ : Nat → Nat) => True) (fun q t => va_P D vwCl [(h0, .inr (5, [.ref b0, .ref (q 0), .int 0, .int 0, .int 0, .int 0])), ((q 0), .inr (1, [.ref (q 1), .ref (q 2), .ref (q 3), .int 0, .int 0])), ((q 1), .inl (cI, 6, .inl (fun _ => 0))), ((q 2), .inl (cI, 6, .inl (fun _ => 0))), ((q 3), .inl (cI, 6, .inl (fun _ => 0)))] t.heap ∧ va_D (va_A [(h0, .inr (5, [.null, .null, .int 0, .int 0, .int 0, .int 0]))] sz) [(h0, .inr (5, [.ref b0, .ref (q 0), .int 0, .int 0, .int 0, .int 0])), ((q 0), .inr (1, [.ref (q 1), .ref (q 2), .ref (q 3), .int 0, .int 0])), ((q 1), .inl (cI, 6, .inl (fun _ => 0))), ((q 2), .inl (cI, 6, .inl (fun _ => 0))), ((q 3), .inl (cI, 6, .inl (fun _ => 0)))]) (va_A [(h0, .inr (5, [.null, .null, .int 0, .int 0, .int 0, .int 0]))] sz)) 4 23 (va_A [(h0, .inr (5, [.null, .null, .int 0, .int 0, .int 0, .int 0]))] sz) := by
  refine Met.ofW (cc := cX5_init) (maxL := 2) (ret := none) (by decide) rfl ?_
  intro p e s m args below meth c s₁ B hml hv
  obtain ⟨rfl, hsz, hP, hKK, hD0⟩ := hv
  have hx := B.exec
  have hb := B.bytes
  have hr := B.returns
  have hts := atoms_spec (ws := wsX5_init) B.pre
  have hown : s.vm.findClass RX5 = some m.cls := findClass_of_methodNamed B.named
  have hlocks := B.notSynchronized
  have hK := hKK.1
  have hin : meth.name = "<init>" := (name_of_methodNamed B.named B.method).1
  have ol3 := hts (.methodLink RX5 3 objectInit) (by decide +kernel)
  have oi := hts (.instanceMethod objectInit) (by decide +kernel)
  have oc := hts (.code objectInit ⟨#[0xb1]⟩ 1 none) (by decide +kernel)
  have fl9 := hts (.fieldLink RX5 9 "SimonSays$Reader" "text" "LSimonSays$Text;") (by decide +kernel)
  have inX5 : ∀ w ∈ wsX50, w ∈ wsX5_init := by decide +kernel
  have cl15 := hts (.classLink RX5 15 RX1) (by decide +kernel)
  have isX1 := hts (.instantiable RX1 5) (by decide +kernel)
  have iiX1 := hts (.initialized RX1) (by decide +kernel)
  have inX1 : ∀ w ∈ wsX10, w ∈ wsX5_init := by decide +kernel
  have ml17 := hts (.methodLink RX5 17 yX1_init) (by decide +kernel)
  have imX1_init := hts (.instanceMethod yX1_init) (by decide +kernel)
  have fl18 := hts (.fieldLink RX5 18 "SimonSays$Reader" "found" "LSimonSays$Children;") (by decide +kernel)
  subst hsz
  have hD := hD0.self (sz := s.heap.size)
  generalize hAe : va_A [(h0, .inr (5, [.null, .null, .int 0, .int 0, .int 0, .int 0]))] s.heap.size = A at hD ⊢
  have hA : ∀ q : Nat, s.heap.size ≤ q → A q := fun q h => by rw [← hAe]; exact Or.inr h
  have hS : va_S A s.heap s.heap [] := va_S.rf
  have hl := lv_entry ([.ref h0, .ref b0]) (n := 2) (Nat.le_of_ble_eq_true rfl)
  rw [lg_entry_eq]
  generalize (lg_sl ([.ref h0, .ref b0]) ++ List.replicate (2 - (lg_sl ([.ref h0, .ref b0])).length) Slot.unset).toArray = ls at hl ⊢
  have hl : lv_has ls 2 [(0, .ref h0), (1, .ref b0)] := hl
  refine lv_aload_n hx hb dX5_init_0 rfl (lv_at hl 0 rfl) ?_
  refine W.objInit hx hb hown ol3 oi oc rfl (by rw [hml]; exact hl.1) rfl dX5_init_1 (Nat.le_of_ble_eq_true rfl) (Nat.le_of_ble_eq_true rfl) ?_
  refine W.eq (g2 := F0 m 4 ls []) rfl ?_
  refine lv_aload_n hx hb dX5_init_4 rfl (lv_at hl 0 rfl) ?_
  refine lv_aload_n hx hb dX5_init_5 rfl (lv_at hl 1 rfl) ?_
  refine va_putF (D := D) (ci := 5) (v := .ref b0) (ty := .object "SimonSays$Text") (C := RX5) (T := TX5) (N := 6) hx hb hts inX5 tyX5 tyX5_ok nmX5 hown hK hP hD hS 0 rfl rfl 0 (by decide) fl9 (fun _ h9 => h9) rfl hin rfl (by decide +kernel) rfl rfl (Nat.le_of_ble_eq_true rfl) dX5_init_6 (fun H locs hP hD hS => ?_)
  have hP : va_P D vwCl [(h0, .inr (5, [.ref b0, .null, .int 0, .int 0, .int 0, .int 0]))] H := hP
  have hD : va_D A [(h0, .inr (5, [.ref b0, .null, .int 0, .int 0, .int 0, .int 0]))] := hD
  refine lv_aload_n hx hb dX5_init_9 rfl (lv_at hl 0 rfl) ?_
  refine va_new (ci := 1) (fs := [.null, .null, .null, .int 0, .int 0]) (C := RX1) (T := TX1) (N := 5) hx hb hts inX1 tyX1 tyX1_ok hown cl15 isX1 iiX1 hK hP hD hS hA rfl (fun j hj => by rcases (show j = 0 ∨ j = 1 ∨ j = 2 ∨ j = 3 ∨ j = 4 by omega) with rfl | rfl | rfl | rfl | rfl <;> rfl) (Nat.le_of_ble_eq_true rfl) (Nat.le_of_ble_eq_true rfl) dX5_init_10 (fun o1 H hP hD hS => ?_)
  have hP : va_P D vwCl [(h0, .inr (5, [.ref b0, .null, .int 0, .int 0, .int 0, .int 0])), (o1, .inr (1, [.null, .null, .null, .int 0, .int 0]))] H := hP
  have hD : va_D A [(h0, .inr (5, [.ref b0, .null, .int 0, .int 0, .int 0, .int 0])), (o1, .inr (1, [.null, .null, .null, .int 0, .int 0]))] := hD
  refine lv_dup hx hb dX5_init_13 rfl ?_
  have hPc : va_P D vwCl [(o1, .inr (1, [.null, .null, .null, .int 0, .int 0]))] H := hP.sub [1] rfl
  have hDc : va_D A [(o1, .inr (1, [.null, .null, .null, .int 0, .int 0]))] := hD.sub [1] (by decide) rfl
  have hFc := va_free (wc := [(o1, .inr (1, [.null, .null, .null, .int 0, .int 0]))]) hD hS hA [1] rfl
  refine va_callv (va_runI (As := []) (rest := [.ref o1, .ref h0]) ⟨hx, hb, hml, hown, hts⟩ (k_X1_init l D cI cJ cZ cO o1 H.size) (cwI 0 hts gX5_init_X1_init rfl rfl rfl iiX1 ml17 imX1_init rfl (by decide +kernel) ⟨Nat.le_of_ble_eq_true rfl, Nat.le_of_ble_eq_true rfl⟩) ⟨fb_i, fun U hU hW => ⟨rfl, by rw [hU], by rw [hU]; exact hPc, KK.warm hW hKK, hDc.weaken (fun _ _ _ _ => trivial)⟩⟩ rfl rfl hl.1 rfl (lv_room (Nat.le_of_ble_eq_true rfl)) dX5_init_14 ⟨Nat.le_of_ble_eq_true rfl, Nat.le_of_ble_eq_true rfl⟩) hS (fun q _ h => hFc q h) hFc (fun u14 t H1 locs ht hvm hw hB hz1 hk1 hS => ?_)
  obtain ⟨hP1, hD1⟩ := hB
  rw [ht] at hP1
  obtain ⟨hP, hD⟩ := va_join (wr := [(h0, .inr (5, [.ref b0, .null, .int 0, .int 0, .int 0, .int 0]))]) (w1 := [(o1, .inr (1, [.ref (u14 0), .ref (u14 1), .ref (u14 2), .int 0, .int 0])), ((u14 0), .inl (cI, 6, .inl (fun _ => 0))), ((u14 1), .inl (cI, 6, .inl (fun _ => 0))), ((u14 2), .inl (cI, 6, .inl (fun _ => 0)))]) hP hD [1] [0] rfl rfl (by decide) (by decide) hk1 hFc hP1 hD1
  generalize H1 = H at hP hS ⊢
  have hP : va_P D vwCl [(h0, .inr (5, [.ref b0, .null, .int 0, .int 0, .int 0, .int 0])), (o1, .inr (1, [.ref (u14 0), .ref (u14 1), .ref (u14 2), .int 0, .int 0])), ((u14 0), .inl (cI, 6, .inl (fun _ => 0))), ((u14 1), .inl (cI, 6, .inl (fun _ => 0))), ((u14 2), .inl (cI, 6, .inl (fun _ => 0)))] H := hP
  have hD : va_D A [(h0, .inr (5, [.ref b0, .null, .int 0, .int 0, .int 0, .int 0])), (o1, .inr (1, [.ref (u14 0), .ref (u14 1), .ref (u14 2), .int 0, .int 0])), ((u14 0), .inl (cI, 6, .inl (fun _ => 0))), ((u14 1), .inl (cI, 6, .inl (fun _ => 0))), ((u14 2), .inl (cI, 6, .inl (fun _ => 0)))] := hD
  refine va_putF (D := D) (ci := 5) (v := .ref o1) (ty := .object "SimonSays$Children") (C := RX5) (T := TX5) (N := 6) hx hb hts inX5 tyX5 tyX5_ok nmX5 hown hK hP hD hS 0 rfl rfl 1 (by decide) fl18 (fun _ h9 => h9) rfl hin rfl (by decide +kernel) rfl rfl (Nat.le_of_ble_eq_true rfl) dX5_init_17 (fun H locs hP hD hS => ?_)
  have hP : va_P D vwCl [(h0, .inr (5, [.ref b0, .ref o1, .int 0, .int 0, .int 0, .int 0])), (o1, .inr (1, [.ref (u14 0), .ref (u14 1), .ref (u14 2), .int 0, .int 0])), ((u14 0), .inl (cI, 6, .inl (fun _ => 0))), ((u14 1), .inl (cI, 6, .inl (fun _ => 0))), ((u14 2), .inl (cI, 6, .inl (fun _ => 0)))] H := hP
  have hD : va_D A [(h0, .inr (5, [.ref b0, .ref o1, .int 0, .int 0, .int 0, .int 0])), (o1, .inr (1, [.ref (u14 0), .ref (u14 1), .ref (u14 2), .int 0, .int 0])), ((u14 0), .inl (cI, 6, .inl (fun _ => 0))), ((u14 1), .inl (cI, 6, .inl (fun _ => 0))), ((u14 2), .inl (cI, 6, .inl (fun _ => 0)))] := hD
  refine W.widen (k := 4) (n := 23) (Nat.le_of_ble_eq_true rfl) (Nat.le_of_ble_eq_true rfl) ?_
  exact W.vret hx hb hr (fun t ht hW => ⟨⟨(fun i => if i = 0 then o1 else if i = 1 then (u14 0) else if i = 2 then (u14 1) else if i = 3 then (u14 2) else  0), rfl, trivial, by rw [ht]; exact hP, hD⟩, hS.F ht⟩) hS.2.2 dX5_init_20

set_option maxHeartbeats 8000000 in
set_option maxRecDepth 100000 in
theorem k_X6_init (l : Launch) (D : va_G) (cI cJ cZ cO : ClassId) (h0 sz : Nat) (b0 : Nat) : Met l yX6_init wsX6_init ({ frames := 1, cells := 0, slots := 0, locals := 12 } : Room) (va_Pc [.ref h0, .ref b0] (fun U => U.heap.size = sz ∧ va_P D vwCl [(h0, .inr (6, [.null, .int 0, .int 0, .int 0]))] U.heap ∧ KK D cI cJ cZ cO U ∧ va_D (fun _ => True) [(h0, .inr (6, [.null, .int 0, .int 0, .int 0]))])) (va_Qv (fun (_ : Nat → Nat) => True) (fun q t => va_P D vwCl [(h0, .inr (6, [.ref b0, .int 0, .int 0, .int (1 : Int32)]))] t.heap ∧ va_D (va_A [(h0, .inr (6, [.null, .int 0, .int 0, .int 0]))] sz) [(h0, .inr (6, [.ref b0, .int 0, .int 0, .int (1 : Int32)]))]) (va_A [(h0, .inr (6, [.null, .int 0, .int 0, .int 0]))] sz)) 0 0 (va_A [(h0, .inr (6, [.null, .int 0, .int 0, .int 0]))] sz) := by
  refine Met.ofW (cc := cX6_init) (maxL := 2) (ret := none) (by decide) rfl ?_
  intro p e s m args below meth c s₁ B hml hv
  obtain ⟨rfl, hsz, hP, hKK, hD0⟩ := hv
  have hx := B.exec
  have hb := B.bytes
  have hr := B.returns
  have hts := atoms_spec (ws := wsX6_init) B.pre
  have hown : s.vm.findClass RX6 = some m.cls := findClass_of_methodNamed B.named
  have hlocks := B.notSynchronized
  have hK := hKK.1
  have hin : meth.name = "<init>" := (name_of_methodNamed B.named B.method).1
  have ol3 := hts (.methodLink RX6 3 objectInit) (by decide +kernel)
  have oi := hts (.instanceMethod objectInit) (by decide +kernel)
  have oc := hts (.code objectInit ⟨#[0xb1]⟩ 1 none) (by decide +kernel)
  have fl9 := hts (.fieldLink RX6 9 "SimonSays$Round" "told" "LSimonSays$Children;") (by decide +kernel)
  have inX6 : ∀ w ∈ wsX60, w ∈ wsX6_init := by decide +kernel
  have fl15 := hts (.fieldLink RX6 15 "SimonSays$Round" "lot" "I") (by decide +kernel)
  subst hsz
  have hD := hD0.self (sz := s.heap.size)
  generalize hAe : va_A [(h0, .inr (6, [.null, .int 0, .int 0, .int 0]))] s.heap.size = A at hD ⊢
  have hA : ∀ q : Nat, s.heap.size ≤ q → A q := fun q h => by rw [← hAe]; exact Or.inr h
  have hS : va_S A s.heap s.heap [] := va_S.rf
  have hl := lv_entry ([.ref h0, .ref b0]) (n := 2) (Nat.le_of_ble_eq_true rfl)
  rw [lg_entry_eq]
  generalize (lg_sl ([.ref h0, .ref b0]) ++ List.replicate (2 - (lg_sl ([.ref h0, .ref b0])).length) Slot.unset).toArray = ls at hl ⊢
  have hl : lv_has ls 2 [(0, .ref h0), (1, .ref b0)] := hl
  refine lv_aload_n hx hb dX6_init_0 rfl (lv_at hl 0 rfl) ?_
  refine W.objInit hx hb hown ol3 oi oc rfl (by rw [hml]; exact hl.1) rfl dX6_init_1 (Nat.le_of_ble_eq_true rfl) (Nat.le_of_ble_eq_true rfl) ?_
  refine W.eq (g2 := F0 m 4 ls []) rfl ?_
  refine lv_aload_n hx hb dX6_init_4 rfl (lv_at hl 0 rfl) ?_
  refine lv_aload_n hx hb dX6_init_5 rfl (lv_at hl 1 rfl) ?_
  refine va_putF (D := D) (ci := 6) (v := .ref b0) (ty := .object "SimonSays$Children") (C := RX6) (T := TX6) (N := 4) hx hb hts inX6 tyX6 tyX6_ok nmX6 hown hK hP hD hS 0 rfl rfl 0 (by decide) fl9 (fun _ h9 => h9) rfl hin rfl (by decide +kernel) rfl rfl (Nat.le_of_ble_eq_true rfl) dX6_init_6 (fun H locs hP hD hS => ?_)
  have hP : va_P D vwCl [(h0, .inr (6, [.ref b0, .int 0, .int 0, .int 0]))] H := hP
  have hD : va_D A [(h0, .inr (6, [.ref b0, .int 0, .int 0, .int 0]))] := hD
  refine lv_aload_n hx hb dX6_init_9 rfl (lv_at hl 0 rfl) ?_
  refine lv_iconst (v := (1 : Int32)) hx hb dX6_init_10 (by decide) ?_
  refine va_put (D := D) (ci := 6) (v := .int (1 : Int32)) (ty := .int) (C := RX6) (T := TX6) (N := 4) hx hb hts inX6 tyX6 tyX6_ok nmX6 hown hK hP hD hS 0 rfl rfl 3 (by decide) fl15 (fun _ h9 => h9) rfl (by decide +kernel) rfl rfl (Nat.le_of_ble_eq_true rfl) dX6_init_11 (fun H locs hP hD hS => ?_)
  have hP : va_P D vwCl [(h0, .inr (6, [.ref b0, .int 0, .int 0, .int (1 : Int32)]))] H := hP
  have hD : va_D A [(h0, .inr (6, [.ref b0, .int 0, .int 0, .int (1 : Int32)]))] := hD
  refine W.widen (k := 0) (n := 0) (Nat.le_of_ble_eq_true rfl) (Nat.le_of_ble_eq_true rfl) ?_
  exact W.vret hx hb hr (fun t ht hW => ⟨⟨(fun i =>  0), rfl, trivial, by rw [ht]; exact hP, hD⟩, hS.F ht⟩) hS.2.2 dX6_init_14

set_option maxHeartbeats 8000000 in
set_option maxRecDepth 100000 in
theorem k_X2_init (l : Launch) (D : va_G) (cI cJ cZ cO : ClassId) (h0 sz : Nat) : Met l yX2_init wsX2_init ({ frames := 1, cells := 2, slots := 24, locals := 12 } : Room) (va_Pc [.ref h0] (fun U => U.heap.size = sz ∧ va_P D vwCl [(h0, .inr (2, [.null, .null, .int 0]))] U.heap ∧ KK D cI cJ cZ cO U ∧ va_D (fun _ => True) [(h0, .inr (2, [.null, .null, .int 0]))])) (va_Qv (fun (_ : Nat → Nat) => True) (fun q t => va_P D vwCl [(h0, .inr (2, [.ref (q 0), .ref (q 1), .int 0])), ((q 0), .inl (cI, 12, .inl (fun _ => 0))), ((q 1), .inl (cI, 12, .inl (fun _ => 0)))] t.heap ∧ va_D (va_A [(h0, .inr (2, [.null, .null, .int 0]))] sz) [(h0, .inr (2, [.ref (q 0), .ref (q 1), .int 0])), ((q 0), .inl (cI, 12, .inl (fun _ => 0))), ((q 1), .inl (cI, 12, .inl (fun _ => 0)))]) (va_A [(h0, .inr (2, [.null, .null, .int 0]))] sz)) 2 24 (va_A [(h0, .inr (2, [.null, .null, .int 0]))] sz) := by
  refine Met.ofW (cc := cX2_init) (maxL := 1) (ret := none) (by decide) rfl ?_
  intro p e s m args below meth c s₁ B hml hv
  obtain ⟨rfl, hsz, hP, hKK, hD0⟩ := hv
  have hx := B.exec
  have hb := B.bytes
  have hr := B.returns
  have hts := atoms_spec (ws := wsX2_init) B.pre
  have hown : s.vm.findClass RX2 = some m.cls := findClass_of_methodNamed B.named
  have hlocks := B.notSynchronized
  have hK := hKK.1
  have hin : meth.name = "<init>" := (name_of_methodNamed B.named B.method).1
  have ol3 := hts (.methodLink RX2 3 objectInit) (by decide +kernel)
  have oi := hts (.instanceMethod objectInit) (by decide +kernel)
  have oc := hts (.code objectInit ⟨#[0xb1]⟩ 1 none) (by decide +kernel)
  have acI := hts (.arrayClass .int) (by decide +kernel)
  have fl9 := hts (.fieldLink RX2 9 "SimonSays$History" "ins" "[I") (by decide +kernel)
  have inX2 : ∀ w ∈ wsX20, w ∈ wsX2_init := by decide +kernel
  have fl15 := hts (.fieldLink RX2 15 "SimonSays$History" "streaks" "[I") (by decide +kernel)
  subst hsz
  have hD := hD0.self (sz := s.heap.size)
  generalize hAe : va_A [(h0, .inr (2, [.null, .null, .int 0]))] s.heap.size = A at hD ⊢
  have hA : ∀ q : Nat, s.heap.size ≤ q → A q := fun q h => by rw [← hAe]; exact Or.inr h
  have hS : va_S A s.heap s.heap [] := va_S.rf
  have hl := lv_entry ([.ref h0]) (n := 1) (Nat.le_of_ble_eq_true rfl)
  rw [lg_entry_eq]
  generalize (lg_sl ([.ref h0]) ++ List.replicate (1 - (lg_sl ([.ref h0])).length) Slot.unset).toArray = ls at hl ⊢
  have hl : lv_has ls 1 [(0, .ref h0)] := hl
  refine lv_aload_n hx hb dX2_init_0 rfl (lv_at hl 0 rfl) ?_
  refine W.objInit hx hb hown ol3 oi oc rfl (by rw [hml]; exact hl.1) rfl dX2_init_1 (Nat.le_of_ble_eq_true rfl) (Nat.le_of_ble_eq_true rfl) ?_
  refine W.eq (g2 := F0 m 4 ls []) rfl ?_
  refine lv_aload_n hx hb dX2_init_4 rfl (lv_at hl 0 rfl) ?_
  refine lv_bipush (v := (12 : Int32)) hx hb dX2_init_5 (by decide) ?_
  refine va_newa (atype := .int) (ty := .int) (N' := 12) (a0 := (12, .inl (fun _ => 0))) hx hb acI rfl hK hP hD hS hA (fun _ => rfl) (by decide) (by decide) (by decide) (Nat.le_of_ble_eq_true rfl) (Nat.le_of_ble_eq_true rfl) dX2_init_7 (fun o1 cA H hK2 hP hD hS => ?_)
  have hcA := cA_I hK2
  subst hcA
  have hP : va_P D vwCl [(h0, .inr (2, [.null, .null, .int 0])), (o1, .inl (cI, 12, .inl (fun _ => 0)))] H := hP
  have hD : va_D A [(h0, .inr (2, [.null, .null, .int 0])), (o1, .inl (cI, 12, .inl (fun _ => 0)))] := hD
  refine va_putF (D := D) (ci := 2) (v := .ref o1) (ty := .array .int) (C := RX2) (T := TX2) (N := 3) hx hb hts inX2 tyX2 tyX2_ok nmX2 hown hK hP hD hS 0 rfl rfl 0 (by decide) fl9 (fun _ h9 => h9) rfl hin rfl (by decide +kernel) rfl rfl (Nat.le_of_ble_eq_true rfl) dX2_init_9 (fun H locs hP hD hS => ?_)
  have hP : va_P D vwCl [(h0, .inr (2, [.ref o1, .null, .int 0])), (o1, .inl (cI, 12, .inl (fun _ => 0)))] H := hP
  have hD : va_D A [(h0, .inr (2, [.ref o1, .null, .int 0])), (o1, .inl (cI, 12, .inl (fun _ => 0)))] := hD
  refine lv_aload_n hx hb dX2_init_12 rfl (lv_at hl 0 rfl) ?_
  refine lv_bipush (v := (12 : Int32)) hx hb dX2_init_13 (by decide) ?_
  refine va_newa (atype := .int) (ty := .int) (N' := 12) (a0 := (12, .inl (fun _ => 0))) hx hb acI rfl hK hP hD hS hA (fun _ => rfl) (by decide) (by decide) (by decide) (Nat.le_of_ble_eq_true rfl) (Nat.le_of_ble_eq_true rfl) dX2_init_15 (fun o2 cA H hK2 hP hD hS => ?_)
  have hcA := cA_I hK2
  subst hcA
  have hP : va_P D vwCl [(h0, .inr (2, [.ref o1, .null, .int 0])), (o1, .inl (cI, 12, .inl (fun _ => 0))), (o2, .inl (cI, 12, .inl (fun _ => 0)))] H := hP
  have hD : va_D A [(h0, .inr (2, [.ref o1, .null, .int 0])), (o1, .inl (cI, 12, .inl (fun _ => 0))), (o2, .inl (cI, 12, .inl (fun _ => 0)))] := hD
  refine va_putF (D := D) (ci := 2) (v := .ref o2) (ty := .array .int) (C := RX2) (T := TX2) (N := 3) hx hb hts inX2 tyX2 tyX2_ok nmX2 hown hK hP hD hS 0 rfl rfl 1 (by decide) fl15 (fun _ h9 => h9) rfl hin rfl (by decide +kernel) rfl rfl (Nat.le_of_ble_eq_true rfl) dX2_init_17 (fun H locs hP hD hS => ?_)
  have hP : va_P D vwCl [(h0, .inr (2, [.ref o1, .ref o2, .int 0])), (o1, .inl (cI, 12, .inl (fun _ => 0))), (o2, .inl (cI, 12, .inl (fun _ => 0)))] H := hP
  have hD : va_D A [(h0, .inr (2, [.ref o1, .ref o2, .int 0])), (o1, .inl (cI, 12, .inl (fun _ => 0))), (o2, .inl (cI, 12, .inl (fun _ => 0)))] := hD
  refine W.widen (k := 2) (n := 24) (Nat.le_of_ble_eq_true rfl) (Nat.le_of_ble_eq_true rfl) ?_
  exact W.vret hx hb hr (fun t ht hW => ⟨⟨(fun i => if i = 0 then o1 else if i = 1 then o2 else  0), rfl, trivial, by rw [ht]; exact hP, hD⟩, hS.F ht⟩) hS.2.2 dX2_init_20

set_option maxHeartbeats 8000000 in
set_option maxRecDepth 100000 in
theorem k_X3_init (l : Launch) (D : va_G) (cI cJ cZ cO : ClassId) (h0 sz : Nat) : Met l yX3_init wsX3_init ({ frames := 1, cells := 0, slots := 0, locals := 12 } : Room) (va_Pc [.ref h0] (fun U => U.heap.size = sz ∧ va_P D vwCl [(h0, .inr (3, [.int 0, .int 0, .int 0, .int 0]))] U.heap ∧ KK D cI cJ cZ cO U ∧ va_D (fun _ => True) [(h0, .inr (3, [.int 0, .int 0, .int 0, .int 0]))])) (va_Qv (fun (_ : Nat → Nat) => True) (fun q t => va_P D vwCl [(h0, .inr (3, [.int (0 : Int32), .int 0, .int 0, .int 0]))] t.heap ∧ va_D (va_A [(h0, .inr (3, [.int 0, .int 0, .int 0, .int 0]))] sz) [(h0, .inr (3, [.int (0 : Int32), .int 0, .int 0, .int 0]))]) (va_A [(h0, .inr (3, [.int 0, .int 0, .int 0, .int 0]))] sz)) 0 0 (va_A [(h0, .inr (3, [.int 0, .int 0, .int 0, .int 0]))] sz) := by
  refine Met.ofW (cc := cX3_init) (maxL := 1) (ret := none) (by decide) rfl ?_
  intro p e s m args below meth c s₁ B hml hv
  obtain ⟨rfl, hsz, hP, hKK, hD0⟩ := hv
  have hx := B.exec
  have hb := B.bytes
  have hr := B.returns
  have hts := atoms_spec (ws := wsX3_init) B.pre
  have hown : s.vm.findClass RX3 = some m.cls := findClass_of_methodNamed B.named
  have hlocks := B.notSynchronized
  have hK := hKK.1
  have hin : meth.name = "<init>" := (name_of_methodNamed B.named B.method).1
  have ol1 := hts (.methodLink RX3 1 objectInit) (by decide +kernel)
  have oi := hts (.instanceMethod objectInit) (by decide +kernel)
  have oc := hts (.code objectInit ⟨#[0xb1]⟩ 1 none) (by decide +kernel)
  have fl7 := hts (.fieldLink RX3 7 "SimonSays$Image" "kept" "Z") (by decide +kernel)
  have inX3 : ∀ w ∈ wsX30, w ∈ wsX3_init := by decide +kernel
  subst hsz
  have hD := hD0.self (sz := s.heap.size)
  generalize hAe : va_A [(h0, .inr (3, [.int 0, .int 0, .int 0, .int 0]))] s.heap.size = A at hD ⊢
  have hA : ∀ q : Nat, s.heap.size ≤ q → A q := fun q h => by rw [← hAe]; exact Or.inr h
  have hS : va_S A s.heap s.heap [] := va_S.rf
  have hl := lv_entry ([.ref h0]) (n := 1) (Nat.le_of_ble_eq_true rfl)
  rw [lg_entry_eq]
  generalize (lg_sl ([.ref h0]) ++ List.replicate (1 - (lg_sl ([.ref h0])).length) Slot.unset).toArray = ls at hl ⊢
  have hl : lv_has ls 1 [(0, .ref h0)] := hl
  refine lv_aload_n hx hb dX3_init_0 rfl (lv_at hl 0 rfl) ?_
  refine W.objInit hx hb hown ol1 oi oc rfl (by rw [hml]; exact hl.1) rfl dX3_init_1 (Nat.le_of_ble_eq_true rfl) (Nat.le_of_ble_eq_true rfl) ?_
  refine W.eq (g2 := F0 m 4 ls []) rfl ?_
  refine lv_aload_n hx hb dX3_init_4 rfl (lv_at hl 0 rfl) ?_
  refine lv_iconst (v := (0 : Int32)) hx hb dX3_init_5 (by decide) ?_
  refine va_put (D := D) (ci := 3) (v := .int (0 : Int32)) (ty := .boolean) (C := RX3) (T := TX3) (N := 4) hx hb hts inX3 tyX3 tyX3_ok nmX3 hown hK hP hD hS 0 rfl rfl 0 (by decide) fl7 (fun _ h9 => h9) rfl (by decide +kernel) rfl rfl (Nat.le_of_ble_eq_true rfl) dX3_init_6 (fun H locs hP hD hS => ?_)
  have hP : va_P D vwCl [(h0, .inr (3, [.int (0 : Int32), .int 0, .int 0, .int 0]))] H := hP
  have hD : va_D A [(h0, .inr (3, [.int (0 : Int32), .int 0, .int 0, .int 0]))] := hD
  refine W.widen (k := 0) (n := 0) (Nat.le_of_ble_eq_true rfl) (Nat.le_of_ble_eq_true rfl) ?_
  exact W.vret hx hb hr (fun t ht hW => ⟨⟨(fun i =>  0), rfl, trivial, by rw [ht]; exact hP, hD⟩, hS.F ht⟩) hS.2.2 dX3_init_9

set_option maxHeartbeats 8000000 in
set_option maxRecDepth 100000 in
theorem k_X7_init (l : Launch) (D : va_G) (cI cJ cZ cO : ClassId) (h0 sz : Nat) : Met l yX7_init wsX7_init ({ frames := 1, cells := 1, slots := 9, locals := 12 } : Room) (va_Pc [.ref h0] (fun U => U.heap.size = sz ∧ va_P D vwCl [(h0, .inr (7, [.null, .int 0]))] U.heap ∧ KK D cI cJ cZ cO U ∧ va_D (fun _ => True) [(h0, .inr (7, [.null, .int 0]))])) (va_Qv (fun (_ : Nat → Nat) => True) (fun q t => va_P D vwCl [(h0, .inr (7, [.ref (q 0), .int 0])), ((q 0), .inl (cI, 9, .inl (fun _ => 0)))] t.heap ∧ va_D (va_A [(h0, .inr (7, [.null, .int 0]))] sz) [(h0, .inr (7, [.ref (q 0), .int 0])), ((q 0), .inl (cI, 9, .inl (fun _ => 0)))]) (va_A [(h0, .inr (7, [.null, .int 0]))] sz)) 1 9 (va_A [(h0, .inr (7, [.null, .int 0]))] sz) := by
  refine Met.ofW (cc := cX7_init) (maxL := 1) (ret := none) (by decide) rfl ?_
  intro p e s m args below meth c s₁ B hml hv
  obtain ⟨rfl, hsz, hP, hKK, hD0⟩ := hv
  have hx := B.exec
  have hb := B.bytes
  have hr := B.returns
  have hts := atoms_spec (ws := wsX7_init) B.pre
  have hown : s.vm.findClass RX7 = some m.cls := findClass_of_methodNamed B.named
  have hlocks := B.notSynchronized
  have hK := hKK.1
  have hin : meth.name = "<init>" := (name_of_methodNamed B.named B.method).1
  have ol3 := hts (.methodLink RX7 3 objectInit) (by decide +kernel)
  have oi := hts (.instanceMethod objectInit) (by decide +kernel)
  have oc := hts (.code objectInit ⟨#[0xb1]⟩ 1 none) (by decide +kernel)
  have acI := hts (.arrayClass .int) (by decide +kernel)
  have fl9 := hts (.fieldLink RX7 9 "SimonSays$Row" "figures" "[I") (by decide +kernel)
  have inX7 : ∀ w ∈ wsX70, w ∈ wsX7_init := by decide +kernel
  subst hsz
  have hD := hD0.self (sz := s.heap.size)
  generalize hAe : va_A [(h0, .inr (7, [.null, .int 0]))] s.heap.size = A at hD ⊢
  have hA : ∀ q : Nat, s.heap.size ≤ q → A q := fun q h => by rw [← hAe]; exact Or.inr h
  have hS : va_S A s.heap s.heap [] := va_S.rf
  have hl := lv_entry ([.ref h0]) (n := 1) (Nat.le_of_ble_eq_true rfl)
  rw [lg_entry_eq]
  generalize (lg_sl ([.ref h0]) ++ List.replicate (1 - (lg_sl ([.ref h0])).length) Slot.unset).toArray = ls at hl ⊢
  have hl : lv_has ls 1 [(0, .ref h0)] := hl
  refine lv_aload_n hx hb dX7_init_0 rfl (lv_at hl 0 rfl) ?_
  refine W.objInit hx hb hown ol3 oi oc rfl (by rw [hml]; exact hl.1) rfl dX7_init_1 (Nat.le_of_ble_eq_true rfl) (Nat.le_of_ble_eq_true rfl) ?_
  refine W.eq (g2 := F0 m 4 ls []) rfl ?_
  refine lv_aload_n hx hb dX7_init_4 rfl (lv_at hl 0 rfl) ?_
  refine lv_bipush (v := (9 : Int32)) hx hb dX7_init_5 (by decide) ?_
  refine va_newa (atype := .int) (ty := .int) (N' := 9) (a0 := (9, .inl (fun _ => 0))) hx hb acI rfl hK hP hD hS hA (fun _ => rfl) (by decide) (by decide) (by decide) (Nat.le_of_ble_eq_true rfl) (Nat.le_of_ble_eq_true rfl) dX7_init_7 (fun o1 cA H hK2 hP hD hS => ?_)
  have hcA := cA_I hK2
  subst hcA
  have hP : va_P D vwCl [(h0, .inr (7, [.null, .int 0])), (o1, .inl (cI, 9, .inl (fun _ => 0)))] H := hP
  have hD : va_D A [(h0, .inr (7, [.null, .int 0])), (o1, .inl (cI, 9, .inl (fun _ => 0)))] := hD
  refine va_putF (D := D) (ci := 7) (v := .ref o1) (ty := .array .int) (C := RX7) (T := TX7) (N := 2) hx hb hts inX7 tyX7 tyX7_ok nmX7 hown hK hP hD hS 0 rfl rfl 0 (by decide) fl9 (fun _ h9 => h9) rfl hin rfl (by decide +kernel) rfl rfl (Nat.le_of_ble_eq_true rfl) dX7_init_9 (fun H locs hP hD hS => ?_)
  have hP : va_P D vwCl [(h0, .inr (7, [.ref o1, .int 0])), (o1, .inl (cI, 9, .inl (fun _ => 0)))] H := hP
  have hD : va_D A [(h0, .inr (7, [.ref o1, .int 0])), (o1, .inl (cI, 9, .inl (fun _ => 0)))] := hD
  refine W.widen (k := 1) (n := 9) (Nat.le_of_ble_eq_true rfl) (Nat.le_of_ble_eq_true rfl) ?_
  exact W.vret hx hb hr (fun t ht hW => ⟨⟨(fun i => if i = 0 then o1 else  0), rfl, trivial, by rw [ht]; exact hP, hD⟩, hS.F ht⟩) hS.2.2 dX7_init_12

set_option maxHeartbeats 8000000 in
set_option maxRecDepth 100000 in
theorem k_X0_init (l : Launch) (D : va_G) (cI cJ cZ cO : ClassId) (h0 sz : Nat) (b0 : Nat) (b1 : Nat) (b2 : Nat) : Met l yX0_init wsX0_init ({ frames := 1, cells := 1, slots := 7, locals := 12 } : Room) (va_Pc [.ref h0, .ref b0, .ref b1, .ref b2] (fun U => U.heap.size = sz ∧ va_P D vwCl [(h0, .inr (0, [.null, .null, .null, .null]))] U.heap ∧ KK D cI cJ cZ cO U ∧ va_D (fun _ => True) [(h0, .inr (0, [.null, .null, .null, .null]))])) (va_Qv (fun (_ : Nat → Nat) => True) (fun q t => va_P D vwCl [(h0, .inr (0, [.ref b0, .ref b1, .ref b2, .ref (q 0)])), ((q 0), .inl (cJ, 7, .inr (.inl (fun _ => 0))))] t.heap ∧ va_D (va_A [(h0, .inr (0, [.null, .null, .null, .null]))] sz) [(h0, .inr (0, [.ref b0, .ref b1, .ref b2, .ref (q 0)])), ((q 0), .inl (cJ, 7, .inr (.inl (fun _ => 0))))]) (va_A [(h0, .inr (0, [.null, .null, .null, .null]))] sz)) 1 7 (va_A [(h0, .inr (0, [.null, .null, .null, .null]))] sz) := by
  refine Met.ofW (cc := cX0_init) (maxL := 4) (ret := none) (by decide) rfl ?_
  intro p e s m args below meth c s₁ B hml hv
  obtain ⟨rfl, hsz, hP, hKK, hD0⟩ := hv
  have hx := B.exec
  have hb := B.bytes
  have hr := B.returns
  have hts := atoms_spec (ws := wsX0_init) B.pre
  have hown : s.vm.findClass RX0 = some m.cls := findClass_of_methodNamed B.named
  have hlocks := B.notSynchronized
  have hK := hKK.1
  have hin : meth.name = "<init>" := (name_of_methodNamed B.named B.method).1
  have ol3 := hts (.methodLink RX0 3 objectInit) (by decide +kernel)
  have oi := hts (.instanceMethod objectInit) (by decide +kernel)
  have oc := hts (.code objectInit ⟨#[0xb1]⟩ 1 none) (by decide +kernel)
  have fl9 := hts (.fieldLink RX0 9 "SimonSays$Chances" "told" "LSimonSays$Children;") (by decide +kernel)
  have inX0 : ∀ w ∈ wsX00, w ∈ wsX0_init := by decide +kernel
  have fl15 := hts (.fieldLink RX0 15 "SimonSays$Chances" "round" "LSimonSays$Round;") (by decide +kernel)
  have fl19 := hts (.fieldLink RX0 19 "SimonSays$Chances" "row" "LSimonSays$Row;") (by decide +kernel)
  have acJ := hts (.arrayClass .long) (by decide +kernel)
  have fl23 := hts (.fieldLink RX0 23 "SimonSays$Chances" "byNumber" "[J") (by decide +kernel)
  subst hsz
  have hD := hD0.self (sz := s.heap.size)
  generalize hAe : va_A [(h0, .inr (0, [.null, .null, .null, .null]))] s.heap.size = A at hD ⊢
  have hA : ∀ q : Nat, s.heap.size ≤ q → A q := fun q h => by rw [← hAe]; exact Or.inr h
  have hS : va_S A s.heap s.heap [] := va_S.rf
  have hl := lv_entry ([.ref h0, .ref b0, .ref b1, .ref b2]) (n := 4) (Nat.le_of_ble_eq_true rfl)
  rw [lg_entry_eq]
  generalize (lg_sl ([.ref h0, .ref b0, .ref b1, .ref b2]) ++ List.replicate (4 - (lg_sl ([.ref h0, .ref b0, .ref b1, .ref b2])).length) Slot.unset).toArray = ls at hl ⊢
  have hl : lv_has ls 4 [(0, .ref h0), (1, .ref b0), (2, .ref b1), (3, .ref b2)] := hl
  refine lv_aload_n hx hb dX0_init_0 rfl (lv_at hl 0 rfl) ?_
  refine W.objInit hx hb hown ol3 oi oc rfl (by rw [hml]; exact hl.1) rfl dX0_init_1 (Nat.le_of_ble_eq_true rfl) (Nat.le_of_ble_eq_true rfl) ?_
  refine W.eq (g2 := F0 m 4 ls []) rfl ?_
  refine lv_aload_n hx hb dX0_init_4 rfl (lv_at hl 0 rfl) ?_
  refine lv_aload_n hx hb dX0_init_5 rfl (lv_at hl 1 rfl) ?_
  refine va_putF (D := D) (ci := 0) (v := .ref b0) (ty := .object "SimonSays$Children") (C := RX0) (T := TX0) (N := 4) hx hb hts inX0 tyX0 tyX0_ok nmX0 hown hK hP hD hS 0 rfl rfl 0 (by decide) fl9 (fun _ h9 => h9) rfl hin rfl (by decide +kernel) rfl rfl (Nat.le_of_ble_eq_true rfl) dX0_init_6 (fun H locs hP hD hS => ?_)
  have hP : va_P D vwCl [(h0, .inr (0, [.ref b0, .null, .null, .null]))] H := hP
  have hD : va_D A [(h0, .inr (0, [.ref b0, .null, .null, .null]))] := hD
  refine lv_aload_n hx hb dX0_init_9 rfl (lv_at hl 0 rfl) ?_
  refine lv_aload_n hx hb dX0_init_10 rfl (lv_at hl 2 rfl) ?_
  refine va_putF (D := D) (ci := 0) (v := .ref b1) (ty := .object "SimonSays$Round") (C := RX0) (T := TX0) (N := 4) hx hb hts inX0 tyX0 tyX0_ok nmX0 hown hK hP hD hS 0 rfl rfl 1 (by decide) fl15 (fun _ h9 => h9) rfl hin rfl (by decide +kernel) rfl rfl (Nat.le_of_ble_eq_true rfl) dX0_init_11 (fun H locs hP hD hS => ?_)
  have hP : va_P D vwCl [(h0, .inr (0, [.ref b0, .ref b1, .null, .null]))] H := hP
  have hD : va_D A [(h0, .inr (0, [.ref b0, .ref b1, .null, .null]))] := hD
  refine lv_aload_n hx hb dX0_init_14 rfl (lv_at hl 0 rfl) ?_
  refine lv_aload_n hx hb dX0_init_15 rfl (lv_at hl 3 rfl) ?_
  refine va_putF (D := D) (ci := 0) (v := .ref b2) (ty := .object "SimonSays$Row") (C := RX0) (T := TX0) (N := 4) hx hb hts inX0 tyX0 tyX0_ok nmX0 hown hK hP hD hS 0 rfl rfl 2 (by decide) fl19 (fun _ h9 => h9) rfl hin rfl (by decide +kernel) rfl rfl (Nat.le_of_ble_eq_true rfl) dX0_init_16 (fun H locs hP hD hS => ?_)
  have hP : va_P D vwCl [(h0, .inr (0, [.ref b0, .ref b1, .ref b2, .null]))] H := hP
  have hD : va_D A [(h0, .inr (0, [.ref b0, .ref b1, .ref b2, .null]))] := hD
  refine lv_aload_n hx hb dX0_init_19 rfl (lv_at hl 0 rfl) ?_
  refine lv_bipush (v := (7 : Int32)) hx hb dX0_init_20 (by decide) ?_
  refine va_newa (atype := .long) (ty := .long) (N' := 7) (a0 := (7, .inr (.inl (fun _ => 0)))) hx hb acJ rfl hK hP hD hS hA (fun _ => rfl) (by decide) (by decide) (by decide) (Nat.le_of_ble_eq_true rfl) (Nat.le_of_ble_eq_true rfl) dX0_init_22 (fun o1 cA H hK2 hP hD hS => ?_)
  have hcA := cA_J hK2
  subst hcA
  have hP : va_P D vwCl [(h0, .inr (0, [.ref b0, .ref b1, .ref b2, .null])), (o1, .inl (cJ, 7, .inr (.inl (fun _ => 0))))] H := hP
  have hD : va_D A [(h0, .inr (0, [.ref b0, .ref b1, .ref b2, .null])), (o1, .inl (cJ, 7, .inr (.inl (fun _ => 0))))] := hD
  refine va_putF (D := D) (ci := 0) (v := .ref o1) (ty := .array .long) (C := RX0) (T := TX0) (N := 4) hx hb hts inX0 tyX0 tyX0_ok nmX0 hown hK hP hD hS 0 rfl rfl 3 (by decide) fl23 (fun _ h9 => h9) rfl hin rfl (by decide +kernel) rfl rfl (Nat.le_of_ble_eq_true rfl) dX0_init_24 (fun H locs hP hD hS => ?_)
  have hP : va_P D vwCl [(h0, .inr (0, [.ref b0, .ref b1, .ref b2, .ref o1])), (o1, .inl (cJ, 7, .inr (.inl (fun _ => 0))))] H := hP
  have hD : va_D A [(h0, .inr (0, [.ref b0, .ref b1, .ref b2, .ref o1])), (o1, .inl (cJ, 7, .inr (.inl (fun _ => 0))))] := hD
  refine W.widen (k := 1) (n := 7) (Nat.le_of_ble_eq_true rfl) (Nat.le_of_ble_eq_true rfl) ?_
  exact W.vret hx hb hr (fun t ht hW => ⟨⟨(fun i => if i = 0 then o1 else  0), rfl, trivial, by rw [ht]; exact hP, hD⟩, hS.F ht⟩) hS.2.2 dX0_init_27

set_option maxHeartbeats 8000000 in
set_option maxRecDepth 100000 in
theorem k_X4_init (l : Launch) (D : va_G) (cI cJ cZ cO : ClassId) (h0 sz : Nat) (b0 : Nat) (b1 : Nat) : Met l yX4_init wsX4_init ({ frames := 1, cells := 0, slots := 0, locals := 12 } : Room) (va_Pc [.ref h0, .ref b0, .ref b1] (fun U => U.heap.size = sz ∧ va_P D vwCl [(h0, .inr (4, [.null, .null, .long 0]))] U.heap ∧ KK D cI cJ cZ cO U ∧ va_D (fun _ => True) [(h0, .inr (4, [.null, .null, .long 0]))])) (va_Qv (fun (_ : Nat → Nat) => True) (fun q t => va_P D vwCl [(h0, .inr (4, [.ref b0, .ref b1, .long 0]))] t.heap ∧ va_D (va_A [(h0, .inr (4, [.null, .null, .long 0]))] sz) [(h0, .inr (4, [.ref b0, .ref b1, .long 0]))]) (va_A [(h0, .inr (4, [.null, .null, .long 0]))] sz)) 0 0 (va_A [(h0, .inr (4, [.null, .null, .long 0]))] sz) := by
  refine Met.ofW (cc := cX4_init) (maxL := 3) (ret := none) (by decide) rfl ?_
  intro p e s m args below meth c s₁ B hml hv
  obtain ⟨rfl, hsz, hP, hKK, hD0⟩ := hv
  have hx := B.exec
  have hb := B.bytes
  have hr := B.returns
  have hts := atoms_spec (ws := wsX4_init) B.pre
  have hown : s.vm.findClass RX4 = some m.cls := findClass_of_methodNamed B.named
  have hlocks := B.notSynchronized
  have hK := hKK.1
  have hin : meth.name = "<init>" := (name_of_methodNamed B.named B.method).1
  have ol3 := hts (.methodLink RX4 3 objectInit) (by decide +kernel)
  have oi := hts (.instanceMethod objectInit) (by decide +kernel)
  have oc := hts (.code objectInit ⟨#[0xb1]⟩ 1 none) (by decide +kernel)
  have fl9 := hts (.fieldLink RX4 9 "SimonSays$Kinds" "told" "LSimonSays$Children;") (by decide +kernel)
  have inX4 : ∀ w ∈ wsX40, w ∈ wsX4_init := by decide +kernel
  have fl15 := hts (.fieldLink RX4 15 "SimonSays$Kinds" "round" "LSimonSays$Round;") (by decide +kernel)
  subst hsz
  have hD := hD0.self (sz := s.heap.size)
  generalize hAe : va_A [(h0, .inr (4, [.null, .null, .long 0]))] s.heap.size = A at hD ⊢
  have hA : ∀ q : Nat, s.heap.size ≤ q → A q := fun q h => by rw [← hAe]; exact Or.inr h
  have hS : va_S A s.heap s.heap [] := va_S.rf
  have hl := lv_entry ([.ref h0, .ref b0, .ref b1]) (n := 3) (Nat.le_of_ble_eq_true rfl)
  rw [lg_entry_eq]
  generalize (lg_sl ([.ref h0, .ref b0, .ref b1]) ++ List.replicate (3 - (lg_sl ([.ref h0, .ref b0, .ref b1])).length) Slot.unset).toArray = ls at hl ⊢
  have hl : lv_has ls 3 [(0, .ref h0), (1, .ref b0), (2, .ref b1)] := hl
  refine lv_aload_n hx hb dX4_init_0 rfl (lv_at hl 0 rfl) ?_
  refine W.objInit hx hb hown ol3 oi oc rfl (by rw [hml]; exact hl.1) rfl dX4_init_1 (Nat.le_of_ble_eq_true rfl) (Nat.le_of_ble_eq_true rfl) ?_
  refine W.eq (g2 := F0 m 4 ls []) rfl ?_
  refine lv_aload_n hx hb dX4_init_4 rfl (lv_at hl 0 rfl) ?_
  refine lv_aload_n hx hb dX4_init_5 rfl (lv_at hl 1 rfl) ?_
  refine va_putF (D := D) (ci := 4) (v := .ref b0) (ty := .object "SimonSays$Children") (C := RX4) (T := TX4) (N := 3) hx hb hts inX4 tyX4 tyX4_ok nmX4 hown hK hP hD hS 0 rfl rfl 0 (by decide) fl9 (fun _ h9 => h9) rfl hin rfl (by decide +kernel) rfl rfl (Nat.le_of_ble_eq_true rfl) dX4_init_6 (fun H locs hP hD hS => ?_)
  have hP : va_P D vwCl [(h0, .inr (4, [.ref b0, .null, .long 0]))] H := hP
  have hD : va_D A [(h0, .inr (4, [.ref b0, .null, .long 0]))] := hD
  refine lv_aload_n hx hb dX4_init_9 rfl (lv_at hl 0 rfl) ?_
  refine lv_aload_n hx hb dX4_init_10 rfl (lv_at hl 2 rfl) ?_
  refine va_putF (D := D) (ci := 4) (v := .ref b1) (ty := .object "SimonSays$Round") (C := RX4) (T := TX4) (N := 3) hx hb hts inX4 tyX4 tyX4_ok nmX4 hown hK hP hD hS 0 rfl rfl 1 (by decide) fl15 (fun _ h9 => h9) rfl hin rfl (by decide +kernel) rfl rfl (Nat.le_of_ble_eq_true rfl) dX4_init_11 (fun H locs hP hD hS => ?_)
  have hP : va_P D vwCl [(h0, .inr (4, [.ref b0, .ref b1, .long 0]))] H := hP
  have hD : va_D A [(h0, .inr (4, [.ref b0, .ref b1, .long 0]))] := hD
  refine W.widen (k := 0) (n := 0) (Nat.le_of_ble_eq_true rfl) (Nat.le_of_ble_eq_true rfl) ?_
  exact W.vret hx hb hr (fun t ht hW => ⟨⟨(fun i =>  0), rfl, trivial, by rw [ht]; exact hP, hD⟩, hS.F ht⟩) hS.2.2 dX4_init_14

set_option maxHeartbeats 8000000 in
set_option maxRecDepth 100000 in
theorem k_X9_init (l : Launch) (D : va_G) (cI cJ cZ cO : ClassId) (h0 sz : Nat) : Met l yX9_init wsX9_init ({ frames := 3, cells := 23, slots := 320, locals := 53 } : Room) (va_Pc [.ref h0] (fun U => U.heap.size = sz ∧ va_P D vwCl [(h0, .inr (9, [.null, .null, .null, .null, .null, .null, .null, .null, .null]))] U.heap ∧ KK D cI cJ cZ cO U ∧ va_D (fun _ => True) [(h0, .inr (9, [.null, .null, .null, .null, .null, .null, .null, .null, .null]))])) (va_Qv (fun (_ : Nat → Nat) => True) (fun q t => va_P D vwCl [(h0, .inr (9, [.ref (q 0), .ref (q 2), .ref (q 7), .ref (q 11), .ref (q 12), .ref (q 15), .ref (q 18), .ref (q 20), .ref (q 22)])), ((q 0), .inr (8, [.ref (q 1), .int 0])), ((q 1), .inl (cI, 200, .inl (fun _ => 0))), ((q 2), .inr (5, [.ref (q 0), .ref (q 3), .int 0, .int 0, .int 0, .int 0])), ((q 3), .inr (1, [.ref (q 4), .ref (q 5), .ref (q 6), .int 0, .int 0])), ((q 4), .inl (cI, 6, .inl (fun _ => 0))), ((q 5), .inl (cI, 6, .inl (fun _ => 0))), ((q 6), .inl (cI, 6, .inl (fun _ => 0))), ((q 7), .inr (1, [.ref (q 8), .ref (q 9), .ref (q 10), .int 0, .int 0])), ((q 8), .inl (cI, 6, .inl (fun _ => 0))), ((q 9), .inl (cI, 6, .inl (fun _ => 0))), ((q 10), .inl (cI, 6, .inl (fun _ => 0))), ((q 11), .inr (6, [.ref (q 7), .int 0, .int 0, .int (1 : Int32)])), ((q 12), .inr (2, [.ref (q 13), .ref (q 14), .int 0])), ((q 13), .inl (cI, 12, .inl (fun _ => 0))), ((q 14), .inl (cI, 12, .inl (fun _ => 0))), ((q 15), .inl (cO, 2, .inr (.inr (.inr (.inr (va_up (va_up (fun _ => none) 0 (some (q 16))) 1 (some (q 17)))))))), ((q 16), .inr (3, [.int (0 : Int32), .int 0, .int 0, .int 0])), ((q 17), .inr (3, [.int (0 : Int32), .int 0, .int 0, .int 0])), ((q 18), .inr (7, [.ref (q 19), .int 0])), ((q 19), .inl (cI, 9, .inl (fun _ => 0))), ((q 20), .inr (0, [.ref (q 7), .ref (q 11), .ref (q 18), .ref (q 21)])), ((q 21), .inl (cJ, 7, .inr (.inl (fun _ => 0)))), ((q 22), .inr (4, [.ref (q 7), .ref (q 11), .long 0]))] t.heap ∧ va_D (va_A [(h0, .inr (9, [.null, .null, .null, .null, .null, .null, .null, .null, .null]))] sz) [(h0, .inr (9, [.ref (q 0), .ref (q 2), .ref (q 7), .ref (q 11), .ref (q 12), .ref (q 15), .ref (q 18), .ref (q 20), .ref (q 22)])), ((q 0), .inr (8, [.ref (q 1), .int 0])), ((q 1), .inl (cI, 200, .inl (fun _ => 0))), ((q 2), .inr (5, [.ref (q 0), .ref (q 3), .int 0, .int 0, .int 0, .int 0])), ((q 3), .inr (1, [.ref (q 4), .ref (q 5), .ref (q 6), .int 0, .int 0])), ((q 4), .inl (cI, 6, .inl (fun _ => 0))), ((q 5), .inl (cI, 6, .inl (fun _ => 0))), ((q 6), .inl (cI, 6, .inl (fun _ => 0))), ((q 7), .inr (1, [.ref (q 8), .ref (q 9), .ref (q 10), .int 0, .int 0])), ((q 8), .inl (cI, 6, .inl (fun _ => 0))), ((q 9), .inl (cI, 6, .inl (fun _ => 0))), ((q 10), .inl (cI, 6, .inl (fun _ => 0))), ((q 11), .inr (6, [.ref (q 7), .int 0, .int 0, .int (1 : Int32)])), ((q 12), .inr (2, [.ref (q 13), .ref (q 14), .int 0])), ((q 13), .inl (cI, 12, .inl (fun _ => 0))), ((q 14), .inl (cI, 12, .inl (fun _ => 0))), ((q 15), .inl (cO, 2, .inr (.inr (.inr (.inr (va_up (va_up (fun _ => none) 0 (some (q 16))) 1 (some (q 17)))))))), ((q 16), .inr (3, [.int (0 : Int32), .int 0, .int 0, .int 0])), ((q 17), .inr (3, [.int (0 : Int32), .int 0, .int 0, .int 0])), ((q 18), .inr (7, [.ref (q 19), .int 0])), ((q 19), .inl (cI, 9, .inl (fun _ => 0))), ((q 20), .inr (0, [.ref (q 7), .ref (q 11), .ref (q 18), .ref (q 21)])), ((q 21), .inl (cJ, 7, .inr (.inl (fun _ => 0)))), ((q 22), .inr (4, [.ref (q 7), .ref (q 11), .long 0]))]) (va_A [(h0, .inr (9, [.null, .null, .null, .null, .null, .null, .null, .null, .null]))] sz)) 23 320 (va_A [(h0, .inr (9, [.null, .null, .null, .null, .null, .null, .null, .null, .null]))] sz) := by
  refine Met.ofW (cc := cX9_init) (maxL := 2) (ret := none) (by decide) rfl ?_
  intro p e s m args below meth c s₁ B hml hv
  obtain ⟨rfl, hsz, hP, hKK, hD0⟩ := hv
  have hx := B.exec
  have hb := B.bytes
  have hr := B.returns
  have hts := atoms_spec (ws := wsX9_init) B.pre
  have hown : s.vm.findClass RX9 = some m.cls := findClass_of_methodNamed B.named
  have hlocks := B.notSynchronized
  have hK := hKK.1
  have hin : meth.name = "<init>" := (name_of_methodNamed B.named B.method).1
  have ol1 := hts (.methodLink RX9 1 objectInit) (by decide +kernel)
  have oi := hts (.instanceMethod objectInit) (by decide +kernel)
  have oc := hts (.code objectInit ⟨#[0xb1]⟩ 1 none) (by decide +kernel)
  have cl7 := hts (.classLink RX9 7 RX8) (by decide +kernel)
  have isX8 := hts (.instantiable RX8 2) (by decide +kernel)
  have iiX8 := hts (.initialized RX8) (by decide +kernel)
  have inX8 : ∀ w ∈ wsX80, w ∈ wsX9_init := by decide +kernel
  have ml9 := hts (.methodLink RX9 9 yX8_init) (by decide +kernel)
  have imX8_init := hts (.instanceMethod yX8_init) (by decide +kernel)
  have fl10 := hts (.fieldLink RX9 10 "SimonSays" "text" "LSimonSays$Text;") (by decide +kernel)
  have inX9 : ∀ w ∈ wsX90, w ∈ wsX9_init := by decide +kernel
  have cl16 := hts (.classLink RX9 16 RX5) (by decide +kernel)
  have isX5 := hts (.instantiable RX5 6) (by decide +kernel)
  have iiX5 := hts (.initialized RX5) (by decide +kernel)
  have inX5 : ∀ w ∈ wsX50, w ∈ wsX9_init := by decide +kernel
  have ml18 := hts (.methodLink RX9 18 yX5_init) (by decide +kernel)
  have imX5_init := hts (.instanceMethod yX5_init) (by decide +kernel)
  have fl21 := hts (.fieldLink RX9 21 "SimonSays" "reader" "LSimonSays$Reader;") (by decide +kernel)
  have cl25 := hts (.classLink RX9 25 RX1) (by decide +kernel)
  have isX1 := hts (.instantiable RX1 5) (by decide +kernel)
  have iiX1 := hts (.initialized RX1) (by decide +kernel)
  have inX1 : ∀ w ∈ wsX10, w ∈ wsX9_init := by decide +kernel
  have ml27 := hts (.methodLink RX9 27 yX1_init) (by decide +kernel)
  have imX1_init := hts (.instanceMethod yX1_init) (by decide +kernel)
  have fl28 := hts (.fieldLink RX9 28 "SimonSays" "told" "LSimonSays$Children;") (by decide +kernel)
  have cl32 := hts (.classLink RX9 32 RX6) (by decide +kernel)
  have isX6 := hts (.instantiable RX6 4) (by decide +kernel)
  have iiX6 := hts (.initialized RX6) (by decide +kernel)
  have inX6 : ∀ w ∈ wsX60, w ∈ wsX9_init := by decide +kernel
  have ml34 := hts (.methodLink RX9 34 yX6_init) (by decide +kernel)
  have imX6_init := hts (.instanceMethod yX6_init) (by decide +kernel)
  have fl37 := hts (.fieldLink RX9 37 "SimonSays" "round" "LSimonSays$Round;") (by decide +kernel)
  have cl41 := hts (.classLink RX9 41 RX2) (by decide +kernel)
  have isX2 := hts (.instantiable RX2 3) (by decide +kernel)
  have iiX2 := hts (.initialized RX2) (by decide +kernel)
  have inX2 : ∀ w ∈ wsX20, w ∈ wsX9_init := by decide +kernel
  have ml43 := hts (.methodLink RX9 43 yX2_init) (by decide +kernel)
  have imX2_init := hts (.instanceMethod yX2_init) (by decide +kernel)
  have fl44 := hts (.fieldLink RX9 44 "SimonSays" "history" "LSimonSays$History;") (by decide +kernel)
  have cl48 := hts (.classLink RX9 48 RX3) (by decide +kernel)
  have fl50 := hts (.fieldLink RX9 50 "SimonSays" "images" "[LSimonSays$Image;") (by decide +kernel)
  have isX3 := hts (.instantiable RX3 4) (by decide +kernel)
  have iiX3 := hts (.initialized RX3) (by decide +kernel)
  have inX3 : ∀ w ∈ wsX30, w ∈ wsX9_init := by decide +kernel
  have ml54 := hts (.methodLink RX9 54 yX3_init) (by decide +kernel)
  have imX3_init := hts (.instanceMethod yX3_init) (by decide +kernel)
  have cl55 := hts (.classLink RX9 55 RX7) (by decide +kernel)
  have isX7 := hts (.instantiable RX7 2) (by decide +kernel)
  have iiX7 := hts (.initialized RX7) (by decide +kernel)
  have inX7 : ∀ w ∈ wsX70, w ∈ wsX9_init := by decide +kernel
  have ml57 := hts (.methodLink RX9 57 yX7_init) (by decide +kernel)
  have imX7_init := hts (.instanceMethod yX7_init) (by decide +kernel)
  have fl58 := hts (.fieldLink RX9 58 "SimonSays" "asked" "LSimonSays$Row;") (by decide +kernel)
  have cl62 := hts (.classLink RX9 62 RX0) (by decide +kernel)
  have isX0 := hts (.instantiable RX0 4) (by decide +kernel)
  have iiX0 := hts (.initialized RX0) (by decide +kernel)
  have inX0 : ∀ w ∈ wsX00, w ∈ wsX9_init := by decide +kernel
  have ml64 := hts (.methodLink RX9 64 yX0_init) (by decide +kernel)
  have imX0_init := hts (.instanceMethod yX0_init) (by decide +kernel)
  have fl67 := hts (.fieldLink RX9 67 "SimonSays" "chances" "LSimonSays$Chances;") (by decide +kernel)
  have cl71 := hts (.classLink RX9 71 RX4) (by decide +kernel)
  have isX4 := hts (.instantiable RX4 3) (by decide +kernel)
  have iiX4 := hts (.initialized RX4) (by decide +kernel)
  have inX4 : ∀ w ∈ wsX40, w ∈ wsX9_init := by decide +kernel
  have ml73 := hts (.methodLink RX9 73 yX4_init) (by decide +kernel)
  have imX4_init := hts (.instanceMethod yX4_init) (by decide +kernel)
  have fl76 := hts (.fieldLink RX9 76 "SimonSays" "kinds" "LSimonSays$Kinds;") (by decide +kernel)
  subst hsz
  have hD := hD0.self (sz := s.heap.size)
  generalize hAe : va_A [(h0, .inr (9, [.null, .null, .null, .null, .null, .null, .null, .null, .null]))] s.heap.size = A at hD ⊢
  have hA : ∀ q : Nat, s.heap.size ≤ q → A q := fun q h => by rw [← hAe]; exact Or.inr h
  have hS : va_S A s.heap s.heap [] := va_S.rf
  have hl := lv_entry ([.ref h0]) (n := 2) (Nat.le_of_ble_eq_true rfl)
  rw [lg_entry_eq]
  generalize (lg_sl ([.ref h0]) ++ List.replicate (2 - (lg_sl ([.ref h0])).length) Slot.unset).toArray = ls at hl ⊢
  have hl : lv_has ls 2 [(0, .ref h0)] := hl
  refine lv_aload_n hx hb dX9_init_0 rfl (lv_at hl 0 rfl) ?_
  refine W.objInit hx hb hown ol1 oi oc rfl (by rw [hml]; exact hl.1) rfl dX9_init_1 (Nat.le_of_ble_eq_true rfl) (Nat.le_of_ble_eq_true rfl) ?_
  refine W.eq (g2 := F0 m 4 ls []) rfl ?_
  refine lv_aload_n hx hb dX9_init_4 rfl (lv_at hl 0 rfl) ?_
  refine va_new (ci := 8) (fs := [.null, .int 0]) (C := RX8) (T := TX8) (N := 2) hx hb hts inX8 tyX8 tyX8_ok hown cl7 isX8 iiX8 hK hP hD hS hA rfl (fun j hj => by rcases (show j = 0 ∨ j = 1 by omega) with rfl | rfl <;> rfl) (Nat.le_of_ble_eq_true rfl) (Nat.le_of_ble_eq_true rfl) dX9_init_5 (fun o1 H hP hD hS => ?_)
  have hP : va_P D vwCl [(h0, .inr (9, [.null, .null, .null, .null, .null, .null, .null, .null, .null])), (o1, .inr (8, [.null, .int 0]))] H := hP
  have hD : va_D A [(h0, .inr (9, [.null, .null, .null, .null, .null, .null, .null, .null, .null])), (o1, .inr (8, [.null, .int 0]))] := hD
  refine lv_dup hx hb dX9_init_8 rfl ?_
  have hPc : va_P D vwCl [(o1, .inr (8, [.null, .int 0]))] H := hP.sub [1] rfl
  have hDc : va_D A [(o1, .inr (8, [.null, .int 0]))] := hD.sub [1] (by decide) rfl
  have hFc := va_free (wc := [(o1, .inr (8, [.null, .int 0]))]) hD hS hA [1] rfl
  refine va_callv (va_runI (As := []) (rest := [.ref o1, .ref h0]) ⟨hx, hb, hml, hown, hts⟩ (k_X8_init l D cI cJ cZ cO o1 H.size) (cwI 0 hts gX9_init_X8_init rfl rfl rfl iiX8 ml9 imX8_init rfl (by decide +kernel) ⟨Nat.le_of_ble_eq_true rfl, Nat.le_of_ble_eq_true rfl⟩) ⟨fb_i, fun U hU hW => ⟨rfl, by rw [hU], by rw [hU]; exact hPc, KK.warm hW hKK, hDc.weaken (fun _ _ _ _ => trivial)⟩⟩ rfl rfl hl.1 rfl (lv_room (Nat.le_of_ble_eq_true rfl)) dX9_init_9 ⟨Nat.le_of_ble_eq_true rfl, Nat.le_of_ble_eq_true rfl⟩) hS (fun q _ h => hFc q h) hFc (fun u9 t H1 locs ht hvm hw hB hz1 hk1 hS => ?_)
  obtain ⟨hP1, hD1⟩ := hB
  rw [ht] at hP1
  obtain ⟨hP, hD⟩ := va_join (wr := [(h0, .inr (9, [.null, .null, .null, .null, .null, .null, .null, .null, .null]))]) (w1 := [(o1, .inr (8, [.ref (u9 0), .int 0])), ((u9 0), .inl (cI, 200, .inl (fun _ => 0)))]) hP hD [1] [0] rfl rfl (by decide) (by decide) hk1 hFc hP1 hD1
  generalize H1 = H at hP hS ⊢
  have hP : va_P D vwCl [(h0, .inr (9, [.null, .null, .null, .null, .null, .null, .null, .null, .null])), (o1, .inr (8, [.ref (u9 0), .int 0])), ((u9 0), .inl (cI, 200, .inl (fun _ => 0)))] H := hP
  have hD : va_D A [(h0, .inr (9, [.null, .null, .null, .null, .null, .null, .null, .null, .null])), (o1, .inr (8, [.ref (u9 0), .int 0])), ((u9 0), .inl (cI, 200, .inl (fun _ => 0)))] := hD
  refine va_putF (D := D) (ci := 9) (v := .ref o1) (ty := .object "SimonSays$Text") (C := RX9) (T := TX9) (N := 9) hx hb hts inX9 tyX9 tyX9_ok nmX9 hown hK hP hD hS 0 rfl rfl 0 (by decide) fl10 (fun _ h9 => h9) rfl hin rfl (by decide +kernel) rfl rfl (Nat.le_of_ble_eq_true rfl) dX9_init_12 (fun H locs hP hD hS => ?_)
  have hP : va_P D vwCl [(h0, .inr (9, [.ref o1, .null, .null, .null, .null, .null, .null, .null, .null])), (o1, .inr (8, [.ref (u9 0), .int 0])), ((u9 0), .inl (cI, 200, .inl (fun _ => 0)))] H := hP
  have hD : va_D A [(h0, .inr (9, [.ref o1, .null, .null, .null, .null, .null, .null, .null, .null])), (o1, .inr (8, [.ref (u9 0), .int 0])), ((u9 0), .inl (cI, 200, .inl (fun _ => 0)))] := hD
  refine lv_aload_n hx hb dX9_init_15 rfl (lv_at hl 0 rfl) ?_
  refine va_new (ci := 5) (fs := [.null, .null, .int 0, .int 0, .int 0, .int 0]) (C := RX5) (T := TX5) (N := 6) hx hb hts inX5 tyX5 tyX5_ok hown cl16 isX5 iiX5 hK hP hD hS hA rfl (fun j hj => by rcases (show j = 0 ∨ j = 1 ∨ j = 2 ∨ j = 3 ∨ j = 4 ∨ j = 5 by omega) with rfl | rfl | rfl | rfl | rfl | rfl <;> rfl) (Nat.le_of_ble_eq_true rfl) (Nat.le_of_ble_eq_true rfl) dX9_init_16 (fun o2 H hP hD hS => ?_)
  have hP : va_P D vwCl [(h0, .inr (9, [.ref o1, .null, .null, .null, .null, .null, .null, .null, .null])), (o1, .inr (8, [.ref (u9 0), .int 0])), ((u9 0), .inl (cI, 200, .inl (fun _ => 0))), (o2, .inr (5, [.null, .null, .int 0, .int 0, .int 0, .int 0]))] H := hP
  have hD : va_D A [(h0, .inr (9, [.ref o1, .null, .null, .null, .null, .null, .null, .null, .null])), (o1, .inr (8, [.ref (u9 0), .int 0])), ((u9 0), .inl (cI, 200, .inl (fun _ => 0))), (o2, .inr (5, [.null, .null, .int 0, .int 0, .int 0, .int 0]))] := hD
  refine lv_dup hx hb dX9_init_19 rfl ?_
  refine lv_aload_n hx hb dX9_init_20 rfl (lv_at hl 0 rfl) ?_
  refine va_get (D := D) (ci := 9) (v := .ref o1) (C := RX9) (T := TX9) (N := 9) hx hb hts inX9 hown hK hP 0 rfl rfl 0 (by decide) fl10 (fun _ h9 => h9) rfl dX9_init_21 ?_
  have hPc : va_P D vwCl [(o2, .inr (5, [.null, .null, .int 0, .int 0, .int 0, .int 0]))] H := hP.sub [3] rfl
  have hDc : va_D A [(o2, .inr (5, [.null, .null, .int 0, .int 0, .int 0, .int 0]))] := hD.sub [3] (by decide) rfl
  have hFc := va_free (wc := [(o2, .inr (5, [.null, .null, .int 0, .int 0, .int 0, .int 0]))]) hD hS hA [3] rfl
  refine va_callv (va_runI (As := [.ref o1]) (rest := [.ref o2, .ref h0]) ⟨hx, hb, hml, hown, hts⟩ (k_X5_init l D cI cJ cZ cO o2 H.size o1) (cwI 1 hts gX9_init_X5_init rfl rfl rfl iiX5 ml18 imX5_init rfl (by decide +kernel) ⟨Nat.le_of_ble_eq_true rfl, Nat.le_of_ble_eq_true rfl⟩) ⟨fb_i, fun U hU hW => ⟨rfl, by rw [hU], by rw [hU]; exact hPc, KK.warm hW hKK, hDc.weaken (fun _ _ _ _ => trivial)⟩⟩ rfl rfl hl.1 rfl (lv_room (Nat.le_of_ble_eq_true rfl)) dX9_init_24 ⟨Nat.le_of_ble_eq_true rfl, Nat.le_of_ble_eq_true rfl⟩) hS (fun q _ h => hFc q h) hFc (fun u24 t H1 locs ht hvm hw hB hz1 hk1 hS => ?_)
  obtain ⟨hP1, hD1⟩ := hB
  rw [ht] at hP1
  obtain ⟨hP, hD⟩ := va_join (wr := [(h0, .inr (9, [.ref o1, .null, .null, .null, .null, .null, .null, .null, .null])), (o1, .inr (8, [.ref (u9 0), .int 0])), ((u9 0), .inl (cI, 200, .inl (fun _ => 0)))]) (w1 := [(o2, .inr (5, [.ref o1, .ref (u24 0), .int 0, .int 0, .int 0, .int 0])), ((u24 0), .inr (1, [.ref (u24 1), .ref (u24 2), .ref (u24 3), .int 0, .int 0])), ((u24 1), .inl (cI, 6, .inl (fun _ => 0))), ((u24 2), .inl (cI, 6, .inl (fun _ => 0))), ((u24 3), .inl (cI, 6, .inl (fun _ => 0)))]) hP hD [3] [0, 1, 2] rfl rfl (by decide) (by decide) hk1 hFc hP1 hD1
  generalize H1 = H at hP hS ⊢
  have hP : va_P D vwCl [(h0, .inr (9, [.ref o1, .null, .null, .null, .null, .null, .null, .null, .null])), (o1, .inr (8, [.ref (u9 0), .int 0])), ((u9 0), .inl (cI, 200, .inl (fun _ => 0))), (o2, .inr (5, [.ref o1, .ref (u24 0), .int 0, .int 0, .int 0, .int 0])), ((u24 0), .inr (1, [.ref (u24 1), .ref (u24 2), .ref (u24 3), .int 0, .int 0])), ((u24 1), .inl (cI, 6, .inl (fun _ => 0))), ((u24 2), .inl (cI, 6, .inl (fun _ => 0))), ((u24 3), .inl (cI, 6, .inl (fun _ => 0)))] H := hP
  have hD : va_D A [(h0, .inr (9, [.ref o1, .null, .null, .null, .null, .null, .null, .null, .null])), (o1, .inr (8, [.ref (u9 0), .int 0])), ((u9 0), .inl (cI, 200, .inl (fun _ => 0))), (o2, .inr (5, [.ref o1, .ref (u24 0), .int 0, .int 0, .int 0, .int 0])), ((u24 0), .inr (1, [.ref (u24 1), .ref (u24 2), .ref (u24 3), .int 0, .int 0])), ((u24 1), .inl (cI, 6, .inl (fun _ => 0))), ((u24 2), .inl (cI, 6, .inl (fun _ => 0))), ((u24 3), .inl (cI, 6, .inl (fun _ => 0)))] := hD
  refine va_putF (D := D) (ci := 9) (v := .ref o2) (ty := .object "SimonSays$Reader") (C := RX9) (T := TX9) (N := 9) hx hb hts inX9 tyX9 tyX9_ok nmX9 hown hK hP hD hS 0 rfl rfl 1 (by decide) fl21 (fun _ h9 => h9) rfl hin rfl (by decide +kernel) rfl rfl (Nat.le_of_ble_eq_true rfl) dX9_init_27 (fun H locs hP hD hS => ?_)
  have hP : va_P D vwCl [(h0, .inr (9, [.ref o1, .ref o2, .null, .null, .null, .null, .null, .null, .null])), (o1, .inr (8, [.ref (u9 0), .int 0])), ((u9 0), .inl (cI, 200, .inl (fun _ => 0))), (o2, .inr (5, [.ref o1, .ref (u24 0), .int 0, .int 0, .int 0, .int 0])), ((u24 0), .inr (1, [.ref (u24 1), .ref (u24 2), .ref (u24 3), .int 0, .int 0])), ((u24 1), .inl (cI, 6, .inl (fun _ => 0))), ((u24 2), .inl (cI, 6, .inl (fun _ => 0))), ((u24 3), .inl (cI, 6, .inl (fun _ => 0)))] H := hP
  have hD : va_D A [(h0, .inr (9, [.ref o1, .ref o2, .null, .null, .null, .null, .null, .null, .null])), (o1, .inr (8, [.ref (u9 0), .int 0])), ((u9 0), .inl (cI, 200, .inl (fun _ => 0))), (o2, .inr (5, [.ref o1, .ref (u24 0), .int 0, .int 0, .int 0, .int 0])), ((u24 0), .inr (1, [.ref (u24 1), .ref (u24 2), .ref (u24 3), .int 0, .int 0])), ((u24 1), .inl (cI, 6, .inl (fun _ => 0))), ((u24 2), .inl (cI, 6, .inl (fun _ => 0))), ((u24 3), .inl (cI, 6, .inl (fun _ => 0)))] := hD
  refine lv_aload_n hx hb dX9_init_30 rfl (lv_at hl 0 rfl) ?_
  refine va_new (ci := 1) (fs := [.null, .null, .null, .int 0, .int 0]) (C := RX1) (T := TX1) (N := 5) hx hb hts inX1 tyX1 tyX1_ok hown cl25 isX1 iiX1 hK hP hD hS hA rfl (fun j hj => by rcases (show j = 0 ∨ j = 1 ∨ j = 2 ∨ j = 3 ∨ j = 4 by omega) with rfl | rfl | rfl | rfl | rfl <;> rfl) (Nat.le_of_ble_eq_true rfl) (Nat.le_of_ble_eq_true rfl) dX9_init_31 (fun o3 H hP hD hS => ?_)
  have hP : va_P D vwCl [(h0, .inr (9, [.ref o1, .ref o2, .null, .null, .null, .null, .null, .null, .null])), (o1, .inr (8, [.ref (u9 0), .int 0])), ((u9 0), .inl (cI, 200, .inl (fun _ => 0))), (o2, .inr (5, [.ref o1, .ref (u24 0), .int 0, .int 0, .int 0, .int 0])), ((u24 0), .inr (1, [.ref (u24 1), .ref (u24 2), .ref (u24 3), .int 0, .int 0])), ((u24 1), .inl (cI, 6, .inl (fun _ => 0))), ((u24 2), .inl (cI, 6, .inl (fun _ => 0))), ((u24 3), .inl (cI, 6, .inl (fun _ => 0))), (o3, .inr (1, [.null, .null, .null, .int 0, .int 0]))] H := hP
  have hD : va_D A [(h0, .inr (9, [.ref o1, .ref o2, .null, .null, .null, .null, .null, .null, .null])), (o1, .inr (8, [.ref (u9 0), .int 0])), ((u9 0), .inl (cI, 200, .inl (fun _ => 0))), (o2, .inr (5, [.ref o1, .ref (u24 0), .int 0, .int 0, .int 0, .int 0])), ((u24 0), .inr (1, [.ref (u24 1), .ref (u24 2), .ref (u24 3), .int 0, .int 0])), ((u24 1), .inl (cI, 6, .inl (fun _ => 0))), ((u24 2), .inl (cI, 6, .inl (fun _ => 0))), ((u24 3), .inl (cI, 6, .inl (fun _ => 0))), (o3, .inr (1, [.null, .null, .null, .int 0, .int 0]))] := hD
  refine lv_dup hx hb dX9_init_34 rfl ?_
  have hPc : va_P D vwCl [(o3, .inr (1, [.null, .null, .null, .int 0, .int 0]))] H := hP.sub [8] rfl
  have hDc : va_D A [(o3, .inr (1, [.null, .null, .null, .int 0, .int 0]))] := hD.sub [8] (by decide) rfl
  have hFc := va_free (wc := [(o3, .inr (1, [.null, .null, .null, .int 0, .int 0]))]) hD hS hA [8] rfl
  refine va_callv (va_runI (As := []) (rest := [.ref o3, .ref h0]) ⟨hx, hb, hml, hown, hts⟩ (k_X1_init l D cI cJ cZ cO o3 H.size) (cwI 0 hts gX9_init_X1_init rfl rfl rfl iiX1 ml27 imX1_init rfl (by decide +kernel) ⟨Nat.le_of_ble_eq_true rfl, Nat.le_of_ble_eq_true rfl⟩) ⟨fb_i, fun U hU hW => ⟨rfl, by rw [hU], by rw [hU]; exact hPc, KK.warm hW hKK, hDc.weaken (fun _ _ _ _ => trivial)⟩⟩ rfl rfl hl.1 rfl (lv_room (Nat.le_of_ble_eq_true rfl)) dX9_init_35 ⟨Nat.le_of_ble_eq_true rfl, Nat.le_of_ble_eq_true rfl⟩) hS (fun q _ h => hFc q h) hFc (fun u35 t H1 locs ht hvm hw hB hz1 hk1 hS => ?_)
  obtain ⟨hP1, hD1⟩ := hB
  rw [ht] at hP1
  obtain ⟨hP, hD⟩ := va_join (wr := [(h0, .inr (9, [.ref o1, .ref o2, .null, .null, .null, .null, .null, .null, .null])), (o1, .inr (8, [.ref (u9 0), .int 0])), ((u9 0), .inl (cI, 200, .inl (fun _ => 0))), (o2, .inr (5, [.ref o1, .ref (u24 0), .int 0, .int 0, .int 0, .int 0])), ((u24 0), .inr (1, [.ref (u24 1), .ref (u24 2), .ref (u24 3), .int 0, .int 0])), ((u24 1), .inl (cI, 6, .inl (fun _ => 0))), ((u24 2), .inl (cI, 6, .inl (fun _ => 0))), ((u24 3), .inl (cI, 6, .inl (fun _ => 0)))]) (w1 := [(o3, .inr (1, [.ref (u35 0), .ref (u35 1), .ref (u35 2), .int 0, .int 0])), ((u35 0), .inl (cI, 6, .inl (fun _ => 0))), ((u35 1), .inl (cI, 6, .inl (fun _ => 0))), ((u35 2), .inl (cI, 6, .inl (fun _ => 0)))]) hP hD [8] [0, 1, 2, 3, 4, 5, 6, 7] rfl rfl (by decide) (by decide) hk1 hFc hP1 hD1
  generalize H1 = H at hP hS ⊢
  have hP : va_P D vwCl [(h0, .inr (9, [.ref o1, .ref o2, .null, .null, .null, .null, .null, .null, .null])), (o1, .inr (8, [.ref (u9 0), .int 0])), ((u9 0), .inl (cI, 200, .inl (fun _ => 0))), (o2, .inr (5, [.ref o1, .ref (u24 0), .int 0, .int 0, .int 0, .int 0])), ((u24 0), .inr (1, [.ref (u24 1), .ref (u24 2), .ref (u24 3), .int 0, .int 0])), ((u24 1), .inl (cI, 6, .inl (fun _ => 0))), ((u24 2), .inl (cI, 6, .inl (fun _ => 0))), ((u24 3), .inl (cI, 6, .inl (fun _ => 0))), (o3, .inr (1, [.ref (u35 0), .ref (u35 1), .ref (u35 2), .int 0, .int 0])), ((u35 0), .inl (cI, 6, .inl (fun _ => 0))), ((u35 1), .inl (cI, 6, .inl (fun _ => 0))), ((u35 2), .inl (cI, 6, .inl (fun _ => 0)))] H := hP
  have hD : va_D A [(h0, .inr (9, [.ref o1, .ref o2, .null, .null, .null, .null, .null, .null, .null])), (o1, .inr (8, [.ref (u9 0), .int 0])), ((u9 0), .inl (cI, 200, .inl (fun _ => 0))), (o2, .inr (5, [.ref o1, .ref (u24 0), .int 0, .int 0, .int 0, .int 0])), ((u24 0), .inr (1, [.ref (u24 1), .ref (u24 2), .ref (u24 3), .int 0, .int 0])), ((u24 1), .inl (cI, 6, .inl (fun _ => 0))), ((u24 2), .inl (cI, 6, .inl (fun _ => 0))), ((u24 3), .inl (cI, 6, .inl (fun _ => 0))), (o3, .inr (1, [.ref (u35 0), .ref (u35 1), .ref (u35 2), .int 0, .int 0])), ((u35 0), .inl (cI, 6, .inl (fun _ => 0))), ((u35 1), .inl (cI, 6, .inl (fun _ => 0))), ((u35 2), .inl (cI, 6, .inl (fun _ => 0)))] := hD
  refine va_putF (D := D) (ci := 9) (v := .ref o3) (ty := .object "SimonSays$Children") (C := RX9) (T := TX9) (N := 9) hx hb hts inX9 tyX9 tyX9_ok nmX9 hown hK hP hD hS 0 rfl rfl 2 (by decide) fl28 (fun _ h9 => h9) rfl hin rfl (by decide +kernel) rfl rfl (Nat.le_of_ble_eq_true rfl) dX9_init_38 (fun H locs hP hD hS => ?_)
  have hP : va_P D vwCl [(h0, .inr (9, [.ref o1, .ref o2, .ref o3, .null, .null, .null, .null, .null, .null])), (o1, .inr (8, [.ref (u9 0), .int 0])), ((u9 0), .inl (cI, 200, .inl (fun _ => 0))), (o2, .inr (5, [.ref o1, .ref (u24 0), .int 0, .int 0, .int 0, .int 0])), ((u24 0), .inr (1, [.ref (u24 1), .ref (u24 2), .ref (u24 3), .int 0, .int 0])), ((u24 1), .inl (cI, 6, .inl (fun _ => 0))), ((u24 2), .inl (cI, 6, .inl (fun _ => 0))), ((u24 3), .inl (cI, 6, .inl (fun _ => 0))), (o3, .inr (1, [.ref (u35 0), .ref (u35 1), .ref (u35 2), .int 0, .int 0])), ((u35 0), .inl (cI, 6, .inl (fun _ => 0))), ((u35 1), .inl (cI, 6, .inl (fun _ => 0))), ((u35 2), .inl (cI, 6, .inl (fun _ => 0)))] H := hP
  have hD : va_D A [(h0, .inr (9, [.ref o1, .ref o2, .ref o3, .null, .null, .null, .null, .null, .null])), (o1, .inr (8, [.ref (u9 0), .int 0])), ((u9 0), .inl (cI, 200, .inl (fun _ => 0))), (o2, .inr (5, [.ref o1, .ref (u24 0), .int 0, .int 0, .int 0, .int 0])), ((u24 0), .inr (1, [.ref (u24 1), .ref (u24 2), .ref (u24 3), .int 0, .int 0])), ((u24 1), .inl (cI, 6, .inl (fun _ => 0))), ((u24 2), .inl (cI, 6, .inl (fun _ => 0))), ((u24 3), .inl (cI, 6, .inl (fun _ => 0))), (o3, .inr (1, [.ref (u35 0), .ref (u35 1), .ref (u35 2), .int 0, .int 0])), ((u35 0), .inl (cI, 6, .inl (fun _ => 0))), ((u35 1), .inl (cI, 6, .inl (fun _ => 0))), ((u35 2), .inl (cI, 6, .inl (fun _ => 0)))] := hD
  refine lv_aload_n hx hb dX9_init_41 rfl (lv_at hl 0 rfl) ?_
  refine va_new (ci := 6) (fs := [.null, .int 0, .int 0, .int 0]) (C := RX6) (T := TX6) (N := 4) hx hb hts inX6 tyX6 tyX6_ok hown cl32 isX6 iiX6 hK hP hD hS hA rfl (fun j hj => by rcases (show j = 0 ∨ j = 1 ∨ j = 2 ∨ j = 3 by omega) with rfl | rfl | rfl | rfl <;> rfl) (Nat.le_of_ble_eq_true rfl) (Nat.le_of_ble_eq_true rfl) dX9_init_42 (fun o4 H hP hD hS => ?_)
  have hP : va_P D vwCl [(h0, .inr (9, [.ref o1, .ref o2, .ref o3, .null, .null, .null, .null, .null, .null])), (o1, .inr (8, [.ref (u9 0), .int 0])), ((u9 0), .inl (cI, 200, .inl (fun _ => 0))), (o2, .inr (5, [.ref o1, .ref (u24 0), .int 0, .int 0, .int 0, .int 0])), ((u24 0), .inr (1, [.ref (u24 1), .ref (u24 2), .ref (u24 3), .int 0, .int 0])), ((u24 1), .inl (cI, 6, .inl (fun _ => 0))), ((u24 2), .inl (cI, 6, .inl (fun _ => 0))), ((u24 3), .inl (cI, 6, .inl (fun _ => 0))), (o3, .inr (1, [.ref (u35 0), .ref (u35 1), .ref (u35 2), .int 0, .int 0])), ((u35 0), .inl (cI, 6, .inl (fun _ => 0))), ((u35 1), .inl (cI, 6, .inl (fun _ => 0))), ((u35 2), .inl (cI, 6, .inl (fun _ => 0))), (o4, .inr (6, [.null, .int 0, .int 0, .int 0]))] H := hP
  have hD : va_D A [(h0, .inr (9, [.ref o1, .ref o2, .ref o3, .null, .null, .null, .null, .null, .null])), (o1, .inr (8, [.ref (u9 0), .int 0])), ((u9 0), .inl (cI, 200, .inl (fun _ => 0))), (o2, .inr (5, [.ref o1, .ref (u24 0), .int 0, .int 0, .int 0, .int 0])), ((u24 0), .inr (1, [.ref (u24 1), .ref (u24 2), .ref (u24 3), .int 0, .int 0])), ((u24 1), .inl (cI, 6, .inl (fun _ => 0))), ((u24 2), .inl (cI, 6, .inl (fun _ => 0))), ((u24 3), .inl (cI, 6, .inl (fun _ => 0))), (o3, .inr (1, [.ref (u35 0), .ref (u35 1), .ref (u35 2), .int 0, .int 0])), ((u35 0), .inl (cI, 6, .inl (fun _ => 0))), ((u35 1), .inl (cI, 6, .inl (fun _ => 0))), ((u35 2), .inl (cI, 6, .inl (fun _ => 0))), (o4, .inr (6, [.null, .int 0, .int 0, .int 0]))] := hD
  refine lv_dup hx hb dX9_init_45 rfl ?_
  refine lv_aload_n hx hb dX9_init_46 rfl (lv_at hl 0 rfl) ?_
  refine va_get (D := D) (ci := 9) (v := .ref o3) (C := RX9) (T := TX9) (N := 9) hx hb hts inX9 hown hK hP 0 rfl rfl 2 (by decide) fl28 (fun _ h9 => h9) rfl dX9_init_47 ?_
  have hPc : va_P D vwCl [(o4, .inr (6, [.null, .int 0, .int 0, .int 0]))] H := hP.sub [12] rfl
  have hDc : va_D A [(o4, .inr (6, [.null, .int 0, .int 0, .int 0]))] := hD.sub [12] (by decide) rfl
  have hFc := va_free (wc := [(o4, .inr (6, [.null, .int 0, .int 0, .int 0]))]) hD hS hA [12] rfl
  refine va_callv (va_runI (As := [.ref o3]) (rest := [.ref o4, .ref h0]) ⟨hx, hb, hml, hown, hts⟩ (k_X6_init l D cI cJ cZ cO o4 H.size o3) (cwI 1 hts gX9_init_X6_init rfl rfl rfl iiX6 ml34 imX6_init rfl (by decide +kernel) ⟨Nat.le_of_ble_eq_true rfl, Nat.le_of_ble_eq_true rfl⟩) ⟨fb_i, fun U hU hW => ⟨rfl, by rw [hU], by rw [hU]; exact hPc, KK.warm hW hKK, hDc.weaken (fun _ _ _ _ => trivial)⟩⟩ rfl rfl hl.1 rfl (lv_room (Nat.le_of_ble_eq_true rfl)) dX9_init_50 ⟨Nat.le_of_ble_eq_true rfl, Nat.le_of_ble_eq_true rfl⟩) hS (fun q _ h => hFc q h) hFc (fun u50 t H1 locs ht hvm hw hB hz1 hk1 hS => ?_)
  obtain ⟨hP1, hD1⟩ := hB
  rw [ht] at hP1
  obtain ⟨hP, hD⟩ := va_join (wr := [(h0, .inr (9, [.ref o1, .ref o2, .ref o3, .null, .null, .null, .null, .null, .null])), (o1, .inr (8, [.ref (u9 0), .int 0])), ((u9 0), .inl (cI, 200, .inl (fun _ => 0))), (o2, .inr (5, [.ref o1, .ref (u24 0), .int 0, .int 0, .int 0, .int 0])), ((u24 0), .inr (1, [.ref (u24 1), .ref (u24 2), .ref (u24 3), .int 0, .int 0])), ((u24 1), .inl (cI, 6, .inl (fun _ => 0))), ((u24 2), .inl (cI, 6, .inl (fun _ => 0))), ((u24 3), .inl (cI, 6, .inl (fun _ => 0))), (o3, .inr (1, [.ref (u35 0), .ref (u35 1), .ref (u35 2), .int 0, .int 0])), ((u35 0), .inl (cI, 6, .inl (fun _ => 0))), ((u35 1), .inl (cI, 6, .inl (fun _ => 0))), ((u35 2), .inl (cI, 6, .inl (fun _ => 0)))]) (w1 := [(o4, .inr (6, [.ref o3, .int 0, .int 0, .int (1 : Int32)]))]) hP hD [12] [0, 1, 2, 3, 4, 5, 6, 7, 8, 9, 10, 11] rfl rfl (by decide) (by decide) hk1 hFc hP1 hD1
  generalize H1 = H at hP hS ⊢
  have hP : va_P D vwCl [(h0, .inr (9, [.ref o1, .ref o2, .ref o3, .null, .null, .null, .null, .null, .null])), (o1, .inr (8, [.ref (u9 0), .int 0])), ((u9 0), .inl (cI, 200, .inl (fun _ => 0))), (o2, .inr (5, [.ref o1, .ref (u24 0), .int 0, .int 0, .int 0, .int 0])), ((u24 0), .inr (1, [.ref (u24 1), .ref (u24 2), .ref (u24 3), .int 0, .int 0])), ((u24 1), .inl (cI, 6, .inl (fun _ => 0))), ((u24 2), .inl (cI, 6, .inl (fun _ => 0))), ((u24 3), .inl (cI, 6, .inl (fun _ => 0))), (o3, .inr (1, [.ref (u35 0), .ref (u35 1), .ref (u35 2), .int 0, .int 0])), ((u35 0), .inl (cI, 6, .inl (fun _ => 0))), ((u35 1), .inl (cI, 6, .inl (fun _ => 0))), ((u35 2), .inl (cI, 6, .inl (fun _ => 0))), (o4, .inr (6, [.ref o3, .int 0, .int 0, .int (1 : Int32)]))] H := hP
  have hD : va_D A [(h0, .inr (9, [.ref o1, .ref o2, .ref o3, .null, .null, .null, .null, .null, .null])), (o1, .inr (8, [.ref (u9 0), .int 0])), ((u9 0), .inl (cI, 200, .inl (fun _ => 0))), (o2, .inr (5, [.ref o1, .ref (u24 0), .int 0, .int 0, .int 0, .int 0])), ((u24 0), .inr (1, [.ref (u24 1), .ref (u24 2), .ref (u24 3), .int 0, .int 0])), ((u24 1), .inl (cI, 6, .inl (fun _ => 0))), ((u24 2), .inl (cI, 6, .inl (fun _ => 0))), ((u24 3), .inl (cI, 6, .inl (fun _ => 0))), (o3, .inr (1, [.ref (u35 0), .ref (u35 1), .ref (u35 2), .int 0, .int 0])), ((u35 0), .inl (cI, 6, .inl (fun _ => 0))), ((u35 1), .inl (cI, 6, .inl (fun _ => 0))), ((u35 2), .inl (cI, 6, .inl (fun _ => 0))), (o4, .inr (6, [.ref o3, .int 0, .int 0, .int (1 : Int32)]))] := hD
  refine va_putF (D := D) (ci := 9) (v := .ref o4) (ty := .object "SimonSays$Round") (C := RX9) (T := TX9) (N := 9) hx hb hts inX9 tyX9 tyX9_ok nmX9 hown hK hP hD hS 0 rfl rfl 3 (by decide) fl37 (fun _ h9 => h9) rfl hin rfl (by decide +kernel) rfl rfl (Nat.le_of_ble_eq_true rfl) dX9_init_53 (fun H locs hP hD hS => ?_)
  have hP : va_P D vwCl [(h0, .inr (9, [.ref o1, .ref o2, .ref o3, .ref o4, .null, .null, .null, .null, .null])), (o1, .inr (8, [.ref (u9 0), .int 0])), ((u9 0), .inl (cI, 200, .inl (fun _ => 0))), (o2, .inr (5, [.ref o1, .ref (u24 0), .int 0, .int 0, .int 0, .int 0])), ((u24 0), .inr (1, [.ref (u24 1), .ref (u24 2), .ref (u24 3), .int 0, .int 0])), ((u24 1), .inl (cI, 6, .inl (fun _ => 0))), ((u24 2), .inl (cI, 6, .inl (fun _ => 0))), ((u24 3), .inl (cI, 6, .inl (fun _ => 0))), (o3, .inr (1, [.ref (u35 0), .ref (u35 1), .ref (u35 2), .int 0, .int 0])), ((u35 0), .inl (cI, 6, .inl (fun _ => 0))), ((u35 1), .inl (cI, 6, .inl (fun _ => 0))), ((u35 2), .inl (cI, 6, .inl (fun _ => 0))), (o4, .inr (6, [.ref o3, .int 0, .int 0, .int (1 : Int32)]))] H := hP
  have hD : va_D A [(h0, .inr (9, [.ref o1, .ref o2, .ref o3, .ref o4, .null, .null, .null, .null, .null])), (o1, .inr (8, [.ref (u9 0), .int 0])), ((u9 0), .inl (cI, 200, .inl (fun _ => 0))), (o2, .inr (5, [.ref o1, .ref (u24 0), .int 0, .int 0, .int 0, .int 0])), ((u24 0), .inr (1, [.ref (u24 1), .ref (u24 2), .ref (u24 3), .int 0, .int 0])), ((u24 1), .inl (cI, 6, .inl (fun _ => 0))), ((u24 2), .inl (cI, 6, .inl (fun _ => 0))), ((u24 3), .inl (cI, 6, .inl (fun _ => 0))), (o3, .inr (1, [.ref (u35 0), .ref (u35 1), .ref (u35 2), .int 0, .int 0])), ((u35 0), .inl (cI, 6, .inl (fun _ => 0))), ((u35 1), .inl (cI, 6, .inl (fun _ => 0))), ((u35 2), .inl (cI, 6, .inl (fun _ => 0))), (o4, .inr (6, [.ref o3, .int 0, .int 0, .int (1 : Int32)]))] := hD
  refine lv_aload_n hx hb dX9_init_56 rfl (lv_at hl 0 rfl) ?_
  refine va_new (ci := 2) (fs := [.null, .null, .int 0]) (C := RX2) (T := TX2) (N := 3) hx hb hts inX2 tyX2 tyX2_ok hown cl41 isX2 iiX2 hK hP hD hS hA rfl (fun j hj => by rcases (show j = 0 ∨ j = 1 ∨ j = 2 by omega) with rfl | rfl | rfl <;> rfl) (Nat.le_of_ble_eq_true rfl) (Nat.le_of_ble_eq_true rfl) dX9_init_57 (fun o5 H hP hD hS => ?_)
  have hP : va_P D vwCl [(h0, .inr (9, [.ref o1, .ref o2, .ref o3, .ref o4, .null, .null, .null, .null, .null])), (o1, .inr (8, [.ref (u9 0), .int 0])), ((u9 0), .inl (cI, 200, .inl (fun _ => 0))), (o2, .inr (5, [.ref o1, .ref (u24 0), .int 0, .int 0, .int 0, .int 0])), ((u24 0), .inr (1, [.ref (u24 1), .ref (u24 2), .ref (u24 3), .int 0, .int 0])), ((u24 1), .inl (cI, 6, .inl (fun _ => 0))), ((u24 2), .inl (cI, 6, .inl (fun _ => 0))), ((u24 3), .inl (cI, 6, .inl (fun _ => 0))), (o3, .inr (1, [.ref (u35 0), .ref (u35 1), .ref (u35 2), .int 0, .int 0])), ((u35 0), .inl (cI, 6, .inl (fun _ => 0))), ((u35 1), .inl (cI, 6, .inl (fun _ => 0))), ((u35 2), .inl (cI, 6, .inl (fun _ => 0))), (o4, .inr (6, [.ref o3, .int 0, .int 0, .int (1 : Int32)])), (o5, .inr (2, [.null, .null, .int 0]))] H := hP
  have hD : va_D A [(h0, .inr (9, [.ref o1, .ref o2, .ref o3, .ref o4, .null, .null, .null, .null, .null])), (o1, .inr (8, [.ref (u9 0), .int 0])), ((u9 0), .inl (cI, 200, .inl (fun _ => 0))), (o2, .inr (5, [.ref o1, .ref (u24 0), .int 0, .int 0, .int 0, .int 0])), ((u24 0), .inr (1, [.ref (u24 1), .ref (u24 2), .ref (u24 3), .int 0, .int 0])), ((u24 1), .inl (cI, 6, .inl (fun _ => 0))), ((u24 2), .inl (cI, 6, .inl (fun _ => 0))), ((u24 3), .inl (cI, 6, .inl (fun _ => 0))), (o3, .inr (1, [.ref (u35 0), .ref (u35 1), .ref (u35 2), .int 0, .int 0])), ((u35 0), .inl (cI, 6, .inl (fun _ => 0))), ((u35 1), .inl (cI, 6, .inl (fun _ => 0))), ((u35 2), .inl (cI, 6, .inl (fun _ => 0))), (o4, .inr (6, [.ref o3, .int 0, .int 0, .int (1 : Int32)])), (o5, .inr (2, [.null, .null, .int 0]))] := hD
  refine lv_dup hx hb dX9_init_60 rfl ?_
  have hPc : va_P D vwCl [(o5, .inr (2, [.null, .null, .int 0]))] H := hP.sub [13] rfl
  have hDc : va_D A [(o5, .inr (2, [.null, .null, .int 0]))] := hD.sub [13] (by decide) rfl
  have hFc := va_free (wc := [(o5, .inr (2, [.null, .null, .int 0]))]) hD hS hA [13] rfl
  refine va_callv (va_runI (As := []) (rest := [.ref o5, .ref h0]) ⟨hx, hb, hml, hown, hts⟩ (k_X2_init l D cI cJ cZ cO o5 H.size) (cwI 0 hts gX9_init_X2_init rfl rfl rfl iiX2 ml43 imX2_init rfl (by decide +kernel) ⟨Nat.le_of_ble_eq_true rfl, Nat.le_of_ble_eq_true rfl⟩) ⟨fb_i, fun U hU hW => ⟨rfl, by rw [hU], by rw [hU]; exact hPc, KK.warm hW hKK, hDc.weaken (fun _ _ _ _ => trivial)⟩⟩ rfl rfl hl.1 rfl (lv_room (Nat.le_of_ble_eq_true rfl)) dX9_init_61 ⟨Nat.le_of_ble_eq_true rfl, Nat.le_of_ble_eq_true rfl⟩) hS (fun q _ h => hFc q h) hFc (fun u61 t H1 locs ht hvm hw hB hz1 hk1 hS => ?_)
  obtain ⟨hP1, hD1⟩ := hB
  rw [ht] at hP1
  obtain ⟨hP, hD⟩ := va_join (wr := [(h0, .inr (9, [.ref o1, .ref o2, .ref o3, .ref o4, .null, .null, .null, .null, .null])), (o1, .inr (8, [.ref (u9 0), .int 0])), ((u9 0), .inl (cI, 200, .inl (fun _ => 0))), (o2, .inr (5, [.ref o1, .ref (u24 0), .int 0, .int 0, .int 0, .int 0])), ((u24 0), .inr (1, [.ref (u24 1), .ref (u24 2), .ref (u24 3), .int 0, .int 0])), ((u24 1), .inl (cI, 6, .inl (fun _ => 0))), ((u24 2), .inl (cI, 6, .inl (fun _ => 0))), ((u24 3), .inl (cI, 6, .inl (fun _ => 0))), (o3, .inr (1, [.ref (u35 0), .ref (u35 1), .ref (u35 2), .int 0, .int 0])), ((u35 0), .inl (cI, 6, .inl (fun _ => 0))), ((u35 1), .inl (cI, 6, .inl (fun _ => 0))), ((u35 2), .inl (cI, 6, .inl (fun _ => 0))), (o4, .inr (6, [.ref o3, .int 0, .int 0, .int (1 : Int32)]))]) (w1 := [(o5, .inr (2, [.ref (u61 0), .ref (u61 1), .int 0])), ((u61 0), .inl (cI, 12, .inl (fun _ => 0))), ((u61 1), .inl (cI, 12, .inl (fun _ => 0)))]) hP hD [13] [0, 1, 2, 3, 4, 5, 6, 7, 8, 9, 10, 11, 12] rfl rfl (by decide) (by decide) hk1 hFc hP1 hD1
  generalize H1 = H at hP hS ⊢
  have hP : va_P D vwCl [(h0, .inr (9, [.ref o1, .ref o2, .ref o3, .ref o4, .null, .null, .null, .null, .null])), (o1, .inr (8, [.ref (u9 0), .int 0])), ((u9 0), .inl (cI, 200, .inl (fun _ => 0))), (o2, .inr (5, [.ref o1, .ref (u24 0), .int 0, .int 0, .int 0, .int 0])), ((u24 0), .inr (1, [.ref (u24 1), .ref (u24 2), .ref (u24 3), .int 0, .int 0])), ((u24 1), .inl (cI, 6, .inl (fun _ => 0))), ((u24 2), .inl (cI, 6, .inl (fun _ => 0))), ((u24 3), .inl (cI, 6, .inl (fun _ => 0))), (o3, .inr (1, [.ref (u35 0), .ref (u35 1), .ref (u35 2), .int 0, .int 0])), ((u35 0), .inl (cI, 6, .inl (fun _ => 0))), ((u35 1), .inl (cI, 6, .inl (fun _ => 0))), ((u35 2), .inl (cI, 6, .inl (fun _ => 0))), (o4, .inr (6, [.ref o3, .int 0, .int 0, .int (1 : Int32)])), (o5, .inr (2, [.ref (u61 0), .ref (u61 1), .int 0])), ((u61 0), .inl (cI, 12, .inl (fun _ => 0))), ((u61 1), .inl (cI, 12, .inl (fun _ => 0)))] H := hP
  have hD : va_D A [(h0, .inr (9, [.ref o1, .ref o2, .ref o3, .ref o4, .null, .null, .null, .null, .null])), (o1, .inr (8, [.ref (u9 0), .int 0])), ((u9 0), .inl (cI, 200, .inl (fun _ => 0))), (o2, .inr (5, [.ref o1, .ref (u24 0), .int 0, .int 0, .int 0, .int 0])), ((u24 0), .inr (1, [.ref (u24 1), .ref (u24 2), .ref (u24 3), .int 0, .int 0])), ((u24 1), .inl (cI, 6, .inl (fun _ => 0))), ((u24 2), .inl (cI, 6, .inl (fun _ => 0))), ((u24 3), .inl (cI, 6, .inl (fun _ => 0))), (o3, .inr (1, [.ref (u35 0), .ref (u35 1), .ref (u35 2), .int 0, .int 0])), ((u35 0), .inl (cI, 6, .inl (fun _ => 0))), ((u35 1), .inl (cI, 6, .inl (fun _ => 0))), ((u35 2), .inl (cI, 6, .inl (fun _ => 0))), (o4, .inr (6, [.ref o3, .int 0, .int 0, .int (1 : Int32)])), (o5, .inr (2, [.ref (u61 0), .ref (u61 1), .int 0])), ((u61 0), .inl (cI, 12, .inl (fun _ => 0))), ((u61 1), .inl (cI, 12, .inl (fun _ => 0)))] := hD
  refine va_putF (D := D) (ci := 9) (v := .ref o5) (ty := .object "SimonSays$History") (C := RX9) (T := TX9) (N := 9) hx hb hts inX9 tyX9 tyX9_ok nmX9 hown hK hP hD hS 0 rfl rfl 4 (by decide) fl44 (fun _ h9 => h9) rfl hin rfl (by decide +kernel) rfl rfl (Nat.le_of_ble_eq_true rfl) dX9_init_64 (fun H locs hP hD hS => ?_)
  have hP : va_P D vwCl [(h0, .inr (9, [.ref o1, .ref o2, .ref o3, .ref o4, .ref o5, .null, .null, .null, .null])), (o1, .inr (8, [.ref (u9 0), .int 0])), ((u9 0), .inl (cI, 200, .inl (fun _ => 0))), (o2, .inr (5, [.ref o1, .ref (u24 0), .int 0, .int 0, .int 0, .int 0])), ((u24 0), .inr (1, [.ref (u24 1), .ref (u24 2), .ref (u24 3), .int 0, .int 0])), ((u24 1), .inl (cI, 6, .inl (fun _ => 0))), ((u24 2), .inl (cI, 6, .inl (fun _ => 0))), ((u24 3), .inl (cI, 6, .inl (fun _ => 0))), (o3, .inr (1, [.ref (u35 0), .ref (u35 1), .ref (u35 2), .int 0, .int 0])), ((u35 0), .inl (cI, 6, .inl (fun _ => 0))), ((u35 1), .inl (cI, 6, .inl (fun _ => 0))), ((u35 2), .inl (cI, 6, .inl (fun _ => 0))), (o4, .inr (6, [.ref o3, .int 0, .int 0, .int (1 : Int32)])), (o5, .inr (2, [.ref (u61 0), .ref (u61 1), .int 0])), ((u61 0), .inl (cI, 12, .inl (fun _ => 0))), ((u61 1), .inl (cI, 12, .inl (fun _ => 0)))] H := hP
  have hD : va_D A [(h0, .inr (9, [.ref o1, .ref o2, .ref o3, .ref o4, .ref o5, .null, .null, .null, .null])), (o1, .inr (8, [.ref (u9 0), .int 0])), ((u9 0), .inl (cI, 200, .inl (fun _ => 0))), (o2, .inr (5, [.ref o1, .ref (u24 0), .int 0, .int 0, .int 0, .int 0])), ((u24 0), .inr (1, [.ref (u24 1), .ref (u24 2), .ref (u24 3), .int 0, .int 0])), ((u24 1), .inl (cI, 6, .inl (fun _ => 0))), ((u24 2), .inl (cI, 6, .inl (fun _ => 0))), ((u24 3), .inl (cI, 6, .inl (fun _ => 0))), (o3, .inr (1, [.ref (u35 0), .ref (u35 1), .ref (u35 2), .int 0, .int 0])), ((u35 0), .inl (cI, 6, .inl (fun _ => 0))), ((u35 1), .inl (cI, 6, .inl (fun _ => 0))), ((u35 2), .inl (cI, 6, .inl (fun _ => 0))), (o4, .inr (6, [.ref o3, .int 0, .int 0, .int (1 : Int32)])), (o5, .inr (2, [.ref (u61 0), .ref (u61 1), .int 0])), ((u61 0), .inl (cI, 12, .inl (fun _ => 0))), ((u61 1), .inl (cI, 12, .inl (fun _ => 0)))] := hD
  refine lv_aload_n hx hb dX9_init_67 rfl (lv_at hl 0 rfl) ?_
  refine lv_iconst (v := (2 : Int32)) hx hb dX9_init_68 (by decide) ?_
  refine va_newq (C := "SimonSays$Image") (N' := 2) hx hb hown cl48 (gN_AO hKK.2) hK hP hD hS hA (by decide) (by decide) (by decide) (Nat.le_of_ble_eq_true rfl) (Nat.le_of_ble_eq_true rfl) dX9_init_69 (fun o6 cA H hK2 hP hD hS => ?_)
  have hcA := cA_O hK2
  subst hcA
  have hP : va_P D vwCl [(h0, .inr (9, [.ref o1, .ref o2, .ref o3, .ref o4, .ref o5, .null, .null, .null, .null])), (o1, .inr (8, [.ref (u9 0), .int 0])), ((u9 0), .inl (cI, 200, .inl (fun _ => 0))), (o2, .inr (5, [.ref o1, .ref (u24 0), .int 0, .int 0, .int 0, .int 0])), ((u24 0), .inr (1, [.ref (u24 1), .ref (u24 2), .ref (u24 3), .int 0, .int 0])), ((u24 1), .inl (cI, 6, .inl (fun _ => 0))), ((u24 2), .inl (cI, 6, .inl (fun _ => 0))), ((u24 3), .inl (cI, 6, .inl (fun _ => 0))), (o3, .inr (1, [.ref (u35 0), .ref (u35 1), .ref (u35 2), .int 0, .int 0])), ((u35 0), .inl (cI, 6, .inl (fun _ => 0))), ((u35 1), .inl (cI, 6, .inl (fun _ => 0))), ((u35 2), .inl (cI, 6, .inl (fun _ => 0))), (o4, .inr (6, [.ref o3, .int 0, .int 0, .int (1 : Int32)])), (o5, .inr (2, [.ref (u61 0), .ref (u61 1), .int 0])), ((u61 0), .inl (cI, 12, .inl (fun _ => 0))), ((u61 1), .inl (cI, 12, .inl (fun _ => 0))), (o6, .inl (cO, 2, .inr (.inr (.inr (.inr (fun _ => none))))))] H := hP
  have hD : va_D A [(h0, .inr (9, [.ref o1, .ref o2, .ref o3, .ref o4, .ref o5, .null, .null, .null, .null])), (o1, .inr (8, [.ref (u9 0), .int 0])), ((u9 0), .inl (cI, 200, .inl (fun _ => 0))), (o2, .inr (5, [.ref o1, .ref (u24 0), .int 0, .int 0, .int 0, .int 0])), ((u24 0), .inr (1, [.ref (u24 1), .ref (u24 2), .ref (u24 3), .int 0, .int 0])), ((u24 1), .inl (cI, 6, .inl (fun _ => 0))), ((u24 2), .inl (cI, 6, .inl (fun _ => 0))), ((u24 3), .inl (cI, 6, .inl (fun _ => 0))), (o3, .inr (1, [.ref (u35 0), .ref (u35 1), .ref (u35 2), .int 0, .int 0])), ((u35 0), .inl (cI, 6, .inl (fun _ => 0))), ((u35 1), .inl (cI, 6, .inl (fun _ => 0))), ((u35 2), .inl (cI, 6, .inl (fun _ => 0))), (o4, .inr (6, [.ref o3, .int 0, .int 0, .int (1 : Int32)])), (o5, .inr (2, [.ref (u61 0), .ref (u61 1), .int 0])), ((u61 0), .inl (cI, 12, .inl (fun _ => 0))), ((u61 1), .inl (cI, 12, .inl (fun _ => 0))), (o6, .inl (cO, 2, .inr (.inr (.inr (.inr (fun _ => none))))))] := hD
  refine va_putF (D := D) (ci := 9) (v := .ref o6) (ty := .array (.object "SimonSays$Image")) (C := RX9) (T := TX9) (N := 9) hx hb hts inX9 tyX9 tyX9_ok nmX9 hown hK hP hD hS 0 rfl rfl 5 (by decide) fl50 (fun _ h9 => h9) rfl hin rfl (by decide +kernel) rfl rfl (Nat.le_of_ble_eq_true rfl) dX9_init_72 (fun H locs hP hD hS => ?_)
  have hP : va_P D vwCl [(h0, .inr (9, [.ref o1, .ref o2, .ref o3, .ref o4, .ref o5, .ref o6, .null, .null, .null])), (o1, .inr (8, [.ref (u9 0), .int 0])), ((u9 0), .inl (cI, 200, .inl (fun _ => 0))), (o2, .inr (5, [.ref o1, .ref (u24 0), .int 0, .int 0, .int 0, .int 0])), ((u24 0), .inr (1, [.ref (u24 1), .ref (u24 2), .ref (u24 3), .int 0, .int 0])), ((u24 1), .inl (cI, 6, .inl (fun _ => 0))), ((u24 2), .inl (cI, 6, .inl (fun _ => 0))), ((u24 3), .inl (cI, 6, .inl (fun _ => 0))), (o3, .inr (1, [.ref (u35 0), .ref (u35 1), .ref (u35 2), .int 0, .int 0])), ((u35 0), .inl (cI, 6, .inl (fun _ => 0))), ((u35 1), .inl (cI, 6, .inl (fun _ => 0))), ((u35 2), .inl (cI, 6, .inl (fun _ => 0))), (o4, .inr (6, [.ref o3, .int 0, .int 0, .int (1 : Int32)])), (o5, .inr (2, [.ref (u61 0), .ref (u61 1), .int 0])), ((u61 0), .inl (cI, 12, .inl (fun _ => 0))), ((u61 1), .inl (cI, 12, .inl (fun _ => 0))), (o6, .inl (cO, 2, .inr (.inr (.inr (.inr (fun _ => none))))))] H := hP
  have hD : va_D A [(h0, .inr (9, [.ref o1, .ref o2, .ref o3, .ref o4, .ref o5, .ref o6, .null, .null, .null])), (o1, .inr (8, [.ref (u9 0), .int 0])), ((u9 0), .inl (cI, 200, .inl (fun _ => 0))), (o2, .inr (5, [.ref o1, .ref (u24 0), .int 0, .int 0, .int 0, .int 0])), ((u24 0), .inr (1, [.ref (u24 1), .ref (u24 2), .ref (u24 3), .int 0, .int 0])), ((u24 1), .inl (cI, 6, .inl (fun _ => 0))), ((u24 2), .inl (cI, 6, .inl (fun _ => 0))), ((u24 3), .inl (cI, 6, .inl (fun _ => 0))), (o3, .inr (1, [.ref (u35 0), .ref (u35 1), .ref (u35 2), .int 0, .int 0])), ((u35 0), .inl (cI, 6, .inl (fun _ => 0))), ((u35 1), .inl (cI, 6, .inl (fun _ => 0))), ((u35 2), .inl (cI, 6, .inl (fun _ => 0))), (o4, .inr (6, [.ref o3, .int 0, .int 0, .int (1 : Int32)])), (o5, .inr (2, [.ref (u61 0), .ref (u61 1), .int 0])), ((u61 0), .inl (cI, 12, .inl (fun _ => 0))), ((u61 1), .inl (cI, 12, .inl (fun _ => 0))), (o6, .inl (cO, 2, .inr (.inr (.inr (.inr (fun _ => none))))))] := hD
  refine lv_iconst (v := (0 : Int32)) hx hb dX9_init_75 (by decide) ?_
  refine lv_istore_n (lv' := [(1, .int (0 : Int32)), (0, .ref h0)]) hx hb dX9_init_76 rfl hl (by decide) rfl (fun ls hl => ?_)
  refine lv_iload_n hx hb dX9_init_77 rfl (lv_at hl 0 rfl) ?_
  refine lv_iconst (v := (2 : Int32)) hx hb dX9_init_78 (by decide) ?_
  refine lv_icmp_ge (tgt := 101) hx hb dX9_init_79 (by decide) (fun c9 => absurd c9 (by decide)) (fun c9 => ?_)
  refine lv_aload_n hx hb dX9_init_82 rfl (lv_at hl 1 rfl) ?_
  refine va_get (D := D) (ci := 9) (v := .ref o6) (C := RX9) (T := TX9) (N := 9) hx hb hts inX9 hown hK hP 0 rfl rfl 5 (by decide) fl50 (fun _ h9 => h9) rfl dX9_init_83 ?_
  refine lv_iload_n hx hb dX9_init_86 rfl (lv_at hl 0 rfl) ?_
  refine va_new (ci := 3) (fs := [.int 0, .int 0, .int 0, .int 0]) (C := RX3) (T := TX3) (N := 4) hx hb hts inX3 tyX3 tyX3_ok hown cl48 isX3 iiX3 hK hP hD hS hA rfl (fun j hj => by rcases (show j = 0 ∨ j = 1 ∨ j = 2 ∨ j = 3 by omega) with rfl | rfl | rfl | rfl <;> rfl) (Nat.le_of_ble_eq_true rfl) (Nat.le_of_ble_eq_true rfl) dX9_init_87 (fun o7 H hP hD hS => ?_)
  have hP : va_P D vwCl [(h0, .inr (9, [.ref o1, .ref o2, .ref o3, .ref o4, .ref o5, .ref o6, .null, .null, .null])), (o1, .inr (8, [.ref (u9 0), .int 0])), ((u9 0), .inl (cI, 200, .inl (fun _ => 0))), (o2, .inr (5, [.ref o1, .ref (u24 0), .int 0, .int 0, .int 0, .int 0])), ((u24 0), .inr (1, [.ref (u24 1), .ref (u24 2), .ref (u24 3), .int 0, .int 0])), ((u24 1), .inl (cI, 6, .inl (fun _ => 0))), ((u24 2), .inl (cI, 6, .inl (fun _ => 0))), ((u24 3), .inl (cI, 6, .inl (fun _ => 0))), (o3, .inr (1, [.ref (u35 0), .ref (u35 1), .ref (u35 2), .int 0, .int 0])), ((u35 0), .inl (cI, 6, .inl (fun _ => 0))), ((u35 1), .inl (cI, 6, .inl (fun _ => 0))), ((u35 2), .inl (cI, 6, .inl (fun _ => 0))), (o4, .inr (6, [.ref o3, .int 0, .int 0, .int (1 : Int32)])), (o5, .inr (2, [.ref (u61 0), .ref (u61 1), .int 0])), ((u61 0), .inl (cI, 12, .inl (fun _ => 0))), ((u61 1), .inl (cI, 12, .inl (fun _ => 0))), (o6, .inl (cO, 2, .inr (.inr (.inr (.inr (fun _ => none)))))), (o7, .inr (3, [.int 0, .int 0, .int 0, .int 0]))] H := hP
  have hD : va_D A [(h0, .inr (9, [.ref o1, .ref o2, .ref o3, .ref o4, .ref o5, .ref o6, .null, .null, .null])), (o1, .inr (8, [.ref (u9 0), .int 0])), ((u9 0), .inl (cI, 200, .inl (fun _ => 0))), (o2, .inr (5, [.ref o1, .ref (u24 0), .int 0, .int 0, .int 0, .int 0])), ((u24 0), .inr (1, [.ref (u24 1), .ref (u24 2), .ref (u24 3), .int 0, .int 0])), ((u24 1), .inl (cI, 6, .inl (fun _ => 0))), ((u24 2), .inl (cI, 6, .inl (fun _ => 0))), ((u24 3), .inl (cI, 6, .inl (fun _ => 0))), (o3, .inr (1, [.ref (u35 0), .ref (u35 1), .ref (u35 2), .int 0, .int 0])), ((u35 0), .inl (cI, 6, .inl (fun _ => 0))), ((u35 1), .inl (cI, 6, .inl (fun _ => 0))), ((u35 2), .inl (cI, 6, .inl (fun _ => 0))), (o4, .inr (6, [.ref o3, .int 0, .int 0, .int (1 : Int32)])), (o5, .inr (2, [.ref (u61 0), .ref (u61 1), .int 0])), ((u61 0), .inl (cI, 12, .inl (fun _ => 0))), ((u61 1), .inl (cI, 12, .inl (fun _ => 0))), (o6, .inl (cO, 2, .inr (.inr (.inr (.inr (fun _ => none)))))), (o7, .inr (3, [.int 0, .int 0, .int 0, .int 0]))] := hD
  refine lv_dup hx hb dX9_init_90 rfl ?_
  have hPc : va_P D vwCl [(o7, .inr (3, [.int 0, .int 0, .int 0, .int 0]))] H := hP.sub [17] rfl
  have hDc : va_D A [(o7, .inr (3, [.int 0, .int 0, .int 0, .int 0]))] := hD.sub [17] (by decide) rfl
  have hFc := va_free (wc := [(o7, .inr (3, [.int 0, .int 0, .int 0, .int 0]))]) hD hS hA [17] rfl
  refine va_callv (va_runI (As := []) (rest := [.ref o7, .int (0 : Int32), .ref o6]) ⟨hx, hb, hml, hown, hts⟩ (k_X3_init l D cI cJ cZ cO o7 H.size) (cwI 0 hts gX9_init_X3_init rfl rfl rfl iiX3 ml54 imX3_init rfl (by decide +kernel) ⟨Nat.le_of_ble_eq_true rfl, Nat.le_of_ble_eq_true rfl⟩) ⟨fb_i, fun U hU hW => ⟨rfl, by rw [hU], by rw [hU]; exact hPc, KK.warm hW hKK, hDc.weaken (fun _ _ _ _ => trivial)⟩⟩ rfl rfl hl.1 rfl (lv_room (Nat.le_of_ble_eq_true rfl)) dX9_init_91 ⟨Nat.le_of_ble_eq_true rfl, Nat.le_of_ble_eq_true rfl⟩) hS (fun q _ h => hFc q h) hFc (fun u91 t H1 locs ht hvm hw hB hz1 hk1 hS => ?_)
  obtain ⟨hP1, hD1⟩ := hB
  rw [ht] at hP1
  obtain ⟨hP, hD⟩ := va_join (wr := [(h0, .inr (9, [.ref o1, .ref o2, .ref o3, .ref o4, .ref o5, .ref o6, .null, .null, .null])), (o1, .inr (8, [.ref (u9 0), .int 0])), ((u9 0), .inl (cI, 200, .inl (fun _ => 0))), (o2, .inr (5, [.ref o1, .ref (u24 0), .int 0, .int 0, .int 0, .int 0])), ((u24 0), .inr (1, [.ref (u24 1), .ref (u24 2), .ref (u24 3), .int 0, .int 0])), ((u24 1), .inl (cI, 6, .inl (fun _ => 0))), ((u24 2), .inl (cI, 6, .inl (fun _ => 0))), ((u24 3), .inl (cI, 6, .inl (fun _ => 0))), (o3, .inr (1, [.ref (u35 0), .ref (u35 1), .ref (u35 2), .int 0, .int 0])), ((u35 0), .inl (cI, 6, .inl (fun _ => 0))), ((u35 1), .inl (cI, 6, .inl (fun _ => 0))), ((u35 2), .inl (cI, 6, .inl (fun _ => 0))), (o4, .inr (6, [.ref o3, .int 0, .int 0, .int (1 : Int32)])), (o5, .inr (2, [.ref (u61 0), .ref (u61 1), .int 0])), ((u61 0), .inl (cI, 12, .inl (fun _ => 0))), ((u61 1), .inl (cI, 12, .inl (fun _ => 0))), (o6, .inl (cO, 2, .inr (.inr (.inr (.inr (fun _ => none))))))]) (w1 := [(o7, .inr (3, [.int (0 : Int32), .int 0, .int 0, .int 0]))]) hP hD [17] [0, 1, 2, 3, 4, 5, 6, 7, 8, 9, 10, 11, 12, 13, 14, 15, 16] rfl rfl (by decide) (by decide) hk1 hFc hP1 hD1
  generalize H1 = H at hP hS ⊢
  have hP : va_P D vwCl [(h0, .inr (9, [.ref o1, .ref o2, .ref o3, .ref o4, .ref o5, .ref o6, .null, .null, .null])), (o1, .inr (8, [.ref (u9 0), .int 0])), ((u9 0), .inl (cI, 200, .inl (fun _ => 0))), (o2, .inr (5, [.ref o1, .ref (u24 0), .int 0, .int 0, .int 0, .int 0])), ((u24 0), .inr (1, [.ref (u24 1), .ref (u24 2), .ref (u24 3), .int 0, .int 0])), ((u24 1), .inl (cI, 6, .inl (fun _ => 0))), ((u24 2), .inl (cI, 6, .inl (fun _ => 0))), ((u24 3), .inl (cI, 6, .inl (fun _ => 0))), (o3, .inr (1, [.ref (u35 0), .ref (u35 1), .ref (u35 2), .int 0, .int 0])), ((u35 0), .inl (cI, 6, .inl (fun _ => 0))), ((u35 1), .inl (cI, 6, .inl (fun _ => 0))), ((u35 2), .inl (cI, 6, .inl (fun _ => 0))), (o4, .inr (6, [.ref o3, .int 0, .int 0, .int (1 : Int32)])), (o5, .inr (2, [.ref (u61 0), .ref (u61 1), .int 0])), ((u61 0), .inl (cI, 12, .inl (fun _ => 0))), ((u61 1), .inl (cI, 12, .inl (fun _ => 0))), (o6, .inl (cO, 2, .inr (.inr (.inr (.inr (fun _ => none)))))), (o7, .inr (3, [.int (0 : Int32), .int 0, .int 0, .int 0]))] H := hP
  have hD : va_D A [(h0, .inr (9, [.ref o1, .ref o2, .ref o3, .ref o4, .ref o5, .ref o6, .null, .null, .null])), (o1, .inr (8, [.ref (u9 0), .int 0])), ((u9 0), .inl (cI, 200, .inl (fun _ => 0))), (o2, .inr (5, [.ref o1, .ref (u24 0), .int 0, .int 0, .int 0, .int 0])), ((u24 0), .inr (1, [.ref (u24 1), .ref (u24 2), .ref (u24 3), .int 0, .int 0])), ((u24 1), .inl (cI, 6, .inl (fun _ => 0))), ((u24 2), .inl (cI, 6, .inl (fun _ => 0))), ((u24 3), .inl (cI, 6, .inl (fun _ => 0))), (o3, .inr (1, [.ref (u35 0), .ref (u35 1), .ref (u35 2), .int 0, .int 0])), ((u35 0), .inl (cI, 6, .inl (fun _ => 0))), ((u35 1), .inl (cI, 6, .inl (fun _ => 0))), ((u35 2), .inl (cI, 6, .inl (fun _ => 0))), (o4, .inr (6, [.ref o3, .int 0, .int 0, .int (1 : Int32)])), (o5, .inr (2, [.ref (u61 0), .ref (u61 1), .int 0])), ((u61 0), .inl (cI, 12, .inl (fun _ => 0))), ((u61 1), .inl (cI, 12, .inl (fun _ => 0))), (o6, .inl (cO, 2, .inr (.inr (.inr (.inr (fun _ => none)))))), (o7, .inr (3, [.int (0 : Int32), .int 0, .int 0, .int 0]))] := hD
  refine va_astq (r := (RX3, TX3, 4)) hx hb hK hP hD hS 16 3 17 3 rfl rfl rfl rfl (i := (0 : Int32)) (gIn_iff.mp (by decide)) dX9_init_94 (fun H locs hP hD hS => ?_)
  have hP : va_P D vwCl [(h0, .inr (9, [.ref o1, .ref o2, .ref o3, .ref o4, .ref o5, .ref o6, .null, .null, .null])), (o1, .inr (8, [.ref (u9 0), .int 0])), ((u9 0), .inl (cI, 200, .inl (fun _ => 0))), (o2, .inr (5, [.ref o1, .ref (u24 0), .int 0, .int 0, .int 0, .int 0])), ((u24 0), .inr (1, [.ref (u24 1), .ref (u24 2), .ref (u24 3), .int 0, .int 0])), ((u24 1), .inl (cI, 6, .inl (fun _ => 0))), ((u24 2), .inl (cI, 6, .inl (fun _ => 0))), ((u24 3), .inl (cI, 6, .inl (fun _ => 0))), (o3, .inr (1, [.ref (u35 0), .ref (u35 1), .ref (u35 2), .int 0, .int 0])), ((u35 0), .inl (cI, 6, .inl (fun _ => 0))), ((u35 1), .inl (cI, 6, .inl (fun _ => 0))), ((u35 2), .inl (cI, 6, .inl (fun _ => 0))), (o4, .inr (6, [.ref o3, .int 0, .int 0, .int (1 : Int32)])), (o5, .inr (2, [.ref (u61 0), .ref (u61 1), .int 0])), ((u61 0), .inl (cI, 12, .inl (fun _ => 0))), ((u61 1), .inl (cI, 12, .inl (fun _ => 0))), (o6, .inl (cO, 2, .inr (.inr (.inr (.inr (va_up (fun _ => none) 0 (some o7))))))), (o7, .inr (3, [.int (0 : Int32), .int 0, .int 0, .int 0]))] H := hP
  have hD : va_D A [(h0, .inr (9, [.ref o1, .ref o2, .ref o3, .ref o4, .ref o5, .ref o6, .null, .null, .null])), (o1, .inr (8, [.ref (u9 0), .int 0])), ((u9 0), .inl (cI, 200, .inl (fun _ => 0))), (o2, .inr (5, [.ref o1, .ref (u24 0), .int 0, .int 0, .int 0, .int 0])), ((u24 0), .inr (1, [.ref (u24 1), .ref (u24 2), .ref (u24 3), .int 0, .int 0])), ((u24 1), .inl (cI, 6, .inl (fun _ => 0))), ((u24 2), .inl (cI, 6, .inl (fun _ => 0))), ((u24 3), .inl (cI, 6, .inl (fun _ => 0))), (o3, .inr (1, [.ref (u35 0), .ref (u35 1), .ref (u35 2), .int 0, .int 0])), ((u35 0), .inl (cI, 6, .inl (fun _ => 0))), ((u35 1), .inl (cI, 6, .inl (fun _ => 0))), ((u35 2), .inl (cI, 6, .inl (fun _ => 0))), (o4, .inr (6, [.ref o3, .int 0, .int 0, .int (1 : Int32)])), (o5, .inr (2, [.ref (u61 0), .ref (u61 1), .int 0])), ((u61 0), .inl (cI, 12, .inl (fun _ => 0))), ((u61 1), .inl (cI, 12, .inl (fun _ => 0))), (o6, .inl (cO, 2, .inr (.inr (.inr (.inr (va_up (fun _ => none) 0 (some o7))))))), (o7, .inr (3, [.int (0 : Int32), .int 0, .int 0, .int 0]))] := hD
  refine lv_iinc (v := (1 : Int32)) (lv' := [(1, .int (1 : Int32)), (0, .ref h0)]) hx hb dX9_init_95 hl (k := 0) rfl (by decide) (by decide) rfl (fun ls hl => ?_)
  refine lv_goto (tgt := 77) hx hb dX9_init_98 (by decide) ?_
  refine lv_iload_n hx hb dX9_init_77 rfl (lv_at hl 0 rfl) ?_
  refine lv_iconst (v := (2 : Int32)) hx hb dX9_init_78 (by decide) ?_
  refine lv_icmp_ge (tgt := 101) hx hb dX9_init_79 (by decide) (fun c9 => absurd c9 (by decide)) (fun c9 => ?_)
  refine lv_aload_n hx hb dX9_init_82 rfl (lv_at hl 1 rfl) ?_
  refine va_get (D := D) (ci := 9) (v := .ref o6) (C := RX9) (T := TX9) (N := 9) hx hb hts inX9 hown hK hP 0 rfl rfl 5 (by decide) fl50 (fun _ h9 => h9) rfl dX9_init_83 ?_
  refine lv_iload_n hx hb dX9_init_86 rfl (lv_at hl 0 rfl) ?_
  refine va_new (ci := 3) (fs := [.int 0, .int 0, .int 0, .int 0]) (C := RX3) (T := TX3) (N := 4) hx hb hts inX3 tyX3 tyX3_ok hown cl48 isX3 iiX3 hK hP hD hS hA rfl (fun j hj => by rcases (show j = 0 ∨ j = 1 ∨ j = 2 ∨ j = 3 by omega) with rfl | rfl | rfl | rfl <;> rfl) (Nat.le_of_ble_eq_true rfl) (Nat.le_of_ble_eq_true rfl) dX9_init_87 (fun o8 H hP hD hS => ?_)
  have hP : va_P D vwCl [(h0, .inr (9, [.ref o1, .ref o2, .ref o3, .ref o4, .ref o5, .ref o6, .null, .null, .null])), (o1, .inr (8, [.ref (u9 0), .int 0])), ((u9 0), .inl (cI, 200, .inl (fun _ => 0))), (o2, .inr (5, [.ref o1, .ref (u24 0), .int 0, .int 0, .int 0, .int 0])), ((u24 0), .inr (1, [.ref (u24 1), .ref (u24 2), .ref (u24 3), .int 0, .int 0])), ((u24 1), .inl (cI, 6, .inl (fun _ => 0))), ((u24 2), .inl (cI, 6, .inl (fun _ => 0))), ((u24 3), .inl (cI, 6, .inl (fun _ => 0))), (o3, .inr (1, [.ref (u35 0), .ref (u35 1), .ref (u35 2), .int 0, .int 0])), ((u35 0), .inl (cI, 6, .inl (fun _ => 0))), ((u35 1), .inl (cI, 6, .inl (fun _ => 0))), ((u35 2), .inl (cI, 6, .inl (fun _ => 0))), (o4, .inr (6, [.ref o3, .int 0, .int 0, .int (1 : Int32)])), (o5, .inr (2, [.ref (u61 0), .ref (u61 1), .int 0])), ((u61 0), .inl (cI, 12, .inl (fun _ => 0))), ((u61 1), .inl (cI, 12, .inl (fun _ => 0))), (o6, .inl (cO, 2, .inr (.inr (.inr (.inr (va_up (fun _ => none) 0 (some o7))))))), (o7, .inr (3, [.int (0 : Int32), .int 0, .int 0, .int 0])), (o8, .inr (3, [.int 0, .int 0, .int 0, .int 0]))] H := hP
  have hD : va_D A [(h0, .inr (9, [.ref o1, .ref o2, .ref o3, .ref o4, .ref o5, .ref o6, .null, .null, .null])), (o1, .inr (8, [.ref (u9 0), .int 0])), ((u9 0), .inl (cI, 200, .inl (fun _ => 0))), (o2, .inr (5, [.ref o1, .ref (u24 0), .int 0, .int 0, .int 0, .int 0])), ((u24 0), .inr (1, [.ref (u24 1), .ref (u24 2), .ref (u24 3), .int 0, .int 0])), ((u24 1), .inl (cI, 6, .inl (fun _ => 0))), ((u24 2), .inl (cI, 6, .inl (fun _ => 0))), ((u24 3), .inl (cI, 6, .inl (fun _ => 0))), (o3, .inr (1, [.ref (u35 0), .ref (u35 1), .ref (u35 2), .int 0, .int 0])), ((u35 0), .inl (cI, 6, .inl (fun _ => 0))), ((u35 1), .inl (cI, 6, .inl (fun _ => 0))), ((u35 2), .inl (cI, 6, .inl (fun _ => 0))), (o4, .inr (6, [.ref o3, .int 0, .int 0, .int (1 : Int32)])), (o5, .inr (2, [.ref (u61 0), .ref (u61 1), .int 0])), ((u61 0), .inl (cI, 12, .inl (fun _ => 0))), ((u61 1), .inl (cI, 12, .inl (fun _ => 0))), (o6, .inl (cO, 2, .inr (.inr (.inr (.inr (va_up (fun _ => none) 0 (some o7))))))), (o7, .inr (3, [.int (0 : Int32), .int 0, .int 0, .int 0])), (o8, .inr (3, [.int 0, .int 0, .int 0, .int 0]))] := hD
  refine lv_dup hx hb dX9_init_90 rfl ?_
  have hPc : va_P D vwCl [(o8, .inr (3, [.int 0, .int 0, .int 0, .int 0]))] H := hP.sub [18] rfl
  have hDc : va_D A [(o8, .inr (3, [.int 0, .int 0, .int 0, .int 0]))] := hD.sub [18] (by decide) rfl
  have hFc := va_free (wc := [(o8, .inr (3, [.int 0, .int 0, .int 0, .int 0]))]) hD hS hA [18] rfl
  refine va_callv (va_runI (As := []) (rest := [.ref o8, .int (1 : Int32), .ref o6]) ⟨hx, hb, hml, hown, hts⟩ (k_X3_init l D cI cJ cZ cO o8 H.size) (cwI 0 hts gX9_init_X3_init rfl rfl rfl iiX3 ml54 imX3_init rfl (by decide +kernel) ⟨Nat.le_of_ble_eq_true rfl, Nat.le_of_ble_eq_true rfl⟩) ⟨fb_i, fun U hU hW => ⟨rfl, by rw [hU], by rw [hU]; exact hPc, KK.warm hW hKK, hDc.weaken (fun _ _ _ _ => trivial)⟩⟩ rfl rfl hl.1 rfl (lv_room (Nat.le_of_ble_eq_true rfl)) dX9_init_91 ⟨Nat.le_of_ble_eq_true rfl, Nat.le_of_ble_eq_true rfl⟩) hS (fun q _ h => hFc q h) hFc (fun u91 t H1 locs ht hvm hw hB hz1 hk1 hS => ?_)
  obtain ⟨hP1, hD1⟩ := hB
  rw [ht] at hP1
  obtain ⟨hP, hD⟩ := va_join (wr := [(h0, .inr (9, [.ref o1, .ref o2, .ref o3, .ref o4, .ref o5, .ref o6, .null, .null, .null])), (o1, .inr (8, [.ref (u9 0), .int 0])), ((u9 0), .inl (cI, 200, .inl (fun _ => 0))), (o2, .inr (5, [.ref o1, .ref (u24 0), .int 0, .int 0, .int 0, .int 0])), ((u24 0), .inr (1, [.ref (u24 1), .ref (u24 2), .ref (u24 3), .int 0, .int 0])), ((u24 1), .inl (cI, 6, .inl (fun _ => 0))), ((u24 2), .inl (cI, 6, .inl (fun _ => 0))), ((u24 3), .inl (cI, 6, .inl (fun _ => 0))), (o3, .inr (1, [.ref (u35 0), .ref (u35 1), .ref (u35 2), .int 0, .int 0])), ((u35 0), .inl (cI, 6, .inl (fun _ => 0))), ((u35 1), .inl (cI, 6, .inl (fun _ => 0))), ((u35 2), .inl (cI, 6, .inl (fun _ => 0))), (o4, .inr (6, [.ref o3, .int 0, .int 0, .int (1 : Int32)])), (o5, .inr (2, [.ref (u61 0), .ref (u61 1), .int 0])), ((u61 0), .inl (cI, 12, .inl (fun _ => 0))), ((u61 1), .inl (cI, 12, .inl (fun _ => 0))), (o6, .inl (cO, 2, .inr (.inr (.inr (.inr (va_up (fun _ => none) 0 (some o7))))))), (o7, .inr (3, [.int (0 : Int32), .int 0, .int 0, .int 0]))]) (w1 := [(o8, .inr (3, [.int (0 : Int32), .int 0, .int 0, .int 0]))]) hP hD [18] [0, 1, 2, 3, 4, 5, 6, 7, 8, 9, 10, 11, 12, 13, 14, 15, 16, 17] rfl rfl (by decide) (by decide) hk1 hFc hP1 hD1
  generalize H1 = H at hP hS ⊢
  have hP : va_P D vwCl [(h0, .inr (9, [.ref o1, .ref o2, .ref o3, .ref o4, .ref o5, .ref o6, .null, .null, .null])), (o1, .inr (8, [.ref (u9 0), .int 0])), ((u9 0), .inl (cI, 200, .inl (fun _ => 0))), (o2, .inr (5, [.ref o1, .ref (u24 0), .int 0, .int 0, .int 0, .int 0])), ((u24 0), .inr (1, [.ref (u24 1), .ref (u24 2), .ref (u24 3), .int 0, .int 0])), ((u24 1), .inl (cI, 6, .inl (fun _ => 0))), ((u24 2), .inl (cI, 6, .inl (fun _ => 0))), ((u24 3), .inl (cI, 6, .inl (fun _ => 0))), (o3, .inr (1, [.ref (u35 0), .ref (u35 1), .ref (u35 2), .int 0, .int 0])), ((u35 0), .inl (cI, 6, .inl (fun _ => 0))), ((u35 1), .inl (cI, 6, .inl (fun _ => 0))), ((u35 2), .inl (cI, 6, .inl (fun _ => 0))), (o4, .inr (6, [.ref o3, .int 0, .int 0, .int (1 : Int32)])), (o5, .inr (2, [.ref (u61 0), .ref (u61 1), .int 0])), ((u61 0), .inl (cI, 12, .inl (fun _ => 0))), ((u61 1), .inl (cI, 12, .inl (fun _ => 0))), (o6, .inl (cO, 2, .inr (.inr (.inr (.inr (va_up (fun _ => none) 0 (some o7))))))), (o7, .inr (3, [.int (0 : Int32), .int 0, .int 0, .int 0])), (o8, .inr (3, [.int (0 : Int32), .int 0, .int 0, .int 0]))] H := hP
  have hD : va_D A [(h0, .inr (9, [.ref o1, .ref o2, .ref o3, .ref o4, .ref o5, .ref o6, .null, .null, .null])), (o1, .inr (8, [.ref (u9 0), .int 0])), ((u9 0), .inl (cI, 200, .inl (fun _ => 0))), (o2, .inr (5, [.ref o1, .ref (u24 0), .int 0, .int 0, .int 0, .int 0])), ((u24 0), .inr (1, [.ref (u24 1), .ref (u24 2), .ref (u24 3), .int 0, .int 0])), ((u24 1), .inl (cI, 6, .inl (fun _ => 0))), ((u24 2), .inl (cI, 6, .inl (fun _ => 0))), ((u24 3), .inl (cI, 6, .inl (fun _ => 0))), (o3, .inr (1, [.ref (u35 0), .ref (u35 1), .ref (u35 2), .int 0, .int 0])), ((u35 0), .inl (cI, 6, .inl (fun _ => 0))), ((u35 1), .inl (cI, 6, .inl (fun _ => 0))), ((u35 2), .inl (cI, 6, .inl (fun _ => 0))), (o4, .inr (6, [.ref o3, .int 0, .int 0, .int (1 : Int32)])), (o5, .inr (2, [.ref (u61 0), .ref (u61 1), .int 0])), ((u61 0), .inl (cI, 12, .inl (fun _ => 0))), ((u61 1), .inl (cI, 12, .inl (fun _ => 0))), (o6, .inl (cO, 2, .inr (.inr (.inr (.inr (va_up (fun _ => none) 0 (some o7))))))), (o7, .inr (3, [.int (0 : Int32), .int 0, .int 0, .int 0])), (o8, .inr (3, [.int (0 : Int32), .int 0, .int 0, .int 0]))] := hD
  refine va_astq (r := (RX3, TX3, 4)) hx hb hK hP hD hS 16 3 18 3 rfl rfl rfl rfl (i := (1 : Int32)) (gIn_iff.mp (by decide)) dX9_init_94 (fun H locs hP hD hS => ?_)
  have hP : va_P D vwCl [(h0, .inr (9, [.ref o1, .ref o2, .ref o3, .ref o4, .ref o5, .ref o6, .null, .null, .null])), (o1, .inr (8, [.ref (u9 0), .int 0])), ((u9 0), .inl (cI, 200, .inl (fun _ => 0))), (o2, .inr (5, [.ref o1, .ref (u24 0), .int 0, .int 0, .int 0, .int 0])), ((u24 0), .inr (1, [.ref (u24 1), .ref (u24 2), .ref (u24 3), .int 0, .int 0])), ((u24 1), .inl (cI, 6, .inl (fun _ => 0))), ((u24 2), .inl (cI, 6, .inl (fun _ => 0))), ((u24 3), .inl (cI, 6, .inl (fun _ => 0))), (o3, .inr (1, [.ref (u35 0), .ref (u35 1), .ref (u35 2), .int 0, .int 0])), ((u35 0), .inl (cI, 6, .inl (fun _ => 0))), ((u35 1), .inl (cI, 6, .inl (fun _ => 0))), ((u35 2), .inl (cI, 6, .inl (fun _ => 0))), (o4, .inr (6, [.ref o3, .int 0, .int 0, .int (1 : Int32)])), (o5, .inr (2, [.ref (u61 0), .ref (u61 1), .int 0])), ((u61 0), .inl (cI, 12, .inl (fun _ => 0))), ((u61 1), .inl (cI, 12, .inl (fun _ => 0))), (o6, .inl (cO, 2, .inr (.inr (.inr (.inr (va_up (va_up (fun _ => none) 0 (some o7)) 1 (some o8))))))), (o7, .inr (3, [.int (0 : Int32), .int 0, .int 0, .int 0])), (o8, .inr (3, [.int (0 : Int32), .int 0, .int 0, .int 0]))] H := hP
  have hD : va_D A [(h0, .inr (9, [.ref o1, .ref o2, .ref o3, .ref o4, .ref o5, .ref o6, .null, .null, .null])), (o1, .inr (8, [.ref (u9 0), .int 0])), ((u9 0), .inl (cI, 200, .inl (fun _ => 0))), (o2, .inr (5, [.ref o1, .ref (u24 0), .int 0, .int 0, .int 0, .int 0])), ((u24 0), .inr (1, [.ref (u24 1), .ref (u24 2), .ref (u24 3), .int 0, .int 0])), ((u24 1), .inl (cI, 6, .inl (fun _ => 0))), ((u24 2), .inl (cI, 6, .inl (fun _ => 0))), ((u24 3), .inl (cI, 6, .inl (fun _ => 0))), (o3, .inr (1, [.ref (u35 0), .ref (u35 1), .ref (u35 2), .int 0, .int 0])), ((u35 0), .inl (cI, 6, .inl (fun _ => 0))), ((u35 1), .inl (cI, 6, .inl (fun _ => 0))), ((u35 2), .inl (cI, 6, .inl (fun _ => 0))), (o4, .inr (6, [.ref o3, .int 0, .int 0, .int (1 : Int32)])), (o5, .inr (2, [.ref (u61 0), .ref (u61 1), .int 0])), ((u61 0), .inl (cI, 12, .inl (fun _ => 0))), ((u61 1), .inl (cI, 12, .inl (fun _ => 0))), (o6, .inl (cO, 2, .inr (.inr (.inr (.inr (va_up (va_up (fun _ => none) 0 (some o7)) 1 (some o8))))))), (o7, .inr (3, [.int (0 : Int32), .int 0, .int 0, .int 0])), (o8, .inr (3, [.int (0 : Int32), .int 0, .int 0, .int 0]))] := hD
  refine lv_iinc (v := (2 : Int32)) (lv' := [(1, .int (2 : Int32)), (0, .ref h0)]) hx hb dX9_init_95 hl (k := 0) rfl (by decide) (by decide) rfl (fun ls hl => ?_)
  refine lv_goto (tgt := 77) hx hb dX9_init_98 (by decide) ?_
  refine lv_iload_n hx hb dX9_init_77 rfl (lv_at hl 0 rfl) ?_
  refine lv_iconst (v := (2 : Int32)) hx hb dX9_init_78 (by decide) ?_
  refine lv_icmp_ge (tgt := 101) hx hb dX9_init_79 (by decide) (fun c9 => ?_) (fun c9 => absurd c9 (by decide))
  refine lv_aload_n hx hb dX9_init_101 rfl (lv_at hl 1 rfl) ?_
  refine va_new (ci := 7) (fs := [.null, .int 0]) (C := RX7) (T := TX7) (N := 2) hx hb hts inX7 tyX7 tyX7_ok hown cl55 isX7 iiX7 hK hP hD hS hA rfl (fun j hj => by rcases (show j = 0 ∨ j = 1 by omega) with rfl | rfl <;> rfl) (Nat.le_of_ble_eq_true rfl) (Nat.le_of_ble_eq_true rfl) dX9_init_102 (fun o9 H hP hD hS => ?_)
  have hP : va_P D vwCl [(h0, .inr (9, [.ref o1, .ref o2, .ref o3, .ref o4, .ref o5, .ref o6, .null, .null, .null])), (o1, .inr (8, [.ref (u9 0), .int 0])), ((u9 0), .inl (cI, 200, .inl (fun _ => 0))), (o2, .inr (5, [.ref o1, .ref (u24 0), .int 0, .int 0, .int 0, .int 0])), ((u24 0), .inr (1, [.ref (u24 1), .ref (u24 2), .ref (u24 3), .int 0, .int 0])), ((u24 1), .inl (cI, 6, .inl (fun _ => 0))), ((u24 2), .inl (cI, 6, .inl (fun _ => 0))), ((u24 3), .inl (cI, 6, .inl (fun _ => 0))), (o3, .inr (1, [.ref (u35 0), .ref (u35 1), .ref (u35 2), .int 0, .int 0])), ((u35 0), .inl (cI, 6, .inl (fun _ => 0))), ((u35 1), .inl (cI, 6, .inl (fun _ => 0))), ((u35 2), .inl (cI, 6, .inl (fun _ => 0))), (o4, .inr (6, [.ref o3, .int 0, .int 0, .int (1 : Int32)])), (o5, .inr (2, [.ref (u61 0), .ref (u61 1), .int 0])), ((u61 0), .inl (cI, 12, .inl (fun _ => 0))), ((u61 1), .inl (cI, 12, .inl (fun _ => 0))), (o6, .inl (cO, 2, .inr (.inr (.inr (.inr (va_up (va_up (fun _ => none) 0 (some o7)) 1 (some o8))))))), (o7, .inr (3, [.int (0 : Int32), .int 0, .int 0, .int 0])), (o8, .inr (3, [.int (0 : Int32), .int 0, .int 0, .int 0])), (o9, .inr (7, [.null, .int 0]))] H := hP
  have hD : va_D A [(h0, .inr (9, [.ref o1, .ref o2, .ref o3, .ref o4, .ref o5, .ref o6, .null, .null, .null])), (o1, .inr (8, [.ref (u9 0), .int 0])), ((u9 0), .inl (cI, 200, .inl (fun _ => 0))), (o2, .inr (5, [.ref o1, .ref (u24 0), .int 0, .int 0, .int 0, .int 0])), ((u24 0), .inr (1, [.ref (u24 1), .ref (u24 2), .ref (u24 3), .int 0, .int 0])), ((u24 1), .inl (cI, 6, .inl (fun _ => 0))), ((u24 2), .inl (cI, 6, .inl (fun _ => 0))), ((u24 3), .inl (cI, 6, .inl (fun _ => 0))), (o3, .inr (1, [.ref (u35 0), .ref (u35 1), .ref (u35 2), .int 0, .int 0])), ((u35 0), .inl (cI, 6, .inl (fun _ => 0))), ((u35 1), .inl (cI, 6, .inl (fun _ => 0))), ((u35 2), .inl (cI, 6, .inl (fun _ => 0))), (o4, .inr (6, [.ref o3, .int 0, .int 0, .int (1 : Int32)])), (o5, .inr (2, [.ref (u61 0), .ref (u61 1), .int 0])), ((u61 0), .inl (cI, 12, .inl (fun _ => 0))), ((u61 1), .inl (cI, 12, .inl (fun _ => 0))), (o6, .inl (cO, 2, .inr (.inr (.inr (.inr (va_up (va_up (fun _ => none) 0 (some o7)) 1 (some o8))))))), (o7, .inr (3, [.int (0 : Int32), .int 0, .int 0, .int 0])), (o8, .inr (3, [.int (0 : Int32), .int 0, .int 0, .int 0])), (o9, .inr (7, [.null, .int 0]))] := hD
  refine lv_dup hx hb dX9_init_105 rfl ?_
  have hPc : va_P D vwCl [(o9, .inr (7, [.null, .int 0]))] H := hP.sub [19] rfl
  have hDc : va_D A [(o9, .inr (7, [.null, .int 0]))] := hD.sub [19] (by decide) rfl
  have hFc := va_free (wc := [(o9, .inr (7, [.null, .int 0]))]) hD hS hA [19] rfl
  refine va_callv (va_runI (As := []) (rest := [.ref o9, .ref h0]) ⟨hx, hb, hml, hown, hts⟩ (k_X7_init l D cI cJ cZ cO o9 H.size) (cwI 0 hts gX9_init_X7_init rfl rfl rfl iiX7 ml57 imX7_init rfl (by decide +kernel) ⟨Nat.le_of_ble_eq_true rfl, Nat.le_of_ble_eq_true rfl⟩) ⟨fb_i, fun U hU hW => ⟨rfl, by rw [hU], by rw [hU]; exact hPc, KK.warm hW hKK, hDc.weaken (fun _ _ _ _ => trivial)⟩⟩ rfl rfl hl.1 rfl (lv_room (Nat.le_of_ble_eq_true rfl)) dX9_init_106 ⟨Nat.le_of_ble_eq_true rfl, Nat.le_of_ble_eq_true rfl⟩) hS (fun q _ h => hFc q h) hFc (fun u106 t H1 locs ht hvm hw hB hz1 hk1 hS => ?_)
  obtain ⟨hP1, hD1⟩ := hB
  rw [ht] at hP1
  obtain ⟨hP, hD⟩ := va_join (wr := [(h0, .inr (9, [.ref o1, .ref o2, .ref o3, .ref o4, .ref o5, .ref o6, .null, .null, .null])), (o1, .inr (8, [.ref (u9 0), .int 0])), ((u9 0), .inl (cI, 200, .inl (fun _ => 0))), (o2, .inr (5, [.ref o1, .ref (u24 0), .int 0, .int 0, .int 0, .int 0])), ((u24 0), .inr (1, [.ref (u24 1), .ref (u24 2), .ref (u24 3), .int 0, .int 0])), ((u24 1), .inl (cI, 6, .inl (fun _ => 0))), ((u24 2), .inl (cI, 6, .inl (fun _ => 0))), ((u24 3), .inl (cI, 6, .inl (fun _ => 0))), (o3, .inr (1, [.ref (u35 0), .ref (u35 1), .ref (u35 2), .int 0, .int 0])), ((u35 0), .inl (cI, 6, .inl (fun _ => 0))), ((u35 1), .inl (cI, 6, .inl (fun _ => 0))), ((u35 2), .inl (cI, 6, .inl (fun _ => 0))), (o4, .inr (6, [.ref o3, .int 0, .int 0, .int (1 : Int32)])), (o5, .inr (2, [.ref (u61 0), .ref (u61 1), .int 0])), ((u61 0), .inl (cI, 12, .inl (fun _ => 0))), ((u61 1), .inl (cI, 12, .inl (fun _ => 0))), (o6, .inl (cO, 2, .inr (.inr (.inr (.inr (va_up (va_up (fun _ => none) 0 (some o7)) 1 (some o8))))))), (o7, .inr (3, [.int (0 : Int32), .int 0, .int 0, .int 0])), (o8, .inr (3, [.int (0 : Int32), .int 0, .int 0, .int 0]))]) (w1 := [(o9, .inr (7, [.ref (u106 0), .int 0])), ((u106 0), .inl (cI, 9, .inl (fun _ => 0)))]) hP hD [19] [0, 1, 2, 3, 4, 5, 6, 7, 8, 9, 10, 11, 12, 13, 14, 15, 16, 17, 18] rfl rfl (by decide) (by decide) hk1 hFc hP1 hD1
  generalize H1 = H at hP hS ⊢
  have hP : va_P D vwCl [(h0, .inr (9, [.ref o1, .ref o2, .ref o3, .ref o4, .ref o5, .ref o6, .null, .null, .null])), (o1, .inr (8, [.ref (u9 0), .int 0])), ((u9 0), .inl (cI, 200, .inl (fun _ => 0))), (o2, .inr (5, [.ref o1, .ref (u24 0), .int 0, .int 0, .int 0, .int 0])), ((u24 0), .inr (1, [.ref (u24 1), .ref (u24 2), .ref (u24 3), .int 0, .int 0])), ((u24 1), .inl (cI, 6, .inl (fun _ => 0))), ((u24 2), .inl (cI, 6, .inl (fun _ => 0))), ((u24 3), .inl (cI, 6, .inl (fun _ => 0))), (o3, .inr (1, [.ref (u35 0), .ref (u35 1), .ref (u35 2), .int 0, .int 0])), ((u35 0), .inl (cI, 6, .inl (fun _ => 0))), ((u35 1), .inl (cI, 6, .inl (fun _ => 0))), ((u35 2), .inl (cI, 6, .inl (fun _ => 0))), (o4, .inr (6, [.ref o3, .int 0, .int 0, .int (1 : Int32)])), (o5, .inr (2, [.ref (u61 0), .ref (u61 1), .int 0])), ((u61 0), .inl (cI, 12, .inl (fun _ => 0))), ((u61 1), .inl (cI, 12, .inl (fun _ => 0))), (o6, .inl (cO, 2, .inr (.inr (.inr (.inr (va_up (va_up (fun _ => none) 0 (some o7)) 1 (some o8))))))), (o7, .inr (3, [.int (0 : Int32), .int 0, .int 0, .int 0])), (o8, .inr (3, [.int (0 : Int32), .int 0, .int 0, .int 0])), (o9, .inr (7, [.ref (u106 0), .int 0])), ((u106 0), .inl (cI, 9, .inl (fun _ => 0)))] H := hP
  have hD : va_D A [(h0, .inr (9, [.ref o1, .ref o2, .ref o3, .ref o4, .ref o5, .ref o6, .null, .null, .null])), (o1, .inr (8, [.ref (u9 0), .int 0])), ((u9 0), .inl (cI, 200, .inl (fun _ => 0))), (o2, .inr (5, [.ref o1, .ref (u24 0), .int 0, .int 0, .int 0, .int 0])), ((u24 0), .inr (1, [.ref (u24 1), .ref (u24 2), .ref (u24 3), .int 0, .int 0])), ((u24 1), .inl (cI, 6, .inl (fun _ => 0))), ((u24 2), .inl (cI, 6, .inl (fun _ => 0))), ((u24 3), .inl (cI, 6, .inl (fun _ => 0))), (o3, .inr (1, [.ref (u35 0), .ref (u35 1), .ref (u35 2), .int 0, .int 0])), ((u35 0), .inl (cI, 6, .inl (fun _ => 0))), ((u35 1), .inl (cI, 6, .inl (fun _ => 0))), ((u35 2), .inl (cI, 6, .inl (fun _ => 0))), (o4, .inr (6, [.ref o3, .int 0, .int 0, .int (1 : Int32)])), (o5, .inr (2, [.ref (u61 0), .ref (u61 1), .int 0])), ((u61 0), .inl (cI, 12, .inl (fun _ => 0))), ((u61 1), .inl (cI, 12, .inl (fun _ => 0))), (o6, .inl (cO, 2, .inr (.inr (.inr (.inr (va_up (va_up (fun _ => none) 0 (some o7)) 1 (some o8))))))), (o7, .inr (3, [.int (0 : Int32), .int 0, .int 0, .int 0])), (o8, .inr (3, [.int (0 : Int32), .int 0, .int 0, .int 0])), (o9, .inr (7, [.ref (u106 0), .int 0])), ((u106 0), .inl (cI, 9, .inl (fun _ => 0)))] := hD
  refine va_putF (D := D) (ci := 9) (v := .ref o9) (ty := .object "SimonSays$Row") (C := RX9) (T := TX9) (N := 9) hx hb hts inX9 tyX9 tyX9_ok nmX9 hown hK hP hD hS 0 rfl rfl 6 (by decide) fl58 (fun _ h9 => h9) rfl hin rfl (by decide +kernel) rfl rfl (Nat.le_of_ble_eq_true rfl) dX9_init_109 (fun H locs hP hD hS => ?_)
  have hP : va_P D vwCl [(h0, .inr (9, [.ref o1, .ref o2, .ref o3, .ref o4, .ref o5, .ref o6, .ref o9, .null, .null])), (o1, .inr (8, [.ref (u9 0), .int 0])), ((u9 0), .inl (cI, 200, .inl (fun _ => 0))), (o2, .inr (5, [.ref o1, .ref (u24 0), .int 0, .int 0, .int 0, .int 0])), ((u24 0), .inr (1, [.ref (u24 1), .ref (u24 2), .ref (u24 3), .int 0, .int 0])), ((u24 1), .inl (cI, 6, .inl (fun _ => 0))), ((u24 2), .inl (cI, 6, .inl (fun _ => 0))), ((u24 3), .inl (cI, 6, .inl (fun _ => 0))), (o3, .inr (1, [.ref (u35 0), .ref (u35 1), .ref (u35 2), .int 0, .int 0])), ((u35 0), .inl (cI, 6, .inl (fun _ => 0))), ((u35 1), .inl (cI, 6, .inl (fun _ => 0))), ((u35 2), .inl (cI, 6, .inl (fun _ => 0))), (o4, .inr (6, [.ref o3, .int 0, .int 0, .int (1 : Int32)])), (o5, .inr (2, [.ref (u61 0), .ref (u61 1), .int 0])), ((u61 0), .inl (cI, 12, .inl (fun _ => 0))), ((u61 1), .inl (cI, 12, .inl (fun _ => 0))), (o6, .inl (cO, 2, .inr (.inr (.inr (.inr (va_up (va_up (fun _ => none) 0 (some o7)) 1 (some o8))))))), (o7, .inr (3, [.int (0 : Int32), .int 0, .int 0, .int 0])), (o8, .inr (3, [.int (0 : Int32), .int 0, .int 0, .int 0])), (o9, .inr (7, [.ref (u106 0), .int 0])), ((u106 0), .inl (cI, 9, .inl (fun _ => 0)))] H := hP
  have hD : va_D A [(h0, .inr (9, [.ref o1, .ref o2, .ref o3, .ref o4, .ref o5, .ref o6, .ref o9, .null, .null])), (o1, .inr (8, [.ref (u9 0), .int 0])), ((u9 0), .inl (cI, 200, .inl (fun _ => 0))), (o2, .inr (5, [.ref o1, .ref (u24 0), .int 0, .int 0, .int 0, .int 0])), ((u24 0), .inr (1, [.ref (u24 1), .ref (u24 2), .ref (u24 3), .int 0, .int 0])), ((u24 1), .inl (cI, 6, .inl (fun _ => 0))), ((u24 2), .inl (cI, 6, .inl (fun _ => 0))), ((u24 3), .inl (cI, 6, .inl (fun _ => 0))), (o3, .inr (1, [.ref (u35 0), .ref (u35 1), .ref (u35 2), .int 0, .int 0])), ((u35 0), .inl (cI, 6, .inl (fun _ => 0))), ((u35 1), .inl (cI, 6, .inl (fun _ => 0))), ((u35 2), .inl (cI, 6, .inl (fun _ => 0))), (o4, .inr (6, [.ref o3, .int 0, .int 0, .int (1 : Int32)])), (o5, .inr (2, [.ref (u61 0), .ref (u61 1), .int 0])), ((u61 0), .inl (cI, 12, .inl (fun _ => 0))), ((u61 1), .inl (cI, 12, .inl (fun _ => 0))), (o6, .inl (cO, 2, .inr (.inr (.inr (.inr (va_up (va_up (fun _ => none) 0 (some o7)) 1 (some o8))))))), (o7, .inr (3, [.int (0 : Int32), .int 0, .int 0, .int 0])), (o8, .inr (3, [.int (0 : Int32), .int 0, .int 0, .int 0])), (o9, .inr (7, [.ref (u106 0), .int 0])), ((u106 0), .inl (cI, 9, .inl (fun _ => 0)))] := hD
  refine lv_aload_n hx hb dX9_init_112 rfl (lv_at hl 1 rfl) ?_
  refine va_new (ci := 0) (fs := [.null, .null, .null, .null]) (C := RX0) (T := TX0) (N := 4) hx hb hts inX0 tyX0 tyX0_ok hown cl62 isX0 iiX0 hK hP hD hS hA rfl (fun j hj => by rcases (show j = 0 ∨ j = 1 ∨ j = 2 ∨ j = 3 by omega) with rfl | rfl | rfl | rfl <;> rfl) (Nat.le_of_ble_eq_true rfl) (Nat.le_of_ble_eq_true rfl) dX9_init_113 (fun o10 H hP hD hS => ?_)
  have hP : va_P D vwCl [(h0, .inr (9, [.ref o1, .ref o2, .ref o3, .ref o4, .ref o5, .ref o6, .ref o9, .null, .null])), (o1, .inr (8, [.ref (u9 0), .int 0])), ((u9 0), .inl (cI, 200, .inl (fun _ => 0))), (o2, .inr (5, [.ref o1, .ref (u24 0), .int 0, .int 0, .int 0, .int 0])), ((u24 0), .inr (1, [.ref (u24 1), .ref (u24 2), .ref (u24 3), .int 0, .int 0])), ((u24 1), .inl (cI, 6, .inl (fun _ => 0))), ((u24 2), .inl (cI, 6, .inl (fun _ => 0))), ((u24 3), .inl (cI, 6, .inl (fun _ => 0))), (o3, .inr (1, [.ref (u35 0), .ref (u35 1), .ref (u35 2), .int 0, .int 0])), ((u35 0), .inl (cI, 6, .inl (fun _ => 0))), ((u35 1), .inl (cI, 6, .inl (fun _ => 0))), ((u35 2), .inl (cI, 6, .inl (fun _ => 0))), (o4, .inr (6, [.ref o3, .int 0, .int 0, .int (1 : Int32)])), (o5, .inr (2, [.ref (u61 0), .ref (u61 1), .int 0])), ((u61 0), .inl (cI, 12, .inl (fun _ => 0))), ((u61 1), .inl (cI, 12, .inl (fun _ => 0))), (o6, .inl (cO, 2, .inr (.inr (.inr (.inr (va_up (va_up (fun _ => none) 0 (some o7)) 1 (some o8))))))), (o7, .inr (3, [.int (0 : Int32), .int 0, .int 0, .int 0])), (o8, .inr (3, [.int (0 : Int32), .int 0, .int 0, .int 0])), (o9, .inr (7, [.ref (u106 0), .int 0])), ((u106 0), .inl (cI, 9, .inl (fun _ => 0))), (o10, .inr (0, [.null, .null, .null, .null]))] H := hP
  have hD : va_D A [(h0, .inr (9, [.ref o1, .ref o2, .ref o3, .ref o4, .ref o5, .ref o6, .ref o9, .null, .null])), (o1, .inr (8, [.ref (u9 0), .int 0])), ((u9 0), .inl (cI, 200, .inl (fun _ => 0))), (o2, .inr (5, [.ref o1, .ref (u24 0), .int 0, .int 0, .int 0, .int 0])), ((u24 0), .inr (1, [.ref (u24 1), .ref (u24 2), .ref (u24 3), .int 0, .int 0])), ((u24 1), .inl (cI, 6, .inl (fun _ => 0))), ((u24 2), .inl (cI, 6, .inl (fun _ => 0))), ((u24 3), .inl (cI, 6, .inl (fun _ => 0))), (o3, .inr (1, [.ref (u35 0), .ref (u35 1), .ref (u35 2), .int 0, .int 0])), ((u35 0), .inl (cI, 6, .inl (fun _ => 0))), ((u35 1), .inl (cI, 6, .inl (fun _ => 0))), ((u35 2), .inl (cI, 6, .inl (fun _ => 0))), (o4, .inr (6, [.ref o3, .int 0, .int 0, .int (1 : Int32)])), (o5, .inr (2, [.ref (u61 0), .ref (u61 1), .int 0])), ((u61 0), .inl (cI, 12, .inl (fun _ => 0))), ((u61 1), .inl (cI, 12, .inl (fun _ => 0))), (o6, .inl (cO, 2, .inr (.inr (.inr (.inr (va_up (va_up (fun _ => none) 0 (some o7)) 1 (some o8))))))), (o7, .inr (3, [.int (0 : Int32), .int 0, .int 0, .int 0])), (o8, .inr (3, [.int (0 : Int32), .int 0, .int 0, .int 0])), (o9, .inr (7, [.ref (u106 0), .int 0])), ((u106 0), .inl (cI, 9, .inl (fun _ => 0))), (o10, .inr (0, [.null, .null, .null, .null]))] := hD
  refine lv_dup hx hb dX9_init_116 rfl ?_
  refine lv_aload_n hx hb dX9_init_117 rfl (lv_at hl 1 rfl) ?_
  refine va_get (D := D) (ci := 9) (v := .ref o3) (C := RX9) (T := TX9) (N := 9) hx hb hts inX9 hown hK hP 0 rfl rfl 2 (by decide) fl28 (fun _ h9 => h9) rfl dX9_init_118 ?_
  refine lv_aload_n hx hb dX9_init_121 rfl (lv_at hl 1 rfl) ?_
  refine va_get (D := D) (ci := 9) (v := .ref o4) (C := RX9) (T := TX9) (N := 9) hx hb hts inX9 hown hK hP 0 rfl rfl 3 (by decide) fl37 (fun _ h9 => h9) rfl dX9_init_122 ?_
  refine lv_aload_n hx hb dX9_init_125 rfl (lv_at hl 1 rfl) ?_
  refine va_get (D := D) (ci := 9) (v := .ref o9) (C := RX9) (T := TX9) (N := 9) hx hb hts inX9 hown hK hP 0 rfl rfl 6 (by decide) fl58 (fun _ h9 => h9) rfl dX9_init_126 ?_
  have hPc : va_P D vwCl [(o10, .inr (0, [.null, .null, .null, .null]))] H := hP.sub [21] rfl
  have hDc : va_D A [(o10, .inr (0, [.null, .null, .null, .null]))] := hD.sub [21] (by decide) rfl
  have hFc := va_free (wc := [(o10, .inr (0, [.null, .null, .null, .null]))]) hD hS hA [21] rfl
  refine va_callv (va_runI (As := [.ref o3, .ref o4, .ref o9]) (rest := [.ref o10, .ref h0]) ⟨hx, hb, hml, hown, hts⟩ (k_X0_init l D cI cJ cZ cO o10 H.size o3 o4 o9) (cwI 3 hts gX9_init_X0_init rfl rfl rfl iiX0 ml64 imX0_init rfl (by decide +kernel) ⟨Nat.le_of_ble_eq_true rfl, Nat.le_of_ble_eq_true rfl⟩) ⟨fb_i, fun U hU hW => ⟨rfl, by rw [hU], by rw [hU]; exact hPc, KK.warm hW hKK, hDc.weaken (fun _ _ _ _ => trivial)⟩⟩ rfl rfl hl.1 rfl (lv_room (Nat.le_of_ble_eq_true rfl)) dX9_init_129 ⟨Nat.le_of_ble_eq_true rfl, Nat.le_of_ble_eq_true rfl⟩) hS (fun q _ h => hFc q h) hFc (fun u129 t H1 locs ht hvm hw hB hz1 hk1 hS => ?_)
  obtain ⟨hP1, hD1⟩ := hB
  rw [ht] at hP1
  obtain ⟨hP, hD⟩ := va_join (wr := [(h0, .inr (9, [.ref o1, .ref o2, .ref o3, .ref o4, .ref o5, .ref o6, .ref o9, .null, .null])), (o1, .inr (8, [.ref (u9 0), .int 0])), ((u9 0), .inl (cI, 200, .inl (fun _ => 0))), (o2, .inr (5, [.ref o1, .ref (u24 0), .int 0, .int 0, .int 0, .int 0])), ((u24 0), .inr (1, [.ref (u24 1), .ref (u24 2), .ref (u24 3), .int 0, .int 0])), ((u24 1), .inl (cI, 6, .inl (fun _ => 0))), ((u24 2), .inl (cI, 6, .inl (fun _ => 0))), ((u24 3), .inl (cI, 6, .inl (fun _ => 0))), (o3, .inr (1, [.ref (u35 0), .ref (u35 1), .ref (u35 2), .int 0, .int 0])), ((u35 0), .inl (cI, 6, .inl (fun _ => 0))), ((u35 1), .inl (cI, 6, .inl (fun _ => 0))), ((u35 2), .inl (cI, 6, .inl (fun _ => 0))), (o4, .inr (6, [.ref o3, .int 0, .int 0, .int (1 : Int32)])), (o5, .inr (2, [.ref (u61 0), .ref (u61 1), .int 0])), ((u61 0), .inl (cI, 12, .inl (fun _ => 0))), ((u61 1), .inl (cI, 12, .inl (fun _ => 0))), (o6, .inl (cO, 2, .inr (.inr (.inr (.inr (va_up (va_up (fun _ => none) 0 (some o7)) 1 (some o8))))))), (o7, .inr (3, [.int (0 : Int32), .int 0, .int 0, .int 0])), (o8, .inr (3, [.int (0 : Int32), .int 0, .int 0, .int 0])), (o9, .inr (7, [.ref (u106 0), .int 0])), ((u106 0), .inl (cI, 9, .inl (fun _ => 0)))]) (w1 := [(o10, .inr (0, [.ref o3, .ref o4, .ref o9, .ref (u129 0)])), ((u129 0), .inl (cJ, 7, .inr (.inl (fun _ => 0))))]) hP hD [21] [0, 1, 2, 3, 4, 5, 6, 7, 8, 9, 10, 11, 12, 13, 14, 15, 16, 17, 18, 19, 20] rfl rfl (by decide) (by decide) hk1 hFc hP1 hD1
  generalize H1 = H at hP hS ⊢
  have hP : va_P D vwCl [(h0, .inr (9, [.ref o1, .ref o2, .ref o3, .ref o4, .ref o5, .ref o6, .ref o9, .null, .null])), (o1, .inr (8, [.ref (u9 0), .int 0])), ((u9 0), .inl (cI, 200, .inl (fun _ => 0))), (o2, .inr (5, [.ref o1, .ref (u24 0), .int 0, .int 0, .int 0, .int 0])), ((u24 0), .inr (1, [.ref (u24 1), .ref (u24 2), .ref (u24 3), .int 0, .int 0])), ((u24 1), .inl (cI, 6, .inl (fun _ => 0))), ((u24 2), .inl (cI, 6, .inl (fun _ => 0))), ((u24 3), .inl (cI, 6, .inl (fun _ => 0))), (o3, .inr (1, [.ref (u35 0), .ref (u35 1), .ref (u35 2), .int 0, .int 0])), ((u35 0), .inl (cI, 6, .inl (fun _ => 0))), ((u35 1), .inl (cI, 6, .inl (fun _ => 0))), ((u35 2), .inl (cI, 6, .inl (fun _ => 0))), (o4, .inr (6, [.ref o3, .int 0, .int 0, .int (1 : Int32)])), (o5, .inr (2, [.ref (u61 0), .ref (u61 1), .int 0])), ((u61 0), .inl (cI, 12, .inl (fun _ => 0))), ((u61 1), .inl (cI, 12, .inl (fun _ => 0))), (o6, .inl (cO, 2, .inr (.inr (.inr (.inr (va_up (va_up (fun _ => none) 0 (some o7)) 1 (some o8))))))), (o7, .inr (3, [.int (0 : Int32), .int 0, .int 0, .int 0])), (o8, .inr (3, [.int (0 : Int32), .int 0, .int 0, .int 0])), (o9, .inr (7, [.ref (u106 0), .int 0])), ((u106 0), .inl (cI, 9, .inl (fun _ => 0))), (o10, .inr (0, [.ref o3, .ref o4, .ref o9, .ref (u129 0)])), ((u129 0), .inl (cJ, 7, .inr (.inl (fun _ => 0))))] H := hP
  have hD : va_D A [(h0, .inr (9, [.ref o1, .ref o2, .ref o3, .ref o4, .ref o5, .ref o6, .ref o9, .null, .null])), (o1, .inr (8, [.ref (u9 0), .int 0])), ((u9 0), .inl (cI, 200, .inl (fun _ => 0))), (o2, .inr (5, [.ref o1, .ref (u24 0), .int 0, .int 0, .int 0, .int 0])), ((u24 0), .inr (1, [.ref (u24 1), .ref (u24 2), .ref (u24 3), .int 0, .int 0])), ((u24 1), .inl (cI, 6, .inl (fun _ => 0))), ((u24 2), .inl (cI, 6, .inl (fun _ => 0))), ((u24 3), .inl (cI, 6, .inl (fun _ => 0))), (o3, .inr (1, [.ref (u35 0), .ref (u35 1), .ref (u35 2), .int 0, .int 0])), ((u35 0), .inl (cI, 6, .inl (fun _ => 0))), ((u35 1), .inl (cI, 6, .inl (fun _ => 0))), ((u35 2), .inl (cI, 6, .inl (fun _ => 0))), (o4, .inr (6, [.ref o3, .int 0, .int 0, .int (1 : Int32)])), (o5, .inr (2, [.ref (u61 0), .ref (u61 1), .int 0])), ((u61 0), .inl (cI, 12, .inl (fun _ => 0))), ((u61 1), .inl (cI, 12, .inl (fun _ => 0))), (o6, .inl (cO, 2, .inr (.inr (.inr (.inr (va_up (va_up (fun _ => none) 0 (some o7)) 1 (some o8))))))), (o7, .inr (3, [.int (0 : Int32), .int 0, .int 0, .int 0])), (o8, .inr (3, [.int (0 : Int32), .int 0, .int 0, .int 0])), (o9, .inr (7, [.ref (u106 0), .int 0])), ((u106 0), .inl (cI, 9, .inl (fun _ => 0))), (o10, .inr (0, [.ref o3, .ref o4, .ref o9, .ref (u129 0)])), ((u129 0), .inl (cJ, 7, .inr (.inl (fun _ => 0))))] := hD
  refine va_putF (D := D) (ci := 9) (v := .ref o10) (ty := .object "SimonSays$Chances") (C := RX9) (T := TX9) (N := 9) hx hb hts inX9 tyX9 tyX9_ok nmX9 hown hK hP hD hS 0 rfl rfl 7 (by decide) fl67 (fun _ h9 => h9) rfl hin rfl (by decide +kernel) rfl rfl (Nat.le_of_ble_eq_true rfl) dX9_init_132 (fun H locs hP hD hS => ?_)
  have hP : va_P D vwCl [(h0, .inr (9, [.ref o1, .ref o2, .ref o3, .ref o4, .ref o5, .ref o6, .ref o9, .ref o10, .null])), (o1, .inr (8, [.ref (u9 0), .int 0])), ((u9 0), .inl (cI, 200, .inl (fun _ => 0))), (o2, .inr (5, [.ref o1, .ref (u24 0), .int 0, .int 0, .int 0, .int 0])), ((u24 0), .inr (1, [.ref (u24 1), .ref (u24 2), .ref (u24 3), .int 0, .int 0])), ((u24 1), .inl (cI, 6, .inl (fun _ => 0))), ((u24 2), .inl (cI, 6, .inl (fun _ => 0))), ((u24 3), .inl (cI, 6, .inl (fun _ => 0))), (o3, .inr (1, [.ref (u35 0), .ref (u35 1), .ref (u35 2), .int 0, .int 0])), ((u35 0), .inl (cI, 6, .inl (fun _ => 0))), ((u35 1), .inl (cI, 6, .inl (fun _ => 0))), ((u35 2), .inl (cI, 6, .inl (fun _ => 0))), (o4, .inr (6, [.ref o3, .int 0, .int 0, .int (1 : Int32)])), (o5, .inr (2, [.ref (u61 0), .ref (u61 1), .int 0])), ((u61 0), .inl (cI, 12, .inl (fun _ => 0))), ((u61 1), .inl (cI, 12, .inl (fun _ => 0))), (o6, .inl (cO, 2, .inr (.inr (.inr (.inr (va_up (va_up (fun _ => none) 0 (some o7)) 1 (some o8))))))), (o7, .inr (3, [.int (0 : Int32), .int 0, .int 0, .int 0])), (o8, .inr (3, [.int (0 : Int32), .int 0, .int 0, .int 0])), (o9, .inr (7, [.ref (u106 0), .int 0])), ((u106 0), .inl (cI, 9, .inl (fun _ => 0))), (o10, .inr (0, [.ref o3, .ref o4, .ref o9, .ref (u129 0)])), ((u129 0), .inl (cJ, 7, .inr (.inl (fun _ => 0))))] H := hP
  have hD : va_D A [(h0, .inr (9, [.ref o1, .ref o2, .ref o3, .ref o4, .ref o5, .ref o6, .ref o9, .ref o10, .null])), (o1, .inr (8, [.ref (u9 0), .int 0])), ((u9 0), .inl (cI, 200, .inl (fun _ => 0))), (o2, .inr (5, [.ref o1, .ref (u24 0), .int 0, .int 0, .int 0, .int 0])), ((u24 0), .inr (1, [.ref (u24 1), .ref (u24 2), .ref (u24 3), .int 0, .int 0])), ((u24 1), .inl (cI, 6, .inl (fun _ => 0))), ((u24 2), .inl (cI, 6, .inl (fun _ => 0))), ((u24 3), .inl (cI, 6, .inl (fun _ => 0))), (o3, .inr (1, [.ref (u35 0), .ref (u35 1), .ref (u35 2), .int 0, .int 0])), ((u35 0), .inl (cI, 6, .inl (fun _ => 0))), ((u35 1), .inl (cI, 6, .inl (fun _ => 0))), ((u35 2), .inl (cI, 6, .inl (fun _ => 0))), (o4, .inr (6, [.ref o3, .int 0, .int 0, .int (1 : Int32)])), (o5, .inr (2, [.ref (u61 0), .ref (u61 1), .int 0])), ((u61 0), .inl (cI, 12, .inl (fun _ => 0))), ((u61 1), .inl (cI, 12, .inl (fun _ => 0))), (o6, .inl (cO, 2, .inr (.inr (.inr (.inr (va_up (va_up (fun _ => none) 0 (some o7)) 1 (some o8))))))), (o7, .inr (3, [.int (0 : Int32), .int 0, .int 0, .int 0])), (o8, .inr (3, [.int (0 : Int32), .int 0, .int 0, .int 0])), (o9, .inr (7, [.ref (u106 0), .int 0])), ((u106 0), .inl (cI, 9, .inl (fun _ => 0))), (o10, .inr (0, [.ref o3, .ref o4, .ref o9, .ref (u129 0)])), ((u129 0), .inl (cJ, 7, .inr (.inl (fun _ => 0))))] := hD
  refine lv_aload_n hx hb dX9_init_135 rfl (lv_at hl 1 rfl) ?_
  refine va_new (ci := 4) (fs := [.null, .null, .long 0]) (C := RX4) (T := TX4) (N := 3) hx hb hts inX4 tyX4 tyX4_ok hown cl71 isX4 iiX4 hK hP hD hS hA rfl (fun j hj => by rcases (show j = 0 ∨ j = 1 ∨ j = 2 by omega) with rfl | rfl | rfl <;> rfl) (Nat.le_of_ble_eq_true rfl) (Nat.le_of_ble_eq_true rfl) dX9_init_136 (fun o11 H hP hD hS => ?_)
  have hP : va_P D vwCl [(h0, .inr (9, [.ref o1, .ref o2, .ref o3, .ref o4, .ref o5, .ref o6, .ref o9, .ref o10, .null])), (o1, .inr (8, [.ref (u9 0), .int 0])), ((u9 0), .inl (cI, 200, .inl (fun _ => 0))), (o2, .inr (5, [.ref o1, .ref (u24 0), .int 0, .int 0, .int 0, .int 0])), ((u24 0), .inr (1, [.ref (u24 1), .ref (u24 2), .ref (u24 3), .int 0, .int 0])), ((u24 1), .inl (cI, 6, .inl (fun _ => 0))), ((u24 2), .inl (cI, 6, .inl (fun _ => 0))), ((u24 3), .inl (cI, 6, .inl (fun _ => 0))), (o3, .inr (1, [.ref (u35 0), .ref (u35 1), .ref (u35 2), .int 0, .int 0])), ((u35 0), .inl (cI, 6, .inl (fun _ => 0))), ((u35 1), .inl (cI, 6, .inl (fun _ => 0))), ((u35 2), .inl (cI, 6, .inl (fun _ => 0))), (o4, .inr (6, [.ref o3, .int 0, .int 0, .int (1 : Int32)])), (o5, .inr (2, [.ref (u61 0), .ref (u61 1), .int 0])), ((u61 0), .inl (cI, 12, .inl (fun _ => 0))), ((u61 1), .inl (cI, 12, .inl (fun _ => 0))), (o6, .inl (cO, 2, .inr (.inr (.inr (.inr (va_up (va_up (fun _ => none) 0 (some o7)) 1 (some o8))))))), (o7, .inr (3, [.int (0 : Int32), .int 0, .int 0, .int 0])), (o8, .inr (3, [.int (0 : Int32), .int 0, .int 0, .int 0])), (o9, .inr (7, [.ref (u106 0), .int 0])), ((u106 0), .inl (cI, 9, .inl (fun _ => 0))), (o10, .inr (0, [.ref o3, .ref o4, .ref o9, .ref (u129 0)])), ((u129 0), .inl (cJ, 7, .inr (.inl (fun _ => 0)))), (o11, .inr (4, [.null, .null, .long 0]))] H := hP
  have hD : va_D A [(h0, .inr (9, [.ref o1, .ref o2, .ref o3, .ref o4, .ref o5, .ref o6, .ref o9, .ref o10, .null])), (o1, .inr (8, [.ref (u9 0), .int 0])), ((u9 0), .inl (cI, 200, .inl (fun _ => 0))), (o2, .inr (5, [.ref o1, .ref (u24 0), .int 0, .int 0, .int 0, .int 0])), ((u24 0), .inr (1, [.ref (u24 1), .ref (u24 2), .ref (u24 3), .int 0, .int 0])), ((u24 1), .inl (cI, 6, .inl (fun _ => 0))), ((u24 2), .inl (cI, 6, .inl (fun _ => 0))), ((u24 3), .inl (cI, 6, .inl (fun _ => 0))), (o3, .inr (1, [.ref (u35 0), .ref (u35 1), .ref (u35 2), .int 0, .int 0])), ((u35 0), .inl (cI, 6, .inl (fun _ => 0))), ((u35 1), .inl (cI, 6, .inl (fun _ => 0))), ((u35 2), .inl (cI, 6, .inl (fun _ => 0))), (o4, .inr (6, [.ref o3, .int 0, .int 0, .int (1 : Int32)])), (o5, .inr (2, [.ref (u61 0), .ref (u61 1), .int 0])), ((u61 0), .inl (cI, 12, .inl (fun _ => 0))), ((u61 1), .inl (cI, 12, .inl (fun _ => 0))), (o6, .inl (cO, 2, .inr (.inr (.inr (.inr (va_up (va_up (fun _ => none) 0 (some o7)) 1 (some o8))))))), (o7, .inr (3, [.int (0 : Int32), .int 0, .int 0, .int 0])), (o8, .inr (3, [.int (0 : Int32), .int 0, .int 0, .int 0])), (o9, .inr (7, [.ref (u106 0), .int 0])), ((u106 0), .inl (cI, 9, .inl (fun _ => 0))), (o10, .inr (0, [.ref o3, .ref o4, .ref o9, .ref (u129 0)])), ((u129 0), .inl (cJ, 7, .inr (.inl (fun _ => 0)))), (o11, .inr (4, [.null, .null, .long 0]))] := hD
  refine lv_dup hx hb dX9_init_139 rfl ?_
  refine lv_aload_n hx hb dX9_init_140 rfl (lv_at hl 1 rfl) ?_
  refine va_get (D := D) (ci := 9) (v := .ref o3) (C := RX9) (T := TX9) (N := 9) hx hb hts inX9 hown hK hP 0 rfl rfl 2 (by decide) fl28 (fun _ h9 => h9) rfl dX9_init_141 ?_
  refine lv_aload_n hx hb dX9_init_144 rfl (lv_at hl 1 rfl) ?_
  refine va_get (D := D) (ci := 9) (v := .ref o4) (C := RX9) (T := TX9) (N := 9) hx hb hts inX9 hown hK hP 0 rfl rfl 3 (by decide) fl37 (fun _ h9 => h9) rfl dX9_init_145 ?_
  have hPc : va_P D vwCl [(o11, .inr (4, [.null, .null, .long 0]))] H := hP.sub [23] rfl
  have hDc : va_D A [(o11, .inr (4, [.null, .null, .long 0]))] := hD.sub [23] (by decide) rfl
  have hFc := va_free (wc := [(o11, .inr (4, [.null, .null, .long 0]))]) hD hS hA [23] rfl
  refine va_callv (va_runI (As := [.ref o3, .ref o4]) (rest := [.ref o11, .ref h0]) ⟨hx, hb, hml, hown, hts⟩ (k_X4_init l D cI cJ cZ cO o11 H.size o3 o4) (cwI 2 hts gX9_init_X4_init rfl rfl rfl iiX4 ml73 imX4_init rfl (by decide +kernel) ⟨Nat.le_of_ble_eq_true rfl, Nat.le_of_ble_eq_true rfl⟩) ⟨fb_i, fun U hU hW => ⟨rfl, by rw [hU], by rw [hU]; exact hPc, KK.warm hW hKK, hDc.weaken (fun _ _ _ _ => trivial)⟩⟩ rfl rfl hl.1 rfl (lv_room (Nat.le_of_ble_eq_true rfl)) dX9_init_148 ⟨Nat.le_of_ble_eq_true rfl, Nat.le_of_ble_eq_true rfl⟩) hS (fun q _ h => hFc q h) hFc (fun u148 t H1 locs ht hvm hw hB hz1 hk1 hS => ?_)
  obtain ⟨hP1, hD1⟩ := hB
  rw [ht] at hP1
  obtain ⟨hP, hD⟩ := va_join (wr := [(h0, .inr (9, [.ref o1, .ref o2, .ref o3, .ref o4, .ref o5, .ref o6, .ref o9, .ref o10, .null])), (o1, .inr (8, [.ref (u9 0), .int 0])), ((u9 0), .inl (cI, 200, .inl (fun _ => 0))), (o2, .inr (5, [.ref o1, .ref (u24 0), .int 0, .int 0, .int 0, .int 0])), ((u24 0), .inr (1, [.ref (u24 1), .ref (u24 2), .ref (u24 3), .int 0, .int 0])), ((u24 1), .inl (cI, 6, .inl (fun _ => 0))), ((u24 2), .inl (cI, 6, .inl (fun _ => 0))), ((u24 3), .inl (cI, 6, .inl (fun _ => 0))), (o3, .inr (1, [.ref (u35 0), .ref (u35 1), .ref (u35 2), .int 0, .int 0])), ((u35 0), .inl (cI, 6, .inl (fun _ => 0))), ((u35 1), .inl (cI, 6, .inl (fun _ => 0))), ((u35 2), .inl (cI, 6, .inl (fun _ => 0))), (o4, .inr (6, [.ref o3, .int 0, .int 0, .int (1 : Int32)])), (o5, .inr (2, [.ref (u61 0), .ref (u61 1), .int 0])), ((u61 0), .inl (cI, 12, .inl (fun _ => 0))), ((u61 1), .inl (cI, 12, .inl (fun _ => 0))), (o6, .inl (cO, 2, .inr (.inr (.inr (.inr (va_up (va_up (fun _ => none) 0 (some o7)) 1 (some o8))))))), (o7, .inr (3, [.int (0 : Int32), .int 0, .int 0, .int 0])), (o8, .inr (3, [.int (0 : Int32), .int 0, .int 0, .int 0])), (o9, .inr (7, [.ref (u106 0), .int 0])), ((u106 0), .inl (cI, 9, .inl (fun _ => 0))), (o10, .inr (0, [.ref o3, .ref o4, .ref o9, .ref (u129 0)])), ((u129 0), .inl (cJ, 7, .inr (.inl (fun _ => 0))))]) (w1 := [(o11, .inr (4, [.ref o3, .ref o4, .long 0]))]) hP hD [23] [0, 1, 2, 3, 4, 5, 6, 7, 8, 9, 10, 11, 12, 13, 14, 15, 16, 17, 18, 19, 20, 21, 22] rfl rfl (by decide) (by decide) hk1 hFc hP1 hD1
  generalize H1 = H at hP hS ⊢
  have hP : va_P D vwCl [(h0, .inr (9, [.ref o1, .ref o2, .ref o3, .ref o4, .ref o5, .ref o6, .ref o9, .ref o10, .null])), (o1, .inr (8, [.ref (u9 0), .int 0])), ((u9 0), .inl (cI, 200, .inl (fun _ => 0))), (o2, .inr (5, [.ref o1, .ref (u24 0), .int 0, .int 0, .int 0, .int 0])), ((u24 0), .inr (1, [.ref (u24 1), .ref (u24 2), .ref (u24 3), .int 0, .int 0])), ((u24 1), .inl (cI, 6, .inl (fun _ => 0))), ((u24 2), .inl (cI, 6, .inl (fun _ => 0))), ((u24 3), .inl (cI, 6, .inl (fun _ => 0))), (o3, .inr (1, [.ref (u35 0), .ref (u35 1), .ref (u35 2), .int 0, .int 0])), ((u35 0), .inl (cI, 6, .inl (fun _ => 0))), ((u35 1), .inl (cI, 6, .inl (fun _ => 0))), ((u35 2), .inl (cI, 6, .inl (fun _ => 0))), (o4, .inr (6, [.ref o3, .int 0, .int 0, .int (1 : Int32)])), (o5, .inr (2, [.ref (u61 0), .ref (u61 1), .int 0])), ((u61 0), .inl (cI, 12, .inl (fun _ => 0))), ((u61 1), .inl (cI, 12, .inl (fun _ => 0))), (o6, .inl (cO, 2, .inr (.inr (.inr (.inr (va_up (va_up (fun _ => none) 0 (some o7)) 1 (some o8))))))), (o7, .inr (3, [.int (0 : Int32), .int 0, .int 0, .int 0])), (o8, .inr (3, [.int (0 : Int32), .int 0, .int 0, .int 0])), (o9, .inr (7, [.ref (u106 0), .int 0])), ((u106 0), .inl (cI, 9, .inl (fun _ => 0))), (o10, .inr (0, [.ref o3, .ref o4, .ref o9, .ref (u129 0)])), ((u129 0), .inl (cJ, 7, .inr (.inl (fun _ => 0)))), (o11, .inr (4, [.ref o3, .ref o4, .long 0]))] H := hP
  have hD : va_D A [(h0, .inr (9, [.ref o1, .ref o2, .ref o3, .ref o4, .ref o5, .ref o6, .ref o9, .ref o10, .null])), (o1, .inr (8, [.ref (u9 0), .int 0])), ((u9 0), .inl (cI, 200, .inl (fun _ => 0))), (o2, .inr (5, [.ref o1, .ref (u24 0), .int 0, .int 0, .int 0, .int 0])), ((u24 0), .inr (1, [.ref (u24 1), .ref (u24 2), .ref (u24 3), .int 0, .int 0])), ((u24 1), .inl (cI, 6, .inl (fun _ => 0))), ((u24 2), .inl (cI, 6, .inl (fun _ => 0))), ((u24 3), .inl (cI, 6, .inl (fun _ => 0))), (o3, .inr (1, [.ref (u35 0), .ref (u35 1), .ref (u35 2), .int 0, .int 0])), ((u35 0), .inl (cI, 6, .inl (fun _ => 0))), ((u35 1), .inl (cI, 6, .inl (fun _ => 0))), ((u35 2), .inl (cI, 6, .inl (fun _ => 0))), (o4, .inr (6, [.ref o3, .int 0, .int 0, .int (1 : Int32)])), (o5, .inr (2, [.ref (u61 0), .ref (u61 1), .int 0])), ((u61 0), .inl (cI, 12, .inl (fun _ => 0))), ((u61 1), .inl (cI, 12, .inl (fun _ => 0))), (o6, .inl (cO, 2, .inr (.inr (.inr (.inr (va_up (va_up (fun _ => none) 0 (some o7)) 1 (some o8))))))), (o7, .inr (3, [.int (0 : Int32), .int 0, .int 0, .int 0])), (o8, .inr (3, [.int (0 : Int32), .int 0, .int 0, .int 0])), (o9, .inr (7, [.ref (u106 0), .int 0])), ((u106 0), .inl (cI, 9, .inl (fun _ => 0))), (o10, .inr (0, [.ref o3, .ref o4, .ref o9, .ref (u129 0)])), ((u129 0), .inl (cJ, 7, .inr (.inl (fun _ => 0)))), (o11, .inr (4, [.ref o3, .ref o4, .long 0]))] := hD
  refine va_putF (D := D) (ci := 9) (v := .ref o11) (ty := .object "SimonSays$Kinds") (C := RX9) (T := TX9) (N := 9) hx hb hts inX9 tyX9 tyX9_ok nmX9 hown hK hP hD hS 0 rfl rfl 8 (by decide) fl76 (fun _ h9 => h9) rfl hin rfl (by decide +kernel) rfl rfl (Nat.le_of_ble_eq_true rfl) dX9_init_151 (fun H locs hP hD hS => ?_)
  have hP : va_P D vwCl [(h0, .inr (9, [.ref o1, .ref o2, .ref o3, .ref o4, .ref o5, .ref o6, .ref o9, .ref o10, .ref o11])), (o1, .inr (8, [.ref (u9 0), .int 0])), ((u9 0), .inl (cI, 200, .inl (fun _ => 0))), (o2, .inr (5, [.ref o1, .ref (u24 0), .int 0, .int 0, .int 0, .int 0])), ((u24 0), .inr (1, [.ref (u24 1), .ref (u24 2), .ref (u24 3), .int 0, .int 0])), ((u24 1), .inl (cI, 6, .inl (fun _ => 0))), ((u24 2), .inl (cI, 6, .inl (fun _ => 0))), ((u24 3), .inl (cI, 6, .inl (fun _ => 0))), (o3, .inr (1, [.ref (u35 0), .ref (u35 1), .ref (u35 2), .int 0, .int 0])), ((u35 0), .inl (cI, 6, .inl (fun _ => 0))), ((u35 1), .inl (cI, 6, .inl (fun _ => 0))), ((u35 2), .inl (cI, 6, .inl (fun _ => 0))), (o4, .inr (6, [.ref o3, .int 0, .int 0, .int (1 : Int32)])), (o5, .inr (2, [.ref (u61 0), .ref (u61 1), .int 0])), ((u61 0), .inl (cI, 12, .inl (fun _ => 0))), ((u61 1), .inl (cI, 12, .inl (fun _ => 0))), (o6, .inl (cO, 2, .inr (.inr (.inr (.inr (va_up (va_up (fun _ => none) 0 (some o7)) 1 (some o8))))))), (o7, .inr (3, [.int (0 : Int32), .int 0, .int 0, .int 0])), (o8, .inr (3, [.int (0 : Int32), .int 0, .int 0, .int 0])), (o9, .inr (7, [.ref (u106 0), .int 0])), ((u106 0), .inl (cI, 9, .inl (fun _ => 0))), (o10, .inr (0, [.ref o3, .ref o4, .ref o9, .ref (u129 0)])), ((u129 0), .inl (cJ, 7, .inr (.inl (fun _ => 0)))), (o11, .inr (4, [.ref o3, .ref o4, .long 0]))] H := hP
  have hD : va_D A [(h0, .inr (9, [.ref o1, .ref o2, .ref o3, .ref o4, .ref o5, .ref o6, .ref o9, .ref o10, .ref o11])), (o1, .inr (8, [.ref (u9 0), .int 0])), ((u9 0), .inl (cI, 200, .inl (fun _ => 0))), (o2, .inr (5, [.ref o1, .ref (u24 0), .int 0, .int 0, .int 0, .int 0])), ((u24 0), .inr (1, [.ref (u24 1), .ref (u24 2), .ref (u24 3), .int 0, .int 0])), ((u24 1), .inl (cI, 6, .inl (fun _ => 0))), ((u24 2), .inl (cI, 6, .inl (fun _ => 0))), ((u24 3), .inl (cI, 6, .inl (fun _ => 0))), (o3, .inr (1, [.ref (u35 0), .ref (u35 1), .ref (u35 2), .int 0, .int 0])), ((u35 0), .inl (cI, 6, .inl (fun _ => 0))), ((u35 1), .inl (cI, 6, .inl (fun _ => 0))), ((u35 2), .inl (cI, 6, .inl (fun _ => 0))), (o4, .inr (6, [.ref o3, .int 0, .int 0, .int (1 : Int32)])), (o5, .inr (2, [.ref (u61 0), .ref (u61 1), .int 0])), ((u61 0), .inl (cI, 12, .inl (fun _ => 0))), ((u61 1), .inl (cI, 12, .inl (fun _ => 0))), (o6, .inl (cO, 2, .inr (.inr (.inr (.inr (va_up (va_up (fun _ => none) 0 (some o7)) 1 (some o8))))))), (o7, .inr (3, [.int (0 : Int32), .int 0, .int 0, .int 0])), (o8, .inr (3, [.int (0 : Int32), .int 0, .int 0, .int 0])), (o9, .inr (7, [.ref (u106 0), .int 0])), ((u106 0), .inl (cI, 9, .inl (fun _ => 0))), (o10, .inr (0, [.ref o3, .ref o4, .ref o9, .ref (u129 0)])), ((u129 0), .inl (cJ, 7, .inr (.inl (fun _ => 0)))), (o11, .inr (4, [.ref o3, .ref o4, .long 0]))] := hD
  refine W.widen (k := 23) (n := 320) (Nat.le_of_ble_eq_true rfl) (Nat.le_of_ble_eq_true rfl) ?_
  exact W.vret hx hb hr (fun t ht hW => ⟨⟨(fun i => if i = 0 then o1 else if i = 1 then (u9 0) else if i = 2 then o2 else if i = 3 then (u24 0) else if i = 4 then (u24 1) else if i = 5 then (u24 2) else if i = 6 then (u24 3) else if i = 7 then o3 else if i = 8 then (u35 0) else if i = 9 then (u35 1) else if i = 10 then (u35 2) else if i = 11 then o4 else if i = 12 then o5 else if i = 13 then (u61 0) else if i = 14 then (u61 1) else if i = 15 then o6 else if i = 16 then o7 else if i = 17 then o8 else if i = 18 then o9 else if i = 19 then (u106 0) else if i = 20 then o10 else if i = 21 then (u129 0) else if i = 22 then o11 else  0), rfl, trivial, by rw [ht]; exact hP, hD⟩, hS.F ht⟩) hS.2.2 dX9_init_154

set_option maxHeartbeats 8000000 in
set_option maxRecDepth 100000 in
theorem k_X10_init (l : Launch) (D : va_G) (cI cJ cZ cO : ClassId) (h0 sz : Nat) : Met l yX10_init wsX10_init ({ frames := 1, cells := 8, slots := 268, locals := 12 } : Room) (va_Pc [.ref h0] (fun U => U.heap.size = sz ∧ va_P D vwCl [(h0, .inr (10, [.null, .int 0, .int 0, .null, .null, .null, .int 0, .int 0, .int 0, .int 0, .int 0, .null, .null, .null, .long 0, .int 0, .int 0, .int 0, .long 0, .int 0, .int 0, .null, .long 0]))] U.heap ∧ KK D cI cJ cZ cO U ∧ va_D (fun _ => True) [(h0, .inr (10, [.null, .int 0, .int 0, .null, .null, .null, .int 0, .int 0, .int 0, .int 0, .int 0, .null, .null, .null, .long 0, .int 0, .int 0, .int 0, .long 0, .int 0, .int 0, .null, .long 0]))])) (va_Qv (fun (_ : Nat → Nat) => True) (fun q t => va_P D vwCl [(h0, .inr (10, [.ref (q 0), .int 0, .int 0, .ref (q 1), .ref (q 2), .ref (q 3), .int 0, .int 0, .int 0, .int (1 : Int32), .int 0, .ref (q 4), .ref (q 5), .ref (q 6), .long 0, .int 0, .int 0, .int 0, .long 0, .int 0, .int 0, .ref (q 7), .long 0])), ((q 0), .inl (cI, 200, .inl (fun _ => 0))), ((q 1), .inl (cI, 6, .inl (fun _ => 0))), ((q 2), .inl (cI, 6, .inl (fun _ => 0))), ((q 3), .inl (cI, 6, .inl (fun _ => 0))), ((q 4), .inl (cI, 24, .inl (fun _ => 0))), ((q 5), .inl (cI, 6, .inl (fun _ => 0))), ((q 6), .inl (cZ, 2, .inl (fun _ => 0))), ((q 7), .inl (cI, 18, .inl (fun _ => 0)))] t.heap ∧ va_D (va_A [(h0, .inr (10, [.null, .int 0, .int 0, .null, .null, .null, .int 0, .int 0, .int 0, .int 0, .int 0, .null, .null, .null, .long 0, .int 0, .int 0, .int 0, .long 0, .int 0, .int 0, .null, .long 0]))] sz) [(h0, .inr (10, [.ref (q 0), .int 0, .int 0, .ref (q 1), .ref (q 2), .ref (q 3), .int 0, .int 0, .int 0, .int (1 : Int32), .int 0, .ref (q 4), .ref (q 5), .ref (q 6), .long 0, .int 0, .int 0, .int 0, .long 0, .int 0, .int 0, .ref (q 7), .long 0])), ((q 0), .inl (cI, 200, .inl (fun _ => 0))), ((q 1), .inl (cI, 6, .inl (fun _ => 0))), ((q 2), .inl (cI, 6, .inl (fun _ => 0))), ((q 3), .inl (cI, 6, .inl (fun _ => 0))), ((q 4), .inl (cI, 24, .inl (fun _ => 0))), ((q 5), .inl (cI, 6, .inl (fun _ => 0))), ((q 6), .inl (cZ, 2, .inl (fun _ => 0))), ((q 7), .inl (cI, 18, .inl (fun _ => 0)))]) (va_A [(h0, .inr (10, [.null, .int 0, .int 0, .null, .null, .null, .int 0, .int 0, .int 0, .int 0, .int 0, .null, .null, .null, .long 0, .int 0, .int 0, .int 0, .long 0, .int 0, .int 0, .null, .long 0]))] sz)) 8 268 (va_A [(h0, .inr (10, [.null, .int 0, .int 0, .null, .null, .null, .int 0, .int 0, .int 0, .int 0, .int 0, .null, .null, .null, .long 0, .int 0, .int 0, .int 0, .long 0, .int 0, .int 0, .null, .long 0]))] sz) := by
  refine Met.ofW (cc := cX10_init) (maxL := 1) (ret := none) (by decide) rfl ?_
  intro p e s m args below meth c s₁ B hml hv
  obtain ⟨rfl, hsz, hP, hKK, hD0⟩ := hv
  have hx := B.exec
  have hb := B.bytes
  have hr := B.returns
  have hts := atoms_spec (ws := wsX10_init) B.pre
  have hown : s.vm.findClass RX10 = some m.cls := findClass_of_methodNamed B.named
  have hlocks := B.notSynchronized
  have hK := hKK.1
  have hin : meth.name = "<init>" := (name_of_methodNamed B.named B.method).1
  have ol1 := hts (.methodLink RX10 1 objectInit) (by decide +kernel)
  have oi := hts (.instanceMethod objectInit) (by decide +kernel)
  have oc := hts (.code objectInit ⟨#[0xb1]⟩ 1 none) (by decide +kernel)
  have acI := hts (.arrayClass .int) (by decide +kernel)
  have fl7 := hts (.fieldLink RX10 7 "SimonSaysModel" "text" "[I") (by decide +kernel)
  have inX10 : ∀ w ∈ wsX100, w ∈ wsX10_init := by decide +kernel
  have fl13 := hts (.fieldLink RX10 13 "SimonSaysModel" "slips" "[I") (by decide +kernel)
  have fl16 := hts (.fieldLink RX10 16 "SimonSaysModel" "lates" "[I") (by decide +kernel)
  have fl19 := hts (.fieldLink RX10 19 "SimonSaysModel" "copies" "[I") (by decide +kernel)
  have fl22 := hts (.fieldLink RX10 22 "SimonSaysModel" "lot" "I") (by decide +kernel)
  have fl26 := hts (.fieldLink RX10 26 "SimonSaysModel" "before" "[I") (by decide +kernel)
  have fl29 := hts (.fieldLink RX10 29 "SimonSaysModel" "images" "[I") (by decide +kernel)
  have acZ := hts (.arrayClass .boolean) (by decide +kernel)
  have fl32 := hts (.fieldLink RX10 32 "SimonSaysModel" "kept" "[Z") (by decide +kernel)
  have fl36 := hts (.fieldLink RX10 36 "SimonSaysModel" "read" "[I") (by decide +kernel)
  subst hsz
  have hD := hD0.self (sz := s.heap.size)
  generalize hAe : va_A [(h0, .inr (10, [.null, .int 0, .int 0, .null, .null, .null, .int 0, .int 0, .int 0, .int 0, .int 0, .null, .null, .null, .long 0, .int 0, .int 0, .int 0, .long 0, .int 0, .int 0, .null, .long 0]))] s.heap.size = A at hD ⊢
  have hA : ∀ q : Nat, s.heap.size ≤ q → A q := fun q h => by rw [← hAe]; exact Or.inr h
  have hS : va_S A s.heap s.heap [] := va_S.rf
  have hl := lv_entry ([.ref h0]) (n := 1) (Nat.le_of_ble_eq_true rfl)
  rw [lg_entry_eq]
  generalize (lg_sl ([.ref h0]) ++ List.replicate (1 - (lg_sl ([.ref h0])).length) Slot.unset).toArray = ls at hl ⊢
  have hl : lv_has ls 1 [(0, .ref h0)] := hl
  refine lv_aload_n hx hb dX10_init_0 rfl (lv_at hl 0 rfl) ?_
  refine W.objInit hx hb hown ol1 oi oc rfl (by rw [hml]; exact hl.1) rfl dX10_init_1 (Nat.le_of_ble_eq_true rfl) (Nat.le_of_ble_eq_true rfl) ?_
  refine W.eq (g2 := F0 m 4 ls []) rfl ?_
  refine lv_aload_n hx hb dX10_init_4 rfl (lv_at hl 0 rfl) ?_
  refine lv_sipush (v := (200 : Int32)) hx hb dX10_init_5 (by decide) ?_
  refine va_newa (atype := .int) (ty := .int) (N' := 200) (a0 := (200, .inl (fun _ => 0))) hx hb acI rfl hK hP hD hS hA (fun _ => rfl) (by decide) (by decide) (by decide) (Nat.le_of_ble_eq_true rfl) (Nat.le_of_ble_eq_true rfl) dX10_init_8 (fun o1 cA H hK2 hP hD hS => ?_)
  have hcA := cA_I hK2
  subst hcA
  have hP : va_P D vwCl [(h0, .inr (10, [.null, .int 0, .int 0, .null, .null, .null, .int 0, .int 0, .int 0, .int 0, .int 0, .null, .null, .null, .long 0, .int 0, .int 0, .int 0, .long 0, .int 0, .int 0, .null, .long 0])), (o1, .inl (cI, 200, .inl (fun _ => 0)))] H := hP
  have hD : va_D A [(h0, .inr (10, [.null, .int 0, .int 0, .null, .null, .null, .int 0, .int 0, .int 0, .int 0, .int 0, .null, .null, .null, .long 0, .int 0, .int 0, .int 0, .long 0, .int 0, .int 0, .null, .long 0])), (o1, .inl (cI, 200, .inl (fun _ => 0)))] := hD
  refine va_putF (D := D) (ci := 10) (v := .ref o1) (ty := .array .int) (C := RX10) (T := TX10) (N := 23) hx hb hts inX10 tyX10 tyX10_ok nmX10 hown hK hP hD hS 0 rfl rfl 0 (by decide) fl7 (fun _ h9 => h9) rfl hin rfl (by decide +kernel) rfl rfl (Nat.le_of_ble_eq_true rfl) dX10_init_10 (fun H locs hP hD hS => ?_)
  have hP : va_P D vwCl [(h0, .inr (10, [.ref o1, .int 0, .int 0, .null, .null, .null, .int 0, .int 0, .int 0, .int 0, .int 0, .null, .null, .null, .long 0, .int 0, .int 0, .int 0, .long 0, .int 0, .int 0, .null, .long 0])), (o1, .inl (cI, 200, .inl (fun _ => 0)))] H := hP
  have hD : va_D A [(h0, .inr (10, [.ref o1, .int 0, .int 0, .null, .null, .null, .int 0, .int 0, .int 0, .int 0, .int 0, .null, .null, .null, .long 0, .int 0, .int 0, .int 0, .long 0, .int 0, .int 0, .null, .long 0])), (o1, .inl (cI, 200, .inl (fun _ => 0)))] := hD
  refine lv_aload_n hx hb dX10_init_13 rfl (lv_at hl 0 rfl) ?_
  refine lv_bipush (v := (6 : Int32)) hx hb dX10_init_14 (by decide) ?_
  refine va_newa (atype := .int) (ty := .int) (N' := 6) (a0 := (6, .inl (fun _ => 0))) hx hb acI rfl hK hP hD hS hA (fun _ => rfl) (by decide) (by decide) (by decide) (Nat.le_of_ble_eq_true rfl) (Nat.le_of_ble_eq_true rfl) dX10_init_16 (fun o2 cA H hK2 hP hD hS => ?_)
  have hcA := cA_I hK2
  subst hcA
  have hP : va_P D vwCl [(h0, .inr (10, [.ref o1, .int 0, .int 0, .null, .null, .null, .int 0, .int 0, .int 0, .int 0, .int 0, .null, .null, .null, .long 0, .int 0, .int 0, .int 0, .long 0, .int 0, .int 0, .null, .long 0])), (o1, .inl (cI, 200, .inl (fun _ => 0))), (o2, .inl (cI, 6, .inl (fun _ => 0)))] H := hP
  have hD : va_D A [(h0, .inr (10, [.ref o1, .int 0, .int 0, .null, .null, .null, .int 0, .int 0, .int 0, .int 0, .int 0, .null, .null, .null, .long 0, .int 0, .int 0, .int 0, .long 0, .int 0, .int 0, .null, .long 0])), (o1, .inl (cI, 200, .inl (fun _ => 0))), (o2, .inl (cI, 6, .inl (fun _ => 0)))] := hD
  refine va_putF (D := D) (ci := 10) (v := .ref o2) (ty := .array .int) (C := RX10) (T := TX10) (N := 23) hx hb hts inX10 tyX10 tyX10_ok nmX10 hown hK hP hD hS 0 rfl rfl 3 (by decide) fl13 (fun _ h9 => h9) rfl hin rfl (by decide +kernel) rfl rfl (Nat.le_of_ble_eq_true rfl) dX10_init_18 (fun H locs hP hD hS => ?_)
  have hP : va_P D vwCl [(h0, .inr (10, [.ref o1, .int 0, .int 0, .ref o2, .null, .null, .int 0, .int 0, .int 0, .int 0, .int 0, .null, .null, .null, .long 0, .int 0, .int 0, .int 0, .long 0, .int 0, .int 0, .null, .long 0])), (o1, .inl (cI, 200, .inl (fun _ => 0))), (o2, .inl (cI, 6, .inl (fun _ => 0)))] H := hP
  have hD : va_D A [(h0, .inr (10, [.ref o1, .int 0, .int 0, .ref o2, .null, .null, .int 0, .int 0, .int 0, .int 0, .int 0, .null, .null, .null, .long 0, .int 0, .int 0, .int 0, .long 0, .int 0, .int 0, .null, .long 0])), (o1, .inl (cI, 200, .inl (fun _ => 0))), (o2, .inl (cI, 6, .inl (fun _ => 0)))] := hD
  refine lv_aload_n hx hb dX10_init_21 rfl (lv_at hl 0 rfl) ?_
  refine lv_bipush (v := (6 : Int32)) hx hb dX10_init_22 (by decide) ?_
  refine va_newa (atype := .int) (ty := .int) (N' := 6) (a0 := (6, .inl (fun _ => 0))) hx hb acI rfl hK hP hD hS hA (fun _ => rfl) (by decide) (by decide) (by decide) (Nat.le_of_ble_eq_true rfl) (Nat.le_of_ble_eq_true rfl) dX10_init_24 (fun o3 cA H hK2 hP hD hS => ?_)
  have hcA := cA_I hK2
  subst hcA
  have hP : va_P D vwCl [(h0, .inr (10, [.ref o1, .int 0, .int 0, .ref o2, .null, .null, .int 0, .int 0, .int 0, .int 0, .int 0, .null, .null, .null, .long 0, .int 0, .int 0, .int 0, .long 0, .int 0, .int 0, .null, .long 0])), (o1, .inl (cI, 200, .inl (fun _ => 0))), (o2, .inl (cI, 6, .inl (fun _ => 0))), (o3, .inl (cI, 6, .inl (fun _ => 0)))] H := hP
  have hD : va_D A [(h0, .inr (10, [.ref o1, .int 0, .int 0, .ref o2, .null, .null, .int 0, .int 0, .int 0, .int 0, .int 0, .null, .null, .null, .long 0, .int 0, .int 0, .int 0, .long 0, .int 0, .int 0, .null, .long 0])), (o1, .inl (cI, 200, .inl (fun _ => 0))), (o2, .inl (cI, 6, .inl (fun _ => 0))), (o3, .inl (cI, 6, .inl (fun _ => 0)))] := hD
  refine va_putF (D := D) (ci := 10) (v := .ref o3) (ty := .array .int) (C := RX10) (T := TX10) (N := 23) hx hb hts inX10 tyX10 tyX10_ok nmX10 hown hK hP hD hS 0 rfl rfl 4 (by decide) fl16 (fun _ h9 => h9) rfl hin rfl (by decide +kernel) rfl rfl (Nat.le_of_ble_eq_true rfl) dX10_init_26 (fun H locs hP hD hS => ?_)
  have hP : va_P D vwCl [(h0, .inr (10, [.ref o1, .int 0, .int 0, .ref o2, .ref o3, .null, .int 0, .int 0, .int 0, .int 0, .int 0, .null, .null, .null, .long 0, .int 0, .int 0, .int 0, .long 0, .int 0, .int 0, .null, .long 0])), (o1, .inl (cI, 200, .inl (fun _ => 0))), (o2, .inl (cI, 6, .inl (fun _ => 0))), (o3, .inl (cI, 6, .inl (fun _ => 0)))] H := hP
  have hD : va_D A [(h0, .inr (10, [.ref o1, .int 0, .int 0, .ref o2, .ref o3, .null, .int 0, .int 0, .int 0, .int 0, .int 0, .null, .null, .null, .long 0, .int 0, .int 0, .int 0, .long 0, .int 0, .int 0, .null, .long 0])), (o1, .inl (cI, 200, .inl (fun _ => 0))), (o2, .inl (cI, 6, .inl (fun _ => 0))), (o3, .inl (cI, 6, .inl (fun _ => 0)))] := hD
  refine lv_aload_n hx hb dX10_init_29 rfl (lv_at hl 0 rfl) ?_
  refine lv_bipush (v := (6 : Int32)) hx hb dX10_init_30 (by decide) ?_
  refine va_newa (atype := .int) (ty := .int) (N' := 6) (a0 := (6, .inl (fun _ => 0))) hx hb acI rfl hK hP hD hS hA (fun _ => rfl) (by decide) (by decide) (by decide) (Nat.le_of_ble_eq_true rfl) (Nat.le_of_ble_eq_true rfl) dX10_init_32 (fun o4 cA H hK2 hP hD hS => ?_)
  have hcA := cA_I hK2
  subst hcA
  have hP : va_P D vwCl [(h0, .inr (10, [.ref o1, .int 0, .int 0, .ref o2, .ref o3, .null, .int 0, .int 0, .int 0, .int 0, .int 0, .null, .null, .null, .long 0, .int 0, .int 0, .int 0, .long 0, .int 0, .int 0, .null, .long 0])), (o1, .inl (cI, 200, .inl (fun _ => 0))), (o2, .inl (cI, 6, .inl (fun _ => 0))), (o3, .inl (cI, 6, .inl (fun _ => 0))), (o4, .inl (cI, 6, .inl (fun _ => 0)))] H := hP
  have hD : va_D A [(h0, .inr (10, [.ref o1, .int 0, .int 0, .ref o2, .ref o3, .null, .int 0, .int 0, .int 0, .int 0, .int 0, .null, .null, .null, .long 0, .int 0, .int 0, .int 0, .long 0, .int 0, .int 0, .null, .long 0])), (o1, .inl (cI, 200, .inl (fun _ => 0))), (o2, .inl (cI, 6, .inl (fun _ => 0))), (o3, .inl (cI, 6, .inl (fun _ => 0))), (o4, .inl (cI, 6, .inl (fun _ => 0)))] := hD
  refine va_putF (D := D) (ci := 10) (v := .ref o4) (ty := .array .int) (C := RX10) (T := TX10) (N := 23) hx hb hts inX10 tyX10 tyX10_ok nmX10 hown hK hP hD hS 0 rfl rfl 5 (by decide) fl19 (fun _ h9 => h9) rfl hin rfl (by decide +kernel) rfl rfl (Nat.le_of_ble_eq_true rfl) dX10_init_34 (fun H locs hP hD hS => ?_)
  have hP : va_P D vwCl [(h0, .inr (10, [.ref o1, .int 0, .int 0, .ref o2, .ref o3, .ref o4, .int 0, .int 0, .int 0, .int 0, .int 0, .null, .null, .null, .long 0, .int 0, .int 0, .int 0, .long 0, .int 0, .int 0, .null, .long 0])), (o1, .inl (cI, 200, .inl (fun _ => 0))), (o2, .inl (cI, 6, .inl (fun _ => 0))), (o3, .inl (cI, 6, .inl (fun _ => 0))), (o4, .inl (cI, 6, .inl (fun _ => 0)))] H := hP
  have hD : va_D A [(h0, .inr (10, [.ref o1, .int 0, .int 0, .ref o2, .ref o3, .ref o4, .int 0, .int 0, .int 0, .int 0, .int 0, .null, .null, .null, .long 0, .int 0, .int 0, .int 0, .long 0, .int 0, .int 0, .null, .long 0])), (o1, .inl (cI, 200, .inl (fun _ => 0))), (o2, .inl (cI, 6, .inl (fun _ => 0))), (o3, .inl (cI, 6, .inl (fun _ => 0))), (o4, .inl (cI, 6, .inl (fun _ => 0)))] := hD
  refine lv_aload_n hx hb dX10_init_37 rfl (lv_at hl 0 rfl) ?_
  refine lv_iconst (v := (1 : Int32)) hx hb dX10_init_38 (by decide) ?_
  refine va_put (D := D) (ci := 10) (v := .int (1 : Int32)) (ty := .int) (C := RX10) (T := TX10) (N := 23) hx hb hts inX10 tyX10 tyX10_ok nmX10 hown hK hP hD hS 0 rfl rfl 9 (by decide) fl22 (fun _ h9 => h9) rfl (by decide +kernel) rfl rfl (Nat.le_of_ble_eq_true rfl) dX10_init_39 (fun H locs hP hD hS => ?_)
  have hP : va_P D vwCl [(h0, .inr (10, [.ref o1, .int 0, .int 0, .ref o2, .ref o3, .ref o4, .int 0, .int 0, .int 0, .int (1 : Int32), .int 0, .null, .null, .null, .long 0, .int 0, .int 0, .int 0, .long 0, .int 0, .int 0, .null, .long 0])), (o1, .inl (cI, 200, .inl (fun _ => 0))), (o2, .inl (cI, 6, .inl (fun _ => 0))), (o3, .inl (cI, 6, .inl (fun _ => 0))), (o4, .inl (cI, 6, .inl (fun _ => 0)))] H := hP
  have hD : va_D A [(h0, .inr (10, [.ref o1, .int 0, .int 0, .ref o2, .ref o3, .ref o4, .int 0, .int 0, .int 0, .int (1 : Int32), .int 0, .null, .null, .null, .long 0, .int 0, .int 0, .int 0, .long 0, .int 0, .int 0, .null, .long 0])), (o1, .inl (cI, 200, .inl (fun _ => 0))), (o2, .inl (cI, 6, .inl (fun _ => 0))), (o3, .inl (cI, 6, .inl (fun _ => 0))), (o4, .inl (cI, 6, .inl (fun _ => 0)))] := hD
  refine lv_aload_n hx hb dX10_init_42 rfl (lv_at hl 0 rfl) ?_
  refine lv_bipush (v := (24 : Int32)) hx hb dX10_init_43 (by decide) ?_
  refine va_newa (atype := .int) (ty := .int) (N' := 24) (a0 := (24, .inl (fun _ => 0))) hx hb acI rfl hK hP hD hS hA (fun _ => rfl) (by decide) (by decide) (by decide) (Nat.le_of_ble_eq_true rfl) (Nat.le_of_ble_eq_true rfl) dX10_init_45 (fun o5 cA H hK2 hP hD hS => ?_)
  have hcA := cA_I hK2
  subst hcA
  have hP : va_P D vwCl [(h0, .inr (10, [.ref o1, .int 0, .int 0, .ref o2, .ref o3, .ref o4, .int 0, .int 0, .int 0, .int (1 : Int32), .int 0, .null, .null, .null, .long 0, .int 0, .int 0, .int 0, .long 0, .int 0, .int 0, .null, .long 0])), (o1, .inl (cI, 200, .inl (fun _ => 0))), (o2, .inl (cI, 6, .inl (fun _ => 0))), (o3, .inl (cI, 6, .inl (fun _ => 0))), (o4, .inl (cI, 6, .inl (fun _ => 0))), (o5, .inl (cI, 24, .inl (fun _ => 0)))] H := hP
  have hD : va_D A [(h0, .inr (10, [.ref o1, .int 0, .int 0, .ref o2, .ref o3, .ref o4, .int 0, .int 0, .int 0, .int (1 : Int32), .int 0, .null, .null, .null, .long 0, .int 0, .int 0, .int 0, .long 0, .int 0, .int 0, .null, .long 0])), (o1, .inl (cI, 200, .inl (fun _ => 0))), (o2, .inl (cI, 6, .inl (fun _ => 0))), (o3, .inl (cI, 6, .inl (fun _ => 0))), (o4, .inl (cI, 6, .inl (fun _ => 0))), (o5, .inl (cI, 24, .inl (fun _ => 0)))] := hD
  refine va_putF (D := D) (ci := 10) (v := .ref o5) (ty := .array .int) (C := RX10) (T := TX10) (N := 23) hx hb hts inX10 tyX10 tyX10_ok nmX10 hown hK hP hD hS 0 rfl rfl 11 (by decide) fl26 (fun _ h9 => h9) rfl hin rfl (by decide +kernel) rfl rfl (Nat.le_of_ble_eq_true rfl) dX10_init_47 (fun H locs hP hD hS => ?_)
  have hP : va_P D vwCl [(h0, .inr (10, [.ref o1, .int 0, .int 0, .ref o2, .ref o3, .ref o4, .int 0, .int 0, .int 0, .int (1 : Int32), .int 0, .ref o5, .null, .null, .long 0, .int 0, .int 0, .int 0, .long 0, .int 0, .int 0, .null, .long 0])), (o1, .inl (cI, 200, .inl (fun _ => 0))), (o2, .inl (cI, 6, .inl (fun _ => 0))), (o3, .inl (cI, 6, .inl (fun _ => 0))), (o4, .inl (cI, 6, .inl (fun _ => 0))), (o5, .inl (cI, 24, .inl (fun _ => 0)))] H := hP
  have hD : va_D A [(h0, .inr (10, [.ref o1, .int 0, .int 0, .ref o2, .ref o3, .ref o4, .int 0, .int 0, .int 0, .int (1 : Int32), .int 0, .ref o5, .null, .null, .long 0, .int 0, .int 0, .int 0, .long 0, .int 0, .int 0, .null, .long 0])), (o1, .inl (cI, 200, .inl (fun _ => 0))), (o2, .inl (cI, 6, .inl (fun _ => 0))), (o3, .inl (cI, 6, .inl (fun _ => 0))), (o4, .inl (cI, 6, .inl (fun _ => 0))), (o5, .inl (cI, 24, .inl (fun _ => 0)))] := hD
  refine lv_aload_n hx hb dX10_init_50 rfl (lv_at hl 0 rfl) ?_
  refine lv_bipush (v := (6 : Int32)) hx hb dX10_init_51 (by decide) ?_
  refine va_newa (atype := .int) (ty := .int) (N' := 6) (a0 := (6, .inl (fun _ => 0))) hx hb acI rfl hK hP hD hS hA (fun _ => rfl) (by decide) (by decide) (by decide) (Nat.le_of_ble_eq_true rfl) (Nat.le_of_ble_eq_true rfl) dX10_init_53 (fun o6 cA H hK2 hP hD hS => ?_)
  have hcA := cA_I hK2
  subst hcA
  have hP : va_P D vwCl [(h0, .inr (10, [.ref o1, .int 0, .int 0, .ref o2, .ref o3, .ref o4, .int 0, .int 0, .int 0, .int (1 : Int32), .int 0, .ref o5, .null, .null, .long 0, .int 0, .int 0, .int 0, .long 0, .int 0, .int 0, .null, .long 0])), (o1, .inl (cI, 200, .inl (fun _ => 0))), (o2, .inl (cI, 6, .inl (fun _ => 0))), (o3, .inl (cI, 6, .inl (fun _ => 0))), (o4, .inl (cI, 6, .inl (fun _ => 0))), (o5, .inl (cI, 24, .inl (fun _ => 0))), (o6, .inl (cI, 6, .inl (fun _ => 0)))] H := hP
  have hD : va_D A [(h0, .inr (10, [.ref o1, .int 0, .int 0, .ref o2, .ref o3, .ref o4, .int 0, .int 0, .int 0, .int (1 : Int32), .int 0, .ref o5, .null, .null, .long 0, .int 0, .int 0, .int 0, .long 0, .int 0, .int 0, .null, .long 0])), (o1, .inl (cI, 200, .inl (fun _ => 0))), (o2, .inl (cI, 6, .inl (fun _ => 0))), (o3, .inl (cI, 6, .inl (fun _ => 0))), (o4, .inl (cI, 6, .inl (fun _ => 0))), (o5, .inl (cI, 24, .inl (fun _ => 0))), (o6, .inl (cI, 6, .inl (fun _ => 0)))] := hD
  refine va_putF (D := D) (ci := 10) (v := .ref o6) (ty := .array .int) (C := RX10) (T := TX10) (N := 23) hx hb hts inX10 tyX10 tyX10_ok nmX10 hown hK hP hD hS 0 rfl rfl 12 (by decide) fl29 (fun _ h9 => h9) rfl hin rfl (by decide +kernel) rfl rfl (Nat.le_of_ble_eq_true rfl) dX10_init_55 (fun H locs hP hD hS => ?_)
  have hP : va_P D vwCl [(h0, .inr (10, [.ref o1, .int 0, .int 0, .ref o2, .ref o3, .ref o4, .int 0, .int 0, .int 0, .int (1 : Int32), .int 0, .ref o5, .ref o6, .null, .long 0, .int 0, .int 0, .int 0, .long 0, .int 0, .int 0, .null, .long 0])), (o1, .inl (cI, 200, .inl (fun _ => 0))), (o2, .inl (cI, 6, .inl (fun _ => 0))), (o3, .inl (cI, 6, .inl (fun _ => 0))), (o4, .inl (cI, 6, .inl (fun _ => 0))), (o5, .inl (cI, 24, .inl (fun _ => 0))), (o6, .inl (cI, 6, .inl (fun _ => 0)))] H := hP
  have hD : va_D A [(h0, .inr (10, [.ref o1, .int 0, .int 0, .ref o2, .ref o3, .ref o4, .int 0, .int 0, .int 0, .int (1 : Int32), .int 0, .ref o5, .ref o6, .null, .long 0, .int 0, .int 0, .int 0, .long 0, .int 0, .int 0, .null, .long 0])), (o1, .inl (cI, 200, .inl (fun _ => 0))), (o2, .inl (cI, 6, .inl (fun _ => 0))), (o3, .inl (cI, 6, .inl (fun _ => 0))), (o4, .inl (cI, 6, .inl (fun _ => 0))), (o5, .inl (cI, 24, .inl (fun _ => 0))), (o6, .inl (cI, 6, .inl (fun _ => 0)))] := hD
  refine lv_aload_n hx hb dX10_init_58 rfl (lv_at hl 0 rfl) ?_
  refine lv_iconst (v := (2 : Int32)) hx hb dX10_init_59 (by decide) ?_
  refine va_newa (atype := .boolean) (ty := .boolean) (N' := 2) (a0 := (2, .inl (fun _ => 0))) hx hb acZ rfl hK hP hD hS hA (fun _ => rfl) (by decide) (by decide) (by decide) (Nat.le_of_ble_eq_true rfl) (Nat.le_of_ble_eq_true rfl) dX10_init_60 (fun o7 cA H hK2 hP hD hS => ?_)
  have hcA := cA_Z hK2
  subst hcA
  have hP : va_P D vwCl [(h0, .inr (10, [.ref o1, .int 0, .int 0, .ref o2, .ref o3, .ref o4, .int 0, .int 0, .int 0, .int (1 : Int32), .int 0, .ref o5, .ref o6, .null, .long 0, .int 0, .int 0, .int 0, .long 0, .int 0, .int 0, .null, .long 0])), (o1, .inl (cI, 200, .inl (fun _ => 0))), (o2, .inl (cI, 6, .inl (fun _ => 0))), (o3, .inl (cI, 6, .inl (fun _ => 0))), (o4, .inl (cI, 6, .inl (fun _ => 0))), (o5, .inl (cI, 24, .inl (fun _ => 0))), (o6, .inl (cI, 6, .inl (fun _ => 0))), (o7, .inl (cZ, 2, .inl (fun _ => 0)))] H := hP
  have hD : va_D A [(h0, .inr (10, [.ref o1, .int 0, .int 0, .ref o2, .ref o3, .ref o4, .int 0, .int 0, .int 0, .int (1 : Int32), .int 0, .ref o5, .ref o6, .null, .long 0, .int 0, .int 0, .int 0, .long 0, .int 0, .int 0, .null, .long 0])), (o1, .inl (cI, 200, .inl (fun _ => 0))), (o2, .inl (cI, 6, .inl (fun _ => 0))), (o3, .inl (cI, 6, .inl (fun _ => 0))), (o4, .inl (cI, 6, .inl (fun _ => 0))), (o5, .inl (cI, 24, .inl (fun _ => 0))), (o6, .inl (cI, 6, .inl (fun _ => 0))), (o7, .inl (cZ, 2, .inl (fun _ => 0)))] := hD
  refine va_putF (D := D) (ci := 10) (v := .ref o7) (ty := .array .boolean) (C := RX10) (T := TX10) (N := 23) hx hb hts inX10 tyX10 tyX10_ok nmX10 hown hK hP hD hS 0 rfl rfl 13 (by decide) fl32 (fun _ h9 => h9) rfl hin rfl (by decide +kernel) rfl rfl (Nat.le_of_ble_eq_true rfl) dX10_init_62 (fun H locs hP hD hS => ?_)
  have hP : va_P D vwCl [(h0, .inr (10, [.ref o1, .int 0, .int 0, .ref o2, .ref o3, .ref o4, .int 0, .int 0, .int 0, .int (1 : Int32), .int 0, .ref o5, .ref o6, .ref o7, .long 0, .int 0, .int 0, .int 0, .long 0, .int 0, .int 0, .null, .long 0])), (o1, .inl (cI, 200, .inl (fun _ => 0))), (o2, .inl (cI, 6, .inl (fun _ => 0))), (o3, .inl (cI, 6, .inl (fun _ => 0))), (o4, .inl (cI, 6, .inl (fun _ => 0))), (o5, .inl (cI, 24, .inl (fun _ => 0))), (o6, .inl (cI, 6, .inl (fun _ => 0))), (o7, .inl (cZ, 2, .inl (fun _ => 0)))] H := hP
  have hD : va_D A [(h0, .inr (10, [.ref o1, .int 0, .int 0, .ref o2, .ref o3, .ref o4, .int 0, .int 0, .int 0, .int (1 : Int32), .int 0, .ref o5, .ref o6, .ref o7, .long 0, .int 0, .int 0, .int 0, .long 0, .int 0, .int 0, .null, .long 0])), (o1, .inl (cI, 200, .inl (fun _ => 0))), (o2, .inl (cI, 6, .inl (fun _ => 0))), (o3, .inl (cI, 6, .inl (fun _ => 0))), (o4, .inl (cI, 6, .inl (fun _ => 0))), (o5, .inl (cI, 24, .inl (fun _ => 0))), (o6, .inl (cI, 6, .inl (fun _ => 0))), (o7, .inl (cZ, 2, .inl (fun _ => 0)))] := hD
  refine lv_aload_n hx hb dX10_init_65 rfl (lv_at hl 0 rfl) ?_
  refine lv_bipush (v := (18 : Int32)) hx hb dX10_init_66 (by decide) ?_
  refine va_newa (atype := .int) (ty := .int) (N' := 18) (a0 := (18, .inl (fun _ => 0))) hx hb acI rfl hK hP hD hS hA (fun _ => rfl) (by decide) (by decide) (by decide) (Nat.le_of_ble_eq_true rfl) (Nat.le_of_ble_eq_true rfl) dX10_init_68 (fun o8 cA H hK2 hP hD hS => ?_)
  have hcA := cA_I hK2
  subst hcA
  have hP : va_P D vwCl [(h0, .inr (10, [.ref o1, .int 0, .int 0, .ref o2, .ref o3, .ref o4, .int 0, .int 0, .int 0, .int (1 : Int32), .int 0, .ref o5, .ref o6, .ref o7, .long 0, .int 0, .int 0, .int 0, .long 0, .int 0, .int 0, .null, .long 0])), (o1, .inl (cI, 200, .inl (fun _ => 0))), (o2, .inl (cI, 6, .inl (fun _ => 0))), (o3, .inl (cI, 6, .inl (fun _ => 0))), (o4, .inl (cI, 6, .inl (fun _ => 0))), (o5, .inl (cI, 24, .inl (fun _ => 0))), (o6, .inl (cI, 6, .inl (fun _ => 0))), (o7, .inl (cZ, 2, .inl (fun _ => 0))), (o8, .inl (cI, 18, .inl (fun _ => 0)))] H := hP
  have hD : va_D A [(h0, .inr (10, [.ref o1, .int 0, .int 0, .ref o2, .ref o3, .ref o4, .int 0, .int 0, .int 0, .int (1 : Int32), .int 0, .ref o5, .ref o6, .ref o7, .long 0, .int 0, .int 0, .int 0, .long 0, .int 0, .int 0, .null, .long 0])), (o1, .inl (cI, 200, .inl (fun _ => 0))), (o2, .inl (cI, 6, .inl (fun _ => 0))), (o3, .inl (cI, 6, .inl (fun _ => 0))), (o4, .inl (cI, 6, .inl (fun _ => 0))), (o5, .inl (cI, 24, .inl (fun _ => 0))), (o6, .inl (cI, 6, .inl (fun _ => 0))), (o7, .inl (cZ, 2, .inl (fun _ => 0))), (o8, .inl (cI, 18, .inl (fun _ => 0)))] := hD
  refine va_putF (D := D) (ci := 10) (v := .ref o8) (ty := .array .int) (C := RX10) (T := TX10) (N := 23) hx hb hts inX10 tyX10 tyX10_ok nmX10 hown hK hP hD hS 0 rfl rfl 21 (by decide) fl36 (fun _ h9 => h9) rfl hin rfl (by decide +kernel) rfl rfl (Nat.le_of_ble_eq_true rfl) dX10_init_70 (fun H locs hP hD hS => ?_)
  have hP : va_P D vwCl [(h0, .inr (10, [.ref o1, .int 0, .int 0, .ref o2, .ref o3, .ref o4, .int 0, .int 0, .int 0, .int (1 : Int32), .int 0, .ref o5, .ref o6, .ref o7, .long 0, .int 0, .int 0, .int 0, .long 0, .int 0, .int 0, .ref o8, .long 0])), (o1, .inl (cI, 200, .inl (fun _ => 0))), (o2, .inl (cI, 6, .inl (fun _ => 0))), (o3, .inl (cI, 6, .inl (fun _ => 0))), (o4, .inl (cI, 6, .inl (fun _ => 0))), (o5, .inl (cI, 24, .inl (fun _ => 0))), (o6, .inl (cI, 6, .inl (fun _ => 0))), (o7, .inl (cZ, 2, .inl (fun _ => 0))), (o8, .inl (cI, 18, .inl (fun _ => 0)))] H := hP
  have hD : va_D A [(h0, .inr (10, [.ref o1, .int 0, .int 0, .ref o2, .ref o3, .ref o4, .int 0, .int 0, .int 0, .int (1 : Int32), .int 0, .ref o5, .ref o6, .ref o7, .long 0, .int 0, .int 0, .int 0, .long 0, .int 0, .int 0, .ref o8, .long 0])), (o1, .inl (cI, 200, .inl (fun _ => 0))), (o2, .inl (cI, 6, .inl (fun _ => 0))), (o3, .inl (cI, 6, .inl (fun _ => 0))), (o4, .inl (cI, 6, .inl (fun _ => 0))), (o5, .inl (cI, 24, .inl (fun _ => 0))), (o6, .inl (cI, 6, .inl (fun _ => 0))), (o7, .inl (cZ, 2, .inl (fun _ => 0))), (o8, .inl (cI, 18, .inl (fun _ => 0)))] := hD
  refine W.widen (k := 8) (n := 268) (Nat.le_of_ble_eq_true rfl) (Nat.le_of_ble_eq_true rfl) ?_
  exact W.vret hx hb hr (fun t ht hW => ⟨⟨(fun i => if i = 0 then o1 else if i = 1 then o2 else if i = 2 then o3 else if i = 3 then o4 else if i = 4 then o5 else if i = 5 then o6 else if i = 6 then o7 else if i = 7 then o8 else  0), rfl, trivial, by rw [ht]; exact hP, hD⟩, hS.F ht⟩) hS.2.2 dX10_init_73
