def f_X6_become (R_in : Int32) (R_streak : Int32) (p1 : Int32) (p2 : Int32) : Option (Int32 × Int32) := some (p1, p2)
set_option maxHeartbeats 8000000 in
set_option maxRecDepth 100000 in
theorem c_X6_become (l : Launch) (D : va_G) (cI cJ cZ cO : ClassId) (aR : Nat) (aT : Nat) (R_in : Int32) (R_streak : Int32) (R_lot : Int32) (sz : Nat) (p1 : Int32) (p2 : Int32)  (y0 : Int32 × Int32) (h : f_X6_become R_in R_streak p1 p2 = some y0) : Met l yX6_become wsX6_become ({ frames := 0, cells := 0, slots := 0, locals := 0 } : Room) (va_Pc [.ref aR, .int p1, .int p2] (fun U => U.heap.size = sz ∧ va_P D vwCl [(aR, .inr (6, [.ref aT, .int R_in, .int R_streak, .int R_lot]))] U.heap ∧ KK D cI cJ cZ cO U ∧ va_D (fun _ => True) [(aR, .inr (6, [.ref aT, .int R_in, .int R_streak, .int R_lot]))])) (va_Qv (fun (_ : Unit) => True) (fun (_ : Unit) t => va_P D vwCl [(aR, .inr (6, [.ref aT, .int y0.1, .int y0.2, .int R_lot]))] t.heap ∧ va_D (va_A [(aR, .inr (6, [.ref aT, .int R_in, .int R_streak, .int R_lot]))] sz) [(aR, .inr (6, [.ref aT, .int y0.1, .int y0.2, .int R_lot]))]) (va_A [(aR, .inr (6, [.ref aT, .int R_in, .int R_streak, .int R_lot]))] sz)) 0 0 (va_A [(aR, .inr (6, [.ref aT, .int R_in, .int R_streak, .int R_lot]))] sz) := by
  refine Met.ofW (cc := cX6_become) (maxL := 3) (ret := none) (by decide) rfl ?_
  intro p e s m args below meth c s₁ B hml hv
  obtain ⟨rfl, hsz, hP, hKK, hD0⟩ := hv
  have hx := B.exec
  have hb := B.bytes
  have hr := B.returns
  have hts := atoms_spec (ws := wsX6_become) B.pre
  have hown : s.vm.findClass RX6 = some m.cls := findClass_of_methodNamed B.named
  have hlocks := B.notSynchronized
  have hK := hKK.1
  have fl_29 := hts (.fieldLink RX6 29 "SimonSays$Round" "in" "I") (by decide +kernel)
  have fl_32 := hts (.fieldLink RX6 32 "SimonSays$Round" "streak" "I") (by decide +kernel)
  have inX6 : ∀ w ∈ wsX60, w ∈ wsX6_become := by decide +kernel
  subst hsz
  have hD := hD0.self (sz := s.heap.size)
  generalize hAe : va_A [(aR, .inr (6, [.ref aT, .int R_in, .int R_streak, .int R_lot]))] s.heap.size = A at hD ⊢
  have hA : ∀ q : Nat, s.heap.size ≤ q → A q := fun q h => by rw [← hAe]; exact Or.inr h
  have hS : va_S A s.heap s.heap [] := va_S.rf
  have hl := lv_entry ([.ref aR, .int p1, .int p2]) (n := 3) (Nat.le_of_ble_eq_true rfl)
  rw [lg_entry_eq]
  generalize (lg_sl ([.ref aR, .int p1, .int p2]) ++ List.replicate (3 - (lg_sl ([.ref aR, .int p1, .int p2])).length) Slot.unset).toArray = ls at hl ⊢
  have hl : lv_has ls 3 [(0, .ref aR), (1, .int p1), (2, .int p2)] := hl
  unfold f_X6_become at h
  refine lv_aload_n hx hb dX6_become_0 rfl (lv_at hl 0 rfl) ?_
  refine lv_iload_n hx hb dX6_become_1 rfl (lv_at hl 1 rfl) ?_
  refine va_put (D := D) (ci := 6) (v := .int p1) (ty := .int) (C := RX6) (T := TX6) (N := 4) hx hb hts inX6 tyX6 tyX6_ok nmX6 hown hK hP hD hS 0 rfl rfl 1 (by decide) fl_29 (fun _ h9 => h9) rfl (by decide +kernel) rfl rfl (Nat.le_of_ble_eq_true rfl) dX6_become_2 (fun H locs hP hD hS => ?_)
  have hP : va_P D vwCl [(aR, .inr (6, [.ref aT, .int p1, .int R_streak, .int R_lot]))] H := hP
  have hD : va_D A [(aR, .inr (6, [.ref aT, .int p1, .int R_streak, .int R_lot]))] := hD
  refine lv_aload_n hx hb dX6_become_5 rfl (lv_at hl 0 rfl) ?_
  refine lv_iload_n hx hb dX6_become_6 rfl (lv_at hl 2 rfl) ?_
  refine va_put (D := D) (ci := 6) (v := .int p2) (ty := .int) (C := RX6) (T := TX6) (N := 4) hx hb hts inX6 tyX6 tyX6_ok nmX6 hown hK hP hD hS 0 rfl rfl 2 (by decide) fl_32 (fun _ h9 => h9) rfl (by decide +kernel) rfl rfl (Nat.le_of_ble_eq_true rfl) dX6_become_7 (fun H locs hP hD hS => ?_)
  have hP : va_P D vwCl [(aR, .inr (6, [.ref aT, .int p1, .int p2, .int R_lot]))] H := hP
  have hD : va_D A [(aR, .inr (6, [.ref aT, .int p1, .int p2, .int R_lot]))] := hD
  have hy := Option.some.inj h
  subst hy
  exact W.vret hx hb hr (fun t ht hW => ⟨⟨(), rfl, trivial, by rw [ht]; exact hP, hD⟩, hS.F ht⟩) hS.2.2 dX6_become_10

def f_X6_whoIsIn (R_in : Int32) : Int32 := R_in
set_option maxHeartbeats 8000000 in
set_option maxRecDepth 100000 in
theorem c_X6_whoIsIn (l : Launch) (D : va_G) (cI cJ cZ cO : ClassId) (aR : Nat) (aT : Nat) (R_in : Int32) (R_streak : Int32) (R_lot : Int32)    (y0 : Int32) (h : f_X6_whoIsIn R_in = y0) : Met l yX6_whoIsIn wsX6_whoIsIn ({ frames := 0, cells := 0, slots := 0, locals := 0 } : Room) (va_Pc [.ref aR] (fun U => va_P D vwCl [(aR, .inr (6, [.ref aT, .int R_in, .int R_streak, .int R_lot]))] U.heap ∧ KK D cI cJ cZ cO U)) (vp_Si (fun r => r = y0)) 0 0 (fun _ => False) := by
  refine Met.ofW (cc := cX6_whoIsIn) (maxL := 1) (ret := (some .int)) (by decide) rfl ?_
  intro p e s m args below meth c s₁ B hml hv
  obtain ⟨rfl, hP, hKK⟩ := hv
  have hx := B.exec
  have hb := B.bytes
  have hr := B.returns
  have hts := atoms_spec (ws := wsX6_whoIsIn) B.pre
  have hown : s.vm.findClass RX6 = some m.cls := findClass_of_methodNamed B.named
  have hlocks := B.notSynchronized
  have hK := hKK.1
  have fl_29 := hts (.fieldLink RX6 29 "SimonSays$Round" "in" "I") (by decide +kernel)
  have inX6 : ∀ w ∈ wsX60, w ∈ wsX6_whoIsIn := by decide +kernel
  have hl := lv_entry ([.ref aR]) (n := 1) (Nat.le_of_ble_eq_true rfl)
  rw [lg_entry_eq]
  generalize (lg_sl ([.ref aR]) ++ List.replicate (1 - (lg_sl ([.ref aR])).length) Slot.unset).toArray = ls at hl ⊢
  have hl : lv_has ls 1 [(0, .ref aR)] := hl
  unfold f_X6_whoIsIn at h
  refine lv_aload_n hx hb dX6_whoIsIn_0 rfl (lv_at hl 0 rfl) ?_
  refine va_get (D := D) (ci := 6) (v := .int R_in) (C := RX6) (T := TX6) (N := 4) hx hb hts inX6 hown hK hP 0 rfl rfl 1 (by decide) fl_29 (fun _ h9 => h9) rfl dX6_whoIsIn_1 ?_
  exact pr_i hx hb hr hlocks dX6_whoIsIn_4 h

def f_X6_howManyIn (R_in : Int32) : Int32 := (f_J6_bitCount_0f7a4 R_in)
set_option maxHeartbeats 8000000 in
set_option maxRecDepth 100000 in
theorem c_X6_howManyIn (l : Launch) (D : va_G) (cI cJ cZ cO : ClassId) (aR : Nat) (aT : Nat) (R_in : Int32) (R_streak : Int32) (R_lot : Int32)    (y0 : Int32) (h : f_X6_howManyIn R_in = y0) : Met l yX6_howManyIn wsX6_howManyIn ({ frames := 1, cells := 0, slots := 0, locals := 20 } : Room) (va_Pc [.ref aR] (fun U => va_P D vwCl [(aR, .inr (6, [.ref aT, .int R_in, .int R_streak, .int R_lot]))] U.heap ∧ KK D cI cJ cZ cO U)) (vp_Si (fun r => r = y0)) 0 0 (fun _ => False) := by
  refine Met.ofW (cc := cX6_howManyIn) (maxL := 1) (ret := (some .int)) (by decide) rfl ?_
  intro p e s m args below meth c s₁ B hml hv
  obtain ⟨rfl, hP, hKK⟩ := hv
  have hx := B.exec
  have hb := B.bytes
  have hr := B.returns
  have hts := atoms_spec (ws := wsX6_howManyIn) B.pre
  have hown : s.vm.findClass RX6 = some m.cls := findClass_of_methodNamed B.named
  have hlocks := B.notSynchronized
  have hK := hKK.1
  have fl_29 := hts (.fieldLink RX6 29 "SimonSays$Round" "in" "I") (by decide +kernel)
  have inX6 : ∀ w ∈ wsX60, w ∈ wsX6_howManyIn := by decide +kernel
  have hl := lv_entry ([.ref aR]) (n := 1) (Nat.le_of_ble_eq_true rfl)
  rw [lg_entry_eq]
  generalize (lg_sl ([.ref aR]) ++ List.replicate (1 - (lg_sl ([.ref aR])).length) Slot.unset).toArray = ls at hl ⊢
  have hl : lv_has ls 1 [(0, .ref aR)] := hl
  unfold f_X6_howManyIn at h
  refine lv_aload_n hx hb dX6_howManyIn_0 rfl (lv_at hl 0 rfl) ?_
  refine va_get (D := D) (ci := 6) (v := .int R_in) (C := RX6) (T := TX6) (N := 4) hx hb hts inX6 hown hK hP 0 rfl rfl 1 (by decide) fl_29 (fun _ h9 => h9) rfl dX6_howManyIn_1 ?_
  have hPc : va_P D vwCl [] s.heap := hP.sub [] rfl
  refine vp_callSi (va_Run.run (va_runS (As := [.int R_in]) (rest := []) ⟨hx, hb, hml, hown, hts⟩ (c_J6_bitCount_0f7a4 l D cI cJ cZ cO R_in _ rfl) (va_cwS 1 hts gX6_howManyIn_J6_bitCount_0f7a4 rfl rfl rfl (by decide +kernel) ⟨Nat.le_of_ble_eq_true rfl, Nat.le_of_ble_eq_true rfl⟩) ⟨fb_p, fun U hU hW => ⟨rfl, by rw [hU]; exact hPc, KK.warm hW hKK⟩⟩ rfl rfl hl.1 rfl (lv_room (Nat.le_of_ble_eq_true rfl)) dX6_howManyIn_4 ⟨Nat.le_of_ble_eq_true rfl, Nat.le_of_ble_eq_true rfl⟩)) (fun r hr => ?_)
  replace hr := hr.symm
  subst hr
  exact pr_i hx hb hr hlocks dX6_howManyIn_7 h

def f_X6_streak (R_streak : Int32) : Int32 := R_streak
set_option maxHeartbeats 8000000 in
set_option maxRecDepth 100000 in
theorem c_X6_streak (l : Launch) (D : va_G) (cI cJ cZ cO : ClassId) (aR : Nat) (aT : Nat) (R_in : Int32) (R_streak : Int32) (R_lot : Int32)    (y0 : Int32) (h : f_X6_streak R_streak = y0) : Met l yX6_streak wsX6_streak ({ frames := 0, cells := 0, slots := 0, locals := 0 } : Room) (va_Pc [.ref aR] (fun U => va_P D vwCl [(aR, .inr (6, [.ref aT, .int R_in, .int R_streak, .int R_lot]))] U.heap ∧ KK D cI cJ cZ cO U)) (vp_Si (fun r => r = y0)) 0 0 (fun _ => False) := by
  refine Met.ofW (cc := cX6_streak) (maxL := 1) (ret := (some .int)) (by decide) rfl ?_
  intro p e s m args below meth c s₁ B hml hv
  obtain ⟨rfl, hP, hKK⟩ := hv
  have hx := B.exec
  have hb := B.bytes
  have hr := B.returns
  have hts := atoms_spec (ws := wsX6_streak) B.pre
  have hown : s.vm.findClass RX6 = some m.cls := findClass_of_methodNamed B.named
  have hlocks := B.notSynchronized
  have hK := hKK.1
  have fl_32 := hts (.fieldLink RX6 32 "SimonSays$Round" "streak" "I") (by decide +kernel)
  have inX6 : ∀ w ∈ wsX60, w ∈ wsX6_streak := by decide +kernel
  have hl := lv_entry ([.ref aR]) (n := 1) (Nat.le_of_ble_eq_true rfl)
  rw [lg_entry_eq]
  generalize (lg_sl ([.ref aR]) ++ List.replicate (1 - (lg_sl ([.ref aR])).length) Slot.unset).toArray = ls at hl ⊢
  have hl : lv_has ls 1 [(0, .ref aR)] := hl
  unfold f_X6_streak at h
  refine lv_aload_n hx hb dX6_streak_0 rfl (lv_at hl 0 rfl) ?_
  refine va_get (D := D) (ci := 6) (v := .int R_streak) (C := RX6) (T := TX6) (N := 4) hx hb hts inX6 hown hK hP 0 rfl rfl 2 (by decide) fl_32 (fun _ h9 => h9) rfl dX6_streak_1 ?_
  exact pr_i hx hb hr hlocks dX6_streak_4 h

def f_X6_theLot (R_lot : Int32) : Int32 := R_lot
set_option maxHeartbeats 8000000 in
set_option maxRecDepth 100000 in
theorem c_X6_theLot (l : Launch) (D : va_G) (cI cJ cZ cO : ClassId) (aR : Nat) (aT : Nat) (R_in : Int32) (R_streak : Int32) (R_lot : Int32)    (y0 : Int32) (h : f_X6_theLot R_lot = y0) : Met l yX6_theLot wsX6_theLot ({ frames := 0, cells := 0, slots := 0, locals := 0 } : Room) (va_Pc [.ref aR] (fun U => va_P D vwCl [(aR, .inr (6, [.ref aT, .int R_in, .int R_streak, .int R_lot]))] U.heap ∧ KK D cI cJ cZ cO U)) (vp_Si (fun r => r = y0)) 0 0 (fun _ => False) := by
  refine Met.ofW (cc := cX6_theLot) (maxL := 1) (ret := (some .int)) (by decide) rfl ?_
  intro p e s m args below meth c s₁ B hml hv
  obtain ⟨rfl, hP, hKK⟩ := hv
  have hx := B.exec
  have hb := B.bytes
  have hr := B.returns
  have hts := atoms_spec (ws := wsX6_theLot) B.pre
  have hown : s.vm.findClass RX6 = some m.cls := findClass_of_methodNamed B.named
  have hlocks := B.notSynchronized
  have hK := hKK.1
  have fl_15 := hts (.fieldLink RX6 15 "SimonSays$Round" "lot" "I") (by decide +kernel)
  have inX6 : ∀ w ∈ wsX60, w ∈ wsX6_theLot := by decide +kernel
  have hl := lv_entry ([.ref aR]) (n := 1) (Nat.le_of_ble_eq_true rfl)
  rw [lg_entry_eq]
  generalize (lg_sl ([.ref aR]) ++ List.replicate (1 - (lg_sl ([.ref aR])).length) Slot.unset).toArray = ls at hl ⊢
  have hl : lv_has ls 1 [(0, .ref aR)] := hl
  unfold f_X6_theLot at h
  refine lv_aload_n hx hb dX6_theLot_0 rfl (lv_at hl 0 rfl) ?_
  refine va_get (D := D) (ci := 6) (v := .int R_lot) (C := RX6) (T := TX6) (N := 4) hx hb hts inX6 hown hK hP 0 rfl rfl 3 (by decide) fl_15 (fun _ h9 => h9) rfl dX6_theLot_1 ?_
  exact pr_i hx hb hr hlocks dX6_theLot_4 h

def f_X6_setLot (R_lot : Int32) (p1 : Int32) : Option (Int32) := some p1
set_option maxHeartbeats 8000000 in
set_option maxRecDepth 100000 in
theorem c_X6_setLot (l : Launch) (D : va_G) (cI cJ cZ cO : ClassId) (aR : Nat) (aT : Nat) (R_in : Int32) (R_streak : Int32) (R_lot : Int32) (sz : Nat) (p1 : Int32)  (y0 : Int32) (h : f_X6_setLot R_lot p1 = some y0) : Met l yX6_setLot wsX6_setLot ({ frames := 0, cells := 0, slots := 0, locals := 0 } : Room) (va_Pc [.ref aR, .int p1] (fun U => U.heap.size = sz ∧ va_P D vwCl [(aR, .inr (6, [.ref aT, .int R_in, .int R_streak, .int R_lot]))] U.heap ∧ KK D cI cJ cZ cO U ∧ va_D (fun _ => True) [(aR, .inr (6, [.ref aT, .int R_in, .int R_streak, .int R_lot]))])) (va_Qv (fun (_ : Unit) => True) (fun (_ : Unit) t => va_P D vwCl [(aR, .inr (6, [.ref aT, .int R_in, .int R_streak, .int y0]))] t.heap ∧ va_D (va_A [(aR, .inr (6, [.ref aT, .int R_in, .int R_streak, .int R_lot]))] sz) [(aR, .inr (6, [.ref aT, .int R_in, .int R_streak, .int y0]))]) (va_A [(aR, .inr (6, [.ref aT, .int R_in, .int R_streak, .int R_lot]))] sz)) 0 0 (va_A [(aR, .inr (6, [.ref aT, .int R_in, .int R_streak, .int R_lot]))] sz) := by
  refine Met.ofW (cc := cX6_setLot) (maxL := 2) (ret := none) (by decide) rfl ?_
  intro p e s m args below meth c s₁ B hml hv
  obtain ⟨rfl, hsz, hP, hKK, hD0⟩ := hv
  have hx := B.exec
  have hb := B.bytes
  have hr := B.returns
  have hts := atoms_spec (ws := wsX6_setLot) B.pre
  have hown : s.vm.findClass RX6 = some m.cls := findClass_of_methodNamed B.named
  have hlocks := B.notSynchronized
  have hK := hKK.1
  have fl_15 := hts (.fieldLink RX6 15 "SimonSays$Round" "lot" "I") (by decide +kernel)
  have inX6 : ∀ w ∈ wsX60, w ∈ wsX6_setLot := by decide +kernel
  subst hsz
  have hD := hD0.self (sz := s.heap.size)
  generalize hAe : va_A [(aR, .inr (6, [.ref aT, .int R_in, .int R_streak, .int R_lot]))] s.heap.size = A at hD ⊢
  have hA : ∀ q : Nat, s.heap.size ≤ q → A q := fun q h => by rw [← hAe]; exact Or.inr h
  have hS : va_S A s.heap s.heap [] := va_S.rf
  have hl := lv_entry ([.ref aR, .int p1]) (n := 2) (Nat.le_of_ble_eq_true rfl)
  rw [lg_entry_eq]
  generalize (lg_sl ([.ref aR, .int p1]) ++ List.replicate (2 - (lg_sl ([.ref aR, .int p1])).length) Slot.unset).toArray = ls at hl ⊢
  have hl : lv_has ls 2 [(0, .ref aR), (1, .int p1)] := hl
  unfold f_X6_setLot at h
  refine lv_aload_n hx hb dX6_setLot_0 rfl (lv_at hl 0 rfl) ?_
  refine lv_iload_n hx hb dX6_setLot_1 rfl (lv_at hl 1 rfl) ?_
  refine va_put (D := D) (ci := 6) (v := .int p1) (ty := .int) (C := RX6) (T := TX6) (N := 4) hx hb hts inX6 tyX6 tyX6_ok nmX6 hown hK hP hD hS 0 rfl rfl 3 (by decide) fl_15 (fun _ h9 => h9) rfl (by decide +kernel) rfl rfl (Nat.le_of_ble_eq_true rfl) dX6_setLot_2 (fun H locs hP hD hS => ?_)
  have hP : va_P D vwCl [(aR, .inr (6, [.ref aT, .int R_in, .int R_streak, .int p1]))] H := hP
  have hD : va_D A [(aR, .inr (6, [.ref aT, .int R_in, .int R_streak, .int p1]))] := hD
  have hy := Option.some.inj h
  subst hy
  exact W.vret hx hb hr (fun t ht hW => ⟨⟨(), rfl, trivial, by rw [ht]; exact hP, hD⟩, hS.F ht⟩) hS.2.2 dX6_setLot_5

def f_X6_isIn (R_in : Int32) (T_size : Int32) (p1 : Int32) : Int32 := (if (f_X1_has T_size p1) = 0 then (0 : Int32) else (if ((R_in >>> (p1 &&& 31)) &&& (1 : Int32)) = (1 : Int32) then (1 : Int32) else (0 : Int32)))
set_option maxHeartbeats 8000000 in
set_option maxRecDepth 100000 in
theorem c_X6_isIn (l : Launch) (D : va_G) (cI cJ cZ cO : ClassId) (aR : Nat) (aT : Nat) (aT_slips : Nat) (aT_lates : Nat) (aT_copied : Nat) (R_in : Int32) (R_streak : Int32) (R_lot : Int32) (T_size : Int32) (T_littleOnes : Int32)  (p1 : Int32)  (y0 : Int32) (h : f_X6_isIn R_in T_size p1 = y0) : Met l yX6_isIn wsX6_isIn ({ frames := 1, cells := 0, slots := 0, locals := 21 } : Room) (va_Pc [.ref aR, .int p1] (fun U => va_P D vwCl [(aR, .inr (6, [.ref aT, .int R_in, .int R_streak, .int R_lot])), (aT, .inr (1, [.ref aT_slips, .ref aT_lates, .ref aT_copied, .int T_size, .int T_littleOnes]))] U.heap ∧ KK D cI cJ cZ cO U)) (vp_Si (fun r => r = y0 ∧ zo r)) 0 0 (fun _ => False) := by
  refine Met.ofW (cc := cX6_isIn) (maxL := 2) (ret := (some .boolean)) (by decide) rfl ?_
  intro p e s m args below meth c s₁ B hml hv
  obtain ⟨rfl, hP, hKK⟩ := hv
  have hx := B.exec
  have hb := B.bytes
  have hr := B.returns
  have hts := atoms_spec (ws := wsX6_isIn) B.pre
  have hown : s.vm.findClass RX6 = some m.cls := findClass_of_methodNamed B.named
  have hlocks := B.notSynchronized
  have hK := hKK.1
  have fl_9 := hts (.fieldLink RX6 9 "SimonSays$Round" "told" "LSimonSays$Children;") (by decide +kernel)
  have fl_29 := hts (.fieldLink RX6 29 "SimonSays$Round" "in" "I") (by decide +kernel)
  have inX6 : ∀ w ∈ wsX60, w ∈ wsX6_isIn := by decide +kernel
  have hl := lv_entry ([.ref aR, .int p1]) (n := 2) (Nat.le_of_ble_eq_true rfl)
  rw [lg_entry_eq]
  generalize (lg_sl ([.ref aR, .int p1]) ++ List.replicate (2 - (lg_sl ([.ref aR, .int p1])).length) Slot.unset).toArray = ls at hl ⊢
  have hl : lv_has ls 2 [(0, .ref aR), (1, .int p1)] := hl
  unfold f_X6_isIn at h
  refine lv_aload_n hx hb dX6_isIn_0 rfl (lv_at hl 0 rfl) ?_
  refine va_get (D := D) (ci := 6) (v := .ref aT) (C := RX6) (T := TX6) (N := 4) hx hb hts inX6 hown hK hP 0 rfl rfl 0 (by decide) fl_9 (fun _ h9 => h9) rfl dX6_isIn_1 ?_
  refine lv_iload_n hx hb dX6_isIn_4 rfl (lv_at hl 1 rfl) ?_
  have hPc : va_P D vwCl [(aT, .inr (1, [.ref aT_slips, .ref aT_lates, .ref aT_copied, .int T_size, .int T_littleOnes]))] s.heap := hP.sub [1] rfl
  refine vp_callSi (va_Run.run (va_runV (As := [.int p1]) (rest := []) ⟨hx, hb, hml, hown, hts⟩ (c_X1_has l D cI cJ cZ cO aT aT_slips aT_lates aT_copied T_size T_littleOnes p1 _ rfl) (cwV 1 hts gX6_isIn_X1_has rfl rfl rfl (by decide +kernel) ⟨Nat.le_of_ble_eq_true rfl, Nat.le_of_ble_eq_true rfl⟩) ⟨fb_p, va_recv hK hP (ci := 1) (q0 := 1) rfl rfl, fun U hU hW => ⟨rfl, by rw [hU]; exact hPc, KK.warm hW hKK⟩⟩ rfl rfl hl.1 rfl (lv_room (Nat.le_of_ble_eq_true rfl)) dX6_isIn_5 ⟨Nat.le_of_ble_eq_true rfl, Nat.le_of_ble_eq_true rfl⟩)) (fun r hr => ?_)
  obtain ⟨hr, hz1⟩ := hr
  replace hr := hr.symm
  subst hr
  refine lv_if_eq (tgt := 27) hx hb dX6_isIn_8 (by decide) (fun c_2 => ?_) (fun c_2 => ?_)
  · replace h := if_p c_2 h
    refine lv_iconst (v := (0 : Int32)) hx hb dX6_isIn_27 (by decide) ?_
    exact pr_z hx hb hr hlocks dX6_isIn_28 h (by decide)
  · replace h := if_n c_2 h
    refine lv_aload_n hx hb dX6_isIn_11 rfl (lv_at hl 0 rfl) ?_
    refine va_get (D := D) (ci := 6) (v := .int R_in) (C := RX6) (T := TX6) (N := 4) hx hb hts inX6 hown hK hP 0 rfl rfl 1 (by decide) fl_29 (fun _ h9 => h9) rfl dX6_isIn_12 ?_
    refine lv_iload_n hx hb dX6_isIn_15 rfl (lv_at hl 1 rfl) ?_
    refine lv_ishr hx hb dX6_isIn_16 ?_
    refine lv_iconst (v := (1 : Int32)) hx hb dX6_isIn_17 (by decide) ?_
    refine lv_iand hx hb dX6_isIn_18 ?_
    refine lv_iconst (v := (1 : Int32)) hx hb dX6_isIn_19 (by decide) ?_
    refine lv_icmp_ne (tgt := 27) hx hb dX6_isIn_20 (by decide) (fun c_3 => ?_) (fun c_3 => ?_)
    · replace h := if_n c_3 h
      refine lv_iconst (v := (0 : Int32)) hx hb dX6_isIn_27 (by decide) ?_
      exact pr_z hx hb hr hlocks dX6_isIn_28 h (by decide)
    · replace h := if_p c_3 h
      refine lv_iconst (v := (1 : Int32)) hx hb dX6_isIn_23 (by decide) ?_
      refine lv_goto (tgt := 28) hx hb dX6_isIn_24 (by decide) ?_
      exact pr_z hx hb hr hlocks dX6_isIn_28 h (by decide)

def f_X6_letIn (R_in : Int32) (p1 : Int32) : Option (Int32) := some (R_in ||| ((1 : Int32) <<< (p1 &&& 31)))
set_option maxHeartbeats 8000000 in
set_option maxRecDepth 100000 in
theorem c_X6_letIn (l : Launch) (D : va_G) (cI cJ cZ cO : ClassId) (aR : Nat) (aT : Nat) (R_in : Int32) (R_streak : Int32) (R_lot : Int32) (sz : Nat) (p1 : Int32)  (y0 : Int32) (h : f_X6_letIn R_in p1 = some y0) : Met l yX6_letIn wsX6_letIn ({ frames := 0, cells := 0, slots := 0, locals := 0 } : Room) (va_Pc [.ref aR, .int p1] (fun U => U.heap.size = sz ∧ va_P D vwCl [(aR, .inr (6, [.ref aT, .int R_in, .int R_streak, .int R_lot]))] U.heap ∧ KK D cI cJ cZ cO U ∧ va_D (fun _ => True) [(aR, .inr (6, [.ref aT, .int R_in, .int R_streak, .int R_lot]))])) (va_Qv (fun (_ : Unit) => True) (fun (_ : Unit) t => va_P D vwCl [(aR, .inr (6, [.ref aT, .int y0, .int R_streak, .int R_lot]))] t.heap ∧ va_D (va_A [(aR, .inr (6, [.ref aT, .int R_in, .int R_streak, .int R_lot]))] sz) [(aR, .inr (6, [.ref aT, .int y0, .int R_streak, .int R_lot]))]) (va_A [(aR, .inr (6, [.ref aT, .int R_in, .int R_streak, .int R_lot]))] sz)) 0 0 (va_A [(aR, .inr (6, [.ref aT, .int R_in, .int R_streak, .int R_lot]))] sz) := by
  refine Met.ofW (cc := cX6_letIn) (maxL := 2) (ret := none) (by decide) rfl ?_
  intro p e s m args below meth c s₁ B hml hv
  obtain ⟨rfl, hsz, hP, hKK, hD0⟩ := hv
  have hx := B.exec
  have hb := B.bytes
  have hr := B.returns
  have hts := atoms_spec (ws := wsX6_letIn) B.pre
  have hown : s.vm.findClass RX6 = some m.cls := findClass_of_methodNamed B.named
  have hlocks := B.notSynchronized
  have hK := hKK.1
  have fl_29 := hts (.fieldLink RX6 29 "SimonSays$Round" "in" "I") (by decide +kernel)
  have inX6 : ∀ w ∈ wsX60, w ∈ wsX6_letIn := by decide +kernel
  subst hsz
  have hD := hD0.self (sz := s.heap.size)
  generalize hAe : va_A [(aR, .inr (6, [.ref aT, .int R_in, .int R_streak, .int R_lot]))] s.heap.size = A at hD ⊢
  have hA : ∀ q : Nat, s.heap.size ≤ q → A q := fun q h => by rw [← hAe]; exact Or.inr h
  have hS : va_S A s.heap s.heap [] := va_S.rf
  have hl := lv_entry ([.ref aR, .int p1]) (n := 2) (Nat.le_of_ble_eq_true rfl)
  rw [lg_entry_eq]
  generalize (lg_sl ([.ref aR, .int p1]) ++ List.replicate (2 - (lg_sl ([.ref aR, .int p1])).length) Slot.unset).toArray = ls at hl ⊢
  have hl : lv_has ls 2 [(0, .ref aR), (1, .int p1)] := hl
  unfold f_X6_letIn at h
  refine lv_aload_n hx hb dX6_letIn_0 rfl (lv_at hl 0 rfl) ?_
  refine lv_dup hx hb dX6_letIn_1 rfl ?_
  refine va_get (D := D) (ci := 6) (v := .int R_in) (C := RX6) (T := TX6) (N := 4) hx hb hts inX6 hown hK hP 0 rfl rfl 1 (by decide) fl_29 (fun _ h9 => h9) rfl dX6_letIn_2 ?_
  refine lv_iconst (v := (1 : Int32)) hx hb dX6_letIn_5 (by decide) ?_
  refine lv_iload_n hx hb dX6_letIn_6 rfl (lv_at hl 1 rfl) ?_
  refine lv_ishl hx hb dX6_letIn_7 ?_
  refine lv_ior hx hb dX6_letIn_8 ?_
  refine va_put (D := D) (ci := 6) (v := .int (R_in ||| ((1 : Int32) <<< (p1 &&& 31)))) (ty := .int) (C := RX6) (T := TX6) (N := 4) hx hb hts inX6 tyX6 tyX6_ok nmX6 hown hK hP hD hS 0 rfl rfl 1 (by decide) fl_29 (fun _ h9 => h9) rfl (by decide +kernel) rfl rfl (Nat.le_of_ble_eq_true rfl) dX6_letIn_9 (fun H locs hP hD hS => ?_)
  have hP : va_P D vwCl [(aR, .inr (6, [.ref aT, .int (R_in ||| ((1 : Int32) <<< (p1 &&& 31))), .int R_streak, .int R_lot]))] H := hP
  have hD : va_D A [(aR, .inr (6, [.ref aT, .int (R_in ||| ((1 : Int32) <<< (p1 &&& 31))), .int R_streak, .int R_lot]))] := hD
  have hy := Option.some.inj h
  subst hy
  exact W.vret hx hb hr (fun t ht hW => ⟨⟨(), rfl, trivial, by rw [ht]; exact hP, hD⟩, hS.F ht⟩) hS.2.2 dX6_letIn_12

def f_X6_leaderOf_L4 (R_in : Int32) (T_size : Int32) (T_copied : Nat → Int32) : Nat → Int32 → Int32 → Option (Int32)
  | 0, _, _ => none
  | n + 1, x2, x3 => (if (6 : Int32) ≤ x3 then some x2 else (Option.bind (f_X1_copiedBy T_size T_copied x2) (fun y2 => (if (f_X6_isIn R_in T_size y2) = 0 then some x2 else f_X6_leaderOf_L4 R_in T_size T_copied n y2 (x3 + (1 : Int32))))))
def f_X6_leaderOf (R_in : Int32) (T_size : Int32) (T_copied : Nat → Int32) (p1 : Int32) : Option (Int32) := f_X6_leaderOf_L4 R_in T_size T_copied 300 p1 (0 : Int32)
set_option maxHeartbeats 8000000 in
set_option maxRecDepth 100000 in
theorem c_X6_leaderOf (l : Launch) (D : va_G) (cI cJ cZ cO : ClassId) (aR : Nat) (aT : Nat) (aT_copied : Nat) (aT_slips : Nat) (aT_lates : Nat) (R_in : Int32) (R_streak : Int32) (R_lot : Int32) (T_size : Int32) (T_littleOnes : Int32) (T_copied : Nat → Int32)  (p1 : Int32)  (y0 : Int32) (h : f_X6_leaderOf R_in T_size T_copied p1 = some y0) : Met l yX6_leaderOf wsX6_leaderOf ({ frames := 2, cells := 0, slots := 0, locals := 42 } : Room) (va_Pc [.ref aR, .int p1] (fun U => va_P D vwCl [(aR, .inr (6, [.ref aT, .int R_in, .int R_streak, .int R_lot])), (aT, .inr (1, [.ref aT_slips, .ref aT_lates, .ref aT_copied, .int T_size, .int T_littleOnes])), (aT_copied, .inl (cI, 6, .inl T_copied))] U.heap ∧ KK D cI cJ cZ cO U)) (vp_Si (fun r => r = y0)) 0 0 (fun _ => False) := by
  refine Met.ofW (cc := cX6_leaderOf) (maxL := 5) (ret := (some .int)) (by decide) rfl ?_
  intro p e s m args below meth c s₁ B hml hv
  obtain ⟨rfl, hP, hKK⟩ := hv
  have hx := B.exec
  have hb := B.bytes
  have hr := B.returns
  have hts := atoms_spec (ws := wsX6_leaderOf) B.pre
  have hown : s.vm.findClass RX6 = some m.cls := findClass_of_methodNamed B.named
  have hlocks := B.notSynchronized
  have hK := hKK.1
  have fl_9 := hts (.fieldLink RX6 9 "SimonSays$Round" "told" "LSimonSays$Children;") (by decide +kernel)
  have inX6 : ∀ w ∈ wsX60, w ∈ wsX6_leaderOf := by decide +kernel
  have hl := lv_entry ([.ref aR, .int p1]) (n := 5) (Nat.le_of_ble_eq_true rfl)
  rw [lg_entry_eq]
  generalize (lg_sl ([.ref aR, .int p1]) ++ List.replicate (5 - (lg_sl ([.ref aR, .int p1])).length) Slot.unset).toArray = ls at hl ⊢
  have hl : lv_has ls 5 [(0, .ref aR), (1, .int p1)] := hl
  have L4 : ∀ (n : Nat), ∀ (x2 : Int32) (x3 : Int32), ∀ (ls : Array Slot), lv_has ls 5 [(0, .ref aR), (2, .int x2), (3, .int x3)] → f_X6_leaderOf_L4 R_in T_size T_copied n x2 x3 = some y0 → W p l e (headSpec wsX6_leaderOf ({ frames := 2, cells := 0, slots := 0, locals := 42 } : Room)).room s m ([.ref aR, .int p1] : List Value).toArray below meth c s.heap [] 0 0 (MQ below (vp_Si (fun r => r = y0)) ([.ref aR, .int p1] : List Value).toArray s 0 0 (fun _ => False)) (F0 m 4 ls []) := by
    intro n
    induction n with
    | zero =>
      intro x2 x3 ls hl h
      exact (ns h).elim
    | succ n ih =>
      intro x2 x3 ls hl h
      unfold f_X6_leaderOf_L4 at h
      refine lv_iload_n hx hb dX6_leaderOf_4 rfl (lv_at hl 2 rfl) ?_
      refine lv_bipush (v := (6 : Int32)) hx hb dX6_leaderOf_5 (by decide) ?_
      refine lv_icmp_ge (tgt := 40) hx hb dX6_leaderOf_7 (by decide) (fun c_1 => ?_) (fun c_1 => ?_)
      · replace h := if_p c_1 h
        refine lv_iload_n hx hb dX6_leaderOf_40 rfl (lv_at hl 1 rfl) ?_
        exact pr_i hx hb hr hlocks dX6_leaderOf_41 (Option.some.inj h)
      · replace h := if_n c_1 h
        refine lv_aload_n hx hb dX6_leaderOf_10 rfl (lv_at hl 0 rfl) ?_
        refine va_get (D := D) (ci := 6) (v := .ref aT) (C := RX6) (T := TX6) (N := 4) hx hb hts inX6 hown hK hP 0 rfl rfl 0 (by decide) fl_9 (fun _ h9 => h9) rfl dX6_leaderOf_11 ?_
        refine lv_iload_n hx hb dX6_leaderOf_14 rfl (lv_at hl 1 rfl) ?_
        obtain ⟨y2, qy2, h⟩ := ob_some h
        have hPc : va_P D vwCl [(aT, .inr (1, [.ref aT_slips, .ref aT_lates, .ref aT_copied, .int T_size, .int T_littleOnes])), (aT_copied, .inl (cI, 6, .inl T_copied))] s.heap := hP.sub [1, 2] rfl
        refine vp_callSi (va_Run.run (va_runV (As := [.int x2]) (rest := []) ⟨hx, hb, hml, hown, hts⟩ (c_X1_copiedBy l D cI cJ cZ cO aT aT_copied aT_slips aT_lates T_size T_littleOnes T_copied x2 y2 qy2) (cwV 1 hts gX6_leaderOf_X1_copiedBy rfl rfl rfl (by decide +kernel) ⟨Nat.le_of_ble_eq_true rfl, Nat.le_of_ble_eq_true rfl⟩) ⟨fb_p, va_recv hK hP (ci := 1) (q0 := 1) rfl rfl, fun U hU hW => ⟨rfl, by rw [hU]; exact hPc, KK.warm hW hKK⟩⟩ rfl rfl hl.1 rfl (lv_room (Nat.le_of_ble_eq_true rfl)) dX6_leaderOf_15 ⟨Nat.le_of_ble_eq_true rfl, Nat.le_of_ble_eq_true rfl⟩)) (fun r hr => ?_)
        replace hr := hr.symm
        subst hr
        refine lv_istore (lv' := [(4, .int y2), (0, .ref aR), (2, .int x2), (3, .int x3)]) hx hb dX6_leaderOf_18 hl (by decide) rfl (fun ls hl => ?_)
        refine lv_aload_n hx hb dX6_leaderOf_20 rfl (lv_at hl 1 rfl) ?_
        refine lv_iload hx hb dX6_leaderOf_21 (lv_at hl 0 rfl) ?_
        have hPc : va_P D vwCl [(aR, .inr (6, [.ref aT, .int R_in, .int R_streak, .int R_lot])), (aT, .inr (1, [.ref aT_slips, .ref aT_lates, .ref aT_copied, .int T_size, .int T_littleOnes]))] s.heap := hP.sub [0, 1] rfl
        refine vp_callSi (va_Run.run (va_runV (As := [.int y2]) (rest := []) ⟨hx, hb, hml, hown, hts⟩ (c_X6_isIn l D cI cJ cZ cO aR aT aT_slips aT_lates aT_copied R_in R_streak R_lot T_size T_littleOnes y2 _ rfl) (cwV 1 hts gX6_leaderOf_X6_isIn rfl rfl rfl (by decide +kernel) ⟨Nat.le_of_ble_eq_true rfl, Nat.le_of_ble_eq_true rfl⟩) ⟨fb_p, va_recv hK hP (ci := 6) (q0 := 0) rfl rfl, fun U hU hW => ⟨rfl, by rw [hU]; exact hPc, KK.warm hW hKK⟩⟩ rfl rfl hl.1 rfl (lv_room (Nat.le_of_ble_eq_true rfl)) dX6_leaderOf_23 ⟨Nat.le_of_ble_eq_true rfl, Nat.le_of_ble_eq_true rfl⟩)) (fun r hr => ?_)
        obtain ⟨hr, hz3⟩ := hr
        replace hr := hr.symm
        subst hr
        refine lv_if_ne (tgt := 31) hx hb dX6_leaderOf_26 (by decide) (fun c_4 => ?_) (fun c_4 => ?_)
        · replace h := if_n c_4 h
          refine lv_iload hx hb dX6_leaderOf_31 (lv_at hl 0 rfl) ?_
          refine lv_istore_n (lv' := [(2, .int y2), (4, .int y2), (0, .ref aR), (3, .int x3)]) hx hb dX6_leaderOf_33 rfl hl (by decide) rfl (fun ls hl => ?_)
          refine lv_iinc (v := (x3 + (1 : Int32))) (lv' := [(3, .int (x3 + (1 : Int32))), (2, .int y2), (4, .int y2), (0, .ref aR)]) hx hb dX6_leaderOf_34 hl (k := 3) rfl rfl (by decide) rfl (fun ls hl => ?_)
          refine lv_goto (tgt := 4) hx hb dX6_leaderOf_37 (by decide) ?_
          exact ih y2 (x3 + (1 : Int32)) ls (lv_sub hl [3, 1, 0] rfl) h
        · replace h := if_p c_4 h
          refine lv_iload_n hx hb dX6_leaderOf_29 rfl (lv_at hl 2 rfl) ?_
          exact pr_i hx hb hr hlocks dX6_leaderOf_30 (Option.some.inj h)
  unfold f_X6_leaderOf at h
  refine lv_iload_n hx hb dX6_leaderOf_0 rfl (lv_at hl 1 rfl) ?_
  refine lv_istore_n (lv' := [(2, .int p1), (0, .ref aR), (1, .int p1)]) hx hb dX6_leaderOf_1 rfl hl (by decide) rfl (fun ls hl => ?_)
  refine lv_iconst (v := (0 : Int32)) hx hb dX6_leaderOf_2 (by decide) ?_
  refine lv_istore_n (lv' := [(3, .int (0 : Int32)), (2, .int p1), (0, .ref aR), (1, .int p1)]) hx hb dX6_leaderOf_3 rfl hl (by decide) rfl (fun ls hl => ?_)
  exact L4 300 p1 (0 : Int32) ls (lv_sub hl [2, 1, 0] rfl) h

def f_X6_isLeader (R_in : Int32) (T_size : Int32) (T_copied : Nat → Int32) (p1 : Int32) : Option (Int32) := (if (f_X6_isIn R_in T_size p1) = 0 then some (0 : Int32) else (Option.bind (f_X6_leaderOf R_in T_size T_copied p1) (fun y3 => (if y3 = p1 then some (1 : Int32) else some (0 : Int32)))))
set_option maxHeartbeats 8000000 in
set_option maxRecDepth 100000 in
theorem c_X6_isLeader (l : Launch) (D : va_G) (cI cJ cZ cO : ClassId) (aR : Nat) (aT : Nat) (aT_copied : Nat) (aT_slips : Nat) (aT_lates : Nat) (R_in : Int32) (R_streak : Int32) (R_lot : Int32) (T_size : Int32) (T_littleOnes : Int32) (T_copied : Nat → Int32)  (p1 : Int32)  (y0 : Int32) (h : f_X6_isLeader R_in T_size T_copied p1 = some y0) : Met l yX6_isLeader wsX6_isLeader ({ frames := 3, cells := 0, slots := 0, locals := 66 } : Room) (va_Pc [.ref aR, .int p1] (fun U => va_P D vwCl [(aR, .inr (6, [.ref aT, .int R_in, .int R_streak, .int R_lot])), (aT, .inr (1, [.ref aT_slips, .ref aT_lates, .ref aT_copied, .int T_size, .int T_littleOnes])), (aT_copied, .inl (cI, 6, .inl T_copied))] U.heap ∧ KK D cI cJ cZ cO U)) (vp_Si (fun r => r = y0 ∧ zo r)) 0 0 (fun _ => False) := by
  refine Met.ofW (cc := cX6_isLeader) (maxL := 2) (ret := (some .boolean)) (by decide) rfl ?_
  intro p e s m args below meth c s₁ B hml hv
  obtain ⟨rfl, hP, hKK⟩ := hv
  have hx := B.exec
  have hb := B.bytes
  have hr := B.returns
  have hts := atoms_spec (ws := wsX6_isLeader) B.pre
  have hown : s.vm.findClass RX6 = some m.cls := findClass_of_methodNamed B.named
  have hlocks := B.notSynchronized
  have hK := hKK.1
  have hl := lv_entry ([.ref aR, .int p1]) (n := 2) (Nat.le_of_ble_eq_true rfl)
  rw [lg_entry_eq]
  generalize (lg_sl ([.ref aR, .int p1]) ++ List.replicate (2 - (lg_sl ([.ref aR, .int p1])).length) Slot.unset).toArray = ls at hl ⊢
  have hl : lv_has ls 2 [(0, .ref aR), (1, .int p1)] := hl
  unfold f_X6_isLeader at h
  refine lv_aload_n hx hb dX6_isLeader_0 rfl (lv_at hl 0 rfl) ?_
  refine lv_iload_n hx hb dX6_isLeader_1 rfl (lv_at hl 1 rfl) ?_
  have hPc : va_P D vwCl [(aR, .inr (6, [.ref aT, .int R_in, .int R_streak, .int R_lot])), (aT, .inr (1, [.ref aT_slips, .ref aT_lates, .ref aT_copied, .int T_size, .int T_littleOnes]))] s.heap := hP.sub [0, 1] rfl
  refine vp_callSi (va_Run.run (va_runV (As := [.int p1]) (rest := []) ⟨hx, hb, hml, hown, hts⟩ (c_X6_isIn l D cI cJ cZ cO aR aT aT_slips aT_lates aT_copied R_in R_streak R_lot T_size T_littleOnes p1 _ rfl) (cwV 1 hts gX6_isLeader_X6_isIn rfl rfl rfl (by decide +kernel) ⟨Nat.le_of_ble_eq_true rfl, Nat.le_of_ble_eq_true rfl⟩) ⟨fb_p, va_recv hK hP (ci := 6) (q0 := 0) rfl rfl, fun U hU hW => ⟨rfl, by rw [hU]; exact hPc, KK.warm hW hKK⟩⟩ rfl rfl hl.1 rfl (lv_room (Nat.le_of_ble_eq_true rfl)) dX6_isLeader_2 ⟨Nat.le_of_ble_eq_true rfl, Nat.le_of_ble_eq_true rfl⟩)) (fun r hr => ?_)
  obtain ⟨hr, hz1⟩ := hr
  replace hr := hr.symm
  subst hr
  refine lv_if_eq (tgt := 21) hx hb dX6_isLeader_5 (by decide) (fun c_2 => ?_) (fun c_2 => ?_)
  · replace h := if_p c_2 h
    refine lv_iconst (v := (0 : Int32)) hx hb dX6_isLeader_21 (by decide) ?_
    exact pr_z hx hb hr hlocks dX6_isLeader_22 (Option.some.inj h) (by decide)
  · replace h := if_n c_2 h
    refine lv_aload_n hx hb dX6_isLeader_8 rfl (lv_at hl 0 rfl) ?_
    refine lv_iload_n hx hb dX6_isLeader_9 rfl (lv_at hl 1 rfl) ?_
    obtain ⟨y3, qy3, h⟩ := ob_some h
    have hPc : va_P D vwCl [(aR, .inr (6, [.ref aT, .int R_in, .int R_streak, .int R_lot])), (aT, .inr (1, [.ref aT_slips, .ref aT_lates, .ref aT_copied, .int T_size, .int T_littleOnes])), (aT_copied, .inl (cI, 6, .inl T_copied))] s.heap := hP.sub [0, 1, 2] rfl
    refine vp_callSi (va_Run.run (va_runV (As := [.int p1]) (rest := []) ⟨hx, hb, hml, hown, hts⟩ (c_X6_leaderOf l D cI cJ cZ cO aR aT aT_copied aT_slips aT_lates R_in R_streak R_lot T_size T_littleOnes T_copied p1 y3 qy3) (cwV 1 hts gX6_isLeader_X6_leaderOf rfl rfl rfl (by decide +kernel) ⟨Nat.le_of_ble_eq_true rfl, Nat.le_of_ble_eq_true rfl⟩) ⟨fb_p, va_recv hK hP (ci := 6) (q0 := 0) rfl rfl, fun U hU hW => ⟨rfl, by rw [hU]; exact hPc, KK.warm hW hKK⟩⟩ rfl rfl hl.1 rfl (lv_room (Nat.le_of_ble_eq_true rfl)) dX6_isLeader_10 ⟨Nat.le_of_ble_eq_true rfl, Nat.le_of_ble_eq_true rfl⟩)) (fun r hr => ?_)
    replace hr := hr.symm
    subst hr
    refine lv_iload_n hx hb dX6_isLeader_13 rfl (lv_at hl 1 rfl) ?_
    refine lv_icmp_ne (tgt := 21) hx hb dX6_isLeader_14 (by decide) (fun c_4 => ?_) (fun c_4 => ?_)
    · replace h := if_n c_4 h
      refine lv_iconst (v := (0 : Int32)) hx hb dX6_isLeader_21 (by decide) ?_
      exact pr_z hx hb hr hlocks dX6_isLeader_22 (Option.some.inj h) (by decide)
    · replace h := if_p c_4 h
      refine lv_iconst (v := (1 : Int32)) hx hb dX6_isLeader_17 (by decide) ?_
      refine lv_goto (tgt := 22) hx hb dX6_isLeader_18 (by decide) ?_
      exact pr_z hx hb hr hlocks dX6_isLeader_22 (Option.some.inj h) (by decide)

def f_X6_groupOf_L4 (R_in : Int32) (T_size : Int32) (T_copied : Nat → Int32) : Nat → Int32 → Int32 → Int32 → Option (Int32)
  | 0, _, _, _ => none
  | n + 1, x1, x2, x3 => (if (f_X1_size T_size) ≤ x3 then some x2 else (if (f_X6_isIn R_in T_size x3) = 0 then f_X6_groupOf_L4 R_in T_size T_copied n x1 x2 (x3 + (1 : Int32)) else (Option.bind (f_X6_leaderOf R_in T_size T_copied x3) (fun y4 => (if y4 = x1 then f_X6_groupOf_L4 R_in T_size T_copied n x1 (x2 ||| ((1 : Int32) <<< (x3 &&& 31))) (x3 + (1 : Int32)) else f_X6_groupOf_L4 R_in T_size T_copied n x1 x2 (x3 + (1 : Int32)))))))
def f_X6_groupOf (R_in : Int32) (T_size : Int32) (T_copied : Nat → Int32) (p1 : Int32) : Option (Int32) := f_X6_groupOf_L4 R_in T_size T_copied 300 p1 (0 : Int32) (0 : Int32)
set_option maxHeartbeats 8000000 in
set_option maxRecDepth 100000 in
theorem c_X6_groupOf (l : Launch) (D : va_G) (cI cJ cZ cO : ClassId) (aR : Nat) (aT : Nat) (aT_copied : Nat) (aT_slips : Nat) (aT_lates : Nat) (R_in : Int32) (R_streak : Int32) (R_lot : Int32) (T_size : Int32) (T_littleOnes : Int32) (T_copied : Nat → Int32)  (p1 : Int32)  (y0 : Int32) (h : f_X6_groupOf R_in T_size T_copied p1 = some y0) : Met l yX6_groupOf wsX6_groupOf ({ frames := 3, cells := 0, slots := 0, locals := 66 } : Room) (va_Pc [.ref aR, .int p1] (fun U => va_P D vwCl [(aR, .inr (6, [.ref aT, .int R_in, .int R_streak, .int R_lot])), (aT, .inr (1, [.ref aT_slips, .ref aT_lates, .ref aT_copied, .int T_size, .int T_littleOnes])), (aT_copied, .inl (cI, 6, .inl T_copied))] U.heap ∧ KK D cI cJ cZ cO U)) (vp_Si (fun r => r = y0)) 0 0 (fun _ => False) := by
  refine Met.ofW (cc := cX6_groupOf) (maxL := 4) (ret := (some .int)) (by decide) rfl ?_
  intro p e s m args below meth c s₁ B hml hv
  obtain ⟨rfl, hP, hKK⟩ := hv
  have hx := B.exec
  have hb := B.bytes
  have hr := B.returns
  have hts := atoms_spec (ws := wsX6_groupOf) B.pre
  have hown : s.vm.findClass RX6 = some m.cls := findClass_of_methodNamed B.named
  have hlocks := B.notSynchronized
  have hK := hKK.1
  have fl_9 := hts (.fieldLink RX6 9 "SimonSays$Round" "told" "LSimonSays$Children;") (by decide +kernel)
  have inX6 : ∀ w ∈ wsX60, w ∈ wsX6_groupOf := by decide +kernel
  have hl := lv_entry ([.ref aR, .int p1]) (n := 4) (Nat.le_of_ble_eq_true rfl)
  rw [lg_entry_eq]
  generalize (lg_sl ([.ref aR, .int p1]) ++ List.replicate (4 - (lg_sl ([.ref aR, .int p1])).length) Slot.unset).toArray = ls at hl ⊢
  have hl : lv_has ls 4 [(0, .ref aR), (1, .int p1)] := hl
  have L4 : ∀ (n : Nat), ∀ (x1 : Int32) (x2 : Int32) (x3 : Int32), ∀ (ls : Array Slot), lv_has ls 4 [(0, .ref aR), (1, .int x1), (2, .int x2), (3, .int x3)] → f_X6_groupOf_L4 R_in T_size T_copied n x1 x2 x3 = some y0 → W p l e (headSpec wsX6_groupOf ({ frames := 3, cells := 0, slots := 0, locals := 66 } : Room)).room s m ([.ref aR, .int p1] : List Value).toArray below meth c s.heap [] 0 0 (MQ below (vp_Si (fun r => r = y0)) ([.ref aR, .int p1] : List Value).toArray s 0 0 (fun _ => False)) (F0 m 4 ls []) := by
    intro n
    induction n with
    | zero =>
      intro x1 x2 x3 ls hl h
      exact (ns h).elim
    | succ n ih =>
      intro x1 x2 x3 ls hl h
      unfold f_X6_groupOf_L4 at h
      refine lv_iload_n hx hb dX6_groupOf_4 rfl (lv_at hl 3 rfl) ?_
      refine lv_aload_n hx hb dX6_groupOf_5 rfl (lv_at hl 0 rfl) ?_
      refine va_get (D := D) (ci := 6) (v := .ref aT) (C := RX6) (T := TX6) (N := 4) hx hb hts inX6 hown hK hP 0 rfl rfl 0 (by decide) fl_9 (fun _ h9 => h9) rfl dX6_groupOf_6 ?_
      have hPc : va_P D vwCl [(aT, .inr (1, [.ref aT_slips, .ref aT_lates, .ref aT_copied, .int T_size, .int T_littleOnes]))] s.heap := hP.sub [1] rfl
      refine vp_callSi (va_Run.run (va_runV (As := []) (rest := [.int x3]) ⟨hx, hb, hml, hown, hts⟩ (c_X1_size l D cI cJ cZ cO aT aT_slips aT_lates aT_copied T_size T_littleOnes _ rfl) (cwV 0 hts gX6_groupOf_X1_size rfl rfl rfl (by decide +kernel) ⟨Nat.le_of_ble_eq_true rfl, Nat.le_of_ble_eq_true rfl⟩) ⟨fb_p, va_recv hK hP (ci := 1) (q0 := 1) rfl rfl, fun U hU hW => ⟨rfl, by rw [hU]; exact hPc, KK.warm hW hKK⟩⟩ rfl rfl hl.1 rfl (lv_room (Nat.le_of_ble_eq_true rfl)) dX6_groupOf_9 ⟨Nat.le_of_ble_eq_true rfl, Nat.le_of_ble_eq_true rfl⟩)) (fun r hr => ?_)
      replace hr := hr.symm
      subst hr
      refine lv_icmp_ge (tgt := 44) hx hb dX6_groupOf_12 (by decide) (fun c_1 => ?_) (fun c_1 => ?_)
      · replace h := if_p c_1 h
        refine lv_iload_n hx hb dX6_groupOf_44 rfl (lv_at hl 2 rfl) ?_
        exact pr_i hx hb hr hlocks dX6_groupOf_45 (Option.some.inj h)
      · replace h := if_n c_1 h
        refine lv_aload_n hx hb dX6_groupOf_15 rfl (lv_at hl 0 rfl) ?_
        refine lv_iload_n hx hb dX6_groupOf_16 rfl (lv_at hl 3 rfl) ?_
        have hPc : va_P D vwCl [(aR, .inr (6, [.ref aT, .int R_in, .int R_streak, .int R_lot])), (aT, .inr (1, [.ref aT_slips, .ref aT_lates, .ref aT_copied, .int T_size, .int T_littleOnes]))] s.heap := hP.sub [0, 1] rfl
        refine vp_callSi (va_Run.run (va_runV (As := [.int x3]) (rest := []) ⟨hx, hb, hml, hown, hts⟩ (c_X6_isIn l D cI cJ cZ cO aR aT aT_slips aT_lates aT_copied R_in R_streak R_lot T_size T_littleOnes x3 _ rfl) (cwV 1 hts gX6_groupOf_X6_isIn rfl rfl rfl (by decide +kernel) ⟨Nat.le_of_ble_eq_true rfl, Nat.le_of_ble_eq_true rfl⟩) ⟨fb_p, va_recv hK hP (ci := 6) (q0 := 0) rfl rfl, fun U hU hW => ⟨rfl, by rw [hU]; exact hPc, KK.warm hW hKK⟩⟩ rfl rfl hl.1 rfl (lv_room (Nat.le_of_ble_eq_true rfl)) dX6_groupOf_17 ⟨Nat.le_of_ble_eq_true rfl, Nat.le_of_ble_eq_true rfl⟩)) (fun r hr => ?_)
        obtain ⟨hr, hz2⟩ := hr
        replace hr := hr.symm
        subst hr
        refine lv_if_eq (tgt := 38) hx hb dX6_groupOf_20 (by decide) (fun c_3 => ?_) (fun c_3 => ?_)
        · replace h := if_p c_3 h
          refine lv_iinc (v := (x3 + (1 : Int32))) (lv' := [(3, .int (x3 + (1 : Int32))), (0, .ref aR), (1, .int x1), (2, .int x2)]) hx hb dX6_groupOf_38 hl (k := 3) rfl rfl (by decide) rfl (fun ls hl => ?_)
          refine lv_goto (tgt := 4) hx hb dX6_groupOf_41 (by decide) ?_
          exact ih x1 x2 (x3 + (1 : Int32)) ls (lv_sub hl [1, 2, 3, 0] rfl) h
        · replace h := if_n c_3 h
          refine lv_aload_n hx hb dX6_groupOf_23 rfl (lv_at hl 0 rfl) ?_
          refine lv_iload_n hx hb dX6_groupOf_24 rfl (lv_at hl 3 rfl) ?_
          obtain ⟨y4, qy4, h⟩ := ob_some h
          have hPc : va_P D vwCl [(aR, .inr (6, [.ref aT, .int R_in, .int R_streak, .int R_lot])), (aT, .inr (1, [.ref aT_slips, .ref aT_lates, .ref aT_copied, .int T_size, .int T_littleOnes])), (aT_copied, .inl (cI, 6, .inl T_copied))] s.heap := hP.sub [0, 1, 2] rfl
          refine vp_callSi (va_Run.run (va_runV (As := [.int x3]) (rest := []) ⟨hx, hb, hml, hown, hts⟩ (c_X6_leaderOf l D cI cJ cZ cO aR aT aT_copied aT_slips aT_lates R_in R_streak R_lot T_size T_littleOnes T_copied x3 y4 qy4) (cwV 1 hts gX6_groupOf_X6_leaderOf rfl rfl rfl (by decide +kernel) ⟨Nat.le_of_ble_eq_true rfl, Nat.le_of_ble_eq_true rfl⟩) ⟨fb_p, va_recv hK hP (ci := 6) (q0 := 0) rfl rfl, fun U hU hW => ⟨rfl, by rw [hU]; exact hPc, KK.warm hW hKK⟩⟩ rfl rfl hl.1 rfl (lv_room (Nat.le_of_ble_eq_true rfl)) dX6_groupOf_25 ⟨Nat.le_of_ble_eq_true rfl, Nat.le_of_ble_eq_true rfl⟩)) (fun r hr => ?_)
          replace hr := hr.symm
          subst hr
          refine lv_iload_n hx hb dX6_groupOf_28 rfl (lv_at hl 1 rfl) ?_
          refine lv_icmp_ne (tgt := 38) hx hb dX6_groupOf_29 (by decide) (fun c_5 => ?_) (fun c_5 => ?_)
          · replace h := if_n c_5 h
            refine lv_iinc (v := (x3 + (1 : Int32))) (lv' := [(3, .int (x3 + (1 : Int32))), (0, .ref aR), (1, .int x1), (2, .int x2)]) hx hb dX6_groupOf_38 hl (k := 3) rfl rfl (by decide) rfl (fun ls hl => ?_)
            refine lv_goto (tgt := 4) hx hb dX6_groupOf_41 (by decide) ?_
            exact ih x1 x2 (x3 + (1 : Int32)) ls (lv_sub hl [1, 2, 3, 0] rfl) h
          · replace h := if_p c_5 h
            refine lv_iload_n hx hb dX6_groupOf_32 rfl (lv_at hl 2 rfl) ?_
            refine lv_iconst (v := (1 : Int32)) hx hb dX6_groupOf_33 (by decide) ?_
            refine lv_iload_n hx hb dX6_groupOf_34 rfl (lv_at hl 3 rfl) ?_
            refine lv_ishl hx hb dX6_groupOf_35 ?_
            refine lv_ior hx hb dX6_groupOf_36 ?_
            refine lv_istore_n (lv' := [(2, .int (x2 ||| ((1 : Int32) <<< (x3 &&& 31)))), (0, .ref aR), (1, .int x1), (3, .int x3)]) hx hb dX6_groupOf_37 rfl hl (by decide) rfl (fun ls hl => ?_)
            refine lv_iinc (v := (x3 + (1 : Int32))) (lv' := [(3, .int (x3 + (1 : Int32))), (2, .int (x2 ||| ((1 : Int32) <<< (x3 &&& 31)))), (0, .ref aR), (1, .int x1)]) hx hb dX6_groupOf_38 hl (k := 3) rfl rfl (by decide) rfl (fun ls hl => ?_)
            refine lv_goto (tgt := 4) hx hb dX6_groupOf_41 (by decide) ?_
            exact ih x1 (x2 ||| ((1 : Int32) <<< (x3 &&& 31))) (x3 + (1 : Int32)) ls (lv_sub hl [2, 3, 1, 0] rfl) h
  unfold f_X6_groupOf at h
  refine lv_iconst (v := (0 : Int32)) hx hb dX6_groupOf_0 (by decide) ?_
  refine lv_istore_n (lv' := [(2, .int (0 : Int32)), (0, .ref aR), (1, .int p1)]) hx hb dX6_groupOf_1 rfl hl (by decide) rfl (fun ls hl => ?_)
  refine lv_iconst (v := (0 : Int32)) hx hb dX6_groupOf_2 (by decide) ?_
  refine lv_istore_n (lv' := [(3, .int (0 : Int32)), (2, .int (0 : Int32)), (0, .ref aR), (1, .int p1)]) hx hb dX6_groupOf_3 rfl hl (by decide) rfl (fun ls hl => ?_)
  exact L4 300 p1 (0 : Int32) (0 : Int32) ls (lv_sub hl [2, 3, 1, 0] rfl) h

def f_X6_startAnew (R_in : Int32) (R_streak : Int32) (T_size : Int32) : Option (Int32 × Int32) := (Option.bind (f_X6_become R_in R_streak (f_X1_everyone T_size) (0 : Int32)) (fun y1 => some (y1.1, y1.2)))
set_option maxHeartbeats 8000000 in
set_option maxRecDepth 100000 in
theorem c_X6_startAnew (l : Launch) (D : va_G) (cI cJ cZ cO : ClassId) (aR : Nat) (aT : Nat) (aT_slips : Nat) (aT_lates : Nat) (aT_copied : Nat) (R_in : Int32) (R_streak : Int32) (R_lot : Int32) (T_size : Int32) (T_littleOnes : Int32) (sz : Nat)   (y0 : Int32 × Int32) (h : f_X6_startAnew R_in R_streak T_size = some y0) : Met l yX6_startAnew wsX6_startAnew ({ frames := 1, cells := 0, slots := 0, locals := 22 } : Room) (va_Pc [.ref aR] (fun U => U.heap.size = sz ∧ va_P D vwCl [(aR, .inr (6, [.ref aT, .int R_in, .int R_streak, .int R_lot])), (aT, .inr (1, [.ref aT_slips, .ref aT_lates, .ref aT_copied, .int T_size, .int T_littleOnes]))] U.heap ∧ KK D cI cJ cZ cO U ∧ va_D (fun _ => True) [(aR, .inr (6, [.ref aT, .int R_in, .int R_streak, .int R_lot])), (aT, .inr (1, [.ref aT_slips, .ref aT_lates, .ref aT_copied, .int T_size, .int T_littleOnes]))])) (va_Qv (fun (_ : Unit) => True) (fun (_ : Unit) t => va_P D vwCl [(aR, .inr (6, [.ref aT, .int y0.1, .int y0.2, .int R_lot])), (aT, .inr (1, [.ref aT_slips, .ref aT_lates, .ref aT_copied, .int T_size, .int T_littleOnes]))] t.heap ∧ va_D (va_A [(aR, .inr (6, [.ref aT, .int R_in, .int R_streak, .int R_lot])), (aT, .inr (1, [.ref aT_slips, .ref aT_lates, .ref aT_copied, .int T_size, .int T_littleOnes]))] sz) [(aR, .inr (6, [.ref aT, .int y0.1, .int y0.2, .int R_lot])), (aT, .inr (1, [.ref aT_slips, .ref aT_lates, .ref aT_copied, .int T_size, .int T_littleOnes]))]) (va_A [(aR, .inr (6, [.ref aT, .int R_in, .int R_streak, .int R_lot])), (aT, .inr (1, [.ref aT_slips, .ref aT_lates, .ref aT_copied, .int T_size, .int T_littleOnes]))] sz)) 0 0 (va_A [(aR, .inr (6, [.ref aT, .int R_in, .int R_streak, .int R_lot])), (aT, .inr (1, [.ref aT_slips, .ref aT_lates, .ref aT_copied, .int T_size, .int T_littleOnes]))] sz) := by
  refine Met.ofW (cc := cX6_startAnew) (maxL := 1) (ret := none) (by decide) rfl ?_
  intro p e s m args below meth c s₁ B hml hv
  obtain ⟨rfl, hsz, hP, hKK, hD0⟩ := hv
  have hx := B.exec
  have hb := B.bytes
  have hr := B.returns
  have hts := atoms_spec (ws := wsX6_startAnew) B.pre
  have hown : s.vm.findClass RX6 = some m.cls := findClass_of_methodNamed B.named
  have hlocks := B.notSynchronized
  have hK := hKK.1
  have fl_9 := hts (.fieldLink RX6 9 "SimonSays$Round" "told" "LSimonSays$Children;") (by decide +kernel)
  have inX6 : ∀ w ∈ wsX60, w ∈ wsX6_startAnew := by decide +kernel
  subst hsz
  have hD := hD0.self (sz := s.heap.size)
  generalize hAe : va_A [(aR, .inr (6, [.ref aT, .int R_in, .int R_streak, .int R_lot])), (aT, .inr (1, [.ref aT_slips, .ref aT_lates, .ref aT_copied, .int T_size, .int T_littleOnes]))] s.heap.size = A at hD ⊢
  have hA : ∀ q : Nat, s.heap.size ≤ q → A q := fun q h => by rw [← hAe]; exact Or.inr h
  have hS : va_S A s.heap s.heap [] := va_S.rf
  have hl := lv_entry ([.ref aR]) (n := 1) (Nat.le_of_ble_eq_true rfl)
  rw [lg_entry_eq]
  generalize (lg_sl ([.ref aR]) ++ List.replicate (1 - (lg_sl ([.ref aR])).length) Slot.unset).toArray = ls at hl ⊢
  have hl : lv_has ls 1 [(0, .ref aR)] := hl
  unfold f_X6_startAnew at h
  refine lv_aload_n hx hb dX6_startAnew_0 rfl (lv_at hl 0 rfl) ?_
  refine lv_aload_n hx hb dX6_startAnew_1 rfl (lv_at hl 0 rfl) ?_
  refine va_get (D := D) (ci := 6) (v := .ref aT) (C := RX6) (T := TX6) (N := 4) hx hb hts inX6 hown hK hP 0 rfl rfl 0 (by decide) fl_9 (fun _ h9 => h9) rfl dX6_startAnew_2 ?_
  have hPc : va_P D vwCl [(aT, .inr (1, [.ref aT_slips, .ref aT_lates, .ref aT_copied, .int T_size, .int T_littleOnes]))] s.heap := hP.sub [1] rfl
  refine vp_callSi (va_Run.run (va_runV (As := []) (rest := [.ref aR]) ⟨hx, hb, hml, hown, hts⟩ (c_X1_everyone l D cI cJ cZ cO aT aT_slips aT_lates aT_copied T_size T_littleOnes _ rfl) (cwV 0 hts gX6_startAnew_X1_everyone rfl rfl rfl (by decide +kernel) ⟨Nat.le_of_ble_eq_true rfl, Nat.le_of_ble_eq_true rfl⟩) ⟨fb_p, va_recv hK hP (ci := 1) (q0 := 1) rfl rfl, fun U hU hW => ⟨rfl, by rw [hU]; exact hPc, KK.warm hW hKK⟩⟩ rfl rfl hl.1 rfl (lv_room (Nat.le_of_ble_eq_true rfl)) dX6_startAnew_5 ⟨Nat.le_of_ble_eq_true rfl, Nat.le_of_ble_eq_true rfl⟩)) (fun r hr => ?_)
  replace hr := hr.symm
  subst hr
  refine lv_iconst (v := (0 : Int32)) hx hb dX6_startAnew_8 (by decide) ?_
  obtain ⟨y1, qy1, h⟩ := ob_some h
  have hPc : va_P D vwCl [(aR, .inr (6, [.ref aT, .int R_in, .int R_streak, .int R_lot]))] s.heap := hP.sub [0] rfl
  have hDc : va_D A [(aR, .inr (6, [.ref aT, .int R_in, .int R_streak, .int R_lot]))] := hD.sub [0] (by decide) rfl
  have hFc := va_free (wc := [(aR, .inr (6, [.ref aT, .int R_in, .int R_streak, .int R_lot]))]) hD hS hA [0] rfl
  refine va_callv (va_runV (As := [.int (f_X1_everyone T_size), .int (0 : Int32)]) (rest := []) ⟨hx, hb, hml, hown, hts⟩ (c_X6_become l D cI cJ cZ cO aR aT R_in R_streak R_lot s.heap.size (f_X1_everyone T_size) (0 : Int32) y1 qy1) (cwV 2 hts gX6_startAnew_X6_become rfl rfl rfl (by decide +kernel) ⟨Nat.le_of_ble_eq_true rfl, Nat.le_of_ble_eq_true rfl⟩) ⟨fb_i, va_recv hK hP (ci := 6) (q0 := 0) rfl rfl, fun U hU hW => ⟨rfl, by rw [hU], by rw [hU]; exact hPc, KK.warm hW hKK, hDc.weaken (fun _ _ _ _ => trivial)⟩⟩ rfl rfl hl.1 rfl (lv_room (Nat.le_of_ble_eq_true rfl)) dX6_startAnew_9 ⟨Nat.le_of_ble_eq_true rfl, Nat.le_of_ble_eq_true rfl⟩) hS (fun q _ h => hFc q h) hFc (fun u t H1 locs ht hvm hw hB hz1 hk1 hS => ?_)
  obtain ⟨hP1, hD1⟩ := hB
  rw [ht] at hP1
  obtain ⟨hP, hD⟩ := va_join (wr := [(aT, .inr (1, [.ref aT_slips, .ref aT_lates, .ref aT_copied, .int T_size, .int T_littleOnes]))]) (w1 := [(aR, .inr (6, [.ref aT, .int y1.1, .int y1.2, .int R_lot]))]) hP hD [0] [1] rfl rfl (by decide) (by decide) hk1 hFc hP1 hD1
  generalize H1 = H at hP hS ⊢
  have hP : va_P D vwCl [(aR, .inr (6, [.ref aT, .int y1.1, .int y1.2, .int R_lot])), (aT, .inr (1, [.ref aT_slips, .ref aT_lates, .ref aT_copied, .int T_size, .int T_littleOnes]))] H := hP.sub [1, 0] rfl
  have hD : va_D A [(aR, .inr (6, [.ref aT, .int y1.1, .int y1.2, .int R_lot])), (aT, .inr (1, [.ref aT_slips, .ref aT_lates, .ref aT_copied, .int T_size, .int T_littleOnes]))] := hD.sub [1, 0] (by decide) rfl
  have hy := Option.some.inj h
  subst hy
  exact W.vret hx hb hr (fun t ht hW => ⟨⟨(), rfl, trivial, by rw [ht]; exact hP, hD⟩, hS.F ht⟩) hS.2.2 dX6_startAnew_12

def f_X6_draw (R_lot : Int32) : Option (Int32 × Int32) := some ((((((R_lot * (1103515245 : Int32)) + (12345 : Int32)).toUInt32 >>> ((16 : Int32).toUInt32 &&& Int32.toUInt32 31)).toInt32) - ((((R_lot * (1103515245 : Int32)) + (12345 : Int32)).toUInt32 >>> ((16 : Int32).toUInt32 &&& Int32.toUInt32 31)).toInt32) / (10 : Int32) * (10 : Int32)), ((R_lot * (1103515245 : Int32)) + (12345 : Int32)))
set_option maxHeartbeats 8000000 in
set_option maxRecDepth 100000 in
theorem c_X6_draw (l : Launch) (D : va_G) (cI cJ cZ cO : ClassId) (aR : Nat) (aT : Nat) (R_in : Int32) (R_streak : Int32) (R_lot : Int32) (sz : Nat)   (y0 : Int32 × Int32) (h : f_X6_draw R_lot = some y0) : Met l yX6_draw wsX6_draw ({ frames := 0, cells := 0, slots := 0, locals := 0 } : Room) (va_Pc [.ref aR] (fun U => U.heap.size = sz ∧ va_P D vwCl [(aR, .inr (6, [.ref aT, .int R_in, .int R_streak, .int R_lot]))] U.heap ∧ KK D cI cJ cZ cO U ∧ va_D (fun _ => True) [(aR, .inr (6, [.ref aT, .int R_in, .int R_streak, .int R_lot]))])) (va_Qi (fun (r : Int32) (_ : Unit) => r = y0.1) (fun (_ : Unit) t => va_P D vwCl [(aR, .inr (6, [.ref aT, .int R_in, .int R_streak, .int y0.2]))] t.heap ∧ va_D (va_A [(aR, .inr (6, [.ref aT, .int R_in, .int R_streak, .int R_lot]))] sz) [(aR, .inr (6, [.ref aT, .int R_in, .int R_streak, .int y0.2]))]) (va_A [(aR, .inr (6, [.ref aT, .int R_in, .int R_streak, .int R_lot]))] sz)) 0 0 (va_A [(aR, .inr (6, [.ref aT, .int R_in, .int R_streak, .int R_lot]))] sz) := by
  refine Met.ofW (cc := cX6_draw) (maxL := 1) (ret := (some .int)) (by decide) rfl ?_
  intro p e s m args below meth c s₁ B hml hv
  obtain ⟨rfl, hsz, hP, hKK, hD0⟩ := hv
  have hx := B.exec
  have hb := B.bytes
  have hr := B.returns
  have hts := atoms_spec (ws := wsX6_draw) B.pre
  have hown : s.vm.findClass RX6 = some m.cls := findClass_of_methodNamed B.named
  have hlocks := B.notSynchronized
  have hK := hKK.1
  have fl_15 := hts (.fieldLink RX6 15 "SimonSays$Round" "lot" "I") (by decide +kernel)
  have cst_74 := hts (.constant RX6 74 (1103515245)) (by decide +kernel)
  have inX6 : ∀ w ∈ wsX60, w ∈ wsX6_draw := by decide +kernel
  subst hsz
  have hD := hD0.self (sz := s.heap.size)
  generalize hAe : va_A [(aR, .inr (6, [.ref aT, .int R_in, .int R_streak, .int R_lot]))] s.heap.size = A at hD ⊢
  have hA : ∀ q : Nat, s.heap.size ≤ q → A q := fun q h => by rw [← hAe]; exact Or.inr h
  have hS : va_S A s.heap s.heap [] := va_S.rf
  have hl := lv_entry ([.ref aR]) (n := 1) (Nat.le_of_ble_eq_true rfl)
  rw [lg_entry_eq]
  generalize (lg_sl ([.ref aR]) ++ List.replicate (1 - (lg_sl ([.ref aR])).length) Slot.unset).toArray = ls at hl ⊢
  have hl : lv_has ls 1 [(0, .ref aR)] := hl
  unfold f_X6_draw at h
  refine lv_aload_n hx hb dX6_draw_0 rfl (lv_at hl 0 rfl) ?_
  refine lv_aload_n hx hb dX6_draw_1 rfl (lv_at hl 0 rfl) ?_
  refine va_get (D := D) (ci := 6) (v := .int R_lot) (C := RX6) (T := TX6) (N := 4) hx hb hts inX6 hown hK hP 0 rfl rfl 3 (by decide) fl_15 (fun _ h9 => h9) rfl dX6_draw_2 ?_
  refine lv_ldc (v := (1103515245 : Int32)) hx hb hown cst_74 dX6_draw_5 ?_
  refine lv_imul hx hb dX6_draw_7 ?_
  refine lv_sipush (v := (12345 : Int32)) hx hb dX6_draw_8 (by decide) ?_
  refine lv_iadd hx hb dX6_draw_11 ?_
  refine va_put (D := D) (ci := 6) (v := .int ((R_lot * (1103515245 : Int32)) + (12345 : Int32))) (ty := .int) (C := RX6) (T := TX6) (N := 4) hx hb hts inX6 tyX6 tyX6_ok nmX6 hown hK hP hD hS 0 rfl rfl 3 (by decide) fl_15 (fun _ h9 => h9) rfl (by decide +kernel) rfl rfl (Nat.le_of_ble_eq_true rfl) dX6_draw_12 (fun H locs hP hD hS => ?_)
  have hP : va_P D vwCl [(aR, .inr (6, [.ref aT, .int R_in, .int R_streak, .int ((R_lot * (1103515245 : Int32)) + (12345 : Int32))]))] H := hP
  have hD : va_D A [(aR, .inr (6, [.ref aT, .int R_in, .int R_streak, .int ((R_lot * (1103515245 : Int32)) + (12345 : Int32))]))] := hD
  refine lv_aload_n hx hb dX6_draw_15 rfl (lv_at hl 0 rfl) ?_
  refine va_get (D := D) (ci := 6) (v := .int ((R_lot * (1103515245 : Int32)) + (12345 : Int32))) (C := RX6) (T := TX6) (N := 4) hx hb hts inX6 hown hK hP 0 rfl rfl 3 (by decide) fl_15 (fun _ h9 => h9) rfl dX6_draw_16 ?_
  refine lv_bipush (v := (16 : Int32)) hx hb dX6_draw_19 (by decide) ?_
  refine lv_iushr (v := (((R_lot * (1103515245 : Int32)) + (12345 : Int32)).toUInt32 >>> ((16 : Int32).toUInt32 &&& Int32.toUInt32 31)).toInt32) hx hb dX6_draw_21 rfl ?_
  refine lv_bipush (v := (10 : Int32)) hx hb dX6_draw_22 (by decide) ?_
  refine lv_irem hx hb dX6_draw_24 (by decide) ?_
  have hy := Option.some.inj h
  subst hy
  exact W.iret (v := (((((R_lot * (1103515245 : Int32)) + (12345 : Int32)).toUInt32 >>> ((16 : Int32).toUInt32 &&& Int32.toUInt32 31)).toInt32) - ((((R_lot * (1103515245 : Int32)) + (12345 : Int32)).toUInt32 >>> ((16 : Int32).toUInt32 &&& Int32.toUInt32 31)).toInt32) / (10 : Int32) * (10 : Int32))) hx hb hr (fun t ht hW => ⟨⟨(((((R_lot * (1103515245 : Int32)) + (12345 : Int32)).toUInt32 >>> ((16 : Int32).toUInt32 &&& Int32.toUInt32 31)).toInt32) - ((((R_lot * (1103515245 : Int32)) + (12345 : Int32)).toUInt32 >>> ((16 : Int32).toUInt32 &&& Int32.toUInt32 31)).toInt32) / (10 : Int32) * (10 : Int32)), (), rfl, rfl, by rw [ht]; exact hP, hD⟩, hS.F ht⟩) hS.2.2 dX6_draw_25

def f_X6_obey_L4 (T_size : Int32) (T_slips : Nat → Int32) (T_lates : Nat → Int32) (T_copied : Nat → Int32) : Nat → Int32 → Int32 → Int32 → Int32 → Int32 → Int32 → Option (Int32 × Int32 × Int32 × Int32)
  | 0, _, _, _, _, _, _ => none
  | n + 1, R_in, R_streak, R_lot, x1, x2, x3 => (if (f_X1_size T_size) ≤ x3 then (Option.bind (f_X6_become R_in R_streak (R_in &&& (x2 ^^^ (-1 : Int32))) (f_X9_streakBehind x1 R_streak)) (fun y2 => some (x2, y2.1, y2.2, R_lot))) else (Option.bind (f_X6_isLeader R_in T_size T_copied x3) (fun y3 => (if y3 = 0 then f_X6_obey_L4 T_size T_slips T_lates T_copied n R_in R_streak R_lot x1 x2 (x3 + (1 : Int32)) else (Option.bind (f_X6_draw R_lot) (fun y6 => (Option.bind (f_X1_errsOf T_size T_slips T_lates x3 x1 R_streak) (fun y7 => (if y7 ≤ y6.1 then f_X6_obey_L4 T_size T_slips T_lates T_copied n R_in R_streak y6.2 x1 x2 (x3 + (1 : Int32)) else (Option.bind (f_X6_groupOf R_in T_size T_copied x3) (fun y9 => f_X6_obey_L4 T_size T_slips T_lates T_copied n R_in R_streak y6.2 x1 (x2 ||| y9) (x3 + (1 : Int32)))))))))))))
def f_X6_obey (R_in : Int32) (R_streak : Int32) (R_lot : Int32) (T_size : Int32) (T_slips : Nat → Int32) (T_lates : Nat → Int32) (T_copied : Nat → Int32) (p1 : Int32) : Option (Int32 × Int32 × Int32 × Int32) := f_X6_obey_L4 T_size T_slips T_lates T_copied 300 R_in R_streak R_lot p1 (0 : Int32) (0 : Int32)
set_option maxHeartbeats 8000000 in
set_option maxRecDepth 100000 in
theorem c_X6_obey (l : Launch) (D : va_G) (cI cJ cZ cO : ClassId) (aR : Nat) (aT : Nat) (aT_slips : Nat) (aT_lates : Nat) (aT_copied : Nat) (R_in : Int32) (R_streak : Int32) (R_lot : Int32) (T_size : Int32) (T_littleOnes : Int32) (T_slips : Nat → Int32) (T_lates : Nat → Int32) (T_copied : Nat → Int32) (sz : Nat) (p1 : Int32)  (y0 : Int32 × Int32 × Int32 × Int32) (h : f_X6_obey R_in R_streak R_lot T_size T_slips T_lates T_copied p1 = some y0) : Met l yX6_obey wsX6_obey ({ frames := 4, cells := 0, slots := 0, locals := 89 } : Room) (va_Pc [.ref aR, .int p1] (fun U => U.heap.size = sz ∧ va_P D vwCl [(aR, .inr (6, [.ref aT, .int R_in, .int R_streak, .int R_lot])), (aT, .inr (1, [.ref aT_slips, .ref aT_lates, .ref aT_copied, .int T_size, .int T_littleOnes])), (aT_slips, .inl (cI, 6, .inl T_slips)), (aT_lates, .inl (cI, 6, .inl T_lates)), (aT_copied, .inl (cI, 6, .inl T_copied))] U.heap ∧ KK D cI cJ cZ cO U ∧ va_D (fun _ => True) [(aR, .inr (6, [.ref aT, .int R_in, .int R_streak, .int R_lot])), (aT, .inr (1, [.ref aT_slips, .ref aT_lates, .ref aT_copied, .int T_size, .int T_littleOnes])), (aT_slips, .inl (cI, 6, .inl T_slips)), (aT_lates, .inl (cI, 6, .inl T_lates)), (aT_copied, .inl (cI, 6, .inl T_copied))])) (va_Qi (fun (r : Int32) (_ : Unit) => r = y0.1) (fun (_ : Unit) t => va_P D vwCl [(aR, .inr (6, [.ref aT, .int y0.2.1, .int y0.2.2.1, .int y0.2.2.2])), (aT, .inr (1, [.ref aT_slips, .ref aT_lates, .ref aT_copied, .int T_size, .int T_littleOnes])), (aT_slips, .inl (cI, 6, .inl T_slips)), (aT_lates, .inl (cI, 6, .inl T_lates)), (aT_copied, .inl (cI, 6, .inl T_copied))] t.heap ∧ va_D (va_A [(aR, .inr (6, [.ref aT, .int R_in, .int R_streak, .int R_lot])), (aT, .inr (1, [.ref aT_slips, .ref aT_lates, .ref aT_copied, .int T_size, .int T_littleOnes])), (aT_slips, .inl (cI, 6, .inl T_slips)), (aT_lates, .inl (cI, 6, .inl T_lates)), (aT_copied, .inl (cI, 6, .inl T_copied))] sz) [(aR, .inr (6, [.ref aT, .int y0.2.1, .int y0.2.2.1, .int y0.2.2.2])), (aT, .inr (1, [.ref aT_slips, .ref aT_lates, .ref aT_copied, .int T_size, .int T_littleOnes])), (aT_slips, .inl (cI, 6, .inl T_slips)), (aT_lates, .inl (cI, 6, .inl T_lates)), (aT_copied, .inl (cI, 6, .inl T_copied))]) (va_A [(aR, .inr (6, [.ref aT, .int R_in, .int R_streak, .int R_lot])), (aT, .inr (1, [.ref aT_slips, .ref aT_lates, .ref aT_copied, .int T_size, .int T_littleOnes])), (aT_slips, .inl (cI, 6, .inl T_slips)), (aT_lates, .inl (cI, 6, .inl T_lates)), (aT_copied, .inl (cI, 6, .inl T_copied))] sz)) 0 0 (va_A [(aR, .inr (6, [.ref aT, .int R_in, .int R_streak, .int R_lot])), (aT, .inr (1, [.ref aT_slips, .ref aT_lates, .ref aT_copied, .int T_size, .int T_littleOnes])), (aT_slips, .inl (cI, 6, .inl T_slips)), (aT_lates, .inl (cI, 6, .inl T_lates)), (aT_copied, .inl (cI, 6, .inl T_copied))] sz) := by
  refine Met.ofW (cc := cX6_obey) (maxL := 4) (ret := (some .int)) (by decide) rfl ?_
  intro p e s m args below meth c s₁ B hml hv
  obtain ⟨rfl, hsz, hP, hKK, hD0⟩ := hv
  have hx := B.exec
  have hb := B.bytes
  have hr := B.returns
  have hts := atoms_spec (ws := wsX6_obey) B.pre
  have hown : s.vm.findClass RX6 = some m.cls := findClass_of_methodNamed B.named
  have hlocks := B.notSynchronized
  have hK := hKK.1
  have fl_9 := hts (.fieldLink RX6 9 "SimonSays$Round" "told" "LSimonSays$Children;") (by decide +kernel)
  have fl_29 := hts (.fieldLink RX6 29 "SimonSays$Round" "in" "I") (by decide +kernel)
  have fl_32 := hts (.fieldLink RX6 32 "SimonSays$Round" "streak" "I") (by decide +kernel)
  have ini_X9 := hts (.initialized RX9) (by decide +kernel)
  have sta_X9_streakBehind := hts (.static yX9_streakBehind) (by decide +kernel)
  have inX6 : ∀ w ∈ wsX60, w ∈ wsX6_obey := by decide +kernel
  subst hsz
  have hD := hD0.self (sz := s.heap.size)
  generalize hAe : va_A [(aR, .inr (6, [.ref aT, .int R_in, .int R_streak, .int R_lot])), (aT, .inr (1, [.ref aT_slips, .ref aT_lates, .ref aT_copied, .int T_size, .int T_littleOnes])), (aT_slips, .inl (cI, 6, .inl T_slips)), (aT_lates, .inl (cI, 6, .inl T_lates)), (aT_copied, .inl (cI, 6, .inl T_copied))] s.heap.size = A at hD ⊢
  have hA : ∀ q : Nat, s.heap.size ≤ q → A q := fun q h => by rw [← hAe]; exact Or.inr h
  have hS : va_S A s.heap s.heap [] := va_S.rf
  have hl := lv_entry ([.ref aR, .int p1]) (n := 4) (Nat.le_of_ble_eq_true rfl)
  rw [lg_entry_eq]
  generalize (lg_sl ([.ref aR, .int p1]) ++ List.replicate (4 - (lg_sl ([.ref aR, .int p1])).length) Slot.unset).toArray = ls at hl ⊢
  have hl : lv_has ls 4 [(0, .ref aR), (1, .int p1)] := hl
  have L4 : ∀ (n : Nat), ∀ (R_in : Int32) (R_streak : Int32) (R_lot : Int32) (x1 : Int32) (x2 : Int32) (x3 : Int32), ∀ (H : Heap) (locs : List Loc), va_P D vwCl [(aR, .inr (6, [.ref aT, .int R_in, .int R_streak, .int R_lot])), (aT, .inr (1, [.ref aT_slips, .ref aT_lates, .ref aT_copied, .int T_size, .int T_littleOnes])), (aT_slips, .inl (cI, 6, .inl T_slips)), (aT_lates, .inl (cI, 6, .inl T_lates)), (aT_copied, .inl (cI, 6, .inl T_copied))] H → va_D A [(aR, .inr (6, [.ref aT, .int R_in, .int R_streak, .int R_lot])), (aT, .inr (1, [.ref aT_slips, .ref aT_lates, .ref aT_copied, .int T_size, .int T_littleOnes])), (aT_slips, .inl (cI, 6, .inl T_slips)), (aT_lates, .inl (cI, 6, .inl T_lates)), (aT_copied, .inl (cI, 6, .inl T_copied))] → va_S A s.heap H locs → ∀ (ls : Array Slot), lv_has ls 4 [(0, .ref aR), (1, .int x1), (2, .int x2), (3, .int x3)] → f_X6_obey_L4 T_size T_slips T_lates T_copied n R_in R_streak R_lot x1 x2 x3 = some y0 → W p l e (headSpec wsX6_obey ({ frames := 4, cells := 0, slots := 0, locals := 89 } : Room)).room s m ([.ref aR, .int p1] : List Value).toArray below meth c H locs 0 0 (MQ below (va_Qi (fun (r : Int32) (_ : Unit) => r = y0.1) (fun (_ : Unit) t => va_P D vwCl [(aR, .inr (6, [.ref aT, .int y0.2.1, .int y0.2.2.1, .int y0.2.2.2])), (aT, .inr (1, [.ref aT_slips, .ref aT_lates, .ref aT_copied, .int T_size, .int T_littleOnes])), (aT_slips, .inl (cI, 6, .inl T_slips)), (aT_lates, .inl (cI, 6, .inl T_lates)), (aT_copied, .inl (cI, 6, .inl T_copied))] t.heap ∧ va_D A [(aR, .inr (6, [.ref aT, .int y0.2.1, .int y0.2.2.1, .int y0.2.2.2])), (aT, .inr (1, [.ref aT_slips, .ref aT_lates, .ref aT_copied, .int T_size, .int T_littleOnes])), (aT_slips, .inl (cI, 6, .inl T_slips)), (aT_lates, .inl (cI, 6, .inl T_lates)), (aT_copied, .inl (cI, 6, .inl T_copied))]) A) ([.ref aR, .int p1] : List Value).toArray s 0 0 A) (F0 m 4 ls []) := by
    intro n
    induction n with
    | zero =>
      intro R_in R_streak R_lot x1 x2 x3 H locs hP hD hS ls hl h
      exact (ns h).elim
    | succ n ih =>
      intro R_in R_streak R_lot x1 x2 x3 H locs hP hD hS ls hl h
      unfold f_X6_obey_L4 at h
      refine lv_iload_n hx hb dX6_obey_4 rfl (lv_at hl 3 rfl) ?_
      refine lv_aload_n hx hb dX6_obey_5 rfl (lv_at hl 0 rfl) ?_
      refine va_get (D := D) (ci := 6) (v := .ref aT) (C := RX6) (T := TX6) (N := 4) hx hb hts inX6 hown hK hP 0 rfl rfl 0 (by decide) fl_9 (fun _ h9 => h9) rfl dX6_obey_6 ?_
      have hPc : va_P D vwCl [(aT, .inr (1, [.ref aT_slips, .ref aT_lates, .ref aT_copied, .int T_size, .int T_littleOnes]))] H := hP.sub [1] rfl
      refine vp_callSi (va_Run.run (va_runV (As := []) (rest := [.int x3]) ⟨hx, hb, hml, hown, hts⟩ (c_X1_size l D cI cJ cZ cO aT aT_slips aT_lates aT_copied T_size T_littleOnes _ rfl) (cwV 0 hts gX6_obey_X1_size rfl rfl rfl (by decide +kernel) ⟨Nat.le_of_ble_eq_true rfl, Nat.le_of_ble_eq_true rfl⟩) ⟨fb_p, va_recv hK hP (ci := 1) (q0 := 1) rfl rfl, fun U hU hW => ⟨rfl, by rw [hU]; exact hPc, KK.warm hW hKK⟩⟩ rfl rfl hl.1 rfl (lv_room (Nat.le_of_ble_eq_true rfl)) dX6_obey_9 ⟨Nat.le_of_ble_eq_true rfl, Nat.le_of_ble_eq_true rfl⟩)) (fun r hr => ?_)
      replace hr := hr.symm
      subst hr
      refine lv_icmp_ge (tgt := 57) hx hb dX6_obey_12 (by decide) (fun c_1 => ?_) (fun c_1 => ?_)
      · replace h := if_p c_1 h
        refine lv_aload_n hx hb dX6_obey_57 rfl (lv_at hl 0 rfl) ?_
        refine lv_aload_n hx hb dX6_obey_58 rfl (lv_at hl 0 rfl) ?_
        refine va_get (D := D) (ci := 6) (v := .int R_in) (C := RX6) (T := TX6) (N := 4) hx hb hts inX6 hown hK hP 0 rfl rfl 1 (by decide) fl_29 (fun _ h9 => h9) rfl dX6_obey_59 ?_
        refine lv_iload_n hx hb dX6_obey_62 rfl (lv_at hl 2 rfl) ?_
        refine lv_iconst (v := (-1 : Int32)) hx hb dX6_obey_63 (by decide) ?_
        refine lv_ixor hx hb dX6_obey_64 ?_
        refine lv_iand hx hb dX6_obey_65 ?_
        refine lv_iload_n hx hb dX6_obey_66 rfl (lv_at hl 1 rfl) ?_
        refine lv_aload_n hx hb dX6_obey_67 rfl (lv_at hl 0 rfl) ?_
        refine va_get (D := D) (ci := 6) (v := .int R_streak) (C := RX6) (T := TX6) (N := 4) hx hb hts inX6 hown hK hP 0 rfl rfl 2 (by decide) fl_32 (fun _ h9 => h9) rfl dX6_obey_68 ?_
        have hPc : va_P D vwCl [] H := hP.sub [] rfl
        refine vp_callSi (va_Run.run (va_runSN (As := [.int x1, .int R_streak]) (rest := [.int (R_in &&& (x2 ^^^ (-1 : Int32))), .ref aR]) ⟨hx, hb, hml, hown, hts⟩ (c_X9_streakBehind l D cI cJ cZ cO x1 R_streak _ rfl) ⟨va_cnB (host := "SimonSays") 2 hts gX6_obey_X9_streakBehind_n70 rfl rfl rfl (gN_X6_70 hKK.2) ini_X9 (by decide +kernel) ⟨Nat.le_of_ble_eq_true rfl, Nat.le_of_ble_eq_true rfl⟩, sta_X9_streakBehind, trivial⟩ ⟨fb_p, fun U hU hW => ⟨rfl, by rw [hU]; exact hPc, KK.warm hW hKK⟩⟩ rfl rfl hl.1 rfl (lv_room (Nat.le_of_ble_eq_true rfl)) dX6_obey_71 ⟨Nat.le_of_ble_eq_true rfl, Nat.le_of_ble_eq_true rfl⟩)) (fun r hr => ?_)
        replace hr := hr.symm
        subst hr
        obtain ⟨y2, qy2, h⟩ := ob_some h
        have hPc : va_P D vwCl [(aR, .inr (6, [.ref aT, .int R_in, .int R_streak, .int R_lot]))] H := hP.sub [0] rfl
        have hDc : va_D A [(aR, .inr (6, [.ref aT, .int R_in, .int R_streak, .int R_lot]))] := hD.sub [0] (by decide) rfl
        have hFc := va_free (wc := [(aR, .inr (6, [.ref aT, .int R_in, .int R_streak, .int R_lot]))]) hD hS hA [0] rfl
        refine va_callv (va_runV (As := [.int (R_in &&& (x2 ^^^ (-1 : Int32))), .int (f_X9_streakBehind x1 R_streak)]) (rest := []) ⟨hx, hb, hml, hown, hts⟩ (c_X6_become l D cI cJ cZ cO aR aT R_in R_streak R_lot H.size (R_in &&& (x2 ^^^ (-1 : Int32))) (f_X9_streakBehind x1 R_streak) y2 qy2) (cwV 2 hts gX6_obey_X6_become rfl rfl rfl (by decide +kernel) ⟨Nat.le_of_ble_eq_true rfl, Nat.le_of_ble_eq_true rfl⟩) ⟨fb_i, va_recv hK hP (ci := 6) (q0 := 0) rfl rfl, fun U hU hW => ⟨rfl, by rw [hU], by rw [hU]; exact hPc, KK.warm hW hKK, hDc.weaken (fun _ _ _ _ => trivial)⟩⟩ rfl rfl hl.1 rfl (lv_room (Nat.le_of_ble_eq_true rfl)) dX6_obey_74 ⟨Nat.le_of_ble_eq_true rfl, Nat.le_of_ble_eq_true rfl⟩) hS (fun q _ h => hFc q h) hFc (fun u t H1 locs ht hvm hw hB hz1 hk1 hS => ?_)
        obtain ⟨hP1, hD1⟩ := hB
        rw [ht] at hP1
        obtain ⟨hP, hD⟩ := va_join (wr := [(aT, .inr (1, [.ref aT_slips, .ref aT_lates, .ref aT_copied, .int T_size, .int T_littleOnes])), (aT_slips, .inl (cI, 6, .inl T_slips)), (aT_lates, .inl (cI, 6, .inl T_lates)), (aT_copied, .inl (cI, 6, .inl T_copied))]) (w1 := [(aR, .inr (6, [.ref aT, .int y2.1, .int y2.2, .int R_lot]))]) hP hD [0] [1, 2, 3, 4] rfl rfl (by decide) (by decide) hk1 hFc hP1 hD1
        generalize H1 = H at hP hS ⊢
        have hP : va_P D vwCl [(aR, .inr (6, [.ref aT, .int y2.1, .int y2.2, .int R_lot])), (aT, .inr (1, [.ref aT_slips, .ref aT_lates, .ref aT_copied, .int T_size, .int T_littleOnes])), (aT_slips, .inl (cI, 6, .inl T_slips)), (aT_lates, .inl (cI, 6, .inl T_lates)), (aT_copied, .inl (cI, 6, .inl T_copied))] H := hP.sub [4, 0, 1, 2, 3] rfl
        have hD : va_D A [(aR, .inr (6, [.ref aT, .int y2.1, .int y2.2, .int R_lot])), (aT, .inr (1, [.ref aT_slips, .ref aT_lates, .ref aT_copied, .int T_size, .int T_littleOnes])), (aT_slips, .inl (cI, 6, .inl T_slips)), (aT_lates, .inl (cI, 6, .inl T_lates)), (aT_copied, .inl (cI, 6, .inl T_copied))] := hD.sub [4, 0, 1, 2, 3] (by decide) rfl
        refine lv_iload_n hx hb dX6_obey_77 rfl (lv_at hl 2 rfl) ?_
        have hy := Option.some.inj h
        subst hy
        exact W.iret (v := x2) hx hb hr (fun t ht hW => ⟨⟨x2, (), rfl, rfl, by rw [ht]; exact hP, hD⟩, hS.F ht⟩) hS.2.2 dX6_obey_78
      · replace h := if_n c_1 h
        refine lv_aload_n hx hb dX6_obey_15 rfl (lv_at hl 0 rfl) ?_
        refine lv_iload_n hx hb dX6_obey_16 rfl (lv_at hl 3 rfl) ?_
        obtain ⟨y3, qy3, h⟩ := ob_some h
        have hPc : va_P D vwCl [(aR, .inr (6, [.ref aT, .int R_in, .int R_streak, .int R_lot])), (aT, .inr (1, [.ref aT_slips, .ref aT_lates, .ref aT_copied, .int T_size, .int T_littleOnes])), (aT_copied, .inl (cI, 6, .inl T_copied))] H := hP.sub [0, 1, 4] rfl
        refine vp_callSi (va_Run.run (va_runV (As := [.int x3]) (rest := []) ⟨hx, hb, hml, hown, hts⟩ (c_X6_isLeader l D cI cJ cZ cO aR aT aT_copied aT_slips aT_lates R_in R_streak R_lot T_size T_littleOnes T_copied x3 y3 qy3) (cwV 1 hts gX6_obey_X6_isLeader rfl rfl rfl (by decide +kernel) ⟨Nat.le_of_ble_eq_true rfl, Nat.le_of_ble_eq_true rfl⟩) ⟨fb_p, va_recv hK hP (ci := 6) (q0 := 0) rfl rfl, fun U hU hW => ⟨rfl, by rw [hU]; exact hPc, KK.warm hW hKK⟩⟩ rfl rfl hl.1 rfl (lv_room (Nat.le_of_ble_eq_true rfl)) dX6_obey_17 ⟨Nat.le_of_ble_eq_true rfl, Nat.le_of_ble_eq_true rfl⟩)) (fun r hr => ?_)
        obtain ⟨hr, hz4⟩ := hr
        replace hr := hr.symm
        subst hr
        refine lv_if_eq (tgt := 51) hx hb dX6_obey_20 (by decide) (fun c_5 => ?_) (fun c_5 => ?_)
        · replace h := if_p c_5 h
          refine lv_iinc (v := (x3 + (1 : Int32))) (lv' := [(3, .int (x3 + (1 : Int32))), (0, .ref aR), (1, .int x1), (2, .int x2)]) hx hb dX6_obey_51 hl (k := 3) rfl rfl (by decide) rfl (fun ls hl => ?_)
          refine lv_goto (tgt := 4) hx hb dX6_obey_54 (by decide) ?_
          exact ih R_in R_streak R_lot x1 x2 (x3 + (1 : Int32)) _ _ hP hD hS ls (lv_sub hl [1, 2, 3, 0] rfl) h
        · replace h := if_n c_5 h
          refine lv_aload_n hx hb dX6_obey_23 rfl (lv_at hl 0 rfl) ?_
          obtain ⟨y6, qy6, h⟩ := ob_some h
          have hPc : va_P D vwCl [(aR, .inr (6, [.ref aT, .int R_in, .int R_streak, .int R_lot]))] H := hP.sub [0] rfl
          have hDc : va_D A [(aR, .inr (6, [.ref aT, .int R_in, .int R_streak, .int R_lot]))] := hD.sub [0] (by decide) rfl
          have hFc := va_free (wc := [(aR, .inr (6, [.ref aT, .int R_in, .int R_streak, .int R_lot]))]) hD hS hA [0] rfl
          refine va_calli (va_runV (As := []) (rest := []) ⟨hx, hb, hml, hown, hts⟩ (c_X6_draw l D cI cJ cZ cO aR aT R_in R_streak R_lot H.size y6 qy6) (cwV 0 hts gX6_obey_X6_draw rfl rfl rfl (by decide +kernel) ⟨Nat.le_of_ble_eq_true rfl, Nat.le_of_ble_eq_true rfl⟩) ⟨fb_i, va_recv hK hP (ci := 6) (q0 := 0) rfl rfl, fun U hU hW => ⟨rfl, by rw [hU], by rw [hU]; exact hPc, KK.warm hW hKK, hDc.weaken (fun _ _ _ _ => trivial)⟩⟩ rfl rfl hl.1 rfl (lv_room (Nat.le_of_ble_eq_true rfl)) dX6_obey_24 ⟨Nat.le_of_ble_eq_true rfl, Nat.le_of_ble_eq_true rfl⟩) hS (fun q _ h => hFc q h) hFc (fun r u t H1 locs ht hvm hw hB hz1 hk1 hS => ?_)
          obtain ⟨hP1, hD1⟩ := hB
          rw [ht] at hP1
          replace hw := hw.symm
          subst hw
          obtain ⟨hP, hD⟩ := va_join (wr := [(aT, .inr (1, [.ref aT_slips, .ref aT_lates, .ref aT_copied, .int T_size, .int T_littleOnes])), (aT_slips, .inl (cI, 6, .inl T_slips)), (aT_lates, .inl (cI, 6, .inl T_lates)), (aT_copied, .inl (cI, 6, .inl T_copied))]) (w1 := [(aR, .inr (6, [.ref aT, .int R_in, .int R_streak, .int y6.2]))]) hP hD [0] [1, 2, 3, 4] rfl rfl (by decide) (by decide) hk1 hFc hP1 hD1
          generalize H1 = H at hP hS ⊢
          have hP : va_P D vwCl [(aR, .inr (6, [.ref aT, .int R_in, .int R_streak, .int y6.2])), (aT, .inr (1, [.ref aT_slips, .ref aT_lates, .ref aT_copied, .int T_size, .int T_littleOnes])), (aT_slips, .inl (cI, 6, .inl T_slips)), (aT_lates, .inl (cI, 6, .inl T_lates)), (aT_copied, .inl (cI, 6, .inl T_copied))] H := hP.sub [4, 0, 1, 2, 3] rfl
          have hD : va_D A [(aR, .inr (6, [.ref aT, .int R_in, .int R_streak, .int y6.2])), (aT, .inr (1, [.ref aT_slips, .ref aT_lates, .ref aT_copied, .int T_size, .int T_littleOnes])), (aT_slips, .inl (cI, 6, .inl T_slips)), (aT_lates, .inl (cI, 6, .inl T_lates)), (aT_copied, .inl (cI, 6, .inl T_copied))] := hD.sub [4, 0, 1, 2, 3] (by decide) rfl
          refine lv_aload_n hx hb dX6_obey_27 rfl (lv_at hl 0 rfl) ?_
          refine va_get (D := D) (ci := 6) (v := .ref aT) (C := RX6) (T := TX6) (N := 4) hx hb hts inX6 hown hK hP 0 rfl rfl 0 (by decide) fl_9 (fun _ h9 => h9) rfl dX6_obey_28 ?_
          refine lv_iload_n hx hb dX6_obey_31 rfl (lv_at hl 3 rfl) ?_
          refine lv_iload_n hx hb dX6_obey_32 rfl (lv_at hl 1 rfl) ?_
          refine lv_aload_n hx hb dX6_obey_33 rfl (lv_at hl 0 rfl) ?_
          refine va_get (D := D) (ci := 6) (v := .int R_streak) (C := RX6) (T := TX6) (N := 4) hx hb hts inX6 hown hK hP 0 rfl rfl 2 (by decide) fl_32 (fun _ h9 => h9) rfl dX6_obey_34 ?_
          obtain ⟨y7, qy7, h⟩ := ob_some h
          have hPc : va_P D vwCl [(aT, .inr (1, [.ref aT_slips, .ref aT_lates, .ref aT_copied, .int T_size, .int T_littleOnes])), (aT_slips, .inl (cI, 6, .inl T_slips)), (aT_lates, .inl (cI, 6, .inl T_lates))] H := hP.sub [1, 2, 3] rfl
          refine vp_callSi (va_Run.run (va_runV (As := [.int x3, .int x1, .int R_streak]) (rest := [.int y6.1]) ⟨hx, hb, hml, hown, hts⟩ (c_X1_errsOf l D cI cJ cZ cO aT aT_slips aT_lates aT_copied T_size T_littleOnes T_slips T_lates x3 x1 R_streak y7 qy7) (cwV 3 hts gX6_obey_X1_errsOf rfl rfl rfl (by decide +kernel) ⟨Nat.le_of_ble_eq_true rfl, Nat.le_of_ble_eq_true rfl⟩) ⟨fb_p, va_recv hK hP (ci := 1) (q0 := 1) rfl rfl, fun U hU hW => ⟨rfl, by rw [hU]; exact hPc, KK.warm hW hKK⟩⟩ rfl rfl hl.1 rfl (lv_room (Nat.le_of_ble_eq_true rfl)) dX6_obey_37 ⟨Nat.le_of_ble_eq_true rfl, Nat.le_of_ble_eq_true rfl⟩)) (fun r hr => ?_)
          replace hr := hr.symm
          subst hr
          refine lv_icmp_ge (tgt := 51) hx hb dX6_obey_40 (by decide) (fun c_8 => ?_) (fun c_8 => ?_)
          · replace h := if_p c_8 h
            refine lv_iinc (v := (x3 + (1 : Int32))) (lv' := [(3, .int (x3 + (1 : Int32))), (0, .ref aR), (1, .int x1), (2, .int x2)]) hx hb dX6_obey_51 hl (k := 3) rfl rfl (by decide) rfl (fun ls hl => ?_)
            refine lv_goto (tgt := 4) hx hb dX6_obey_54 (by decide) ?_
            exact ih R_in R_streak y6.2 x1 x2 (x3 + (1 : Int32)) _ _ hP hD hS ls (lv_sub hl [1, 2, 3, 0] rfl) h
          · replace h := if_n c_8 h
            refine lv_iload_n hx hb dX6_obey_43 rfl (lv_at hl 2 rfl) ?_
            refine lv_aload_n hx hb dX6_obey_44 rfl (lv_at hl 0 rfl) ?_
            refine lv_iload_n hx hb dX6_obey_45 rfl (lv_at hl 3 rfl) ?_
            obtain ⟨y9, qy9, h⟩ := ob_some h
            have hPc : va_P D vwCl [(aR, .inr (6, [.ref aT, .int R_in, .int R_streak, .int y6.2])), (aT, .inr (1, [.ref aT_slips, .ref aT_lates, .ref aT_copied, .int T_size, .int T_littleOnes])), (aT_copied, .inl (cI, 6, .inl T_copied))] H := hP.sub [0, 1, 4] rfl
            refine vp_callSi (va_Run.run (va_runV (As := [.int x3]) (rest := [.int x2]) ⟨hx, hb, hml, hown, hts⟩ (c_X6_groupOf l D cI cJ cZ cO aR aT aT_copied aT_slips aT_lates R_in R_streak y6.2 T_size T_littleOnes T_copied x3 y9 qy9) (cwV 1 hts gX6_obey_X6_groupOf rfl rfl rfl (by decide +kernel) ⟨Nat.le_of_ble_eq_true rfl, Nat.le_of_ble_eq_true rfl⟩) ⟨fb_p, va_recv hK hP (ci := 6) (q0 := 0) rfl rfl, fun U hU hW => ⟨rfl, by rw [hU]; exact hPc, KK.warm hW hKK⟩⟩ rfl rfl hl.1 rfl (lv_room (Nat.le_of_ble_eq_true rfl)) dX6_obey_46 ⟨Nat.le_of_ble_eq_true rfl, Nat.le_of_ble_eq_true rfl⟩)) (fun r hr => ?_)
            replace hr := hr.symm
            subst hr
            refine lv_ior hx hb dX6_obey_49 ?_
            refine lv_istore_n (lv' := [(2, .int (x2 ||| y9)), (0, .ref aR), (1, .int x1), (3, .int x3)]) hx hb dX6_obey_50 rfl hl (by decide) rfl (fun ls hl => ?_)
            refine lv_iinc (v := (x3 + (1 : Int32))) (lv' := [(3, .int (x3 + (1 : Int32))), (2, .int (x2 ||| y9)), (0, .ref aR), (1, .int x1)]) hx hb dX6_obey_51 hl (k := 3) rfl rfl (by decide) rfl (fun ls hl => ?_)
            refine lv_goto (tgt := 4) hx hb dX6_obey_54 (by decide) ?_
            exact ih R_in R_streak y6.2 x1 (x2 ||| y9) (x3 + (1 : Int32)) _ _ hP hD hS ls (lv_sub hl [2, 3, 1, 0] rfl) h
  unfold f_X6_obey at h
  refine lv_iconst (v := (0 : Int32)) hx hb dX6_obey_0 (by decide) ?_
  refine lv_istore_n (lv' := [(2, .int (0 : Int32)), (0, .ref aR), (1, .int p1)]) hx hb dX6_obey_1 rfl hl (by decide) rfl (fun ls hl => ?_)
  refine lv_iconst (v := (0 : Int32)) hx hb dX6_obey_2 (by decide) ?_
  refine lv_istore_n (lv' := [(3, .int (0 : Int32)), (2, .int (0 : Int32)), (0, .ref aR), (1, .int p1)]) hx hb dX6_obey_3 rfl hl (by decide) rfl (fun ls hl => ?_)
  exact L4 300 R_in R_streak R_lot p1 (0 : Int32) (0 : Int32) _ _ hP hD hS ls (lv_sub hl [2, 3, 1, 0] rfl) h

def f_X6_fewestSaidAhead_L15 (R_in : Int32) (R_streak : Int32) (T_size : Int32) (T_slips : Nat → Int32) (T_lates : Nat → Int32) (T_copied : Nat → Int32) : Nat → Int32 → Int32 → Int32 → Int32 → Option (Int32)
  | 0, _, _, _, _ => none
  | n + 1, x2, x3, x4, x5 => (if (9 : Int32) < x5 then some (-9 : Int32) else (Option.bind (f_X1_errsOf T_size T_slips T_lates x3 (2 : Int32) x4) (fun y3 => (if y3 < x2 then f_X6_fewestSaidAhead_L15 R_in R_streak T_size T_slips T_lates T_copied n x2 x3 (f_X9_streakBehind (1 : Int32) x4) (x5 + (1 : Int32)) else some x5))))
def f_X6_fewestSaidAhead (R_in : Int32) (R_streak : Int32) (T_size : Int32) (T_slips : Nat → Int32) (T_lates : Nat → Int32) (T_copied : Nat → Int32) (p1 : Int32) (p2 : Int32) : Option (Int32) := (Option.bind (f_X6_leaderOf R_in T_size T_copied p1) (fun y1 => f_X6_fewestSaidAhead_L15 R_in R_streak T_size T_slips T_lates T_copied 300 p2 y1 R_streak (0 : Int32)))
set_option maxHeartbeats 8000000 in
set_option maxRecDepth 100000 in
theorem c_X6_fewestSaidAhead (l : Launch) (D : va_G) (cI cJ cZ cO : ClassId) (aR : Nat) (aT : Nat) (aT_slips : Nat) (aT_lates : Nat) (aT_copied : Nat) (R_in : Int32) (R_streak : Int32) (R_lot : Int32) (T_size : Int32) (T_littleOnes : Int32) (T_slips : Nat → Int32) (T_lates : Nat → Int32) (T_copied : Nat → Int32)  (p1 : Int32) (p2 : Int32)  (y0 : Int32) (h : f_X6_fewestSaidAhead R_in R_streak T_size T_slips T_lates T_copied p1 p2 = some y0) : Met l yX6_fewestSaidAhead wsX6_fewestSaidAhead ({ frames := 3, cells := 0, slots := 0, locals := 66 } : Room) (va_Pc [.ref aR, .int p1, .int p2] (fun U => va_P D vwCl [(aR, .inr (6, [.ref aT, .int R_in, .int R_streak, .int R_lot])), (aT, .inr (1, [.ref aT_slips, .ref aT_lates, .ref aT_copied, .int T_size, .int T_littleOnes])), (aT_slips, .inl (cI, 6, .inl T_slips)), (aT_lates, .inl (cI, 6, .inl T_lates)), (aT_copied, .inl (cI, 6, .inl T_copied))] U.heap ∧ KK D cI cJ cZ cO U)) (vp_Si (fun r => r = y0)) 0 0 (fun _ => False) := by
  refine Met.ofW (cc := cX6_fewestSaidAhead) (maxL := 6) (ret := (some .int)) (by decide) rfl ?_
  intro p e s m args below meth c s₁ B hml hv
  obtain ⟨rfl, hP, hKK⟩ := hv
  have hx := B.exec
  have hb := B.bytes
  have hr := B.returns
  have hts := atoms_spec (ws := wsX6_fewestSaidAhead) B.pre
  have hown : s.vm.findClass RX6 = some m.cls := findClass_of_methodNamed B.named
  have hlocks := B.notSynchronized
  have hK := hKK.1
  have fl_9 := hts (.fieldLink RX6 9 "SimonSays$Round" "told" "LSimonSays$Children;") (by decide +kernel)
  have fl_32 := hts (.fieldLink RX6 32 "SimonSays$Round" "streak" "I") (by decide +kernel)
  have ini_X9 := hts (.initialized RX9) (by decide +kernel)
  have sta_X9_streakBehind := hts (.static yX9_streakBehind) (by decide +kernel)
  have inX6 : ∀ w ∈ wsX60, w ∈ wsX6_fewestSaidAhead := by decide +kernel
  have hl := lv_entry ([.ref aR, .int p1, .int p2]) (n := 6) (Nat.le_of_ble_eq_true rfl)
  rw [lg_entry_eq]
  generalize (lg_sl ([.ref aR, .int p1, .int p2]) ++ List.replicate (6 - (lg_sl ([.ref aR, .int p1, .int p2])).length) Slot.unset).toArray = ls at hl ⊢
  have hl : lv_has ls 6 [(0, .ref aR), (1, .int p1), (2, .int p2)] := hl
  have L15 : ∀ (n : Nat), ∀ (x2 : Int32) (x3 : Int32) (x4 : Int32) (x5 : Int32), ∀ (ls : Array Slot), lv_has ls 6 [(0, .ref aR), (2, .int x2), (3, .int x3), (4, .int x4), (5, .int x5)] → f_X6_fewestSaidAhead_L15 R_in R_streak T_size T_slips T_lates T_copied n x2 x3 x4 x5 = some y0 → W p l e (headSpec wsX6_fewestSaidAhead ({ frames := 3, cells := 0, slots := 0, locals := 66 } : Room)).room s m ([.ref aR, .int p1, .int p2] : List Value).toArray below meth c s.heap [] 0 0 (MQ below (vp_Si (fun r => r = y0)) ([.ref aR, .int p1, .int p2] : List Value).toArray s 0 0 (fun _ => False)) (F0 m 15 ls []) := by
    intro n
    induction n with
    | zero =>
      intro x2 x3 x4 x5 ls hl h
      exact (ns h).elim
    | succ n ih =>
      intro x2 x3 x4 x5 ls hl h
      unfold f_X6_fewestSaidAhead_L15 at h
      refine lv_iload hx hb dX6_fewestSaidAhead_15 (lv_at hl 4 rfl) ?_
      refine lv_bipush (v := (9 : Int32)) hx hb dX6_fewestSaidAhead_17 (by decide) ?_
      refine lv_icmp_gt (tgt := 54) hx hb dX6_fewestSaidAhead_19 (by decide) (fun c_2 => ?_) (fun c_2 => ?_)
      · replace h := if_p c_2 h
        refine lv_bipush (v := (-9 : Int32)) hx hb dX6_fewestSaidAhead_54 (by decide) ?_
        exact pr_i hx hb hr hlocks dX6_fewestSaidAhead_56 (Option.some.inj h)
      · replace h := if_n c_2 h
        refine lv_aload_n hx hb dX6_fewestSaidAhead_22 rfl (lv_at hl 0 rfl) ?_
        refine va_get (D := D) (ci := 6) (v := .ref aT) (C := RX6) (T := TX6) (N := 4) hx hb hts inX6 hown hK hP 0 rfl rfl 0 (by decide) fl_9 (fun _ h9 => h9) rfl dX6_fewestSaidAhead_23 ?_
        refine lv_iload_n hx hb dX6_fewestSaidAhead_26 rfl (lv_at hl 2 rfl) ?_
        refine lv_iconst (v := (2 : Int32)) hx hb dX6_fewestSaidAhead_27 (by decide) ?_
        refine lv_iload hx hb dX6_fewestSaidAhead_28 (lv_at hl 3 rfl) ?_
        obtain ⟨y3, qy3, h⟩ := ob_some h
        have hPc : va_P D vwCl [(aT, .inr (1, [.ref aT_slips, .ref aT_lates, .ref aT_copied, .int T_size, .int T_littleOnes])), (aT_slips, .inl (cI, 6, .inl T_slips)), (aT_lates, .inl (cI, 6, .inl T_lates))] s.heap := hP.sub [1, 2, 3] rfl
        refine vp_callSi (va_Run.run (va_runV (As := [.int x3, .int (2 : Int32), .int x4]) (rest := []) ⟨hx, hb, hml, hown, hts⟩ (c_X1_errsOf l D cI cJ cZ cO aT aT_slips aT_lates aT_copied T_size T_littleOnes T_slips T_lates x3 (2 : Int32) x4 y3 qy3) (cwV 3 hts gX6_fewestSaidAhead_X1_errsOf rfl rfl rfl (by decide +kernel) ⟨Nat.le_of_ble_eq_true rfl, Nat.le_of_ble_eq_true rfl⟩) ⟨fb_p, va_recv hK hP (ci := 1) (q0 := 1) rfl rfl, fun U hU hW => ⟨rfl, by rw [hU]; exact hPc, KK.warm hW hKK⟩⟩ rfl rfl hl.1 rfl (lv_room (Nat.le_of_ble_eq_true rfl)) dX6_fewestSaidAhead_30 ⟨Nat.le_of_ble_eq_true rfl, Nat.le_of_ble_eq_true rfl⟩)) (fun r hr => ?_)
        replace hr := hr.symm
        subst hr
        refine lv_iload_n hx hb dX6_fewestSaidAhead_33 rfl (lv_at hl 1 rfl) ?_
        refine lv_icmp_lt (tgt := 40) hx hb dX6_fewestSaidAhead_34 (by decide) (fun c_4 => ?_) (fun c_4 => ?_)
        · replace h := if_p c_4 h
          refine lv_iconst (v := (1 : Int32)) hx hb dX6_fewestSaidAhead_40 (by decide) ?_
          refine lv_iload hx hb dX6_fewestSaidAhead_41 (lv_at hl 3 rfl) ?_
          have hPc : va_P D vwCl [] s.heap := hP.sub [] rfl
          refine vp_callSi (va_Run.run (va_runSN (As := [.int (1 : Int32), .int x4]) (rest := []) ⟨hx, hb, hml, hown, hts⟩ (c_X9_streakBehind l D cI cJ cZ cO (1 : Int32) x4 _ rfl) ⟨va_cnB (host := "SimonSays") 2 hts gX6_fewestSaidAhead_X9_streakBehind_n70 rfl rfl rfl (gN_X6_70 hKK.2) ini_X9 (by decide +kernel) ⟨Nat.le_of_ble_eq_true rfl, Nat.le_of_ble_eq_true rfl⟩, sta_X9_streakBehind, trivial⟩ ⟨fb_p, fun U hU hW => ⟨rfl, by rw [hU]; exact hPc, KK.warm hW hKK⟩⟩ rfl rfl hl.1 rfl (lv_room (Nat.le_of_ble_eq_true rfl)) dX6_fewestSaidAhead_43 ⟨Nat.le_of_ble_eq_true rfl, Nat.le_of_ble_eq_true rfl⟩)) (fun r hr => ?_)
          replace hr := hr.symm
          subst hr
          refine lv_istore (lv' := [(4, .int (f_X9_streakBehind (1 : Int32) x4)), (0, .ref aR), (2, .int x2), (3, .int x3), (5, .int x5)]) hx hb dX6_fewestSaidAhead_46 hl (by decide) rfl (fun ls hl => ?_)
          refine lv_iinc (v := (x5 + (1 : Int32))) (lv' := [(5, .int (x5 + (1 : Int32))), (4, .int (f_X9_streakBehind (1 : Int32) x4)), (0, .ref aR), (2, .int x2), (3, .int x3)]) hx hb dX6_fewestSaidAhead_48 hl (k := 4) rfl rfl (by decide) rfl (fun ls hl => ?_)
          refine lv_goto (tgt := 15) hx hb dX6_fewestSaidAhead_51 (by decide) ?_
          exact ih x2 x3 (f_X9_streakBehind (1 : Int32) x4) (x5 + (1 : Int32)) ls (lv_sub hl [2, 3, 4, 1, 0] rfl) h
        · replace h := if_n c_4 h
          refine lv_iload hx hb dX6_fewestSaidAhead_37 (lv_at hl 4 rfl) ?_
          exact pr_i hx hb hr hlocks dX6_fewestSaidAhead_39 (Option.some.inj h)
  unfold f_X6_fewestSaidAhead at h
  refine lv_aload_n hx hb dX6_fewestSaidAhead_0 rfl (lv_at hl 0 rfl) ?_
  refine lv_iload_n hx hb dX6_fewestSaidAhead_1 rfl (lv_at hl 1 rfl) ?_
  obtain ⟨y1, qy1, h⟩ := ob_some h
  have hPc : va_P D vwCl [(aR, .inr (6, [.ref aT, .int R_in, .int R_streak, .int R_lot])), (aT, .inr (1, [.ref aT_slips, .ref aT_lates, .ref aT_copied, .int T_size, .int T_littleOnes])), (aT_copied, .inl (cI, 6, .inl T_copied))] s.heap := hP.sub [0, 1, 4] rfl
  refine vp_callSi (va_Run.run (va_runV (As := [.int p1]) (rest := []) ⟨hx, hb, hml, hown, hts⟩ (c_X6_leaderOf l D cI cJ cZ cO aR aT aT_copied aT_slips aT_lates R_in R_streak R_lot T_size T_littleOnes T_copied p1 y1 qy1) (cwV 1 hts gX6_fewestSaidAhead_X6_leaderOf rfl rfl rfl (by decide +kernel) ⟨Nat.le_of_ble_eq_true rfl, Nat.le_of_ble_eq_true rfl⟩) ⟨fb_p, va_recv hK hP (ci := 6) (q0 := 0) rfl rfl, fun U hU hW => ⟨rfl, by rw [hU]; exact hPc, KK.warm hW hKK⟩⟩ rfl rfl hl.1 rfl (lv_room (Nat.le_of_ble_eq_true rfl)) dX6_fewestSaidAhead_2 ⟨Nat.le_of_ble_eq_true rfl, Nat.le_of_ble_eq_true rfl⟩)) (fun r hr => ?_)
  replace hr := hr.symm
  subst hr
  refine lv_istore_n (lv' := [(3, .int y1), (0, .ref aR), (1, .int p1), (2, .int p2)]) hx hb dX6_fewestSaidAhead_5 rfl hl (by decide) rfl (fun ls hl => ?_)
  refine lv_aload_n hx hb dX6_fewestSaidAhead_6 rfl (lv_at hl 1 rfl) ?_
  refine va_get (D := D) (ci := 6) (v := .int R_streak) (C := RX6) (T := TX6) (N := 4) hx hb hts inX6 hown hK hP 0 rfl rfl 2 (by decide) fl_32 (fun _ h9 => h9) rfl dX6_fewestSaidAhead_7 ?_
  refine lv_istore (lv' := [(4, .int R_streak), (3, .int y1), (0, .ref aR), (1, .int p1), (2, .int p2)]) hx hb dX6_fewestSaidAhead_10 hl (by decide) rfl (fun ls hl => ?_)
  refine lv_iconst (v := (0 : Int32)) hx hb dX6_fewestSaidAhead_12 (by decide) ?_
  refine lv_istore (lv' := [(5, .int (0 : Int32)), (4, .int R_streak), (3, .int y1), (0, .ref aR), (1, .int p1), (2, .int p2)]) hx hb dX6_fewestSaidAhead_13 hl (by decide) rfl (fun ls hl => ?_)
  exact L15 300 p2 y1 R_streak (0 : Int32) ls (lv_sub hl [3, 5, 2, 1, 0] rfl) h

def f_X6_isFair (R_in : Int32) (T_littleOnes : Int32) : Int32 := (if ((f_X1_littleOnes T_littleOnes) &&& (R_in ^^^ (-1 : Int32))) = 0 then (1 : Int32) else (if (R_in &&& ((f_X1_littleOnes T_littleOnes) ^^^ (-1 : Int32))) = 0 then (1 : Int32) else (0 : Int32)))
set_option maxHeartbeats 8000000 in
set_option maxRecDepth 100000 in
theorem c_X6_isFair (l : Launch) (D : va_G) (cI cJ cZ cO : ClassId) (aR : Nat) (aT : Nat) (aT_slips : Nat) (aT_lates : Nat) (aT_copied : Nat) (R_in : Int32) (R_streak : Int32) (R_lot : Int32) (T_size : Int32) (T_littleOnes : Int32)    (y0 : Int32) (h : f_X6_isFair R_in T_littleOnes = y0) : Met l yX6_isFair wsX6_isFair ({ frames := 1, cells := 0, slots := 0, locals := 20 } : Room) (va_Pc [.ref aR] (fun U => va_P D vwCl [(aR, .inr (6, [.ref aT, .int R_in, .int R_streak, .int R_lot])), (aT, .inr (1, [.ref aT_slips, .ref aT_lates, .ref aT_copied, .int T_size, .int T_littleOnes]))] U.heap ∧ KK D cI cJ cZ cO U)) (vp_Si (fun r => r = y0 ∧ zo r)) 0 0 (fun _ => False) := by
  refine Met.ofW (cc := cX6_isFair) (maxL := 3) (ret := (some .boolean)) (by decide) rfl ?_
  intro p e s m args below meth c s₁ B hml hv
  obtain ⟨rfl, hP, hKK⟩ := hv
  have hx := B.exec
  have hb := B.bytes
  have hr := B.returns
  have hts := atoms_spec (ws := wsX6_isFair) B.pre
  have hown : s.vm.findClass RX6 = some m.cls := findClass_of_methodNamed B.named
  have hlocks := B.notSynchronized
  have hK := hKK.1
  have fl_9 := hts (.fieldLink RX6 9 "SimonSays$Round" "told" "LSimonSays$Children;") (by decide +kernel)
  have fl_29 := hts (.fieldLink RX6 29 "SimonSays$Round" "in" "I") (by decide +kernel)
  have inX6 : ∀ w ∈ wsX60, w ∈ wsX6_isFair := by decide +kernel
  have hl := lv_entry ([.ref aR]) (n := 3) (Nat.le_of_ble_eq_true rfl)
  rw [lg_entry_eq]
  generalize (lg_sl ([.ref aR]) ++ List.replicate (3 - (lg_sl ([.ref aR])).length) Slot.unset).toArray = ls at hl ⊢
  have hl : lv_has ls 3 [(0, .ref aR)] := hl
  unfold f_X6_isFair at h
  refine lv_aload_n hx hb dX6_isFair_0 rfl (lv_at hl 0 rfl) ?_
  refine va_get (D := D) (ci := 6) (v := .ref aT) (C := RX6) (T := TX6) (N := 4) hx hb hts inX6 hown hK hP 0 rfl rfl 0 (by decide) fl_9 (fun _ h9 => h9) rfl dX6_isFair_1 ?_
  have hPc : va_P D vwCl [(aT, .inr (1, [.ref aT_slips, .ref aT_lates, .ref aT_copied, .int T_size, .int T_littleOnes]))] s.heap := hP.sub [1] rfl
  refine vp_callSi (va_Run.run (va_runV (As := []) (rest := []) ⟨hx, hb, hml, hown, hts⟩ (c_X1_littleOnes l D cI cJ cZ cO aT aT_slips aT_lates aT_copied T_size T_littleOnes _ rfl) (cwV 0 hts gX6_isFair_X1_littleOnes rfl rfl rfl (by decide +kernel) ⟨Nat.le_of_ble_eq_true rfl, Nat.le_of_ble_eq_true rfl⟩) ⟨fb_p, va_recv hK hP (ci := 1) (q0 := 1) rfl rfl, fun U hU hW => ⟨rfl, by rw [hU]; exact hPc, KK.warm hW hKK⟩⟩ rfl rfl hl.1 rfl (lv_room (Nat.le_of_ble_eq_true rfl)) dX6_isFair_4 ⟨Nat.le_of_ble_eq_true rfl, Nat.le_of_ble_eq_true rfl⟩)) (fun r hr => ?_)
  replace hr := hr.symm
  subst hr
  refine lv_aload_n hx hb dX6_isFair_7 rfl (lv_at hl 0 rfl) ?_
  refine va_get (D := D) (ci := 6) (v := .int R_in) (C := RX6) (T := TX6) (N := 4) hx hb hts inX6 hown hK hP 0 rfl rfl 1 (by decide) fl_29 (fun _ h9 => h9) rfl dX6_isFair_8 ?_
  refine lv_iconst (v := (-1 : Int32)) hx hb dX6_isFair_11 (by decide) ?_
  refine lv_ixor hx hb dX6_isFair_12 ?_
  refine lv_iand hx hb dX6_isFair_13 ?_
  refine lv_istore_n (lv' := [(1, .int ((f_X1_littleOnes T_littleOnes) &&& (R_in ^^^ (-1 : Int32)))), (0, .ref aR)]) hx hb dX6_isFair_14 rfl hl (by decide) rfl (fun ls hl => ?_)
  refine lv_aload_n hx hb dX6_isFair_15 rfl (lv_at hl 1 rfl) ?_
  refine va_get (D := D) (ci := 6) (v := .int R_in) (C := RX6) (T := TX6) (N := 4) hx hb hts inX6 hown hK hP 0 rfl rfl 1 (by decide) fl_29 (fun _ h9 => h9) rfl dX6_isFair_16 ?_
  refine lv_aload_n hx hb dX6_isFair_19 rfl (lv_at hl 1 rfl) ?_
  refine va_get (D := D) (ci := 6) (v := .ref aT) (C := RX6) (T := TX6) (N := 4) hx hb hts inX6 hown hK hP 0 rfl rfl 0 (by decide) fl_9 (fun _ h9 => h9) rfl dX6_isFair_20 ?_
  have hPc : va_P D vwCl [(aT, .inr (1, [.ref aT_slips, .ref aT_lates, .ref aT_copied, .int T_size, .int T_littleOnes]))] s.heap := hP.sub [1] rfl
  refine vp_callSi (va_Run.run (va_runV (As := []) (rest := [.int R_in]) ⟨hx, hb, hml, hown, hts⟩ (c_X1_littleOnes l D cI cJ cZ cO aT aT_slips aT_lates aT_copied T_size T_littleOnes _ rfl) (cwV 0 hts gX6_isFair_X1_littleOnes rfl rfl rfl (by decide +kernel) ⟨Nat.le_of_ble_eq_true rfl, Nat.le_of_ble_eq_true rfl⟩) ⟨fb_p, va_recv hK hP (ci := 1) (q0 := 1) rfl rfl, fun U hU hW => ⟨rfl, by rw [hU]; exact hPc, KK.warm hW hKK⟩⟩ rfl rfl hl.1 rfl (lv_room (Nat.le_of_ble_eq_true rfl)) dX6_isFair_23 ⟨Nat.le_of_ble_eq_true rfl, Nat.le_of_ble_eq_true rfl⟩)) (fun r hr => ?_)
  replace hr := hr.symm
  subst hr
  refine lv_iconst (v := (-1 : Int32)) hx hb dX6_isFair_26 (by decide) ?_
  refine lv_ixor hx hb dX6_isFair_27 ?_
  refine lv_iand hx hb dX6_isFair_28 ?_
  refine lv_istore_n (lv' := [(2, .int (R_in &&& ((f_X1_littleOnes T_littleOnes) ^^^ (-1 : Int32)))), (1, .int ((f_X1_littleOnes T_littleOnes) &&& (R_in ^^^ (-1 : Int32)))), (0, .ref aR)]) hx hb dX6_isFair_29 rfl hl (by decide) rfl (fun ls hl => ?_)
  refine lv_iload_n hx hb dX6_isFair_30 rfl (lv_at hl 1 rfl) ?_
  refine lv_if_eq (tgt := 38) hx hb dX6_isFair_31 (by decide) (fun c_1 => ?_) (fun c_1 => ?_)
  · replace h := if_p c_1 h
    refine lv_iconst (v := (1 : Int32)) hx hb dX6_isFair_38 (by decide) ?_
    refine lv_goto (tgt := 43) hx hb dX6_isFair_39 (by decide) ?_
    exact pr_z hx hb hr hlocks dX6_isFair_43 h (by decide)
  · replace h := if_n c_1 h
    refine lv_iload_n hx hb dX6_isFair_34 rfl (lv_at hl 0 rfl) ?_
    refine lv_if_ne (tgt := 42) hx hb dX6_isFair_35 (by decide) (fun c_2 => ?_) (fun c_2 => ?_)
    · replace h := if_n c_2 h
      refine lv_iconst (v := (0 : Int32)) hx hb dX6_isFair_42 (by decide) ?_
      exact pr_z hx hb hr hlocks dX6_isFair_43 h (by decide)
    · replace h := if_p c_2 h
      refine lv_iconst (v := (1 : Int32)) hx hb dX6_isFair_38 (by decide) ?_
      refine lv_goto (tgt := 43) hx hb dX6_isFair_39 (by decide) ?_
      exact pr_z hx hb hr hlocks dX6_isFair_43 h (by decide)
