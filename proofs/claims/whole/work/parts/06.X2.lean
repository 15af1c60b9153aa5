def f_X2_size (H_size : Int32) : Int32 := H_size
set_option maxHeartbeats 8000000 in
set_option maxRecDepth 100000 in
theorem c_X2_size (l : Launch) (D : va_G) (cI cJ cZ cO : ClassId) (aH : Nat) (aH_ins : Nat) (aH_streaks : Nat) (H_size : Int32)    (y0 : Int32) (h : f_X2_size H_size = y0) : Met l yX2_size wsX2_size ({ frames := 0, cells := 0, slots := 0, locals := 0 } : Room) (va_Pc [.ref aH] (fun U => va_P D vwCl [(aH, .inr (2, [.ref aH_ins, .ref aH_streaks, .int H_size]))] U.heap ∧ KK D cI cJ cZ cO U)) (vp_Si (fun r => r = y0)) 0 0 (fun _ => False) := by
  refine Met.ofW (cc := cX2_size) (maxL := 1) (ret := (some .int)) (by decide) rfl ?_
  intro p e s m args below meth c s₁ B hml hv
  obtain ⟨rfl, hP, hKK⟩ := hv
  have hx := B.exec
  have hb := B.bytes
  have hr := B.returns
  have hts := atoms_spec (ws := wsX2_size) B.pre
  have hown : s.vm.findClass RX2 = some m.cls := findClass_of_methodNamed B.named
  have hlocks := B.notSynchronized
  have hK := hKK.1
  have fl_18 := hts (.fieldLink RX2 18 "SimonSays$History" "size" "I") (by decide +kernel)
  have inX2 : ∀ w ∈ wsX20, w ∈ wsX2_size := by decide +kernel
  have hl := lv_entry ([.ref aH]) (n := 1) (Nat.le_of_ble_eq_true rfl)
  rw [lg_entry_eq]
  generalize (lg_sl ([.ref aH]) ++ List.replicate (1 - (lg_sl ([.ref aH])).length) Slot.unset).toArray = ls at hl ⊢
  have hl : lv_has ls 1 [(0, .ref aH)] := hl
  unfold f_X2_size at h
  refine lv_aload_n hx hb dX2_size_0 rfl (lv_at hl 0 rfl) ?_
  refine va_get (D := D) (ci := 2) (v := .int H_size) (C := RX2) (T := TX2) (N := 3) hx hb hts inX2 hown hK hP 0 rfl rfl 2 (by decide) fl_18 (fun _ h9 => h9) rfl dX2_size_1 ?_
  exact pr_i hx hb hr hlocks dX2_size_4 h

def f_X2_forget (H_size : Int32) : Option (Int32) := some (0 : Int32)
set_option maxHeartbeats 8000000 in
set_option maxRecDepth 100000 in
theorem c_X2_forget (l : Launch) (D : va_G) (cI cJ cZ cO : ClassId) (aH : Nat) (aH_ins : Nat) (aH_streaks : Nat) (H_size : Int32) (sz : Nat)   (y0 : Int32) (h : f_X2_forget H_size = some y0) : Met l yX2_forget wsX2_forget ({ frames := 0, cells := 0, slots := 0, locals := 0 } : Room) (va_Pc [.ref aH] (fun U => U.heap.size = sz ∧ va_P D vwCl [(aH, .inr (2, [.ref aH_ins, .ref aH_streaks, .int H_size]))] U.heap ∧ KK D cI cJ cZ cO U ∧ va_D (fun _ => True) [(aH, .inr (2, [.ref aH_ins, .ref aH_streaks, .int H_size]))])) (va_Qv (fun (_ : Unit) => True) (fun (_ : Unit) t => va_P D vwCl [(aH, .inr (2, [.ref aH_ins, .ref aH_streaks, .int y0]))] t.heap ∧ va_D (va_A [(aH, .inr (2, [.ref aH_ins, .ref aH_streaks, .int H_size]))] sz) [(aH, .inr (2, [.ref aH_ins, .ref aH_streaks, .int y0]))]) (va_A [(aH, .inr (2, [.ref aH_ins, .ref aH_streaks, .int H_size]))] sz)) 0 0 (va_A [(aH, .inr (2, [.ref aH_ins, .ref aH_streaks, .int H_size]))] sz) := by
  refine Met.ofW (cc := cX2_forget) (maxL := 1) (ret := none) (by decide) rfl ?_
  intro p e s m args below meth c s₁ B hml hv
  obtain ⟨rfl, hsz, hP, hKK, hD0⟩ := hv
  have hx := B.exec
  have hb := B.bytes
  have hr := B.returns
  have hts := atoms_spec (ws := wsX2_forget) B.pre
  have hown : s.vm.findClass RX2 = some m.cls := findClass_of_methodNamed B.named
  have hlocks := B.notSynchronized
  have hK := hKK.1
  have fl_18 := hts (.fieldLink RX2 18 "SimonSays$History" "size" "I") (by decide +kernel)
  have inX2 : ∀ w ∈ wsX20, w ∈ wsX2_forget := by decide +kernel
  subst hsz
  have hD := hD0.self (sz := s.heap.size)
  generalize hAe : va_A [(aH, .inr (2, [.ref aH_ins, .ref aH_streaks, .int H_size]))] s.heap.size = A at hD ⊢
  have hA : ∀ q : Nat, s.heap.size ≤ q → A q := fun q h => by rw [← hAe]; exact Or.inr h
  have hS : va_S A s.heap s.heap [] := va_S.rf
  have hl := lv_entry ([.ref aH]) (n := 1) (Nat.le_of_ble_eq_true rfl)
  rw [lg_entry_eq]
  generalize (lg_sl ([.ref aH]) ++ List.replicate (1 - (lg_sl ([.ref aH])).length) Slot.unset).toArray = ls at hl ⊢
  have hl : lv_has ls 1 [(0, .ref aH)] := hl
  unfold f_X2_forget at h
  refine lv_aload_n hx hb dX2_forget_0 rfl (lv_at hl 0 rfl) ?_
  refine lv_iconst (v := (0 : Int32)) hx hb dX2_forget_1 (by decide) ?_
  refine va_put (D := D) (ci := 2) (v := .int (0 : Int32)) (ty := .int) (C := RX2) (T := TX2) (N := 3) hx hb hts inX2 tyX2 tyX2_ok nmX2 hown hK hP hD hS 0 rfl rfl 2 (by decide) fl_18 (fun _ h9 => h9) rfl (by decide +kernel) rfl rfl (Nat.le_of_ble_eq_true rfl) dX2_forget_2 (fun H locs hP hD hS => ?_)
  have hP : va_P D vwCl [(aH, .inr (2, [.ref aH_ins, .ref aH_streaks, .int (0 : Int32)]))] H := hP
  have hD : va_D A [(aH, .inr (2, [.ref aH_ins, .ref aH_streaks, .int (0 : Int32)]))] := hD
  have hy := Option.some.inj h
  subst hy
  exact W.vret hx hb hr (fun t ht hW => ⟨⟨(), rfl, trivial, by rw [ht]; exact hP, hD⟩, hS.F ht⟩) hS.2.2 dX2_forget_5

def f_X2_loseOldest (H_size : Int32) (H_ins : Nat → Int32) (H_streaks : Nat → Int32) : Option (Int32 × (Nat → Int32) × (Nat → Int32)) := (if gCp (1 : Int32) (0 : Int32) (11 : Int32) 12 12 = true then (if gCp (1 : Int32) (0 : Int32) (11 : Int32) 12 12 = true then some ((11 : Int32), (va_cpy H_ins H_ins (1 : Int32).toNatClampNeg (0 : Int32).toNatClampNeg (11 : Int32).toNatClampNeg), (va_cpy H_streaks H_streaks (1 : Int32).toNatClampNeg (0 : Int32).toNatClampNeg (11 : Int32).toNatClampNeg)) else none) else none)
set_option maxHeartbeats 8000000 in
set_option maxRecDepth 100000 in
theorem c_X2_loseOldest (l : Launch) (D : va_G) (cI cJ cZ cO : ClassId) (aH : Nat) (aH_ins : Nat) (aH_streaks : Nat) (H_size : Int32) (H_ins : Nat → Int32) (H_streaks : Nat → Int32) (sz : Nat)   (y0 : Int32 × (Nat → Int32) × (Nat → Int32)) (h : f_X2_loseOldest H_size H_ins H_streaks = some y0) : Met l yX2_loseOldest wsX2_loseOldest ({ frames := 1, cells := 0, slots := 0, locals := 40 } : Room) (va_Pc [.ref aH] (fun U => U.heap.size = sz ∧ va_P D vwCl [(aH, .inr (2, [.ref aH_ins, .ref aH_streaks, .int H_size])), (aH_ins, .inl (cI, 12, .inl H_ins)), (aH_streaks, .inl (cI, 12, .inl H_streaks))] U.heap ∧ KK D cI cJ cZ cO U ∧ va_D (fun _ => True) [(aH, .inr (2, [.ref aH_ins, .ref aH_streaks, .int H_size])), (aH_ins, .inl (cI, 12, .inl H_ins)), (aH_streaks, .inl (cI, 12, .inl H_streaks))])) (va_Qv (fun (_ : Unit) => True) (fun (_ : Unit) t => va_P D vwCl [(aH, .inr (2, [.ref aH_ins, .ref aH_streaks, .int y0.1])), (aH_ins, .inl (cI, 12, .inl y0.2.1)), (aH_streaks, .inl (cI, 12, .inl y0.2.2))] t.heap ∧ va_D (va_A [(aH, .inr (2, [.ref aH_ins, .ref aH_streaks, .int H_size])), (aH_ins, .inl (cI, 12, .inl H_ins)), (aH_streaks, .inl (cI, 12, .inl H_streaks))] sz) [(aH, .inr (2, [.ref aH_ins, .ref aH_streaks, .int y0.1])), (aH_ins, .inl (cI, 12, .inl y0.2.1)), (aH_streaks, .inl (cI, 12, .inl y0.2.2))]) (va_A [(aH, .inr (2, [.ref aH_ins, .ref aH_streaks, .int H_size])), (aH_ins, .inl (cI, 12, .inl H_ins)), (aH_streaks, .inl (cI, 12, .inl H_streaks))] sz)) 0 0 (va_A [(aH, .inr (2, [.ref aH_ins, .ref aH_streaks, .int H_size])), (aH_ins, .inl (cI, 12, .inl H_ins)), (aH_streaks, .inl (cI, 12, .inl H_streaks))] sz) := by
  refine Met.ofW (cc := cX2_loseOldest) (maxL := 1) (ret := none) (by decide) rfl ?_
  intro p e s m args below meth c s₁ B hml hv
  obtain ⟨rfl, hsz, hP, hKK, hD0⟩ := hv
  have hx := B.exec
  have hb := B.bytes
  have hr := B.returns
  have hts := atoms_spec (ws := wsX2_loseOldest) B.pre
  have hown : s.vm.findClass RX2 = some m.cls := findClass_of_methodNamed B.named
  have hlocks := B.notSynchronized
  have hK := hKK.1
  have fl_9 := hts (.fieldLink RX2 9 "SimonSays$History" "ins" "[I") (by decide +kernel)
  have fl_15 := hts (.fieldLink RX2 15 "SimonSays$History" "streaks" "[I") (by decide +kernel)
  have fl_18 := hts (.fieldLink RX2 18 "SimonSays$History" "size" "I") (by decide +kernel)
  have inac := hts (.initialized "java/lang/System") (by decide +kernel)
  have mlac25 := hts (.methodLink RX2 25 arraycopyName) (by decide +kernel)
  have ntac := hts (.native arraycopyName) (by decide +kernel)
  have stac := hts (.static arraycopyName) (by decide +kernel)
  have inX2 : ∀ w ∈ wsX20, w ∈ wsX2_loseOldest := by decide +kernel
  subst hsz
  have hD := hD0.self (sz := s.heap.size)
  generalize hAe : va_A [(aH, .inr (2, [.ref aH_ins, .ref aH_streaks, .int H_size])), (aH_ins, .inl (cI, 12, .inl H_ins)), (aH_streaks, .inl (cI, 12, .inl H_streaks))] s.heap.size = A at hD ⊢
  have hA : ∀ q : Nat, s.heap.size ≤ q → A q := fun q h => by rw [← hAe]; exact Or.inr h
  have hS : va_S A s.heap s.heap [] := va_S.rf
  have hl := lv_entry ([.ref aH]) (n := 1) (Nat.le_of_ble_eq_true rfl)
  rw [lg_entry_eq]
  generalize (lg_sl ([.ref aH]) ++ List.replicate (1 - (lg_sl ([.ref aH])).length) Slot.unset).toArray = ls at hl ⊢
  have hl : lv_has ls 1 [(0, .ref aH)] := hl
  unfold f_X2_loseOldest at h
  refine lv_aload_n hx hb dX2_loseOldest_0 rfl (lv_at hl 0 rfl) ?_
  refine lv_bipush (v := (11 : Int32)) hx hb dX2_loseOldest_1 (by decide) ?_
  refine va_put (D := D) (ci := 2) (v := .int (11 : Int32)) (ty := .int) (C := RX2) (T := TX2) (N := 3) hx hb hts inX2 tyX2 tyX2_ok nmX2 hown hK hP hD hS 0 rfl rfl 2 (by decide) fl_18 (fun _ h9 => h9) rfl (by decide +kernel) rfl rfl (Nat.le_of_ble_eq_true rfl) dX2_loseOldest_3 (fun H locs hP hD hS => ?_)
  have hP : va_P D vwCl [(aH, .inr (2, [.ref aH_ins, .ref aH_streaks, .int (11 : Int32)])), (aH_ins, .inl (cI, 12, .inl H_ins)), (aH_streaks, .inl (cI, 12, .inl H_streaks))] H := hP
  have hD : va_D A [(aH, .inr (2, [.ref aH_ins, .ref aH_streaks, .int (11 : Int32)])), (aH_ins, .inl (cI, 12, .inl H_ins)), (aH_streaks, .inl (cI, 12, .inl H_streaks))] := hD
  refine lv_aload_n hx hb dX2_loseOldest_6 rfl (lv_at hl 0 rfl) ?_
  refine va_get (D := D) (ci := 2) (v := .ref aH_ins) (C := RX2) (T := TX2) (N := 3) hx hb hts inX2 hown hK hP 0 rfl rfl 0 (by decide) fl_9 (fun _ h9 => h9) rfl dX2_loseOldest_7 ?_
  refine lv_iconst (v := (1 : Int32)) hx hb dX2_loseOldest_10 (by decide) ?_
  refine lv_aload_n hx hb dX2_loseOldest_11 rfl (lv_at hl 0 rfl) ?_
  refine va_get (D := D) (ci := 2) (v := .ref aH_ins) (C := RX2) (T := TX2) (N := 3) hx hb hts inX2 hown hK hP 0 rfl rfl 0 (by decide) fl_9 (fun _ h9 => h9) rfl dX2_loseOldest_12 ?_
  refine lv_iconst (v := (0 : Int32)) hx hb dX2_loseOldest_15 (by decide) ?_
  refine lv_aload_n hx hb dX2_loseOldest_16 rfl (lv_at hl 0 rfl) ?_
  refine va_get (D := D) (ci := 2) (v := .int (11 : Int32)) (C := RX2) (T := TX2) (N := 3) hx hb hts inX2 hown hK hP 0 rfl rfl 2 (by decide) fl_18 (fun _ h9 => h9) rfl dX2_loseOldest_17 ?_
  obtain ⟨hc1, h⟩ := gd_cp h
  refine va_copyi hx hb (hml.trans hl.1.symm) hown mlac25 ntac stac inac hK hP hD hS 1 1 0 0 rfl rfl rfl rfl rfl hc1.1 hc1.2.1 hc1.2.2.1 hc1.2.2.2.1 hc1.2.2.2.2 (fun _ _ => rfl) (Nat.le_of_ble_eq_true rfl) (Nat.le_of_ble_eq_true rfl) dX2_loseOldest_20 (fun H locs hP hD hS => ?_)
  have hP : va_P D vwCl [(aH, .inr (2, [.ref aH_ins, .ref aH_streaks, .int (11 : Int32)])), (aH_ins, .inl (cI, 12, .inl (va_cpy H_ins H_ins (1 : Int32).toNatClampNeg (0 : Int32).toNatClampNeg (11 : Int32).toNatClampNeg))), (aH_streaks, .inl (cI, 12, .inl H_streaks))] H := hP
  have hD : va_D A [(aH, .inr (2, [.ref aH_ins, .ref aH_streaks, .int (11 : Int32)])), (aH_ins, .inl (cI, 12, .inl (va_cpy H_ins H_ins (1 : Int32).toNatClampNeg (0 : Int32).toNatClampNeg (11 : Int32).toNatClampNeg))), (aH_streaks, .inl (cI, 12, .inl H_streaks))] := hD
  refine lv_aload_n hx hb dX2_loseOldest_23 rfl (lv_at hl 0 rfl) ?_
  refine va_get (D := D) (ci := 2) (v := .ref aH_streaks) (C := RX2) (T := TX2) (N := 3) hx hb hts inX2 hown hK hP 0 rfl rfl 1 (by decide) fl_15 (fun _ h9 => h9) rfl dX2_loseOldest_24 ?_
  refine lv_iconst (v := (1 : Int32)) hx hb dX2_loseOldest_27 (by decide) ?_
  refine lv_aload_n hx hb dX2_loseOldest_28 rfl (lv_at hl 0 rfl) ?_
  refine va_get (D := D) (ci := 2) (v := .ref aH_streaks) (C := RX2) (T := TX2) (N := 3) hx hb hts inX2 hown hK hP 0 rfl rfl 1 (by decide) fl_15 (fun _ h9 => h9) rfl dX2_loseOldest_29 ?_
  refine lv_iconst (v := (0 : Int32)) hx hb dX2_loseOldest_32 (by decide) ?_
  refine lv_aload_n hx hb dX2_loseOldest_33 rfl (lv_at hl 0 rfl) ?_
  refine va_get (D := D) (ci := 2) (v := .int (11 : Int32)) (C := RX2) (T := TX2) (N := 3) hx hb hts inX2 hown hK hP 0 rfl rfl 2 (by decide) fl_18 (fun _ h9 => h9) rfl dX2_loseOldest_34 ?_
  obtain ⟨hc2, h⟩ := gd_cp h
  refine va_copyi hx hb (hml.trans hl.1.symm) hown mlac25 ntac stac inac hK hP hD hS 2 2 0 0 rfl rfl rfl rfl rfl hc2.1 hc2.2.1 hc2.2.2.1 hc2.2.2.2.1 hc2.2.2.2.2 (fun _ _ => rfl) (Nat.le_of_ble_eq_true rfl) (Nat.le_of_ble_eq_true rfl) dX2_loseOldest_37 (fun H locs hP hD hS => ?_)
  have hP : va_P D vwCl [(aH, .inr (2, [.ref aH_ins, .ref aH_streaks, .int (11 : Int32)])), (aH_ins, .inl (cI, 12, .inl (va_cpy H_ins H_ins (1 : Int32).toNatClampNeg (0 : Int32).toNatClampNeg (11 : Int32).toNatClampNeg))), (aH_streaks, .inl (cI, 12, .inl (va_cpy H_streaks H_streaks (1 : Int32).toNatClampNeg (0 : Int32).toNatClampNeg (11 : Int32).toNatClampNeg)))] H := hP
  have hD : va_D A [(aH, .inr (2, [.ref aH_ins, .ref aH_streaks, .int (11 : Int32)])), (aH_ins, .inl (cI, 12, .inl (va_cpy H_ins H_ins (1 : Int32).toNatClampNeg (0 : Int32).toNatClampNeg (11 : Int32).toNatClampNeg))), (aH_streaks, .inl (cI, 12, .inl (va_cpy H_streaks H_streaks (1 : Int32).toNatClampNeg (0 : Int32).toNatClampNeg (11 : Int32).toNatClampNeg)))] := hD
  have hy := Option.some.inj h
  subst hy
  exact W.vret hx hb hr (fun t ht hW => ⟨⟨(), rfl, trivial, by rw [ht]; exact hP, hD⟩, hS.F ht⟩) hS.2.2 dX2_loseOldest_40

def f_X2_add_L13 (H_size : Int32) (H_ins : Nat → Int32) (H_streaks : Nat → Int32) (x1 : Int32) (x2 : Int32) : Option (Int32 × (Nat → Int32) × (Nat → Int32)) := (if gIn H_size 12 = true then (if gIn H_size 12 = true then some ((H_size + (1 : Int32)), (upd H_ins H_size.toNatClampNeg x1), (upd H_streaks H_size.toNatClampNeg x2)) else none) else none)
def f_X2_add (H_size : Int32) (H_ins : Nat → Int32) (H_streaks : Nat → Int32) (p1 : Int32) (p2 : Int32) : Option (Int32 × (Nat → Int32) × (Nat → Int32)) := (if H_size < (12 : Int32) then f_X2_add_L13 H_size H_ins H_streaks p1 p2 else (Option.bind (f_X2_loseOldest H_size H_ins H_streaks) (fun y2 => f_X2_add_L13 y2.1 y2.2.1 y2.2.2 p1 p2)))
set_option maxHeartbeats 8000000 in
set_option maxRecDepth 100000 in
theorem c_X2_add (l : Launch) (D : va_G) (cI cJ cZ cO : ClassId) (aH : Nat) (aH_ins : Nat) (aH_streaks : Nat) (H_size : Int32) (H_ins : Nat → Int32) (H_streaks : Nat → Int32) (sz : Nat) (p1 : Int32) (p2 : Int32)  (y0 : Int32 × (Nat → Int32) × (Nat → Int32)) (h : f_X2_add H_size H_ins H_streaks p1 p2 = some y0) : Met l yX2_add wsX2_add ({ frames := 2, cells := 0, slots := 0, locals := 60 } : Room) (va_Pc [.ref aH, .int p1, .int p2] (fun U => U.heap.size = sz ∧ va_P D vwCl [(aH, .inr (2, [.ref aH_ins, .ref aH_streaks, .int H_size])), (aH_ins, .inl (cI, 12, .inl H_ins)), (aH_streaks, .inl (cI, 12, .inl H_streaks))] U.heap ∧ KK D cI cJ cZ cO U ∧ va_D (fun _ => True) [(aH, .inr (2, [.ref aH_ins, .ref aH_streaks, .int H_size])), (aH_ins, .inl (cI, 12, .inl H_ins)), (aH_streaks, .inl (cI, 12, .inl H_streaks))])) (va_Qv (fun (_ : Unit) => True) (fun (_ : Unit) t => va_P D vwCl [(aH, .inr (2, [.ref aH_ins, .ref aH_streaks, .int y0.1])), (aH_ins, .inl (cI, 12, .inl y0.2.1)), (aH_streaks, .inl (cI, 12, .inl y0.2.2))] t.heap ∧ va_D (va_A [(aH, .inr (2, [.ref aH_ins, .ref aH_streaks, .int H_size])), (aH_ins, .inl (cI, 12, .inl H_ins)), (aH_streaks, .inl (cI, 12, .inl H_streaks))] sz) [(aH, .inr (2, [.ref aH_ins, .ref aH_streaks, .int y0.1])), (aH_ins, .inl (cI, 12, .inl y0.2.1)), (aH_streaks, .inl (cI, 12, .inl y0.2.2))]) (va_A [(aH, .inr (2, [.ref aH_ins, .ref aH_streaks, .int H_size])), (aH_ins, .inl (cI, 12, .inl H_ins)), (aH_streaks, .inl (cI, 12, .inl H_streaks))] sz)) 0 0 (va_A [(aH, .inr (2, [.ref aH_ins, .ref aH_streaks, .int H_size])), (aH_ins, .inl (cI, 12, .inl H_ins)), (aH_streaks, .inl (cI, 12, .inl H_streaks))] sz) := by
  refine Met.ofW (cc := cX2_add) (maxL := 3) (ret := none) (by decide) rfl ?_
  intro p e s m args below meth c s₁ B hml hv
  obtain ⟨rfl, hsz, hP, hKK, hD0⟩ := hv
  have hx := B.exec
  have hb := B.bytes
  have hr := B.returns
  have hts := atoms_spec (ws := wsX2_add) B.pre
  have hown : s.vm.findClass RX2 = some m.cls := findClass_of_methodNamed B.named
  have hlocks := B.notSynchronized
  have hK := hKK.1
  have fl_9 := hts (.fieldLink RX2 9 "SimonSays$History" "ins" "[I") (by decide +kernel)
  have fl_15 := hts (.fieldLink RX2 15 "SimonSays$History" "streaks" "[I") (by decide +kernel)
  have fl_18 := hts (.fieldLink RX2 18 "SimonSays$History" "size" "I") (by decide +kernel)
  have inX2 : ∀ w ∈ wsX20, w ∈ wsX2_add := by decide +kernel
  subst hsz
  have hD := hD0.self (sz := s.heap.size)
  generalize hAe : va_A [(aH, .inr (2, [.ref aH_ins, .ref aH_streaks, .int H_size])), (aH_ins, .inl (cI, 12, .inl H_ins)), (aH_streaks, .inl (cI, 12, .inl H_streaks))] s.heap.size = A at hD ⊢
  have hA : ∀ q : Nat, s.heap.size ≤ q → A q := fun q h => by rw [← hAe]; exact Or.inr h
  have hS : va_S A s.heap s.heap [] := va_S.rf
  have hl := lv_entry ([.ref aH, .int p1, .int p2]) (n := 3) (Nat.le_of_ble_eq_true rfl)
  rw [lg_entry_eq]
  generalize (lg_sl ([.ref aH, .int p1, .int p2]) ++ List.replicate (3 - (lg_sl ([.ref aH, .int p1, .int p2])).length) Slot.unset).toArray = ls at hl ⊢
  have hl : lv_has ls 3 [(0, .ref aH), (1, .int p1), (2, .int p2)] := hl
  have L13 : ∀ (H_size : Int32) (H_ins : Nat → Int32) (H_streaks : Nat → Int32) (x1 : Int32) (x2 : Int32), ∀ (H : Heap) (locs : List Loc), va_P D vwCl [(aH, .inr (2, [.ref aH_ins, .ref aH_streaks, .int H_size])), (aH_ins, .inl (cI, 12, .inl H_ins)), (aH_streaks, .inl (cI, 12, .inl H_streaks))] H → va_D A [(aH, .inr (2, [.ref aH_ins, .ref aH_streaks, .int H_size])), (aH_ins, .inl (cI, 12, .inl H_ins)), (aH_streaks, .inl (cI, 12, .inl H_streaks))] → va_S A s.heap H locs → ∀ (ls : Array Slot), lv_has ls 3 [(0, .ref aH), (1, .int x1), (2, .int x2)] → f_X2_add_L13 H_size H_ins H_streaks x1 x2 = some y0 → W p l e (headSpec wsX2_add ({ frames := 2, cells := 0, slots := 0, locals := 60 } : Room)).room s m ([.ref aH, .int p1, .int p2] : List Value).toArray below meth c H locs 0 0 (MQ below (va_Qv (fun (_ : Unit) => True) (fun (_ : Unit) t => va_P D vwCl [(aH, .inr (2, [.ref aH_ins, .ref aH_streaks, .int y0.1])), (aH_ins, .inl (cI, 12, .inl y0.2.1)), (aH_streaks, .inl (cI, 12, .inl y0.2.2))] t.heap ∧ va_D A [(aH, .inr (2, [.ref aH_ins, .ref aH_streaks, .int y0.1])), (aH_ins, .inl (cI, 12, .inl y0.2.1)), (aH_streaks, .inl (cI, 12, .inl y0.2.2))]) A) ([.ref aH, .int p1, .int p2] : List Value).toArray s 0 0 A) (F0 m 13 ls []) := by
    intro H_size H_ins H_streaks x1 x2 H locs hP hD hS ls hl h
    unfold f_X2_add_L13 at h
    refine lv_aload_n hx hb dX2_add_13 rfl (lv_at hl 0 rfl) ?_
    refine va_get (D := D) (ci := 2) (v := .ref aH_ins) (C := RX2) (T := TX2) (N := 3) hx hb hts inX2 hown hK hP 0 rfl rfl 0 (by decide) fl_9 (fun _ h9 => h9) rfl dX2_add_14 ?_
    refine lv_aload_n hx hb dX2_add_17 rfl (lv_at hl 0 rfl) ?_
    refine va_get (D := D) (ci := 2) (v := .int H_size) (C := RX2) (T := TX2) (N := 3) hx hb hts inX2 hown hK hP 0 rfl rfl 2 (by decide) fl_18 (fun _ h9 => h9) rfl dX2_add_18 ?_
    refine lv_iload_n hx hb dX2_add_21 rfl (lv_at hl 1 rfl) ?_
    obtain ⟨hi3, h⟩ := gd_in h
    refine va_iast hx hb hK hP hD hS 1 0 rfl rfl hi3 dX2_add_22 (fun H locs hP hD hS => ?_)
    have hP : va_P D vwCl [(aH, .inr (2, [.ref aH_ins, .ref aH_streaks, .int H_size])), (aH_ins, .inl (cI, 12, .inl (upd H_ins H_size.toNatClampNeg x1))), (aH_streaks, .inl (cI, 12, .inl H_streaks))] H := hP
    have hD : va_D A [(aH, .inr (2, [.ref aH_ins, .ref aH_streaks, .int H_size])), (aH_ins, .inl (cI, 12, .inl (upd H_ins H_size.toNatClampNeg x1))), (aH_streaks, .inl (cI, 12, .inl H_streaks))] := hD
    refine lv_aload_n hx hb dX2_add_23 rfl (lv_at hl 0 rfl) ?_
    refine va_get (D := D) (ci := 2) (v := .ref aH_streaks) (C := RX2) (T := TX2) (N := 3) hx hb hts inX2 hown hK hP 0 rfl rfl 1 (by decide) fl_15 (fun _ h9 => h9) rfl dX2_add_24 ?_
    refine lv_aload_n hx hb dX2_add_27 rfl (lv_at hl 0 rfl) ?_
    refine va_get (D := D) (ci := 2) (v := .int H_size) (C := RX2) (T := TX2) (N := 3) hx hb hts inX2 hown hK hP 0 rfl rfl 2 (by decide) fl_18 (fun _ h9 => h9) rfl dX2_add_28 ?_
    refine lv_iload_n hx hb dX2_add_31 rfl (lv_at hl 2 rfl) ?_
    obtain ⟨hi4, h⟩ := gd_in h
    refine va_iast hx hb hK hP hD hS 2 0 rfl rfl hi4 dX2_add_32 (fun H locs hP hD hS => ?_)
    have hP : va_P D vwCl [(aH, .inr (2, [.ref aH_ins, .ref aH_streaks, .int H_size])), (aH_ins, .inl (cI, 12, .inl (upd H_ins H_size.toNatClampNeg x1))), (aH_streaks, .inl (cI, 12, .inl (upd H_streaks H_size.toNatClampNeg x2)))] H := hP
    have hD : va_D A [(aH, .inr (2, [.ref aH_ins, .ref aH_streaks, .int H_size])), (aH_ins, .inl (cI, 12, .inl (upd H_ins H_size.toNatClampNeg x1))), (aH_streaks, .inl (cI, 12, .inl (upd H_streaks H_size.toNatClampNeg x2)))] := hD
    refine lv_aload_n hx hb dX2_add_33 rfl (lv_at hl 0 rfl) ?_
    refine lv_dup hx hb dX2_add_34 rfl ?_
    refine va_get (D := D) (ci := 2) (v := .int H_size) (C := RX2) (T := TX2) (N := 3) hx hb hts inX2 hown hK hP 0 rfl rfl 2 (by decide) fl_18 (fun _ h9 => h9) rfl dX2_add_35 ?_
    refine lv_iconst (v := (1 : Int32)) hx hb dX2_add_38 (by decide) ?_
    refine lv_iadd hx hb dX2_add_39 ?_
    refine va_put (D := D) (ci := 2) (v := .int (H_size + (1 : Int32))) (ty := .int) (C := RX2) (T := TX2) (N := 3) hx hb hts inX2 tyX2 tyX2_ok nmX2 hown hK hP hD hS 0 rfl rfl 2 (by decide) fl_18 (fun _ h9 => h9) rfl (by decide +kernel) rfl rfl (Nat.le_of_ble_eq_true rfl) dX2_add_40 (fun H locs hP hD hS => ?_)
    have hP : va_P D vwCl [(aH, .inr (2, [.ref aH_ins, .ref aH_streaks, .int (H_size + (1 : Int32))])), (aH_ins, .inl (cI, 12, .inl (upd H_ins H_size.toNatClampNeg x1))), (aH_streaks, .inl (cI, 12, .inl (upd H_streaks H_size.toNatClampNeg x2)))] H := hP
    have hD : va_D A [(aH, .inr (2, [.ref aH_ins, .ref aH_streaks, .int (H_size + (1 : Int32))])), (aH_ins, .inl (cI, 12, .inl (upd H_ins H_size.toNatClampNeg x1))), (aH_streaks, .inl (cI, 12, .inl (upd H_streaks H_size.toNatClampNeg x2)))] := hD
    have hy := Option.some.inj h
    subst hy
    exact W.vret hx hb hr (fun t ht hW => ⟨⟨(), rfl, trivial, by rw [ht]; exact hP, hD⟩, hS.F ht⟩) hS.2.2 dX2_add_43
  unfold f_X2_add at h
  refine lv_aload_n hx hb dX2_add_0 rfl (lv_at hl 0 rfl) ?_
  refine va_get (D := D) (ci := 2) (v := .int H_size) (C := RX2) (T := TX2) (N := 3) hx hb hts inX2 hown hK hP 0 rfl rfl 2 (by decide) fl_18 (fun _ h9 => h9) rfl dX2_add_1 ?_
  refine lv_bipush (v := (12 : Int32)) hx hb dX2_add_4 (by decide) ?_
  refine lv_icmp_lt (tgt := 13) hx hb dX2_add_6 (by decide) (fun c_1 => ?_) (fun c_1 => ?_)
  · replace h := if_p c_1 h
    exact L13 H_size H_ins H_streaks p1 p2 _ _ hP hD hS ls (lv_sub hl [0, 1, 2] rfl) h
  · replace h := if_n c_1 h
    refine lv_aload_n hx hb dX2_add_9 rfl (lv_at hl 0 rfl) ?_
    obtain ⟨y2, qy2, h⟩ := ob_some h
    have hPc : va_P D vwCl [(aH, .inr (2, [.ref aH_ins, .ref aH_streaks, .int H_size])), (aH_ins, .inl (cI, 12, .inl H_ins)), (aH_streaks, .inl (cI, 12, .inl H_streaks))] s.heap := hP.sub [0, 1, 2] rfl
    have hDc : va_D A [(aH, .inr (2, [.ref aH_ins, .ref aH_streaks, .int H_size])), (aH_ins, .inl (cI, 12, .inl H_ins)), (aH_streaks, .inl (cI, 12, .inl H_streaks))] := hD.sub [0, 1, 2] (by decide) rfl
    have hFc := va_free (wc := [(aH, .inr (2, [.ref aH_ins, .ref aH_streaks, .int H_size])), (aH_ins, .inl (cI, 12, .inl H_ins)), (aH_streaks, .inl (cI, 12, .inl H_streaks))]) hD hS hA [0, 1, 2] rfl
    refine va_callv (va_runV (As := []) (rest := []) ⟨hx, hb, hml, hown, hts⟩ (c_X2_loseOldest l D cI cJ cZ cO aH aH_ins aH_streaks H_size H_ins H_streaks s.heap.size y2 qy2) (cwV 0 hts gX2_add_X2_loseOldest rfl rfl rfl (by decide +kernel) ⟨Nat.le_of_ble_eq_true rfl, Nat.le_of_ble_eq_true rfl⟩) ⟨fb_i, va_recv hK hP (ci := 2) (q0 := 0) rfl rfl, fun U hU hW => ⟨rfl, by rw [hU], by rw [hU]; exact hPc, KK.warm hW hKK, hDc.weaken (fun _ _ _ _ => trivial)⟩⟩ rfl rfl hl.1 rfl (lv_room (Nat.le_of_ble_eq_true rfl)) dX2_add_10 ⟨Nat.le_of_ble_eq_true rfl, Nat.le_of_ble_eq_true rfl⟩) hS (fun q _ h => hFc q h) hFc (fun u t H1 locs ht hvm hw hB hz1 hk1 hS => ?_)
    obtain ⟨hP1, hD1⟩ := hB
    rw [ht] at hP1
    obtain ⟨hP, hD⟩ := va_join (wr := []) (w1 := [(aH, .inr (2, [.ref aH_ins, .ref aH_streaks, .int y2.1])), (aH_ins, .inl (cI, 12, .inl y2.2.1)), (aH_streaks, .inl (cI, 12, .inl y2.2.2))]) hP hD [0, 1, 2] [] rfl rfl (by decide) (by decide) hk1 hFc hP1 hD1
    generalize H1 = H at hP hS ⊢
    have hP : va_P D vwCl [(aH, .inr (2, [.ref aH_ins, .ref aH_streaks, .int y2.1])), (aH_ins, .inl (cI, 12, .inl y2.2.1)), (aH_streaks, .inl (cI, 12, .inl y2.2.2))] H := hP.sub [0, 1, 2] rfl
    have hD : va_D A [(aH, .inr (2, [.ref aH_ins, .ref aH_streaks, .int y2.1])), (aH_ins, .inl (cI, 12, .inl y2.2.1)), (aH_streaks, .inl (cI, 12, .inl y2.2.2))] := hD.sub [0, 1, 2] (by decide) rfl
    exact L13 y2.1 y2.2.1 y2.2.2 p1 p2 _ _ hP hD hS ls (lv_sub hl [0, 1, 2] rfl) h

def f_X2_dropLatest (H_size : Int32) : Option (Int32) := (if H_size ≤ 0 then some H_size else some (H_size - (1 : Int32)))
set_option maxHeartbeats 8000000 in
set_option maxRecDepth 100000 in
theorem c_X2_dropLatest (l : Launch) (D : va_G) (cI cJ cZ cO : ClassId) (aH : Nat) (aH_ins : Nat) (aH_streaks : Nat) (H_size : Int32) (sz : Nat)   (y0 : Int32) (h : f_X2_dropLatest H_size = some y0) : Met l yX2_dropLatest wsX2_dropLatest ({ frames := 0, cells := 0, slots := 0, locals := 0 } : Room) (va_Pc [.ref aH] (fun U => U.heap.size = sz ∧ va_P D vwCl [(aH, .inr (2, [.ref aH_ins, .ref aH_streaks, .int H_size]))] U.heap ∧ KK D cI cJ cZ cO U ∧ va_D (fun _ => True) [(aH, .inr (2, [.ref aH_ins, .ref aH_streaks, .int H_size]))])) (va_Qv (fun (_ : Unit) => True) (fun (_ : Unit) t => va_P D vwCl [(aH, .inr (2, [.ref aH_ins, .ref aH_streaks, .int y0]))] t.heap ∧ va_D (va_A [(aH, .inr (2, [.ref aH_ins, .ref aH_streaks, .int H_size]))] sz) [(aH, .inr (2, [.ref aH_ins, .ref aH_streaks, .int y0]))]) (va_A [(aH, .inr (2, [.ref aH_ins, .ref aH_streaks, .int H_size]))] sz)) 0 0 (va_A [(aH, .inr (2, [.ref aH_ins, .ref aH_streaks, .int H_size]))] sz) := by
  refine Met.ofW (cc := cX2_dropLatest) (maxL := 1) (ret := none) (by decide) rfl ?_
  intro p e s m args below meth c s₁ B hml hv
  obtain ⟨rfl, hsz, hP, hKK, hD0⟩ := hv
  have hx := B.exec
  have hb := B.bytes
  have hr := B.returns
  have hts := atoms_spec (ws := wsX2_dropLatest) B.pre
  have hown : s.vm.findClass RX2 = some m.cls := findClass_of_methodNamed B.named
  have hlocks := B.notSynchronized
  have hK := hKK.1
  have fl_18 := hts (.fieldLink RX2 18 "SimonSays$History" "size" "I") (by decide +kernel)
  have inX2 : ∀ w ∈ wsX20, w ∈ wsX2_dropLatest := by decide +kernel
  subst hsz
  have hD := hD0.self (sz := s.heap.size)
  generalize hAe : va_A [(aH, .inr (2, [.ref aH_ins, .ref aH_streaks, .int H_size]))] s.heap.size = A at hD ⊢
  have hA : ∀ q : Nat, s.heap.size ≤ q → A q := fun q h => by rw [← hAe]; exact Or.inr h
  have hS : va_S A s.heap s.heap [] := va_S.rf
  have hl := lv_entry ([.ref aH]) (n := 1) (Nat.le_of_ble_eq_true rfl)
  rw [lg_entry_eq]
  generalize (lg_sl ([.ref aH]) ++ List.replicate (1 - (lg_sl ([.ref aH])).length) Slot.unset).toArray = ls at hl ⊢
  have hl : lv_has ls 1 [(0, .ref aH)] := hl
  unfold f_X2_dropLatest at h
  refine lv_aload_n hx hb dX2_dropLatest_0 rfl (lv_at hl 0 rfl) ?_
  refine va_get (D := D) (ci := 2) (v := .int H_size) (C := RX2) (T := TX2) (N := 3) hx hb hts inX2 hown hK hP 0 rfl rfl 2 (by decide) fl_18 (fun _ h9 => h9) rfl dX2_dropLatest_1 ?_
  refine lv_if_le (tgt := 17) hx hb dX2_dropLatest_4 (by decide) (fun c_1 => ?_) (fun c_1 => ?_)
  · replace h := if_p c_1 h
    have hy := Option.some.inj h
    subst hy
    exact W.vret hx hb hr (fun t ht hW => ⟨⟨(), rfl, trivial, by rw [ht]; exact hP, hD⟩, hS.F ht⟩) hS.2.2 dX2_dropLatest_17
  · replace h := if_n c_1 h
    refine lv_aload_n hx hb dX2_dropLatest_7 rfl (lv_at hl 0 rfl) ?_
    refine lv_dup hx hb dX2_dropLatest_8 rfl ?_
    refine va_get (D := D) (ci := 2) (v := .int H_size) (C := RX2) (T := TX2) (N := 3) hx hb hts inX2 hown hK hP 0 rfl rfl 2 (by decide) fl_18 (fun _ h9 => h9) rfl dX2_dropLatest_9 ?_
    refine lv_iconst (v := (1 : Int32)) hx hb dX2_dropLatest_12 (by decide) ?_
    refine lv_isub hx hb dX2_dropLatest_13 ?_
    refine va_put (D := D) (ci := 2) (v := .int (H_size - (1 : Int32))) (ty := .int) (C := RX2) (T := TX2) (N := 3) hx hb hts inX2 tyX2 tyX2_ok nmX2 hown hK hP hD hS 0 rfl rfl 2 (by decide) fl_18 (fun _ h9 => h9) rfl (by decide +kernel) rfl rfl (Nat.le_of_ble_eq_true rfl) dX2_dropLatest_14 (fun H locs hP hD hS => ?_)
    have hP : va_P D vwCl [(aH, .inr (2, [.ref aH_ins, .ref aH_streaks, .int (H_size - (1 : Int32))]))] H := hP
    have hD : va_D A [(aH, .inr (2, [.ref aH_ins, .ref aH_streaks, .int (H_size - (1 : Int32))]))] := hD
    have hy := Option.some.inj h
    subst hy
    exact W.vret hx hb hr (fun t ht hW => ⟨⟨(), rfl, trivial, by rw [ht]; exact hP, hD⟩, hS.F ht⟩) hS.2.2 dX2_dropLatest_17

def f_X2_droppedIn (H_size : Int32) (H_ins : Nat → Int32) : Option (Int32) := (if (12 : Int32) ≤ H_size then some (0 : Int32) else (if gIn H_size 12 = true then some (H_ins H_size.toNatClampNeg) else none))
set_option maxHeartbeats 8000000 in
set_option maxRecDepth 100000 in
theorem c_X2_droppedIn (l : Launch) (D : va_G) (cI cJ cZ cO : ClassId) (aH : Nat) (aH_ins : Nat) (aH_streaks : Nat) (H_size : Int32) (H_ins : Nat → Int32)    (y0 : Int32) (h : f_X2_droppedIn H_size H_ins = some y0) : Met l yX2_droppedIn wsX2_droppedIn ({ frames := 0, cells := 0, slots := 0, locals := 0 } : Room) (va_Pc [.ref aH] (fun U => va_P D vwCl [(aH, .inr (2, [.ref aH_ins, .ref aH_streaks, .int H_size])), (aH_ins, .inl (cI, 12, .inl H_ins))] U.heap ∧ KK D cI cJ cZ cO U)) (vp_Si (fun r => r = y0)) 0 0 (fun _ => False) := by
  refine Met.ofW (cc := cX2_droppedIn) (maxL := 1) (ret := (some .int)) (by decide) rfl ?_
  intro p e s m args below meth c s₁ B hml hv
  obtain ⟨rfl, hP, hKK⟩ := hv
  have hx := B.exec
  have hb := B.bytes
  have hr := B.returns
  have hts := atoms_spec (ws := wsX2_droppedIn) B.pre
  have hown : s.vm.findClass RX2 = some m.cls := findClass_of_methodNamed B.named
  have hlocks := B.notSynchronized
  have hK := hKK.1
  have fl_9 := hts (.fieldLink RX2 9 "SimonSays$History" "ins" "[I") (by decide +kernel)
  have fl_18 := hts (.fieldLink RX2 18 "SimonSays$History" "size" "I") (by decide +kernel)
  have inX2 : ∀ w ∈ wsX20, w ∈ wsX2_droppedIn := by decide +kernel
  have hl := lv_entry ([.ref aH]) (n := 1) (Nat.le_of_ble_eq_true rfl)
  rw [lg_entry_eq]
  generalize (lg_sl ([.ref aH]) ++ List.replicate (1 - (lg_sl ([.ref aH])).length) Slot.unset).toArray = ls at hl ⊢
  have hl : lv_has ls 1 [(0, .ref aH)] := hl
  unfold f_X2_droppedIn at h
  refine lv_aload_n hx hb dX2_droppedIn_0 rfl (lv_at hl 0 rfl) ?_
  refine va_get (D := D) (ci := 2) (v := .int H_size) (C := RX2) (T := TX2) (N := 3) hx hb hts inX2 hown hK hP 0 rfl rfl 2 (by decide) fl_18 (fun _ h9 => h9) rfl dX2_droppedIn_1 ?_
  refine lv_bipush (v := (12 : Int32)) hx hb dX2_droppedIn_4 (by decide) ?_
  refine lv_icmp_ge (tgt := 21) hx hb dX2_droppedIn_6 (by decide) (fun c_1 => ?_) (fun c_1 => ?_)
  · replace h := if_p c_1 h
    refine lv_iconst (v := (0 : Int32)) hx hb dX2_droppedIn_21 (by decide) ?_
    exact pr_i hx hb hr hlocks dX2_droppedIn_22 (Option.some.inj h)
  · replace h := if_n c_1 h
    refine lv_aload_n hx hb dX2_droppedIn_9 rfl (lv_at hl 0 rfl) ?_
    refine va_get (D := D) (ci := 2) (v := .ref aH_ins) (C := RX2) (T := TX2) (N := 3) hx hb hts inX2 hown hK hP 0 rfl rfl 0 (by decide) fl_9 (fun _ h9 => h9) rfl dX2_droppedIn_10 ?_
    refine lv_aload_n hx hb dX2_droppedIn_13 rfl (lv_at hl 0 rfl) ?_
    refine va_get (D := D) (ci := 2) (v := .int H_size) (C := RX2) (T := TX2) (N := 3) hx hb hts inX2 hown hK hP 0 rfl rfl 2 (by decide) fl_18 (fun _ h9 => h9) rfl dX2_droppedIn_14 ?_
    obtain ⟨hi2, h⟩ := gd_in h
    refine va_iald hx hb hK hP 1 0 rfl rfl hi2 dX2_droppedIn_17 ?_
    refine lv_goto (tgt := 22) hx hb dX2_droppedIn_18 (by decide) ?_
    exact pr_i hx hb hr hlocks dX2_droppedIn_22 (Option.some.inj h)

def f_X2_droppedStreak (H_size : Int32) (H_streaks : Nat → Int32) : Option (Int32) := (if (12 : Int32) ≤ H_size then some (0 : Int32) else (if gIn H_size 12 = true then some (H_streaks H_size.toNatClampNeg) else none))
set_option maxHeartbeats 8000000 in
set_option maxRecDepth 100000 in
theorem c_X2_droppedStreak (l : Launch) (D : va_G) (cI cJ cZ cO : ClassId) (aH : Nat) (aH_streaks : Nat) (aH_ins : Nat) (H_size : Int32) (H_streaks : Nat → Int32)    (y0 : Int32) (h : f_X2_droppedStreak H_size H_streaks = some y0) : Met l yX2_droppedStreak wsX2_droppedStreak ({ frames := 0, cells := 0, slots := 0, locals := 0 } : Room) (va_Pc [.ref aH] (fun U => va_P D vwCl [(aH, .inr (2, [.ref aH_ins, .ref aH_streaks, .int H_size])), (aH_streaks, .inl (cI, 12, .inl H_streaks))] U.heap ∧ KK D cI cJ cZ cO U)) (vp_Si (fun r => r = y0)) 0 0 (fun _ => False) := by
  refine Met.ofW (cc := cX2_droppedStreak) (maxL := 1) (ret := (some .int)) (by decide) rfl ?_
  intro p e s m args below meth c s₁ B hml hv
  obtain ⟨rfl, hP, hKK⟩ := hv
  have hx := B.exec
  have hb := B.bytes
  have hr := B.returns
  have hts := atoms_spec (ws := wsX2_droppedStreak) B.pre
  have hown : s.vm.findClass RX2 = some m.cls := findClass_of_methodNamed B.named
  have hlocks := B.notSynchronized
  have hK := hKK.1
  have fl_15 := hts (.fieldLink RX2 15 "SimonSays$History" "streaks" "[I") (by decide +kernel)
  have fl_18 := hts (.fieldLink RX2 18 "SimonSays$History" "size" "I") (by decide +kernel)
  have inX2 : ∀ w ∈ wsX20, w ∈ wsX2_droppedStreak := by decide +kernel
  have hl := lv_entry ([.ref aH]) (n := 1) (Nat.le_of_ble_eq_true rfl)
  rw [lg_entry_eq]
  generalize (lg_sl ([.ref aH]) ++ List.replicate (1 - (lg_sl ([.ref aH])).length) Slot.unset).toArray = ls at hl ⊢
  have hl : lv_has ls 1 [(0, .ref aH)] := hl
  unfold f_X2_droppedStreak at h
  refine lv_aload_n hx hb dX2_droppedStreak_0 rfl (lv_at hl 0 rfl) ?_
  refine va_get (D := D) (ci := 2) (v := .int H_size) (C := RX2) (T := TX2) (N := 3) hx hb hts inX2 hown hK hP 0 rfl rfl 2 (by decide) fl_18 (fun _ h9 => h9) rfl dX2_droppedStreak_1 ?_
  refine lv_bipush (v := (12 : Int32)) hx hb dX2_droppedStreak_4 (by decide) ?_
  refine lv_icmp_ge (tgt := 21) hx hb dX2_droppedStreak_6 (by decide) (fun c_1 => ?_) (fun c_1 => ?_)
  · replace h := if_p c_1 h
    refine lv_iconst (v := (0 : Int32)) hx hb dX2_droppedStreak_21 (by decide) ?_
    exact pr_i hx hb hr hlocks dX2_droppedStreak_22 (Option.some.inj h)
  · replace h := if_n c_1 h
    refine lv_aload_n hx hb dX2_droppedStreak_9 rfl (lv_at hl 0 rfl) ?_
    refine va_get (D := D) (ci := 2) (v := .ref aH_streaks) (C := RX2) (T := TX2) (N := 3) hx hb hts inX2 hown hK hP 0 rfl rfl 1 (by decide) fl_15 (fun _ h9 => h9) rfl dX2_droppedStreak_10 ?_
    refine lv_aload_n hx hb dX2_droppedStreak_13 rfl (lv_at hl 0 rfl) ?_
    refine va_get (D := D) (ci := 2) (v := .int H_size) (C := RX2) (T := TX2) (N := 3) hx hb hts inX2 hown hK hP 0 rfl rfl 2 (by decide) fl_18 (fun _ h9 => h9) rfl dX2_droppedStreak_14 ?_
    obtain ⟨hi2, h⟩ := gd_in h
    refine va_iald hx hb hK hP 1 0 rfl rfl hi2 dX2_droppedStreak_17 ?_
    refine lv_goto (tgt := 22) hx hb dX2_droppedStreak_18 (by decide) ?_
    exact pr_i hx hb hr hlocks dX2_droppedStreak_22 (Option.some.inj h)

def f_X3_isKept (I_kept : Int32) : Option (Int32) := (if zo I_kept then some I_kept else none)
set_option maxHeartbeats 8000000 in
set_option maxRecDepth 100000 in
theorem c_X3_isKept (l : Launch) (D : va_G) (cI cJ cZ cO : ClassId) (aI : Nat) (I_kept : Int32) (I_in : Int32) (I_streak : Int32) (I_lot : Int32)    (y0 : Int32) (h : f_X3_isKept I_kept = some y0) : Met l yX3_isKept wsX3_isKept ({ frames := 0, cells := 0, slots := 0, locals := 0 } : Room) (va_Pc [.ref aI] (fun U => va_P D vwCl [(aI, .inr (3, [.int I_kept, .int I_in, .int I_streak, .int I_lot]))] U.heap ∧ KK D cI cJ cZ cO U)) (vp_Si (fun r => r = y0 ∧ zo r)) 0 0 (fun _ => False) := by
  refine Met.ofW (cc := cX3_isKept) (maxL := 1) (ret := (some .boolean)) (by decide) rfl ?_
  intro p e s m args below meth c s₁ B hml hv
  obtain ⟨rfl, hP, hKK⟩ := hv
  have hx := B.exec
  have hb := B.bytes
  have hr := B.returns
  have hts := atoms_spec (ws := wsX3_isKept) B.pre
  have hown : s.vm.findClass RX3 = some m.cls := findClass_of_methodNamed B.named
  have hlocks := B.notSynchronized
  have hK := hKK.1
  have fl_7 := hts (.fieldLink RX3 7 "SimonSays$Image" "kept" "Z") (by decide +kernel)
  have inX3 : ∀ w ∈ wsX30, w ∈ wsX3_isKept := by decide +kernel
  have hl := lv_entry ([.ref aI]) (n := 1) (Nat.le_of_ble_eq_true rfl)
  rw [lg_entry_eq]
  generalize (lg_sl ([.ref aI]) ++ List.replicate (1 - (lg_sl ([.ref aI])).length) Slot.unset).toArray = ls at hl ⊢
  have hl : lv_has ls 1 [(0, .ref aI)] := hl
  unfold f_X3_isKept at h
  refine lv_aload_n hx hb dX3_isKept_0 rfl (lv_at hl 0 rfl) ?_
  refine va_get (D := D) (ci := 3) (v := .int I_kept) (C := RX3) (T := TX3) (N := 4) hx hb hts inX3 hown hK hP 0 rfl rfl 0 (by decide) fl_7 (fun _ h9 => h9) rfl dX3_isKept_1 ?_
  obtain ⟨hz1, h⟩ := gd_zo h
  exact pr_z hx hb hr hlocks dX3_isKept_4 (Option.some.inj h) hz1

def f_X3_forget (I_kept : Int32) : Option (Int32) := some (0 : Int32)
set_option maxHeartbeats 8000000 in
set_option maxRecDepth 100000 in
theorem c_X3_forget (l : Launch) (D : va_G) (cI cJ cZ cO : ClassId) (aI : Nat) (I_kept : Int32) (I_in : Int32) (I_streak : Int32) (I_lot : Int32) (sz : Nat)   (y0 : Int32) (h : f_X3_forget I_kept = some y0) : Met l yX3_forget wsX3_forget ({ frames := 0, cells := 0, slots := 0, locals := 0 } : Room) (va_Pc [.ref aI] (fun U => U.heap.size = sz ∧ va_P D vwCl [(aI, .inr (3, [.int I_kept, .int I_in, .int I_streak, .int I_lot]))] U.heap ∧ KK D cI cJ cZ cO U ∧ va_D (fun _ => True) [(aI, .inr (3, [.int I_kept, .int I_in, .int I_streak, .int I_lot]))])) (va_Qv (fun (_ : Unit) => True) (fun (_ : Unit) t => va_P D vwCl [(aI, .inr (3, [.int y0, .int I_in, .int I_streak, .int I_lot]))] t.heap ∧ va_D (va_A [(aI, .inr (3, [.int I_kept, .int I_in, .int I_streak, .int I_lot]))] sz) [(aI, .inr (3, [.int y0, .int I_in, .int I_streak, .int I_lot]))]) (va_A [(aI, .inr (3, [.int I_kept, .int I_in, .int I_streak, .int I_lot]))] sz)) 0 0 (va_A [(aI, .inr (3, [.int I_kept, .int I_in, .int I_streak, .int I_lot]))] sz) := by
  refine Met.ofW (cc := cX3_forget) (maxL := 1) (ret := none) (by decide) rfl ?_
  intro p e s m args below meth c s₁ B hml hv
  obtain ⟨rfl, hsz, hP, hKK, hD0⟩ := hv
  have hx := B.exec
  have hb := B.bytes
  have hr := B.returns
  have hts := atoms_spec (ws := wsX3_forget) B.pre
  have hown : s.vm.findClass RX3 = some m.cls := findClass_of_methodNamed B.named
  have hlocks := B.notSynchronized
  have hK := hKK.1
  have fl_7 := hts (.fieldLink RX3 7 "SimonSays$Image" "kept" "Z") (by decide +kernel)
  have inX3 : ∀ w ∈ wsX30, w ∈ wsX3_forget := by decide +kernel
  subst hsz
  have hD := hD0.self (sz := s.heap.size)
  generalize hAe : va_A [(aI, .inr (3, [.int I_kept, .int I_in, .int I_streak, .int I_lot]))] s.heap.size = A at hD ⊢
  have hA : ∀ q : Nat, s.heap.size ≤ q → A q := fun q h => by rw [← hAe]; exact Or.inr h
  have hS : va_S A s.heap s.heap [] := va_S.rf
  have hl := lv_entry ([.ref aI]) (n := 1) (Nat.le_of_ble_eq_true rfl)
  rw [lg_entry_eq]
  generalize (lg_sl ([.ref aI]) ++ List.replicate (1 - (lg_sl ([.ref aI])).length) Slot.unset).toArray = ls at hl ⊢
  have hl : lv_has ls 1 [(0, .ref aI)] := hl
  unfold f_X3_forget at h
  refine lv_aload_n hx hb dX3_forget_0 rfl (lv_at hl 0 rfl) ?_
  refine lv_iconst (v := (0 : Int32)) hx hb dX3_forget_1 (by decide) ?_
  refine va_put (D := D) (ci := 3) (v := .int (0 : Int32)) (ty := .boolean) (C := RX3) (T := TX3) (N := 4) hx hb hts inX3 tyX3 tyX3_ok nmX3 hown hK hP hD hS 0 rfl rfl 0 (by decide) fl_7 (fun _ h9 => h9) rfl (by decide +kernel) rfl rfl (Nat.le_of_ble_eq_true rfl) dX3_forget_2 (fun H locs hP hD hS => ?_)
  have hP : va_P D vwCl [(aI, .inr (3, [.int (0 : Int32), .int I_in, .int I_streak, .int I_lot]))] H := hP
  have hD : va_D A [(aI, .inr (3, [.int (0 : Int32), .int I_in, .int I_streak, .int I_lot]))] := hD
  have hy := Option.some.inj h
  subst hy
  exact W.vret hx hb hr (fun t ht hW => ⟨⟨(), rfl, trivial, by rw [ht]; exact hP, hD⟩, hS.F ht⟩) hS.2.2 dX3_forget_5

def f_X3_take (R_in : Int32) (R_streak : Int32) (R_lot : Int32) (I_kept : Int32) (I_in : Int32) (I_streak : Int32) (I_lot : Int32) : Option (Int32 × Int32 × Int32 × Int32) := some ((1 : Int32), (f_X6_whoIsIn R_in), (f_X6_streak R_streak), (f_X6_theLot R_lot))
set_option maxHeartbeats 8000000 in
set_option maxRecDepth 100000 in
theorem c_X3_take (l : Launch) (D : va_G) (cI cJ cZ cO : ClassId) (aR : Nat) (aI : Nat) (aT : Nat) (R_in : Int32) (R_streak : Int32) (R_lot : Int32) (I_kept : Int32) (I_in : Int32) (I_streak : Int32) (I_lot : Int32) (sz : Nat)   (y0 : Int32 × Int32 × Int32 × Int32) (h : f_X3_take R_in R_streak R_lot I_kept I_in I_streak I_lot = some y0) : Met l yX3_take wsX3_take ({ frames := 1, cells := 0, slots := 0, locals := 20 } : Room) (va_Pc [.ref aI, .ref aR] (fun U => U.heap.size = sz ∧ va_P D vwCl [(aR, .inr (6, [.ref aT, .int R_in, .int R_streak, .int R_lot])), (aI, .inr (3, [.int I_kept, .int I_in, .int I_streak, .int I_lot]))] U.heap ∧ KK D cI cJ cZ cO U ∧ va_D (fun _ => True) [(aR, .inr (6, [.ref aT, .int R_in, .int R_streak, .int R_lot])), (aI, .inr (3, [.int I_kept, .int I_in, .int I_streak, .int I_lot]))])) (va_Qv (fun (_ : Unit) => True) (fun (_ : Unit) t => va_P D vwCl [(aR, .inr (6, [.ref aT, .int R_in, .int R_streak, .int R_lot])), (aI, .inr (3, [.int y0.1, .int y0.2.1, .int y0.2.2.1, .int y0.2.2.2]))] t.heap ∧ va_D (va_A [(aR, .inr (6, [.ref aT, .int R_in, .int R_streak, .int R_lot])), (aI, .inr (3, [.int I_kept, .int I_in, .int I_streak, .int I_lot]))] sz) [(aR, .inr (6, [.ref aT, .int R_in, .int R_streak, .int R_lot])), (aI, .inr (3, [.int y0.1, .int y0.2.1, .int y0.2.2.1, .int y0.2.2.2]))]) (va_A [(aR, .inr (6, [.ref aT, .int R_in, .int R_streak, .int R_lot])), (aI, .inr (3, [.int I_kept, .int I_in, .int I_streak, .int I_lot]))] sz)) 0 0 (va_A [(aR, .inr (6, [.ref aT, .int R_in, .int R_streak, .int R_lot])), (aI, .inr (3, [.int I_kept, .int I_in, .int I_streak, .int I_lot]))] sz) := by
  refine Met.ofW (cc := cX3_take) (maxL := 2) (ret := none) (by decide) rfl ?_
  intro p e s m args below meth c s₁ B hml hv
  obtain ⟨rfl, hsz, hP, hKK, hD0⟩ := hv
  have hx := B.exec
  have hb := B.bytes
  have hr := B.returns
  have hts := atoms_spec (ws := wsX3_take) B.pre
  have hown : s.vm.findClass RX3 = some m.cls := findClass_of_methodNamed B.named
  have hlocks := B.notSynchronized
  have hK := hKK.1
  have fl_7 := hts (.fieldLink RX3 7 "SimonSays$Image" "kept" "Z") (by decide +kernel)
  have fl_19 := hts (.fieldLink RX3 19 "SimonSays$Image" "in" "I") (by decide +kernel)
  have fl_26 := hts (.fieldLink RX3 26 "SimonSays$Image" "streak" "I") (by decide +kernel)
  have fl_31 := hts (.fieldLink RX3 31 "SimonSays$Image" "lot" "I") (by decide +kernel)
  have inX3 : ∀ w ∈ wsX30, w ∈ wsX3_take := by decide +kernel
  subst hsz
  have hD := hD0.self (sz := s.heap.size)
  generalize hAe : va_A [(aR, .inr (6, [.ref aT, .int R_in, .int R_streak, .int R_lot])), (aI, .inr (3, [.int I_kept, .int I_in, .int I_streak, .int I_lot]))] s.heap.size = A at hD ⊢
  have hA : ∀ q : Nat, s.heap.size ≤ q → A q := fun q h => by rw [← hAe]; exact Or.inr h
  have hS : va_S A s.heap s.heap [] := va_S.rf
  have hl := lv_entry ([.ref aI, .ref aR]) (n := 2) (Nat.le_of_ble_eq_true rfl)
  rw [lg_entry_eq]
  generalize (lg_sl ([.ref aI, .ref aR]) ++ List.replicate (2 - (lg_sl ([.ref aI, .ref aR])).length) Slot.unset).toArray = ls at hl ⊢
  have hl : lv_has ls 2 [(0, .ref aI), (1, .ref aR)] := hl
  unfold f_X3_take at h
  refine lv_aload_n hx hb dX3_take_0 rfl (lv_at hl 0 rfl) ?_
  refine lv_iconst (v := (1 : Int32)) hx hb dX3_take_1 (by decide) ?_
  refine va_put (D := D) (ci := 3) (v := .int (1 : Int32)) (ty := .boolean) (C := RX3) (T := TX3) (N := 4) hx hb hts inX3 tyX3 tyX3_ok nmX3 hown hK hP hD hS 1 rfl rfl 0 (by decide) fl_7 (fun _ h9 => h9) rfl (by decide +kernel) rfl rfl (Nat.le_of_ble_eq_true rfl) dX3_take_2 (fun H locs hP hD hS => ?_)
  have hP : va_P D vwCl [(aR, .inr (6, [.ref aT, .int R_in, .int R_streak, .int R_lot])), (aI, .inr (3, [.int (1 : Int32), .int I_in, .int I_streak, .int I_lot]))] H := hP
  have hD : va_D A [(aR, .inr (6, [.ref aT, .int R_in, .int R_streak, .int R_lot])), (aI, .inr (3, [.int (1 : Int32), .int I_in, .int I_streak, .int I_lot]))] := hD
  refine lv_aload_n hx hb dX3_take_5 rfl (lv_at hl 0 rfl) ?_
  refine lv_aload_n hx hb dX3_take_6 rfl (lv_at hl 1 rfl) ?_
  have hPc : va_P D vwCl [(aR, .inr (6, [.ref aT, .int R_in, .int R_streak, .int R_lot]))] H := hP.sub [0] rfl
  refine vp_callSi (va_Run.run (va_runV (As := []) (rest := [.ref aI]) ⟨hx, hb, hml, hown, hts⟩ (c_X6_whoIsIn l D cI cJ cZ cO aR aT R_in R_streak R_lot _ rfl) (cwV 0 hts gX3_take_X6_whoIsIn rfl rfl rfl (by decide +kernel) ⟨Nat.le_of_ble_eq_true rfl, Nat.le_of_ble_eq_true rfl⟩) ⟨fb_p, va_recv hK hP (ci := 6) (q0 := 0) rfl rfl, fun U hU hW => ⟨rfl, by rw [hU]; exact hPc, KK.warm hW hKK⟩⟩ rfl rfl hl.1 rfl (lv_room (Nat.le_of_ble_eq_true rfl)) dX3_take_7 ⟨Nat.le_of_ble_eq_true rfl, Nat.le_of_ble_eq_true rfl⟩)) (fun r hr => ?_)
  replace hr := hr.symm
  subst hr
  refine va_put (D := D) (ci := 3) (v := .int (f_X6_whoIsIn R_in)) (ty := .int) (C := RX3) (T := TX3) (N := 4) hx hb hts inX3 tyX3 tyX3_ok nmX3 hown hK hP hD hS 1 rfl rfl 1 (by decide) fl_19 (fun _ h9 => h9) rfl (by decide +kernel) rfl rfl (Nat.le_of_ble_eq_true rfl) dX3_take_10 (fun H locs hP hD hS => ?_)
  have hP : va_P D vwCl [(aR, .inr (6, [.ref aT, .int R_in, .int R_streak, .int R_lot])), (aI, .inr (3, [.int (1 : Int32), .int (f_X6_whoIsIn R_in), .int I_streak, .int I_lot]))] H := hP
  have hD : va_D A [(aR, .inr (6, [.ref aT, .int R_in, .int R_streak, .int R_lot])), (aI, .inr (3, [.int (1 : Int32), .int (f_X6_whoIsIn R_in), .int I_streak, .int I_lot]))] := hD
  refine lv_aload_n hx hb dX3_take_13 rfl (lv_at hl 0 rfl) ?_
  refine lv_aload_n hx hb dX3_take_14 rfl (lv_at hl 1 rfl) ?_
  have hPc : va_P D vwCl [(aR, .inr (6, [.ref aT, .int R_in, .int R_streak, .int R_lot]))] H := hP.sub [0] rfl
  refine vp_callSi (va_Run.run (va_runV (As := []) (rest := [.ref aI]) ⟨hx, hb, hml, hown, hts⟩ (c_X6_streak l D cI cJ cZ cO aR aT R_in R_streak R_lot _ rfl) (cwV 0 hts gX3_take_X6_streak rfl rfl rfl (by decide +kernel) ⟨Nat.le_of_ble_eq_true rfl, Nat.le_of_ble_eq_true rfl⟩) ⟨fb_p, va_recv hK hP (ci := 6) (q0 := 0) rfl rfl, fun U hU hW => ⟨rfl, by rw [hU]; exact hPc, KK.warm hW hKK⟩⟩ rfl rfl hl.1 rfl (lv_room (Nat.le_of_ble_eq_true rfl)) dX3_take_15 ⟨Nat.le_of_ble_eq_true rfl, Nat.le_of_ble_eq_true rfl⟩)) (fun r hr => ?_)
  replace hr := hr.symm
  subst hr
  refine va_put (D := D) (ci := 3) (v := .int (f_X6_streak R_streak)) (ty := .int) (C := RX3) (T := TX3) (N := 4) hx hb hts inX3 tyX3 tyX3_ok nmX3 hown hK hP hD hS 1 rfl rfl 2 (by decide) fl_26 (fun _ h9 => h9) rfl (by decide +kernel) rfl rfl (Nat.le_of_ble_eq_true rfl) dX3_take_18 (fun H locs hP hD hS => ?_)
  have hP : va_P D vwCl [(aR, .inr (6, [.ref aT, .int R_in, .int R_streak, .int R_lot])), (aI, .inr (3, [.int (1 : Int32), .int (f_X6_whoIsIn R_in), .int (f_X6_streak R_streak), .int I_lot]))] H := hP
  have hD : va_D A [(aR, .inr (6, [.ref aT, .int R_in, .int R_streak, .int R_lot])), (aI, .inr (3, [.int (1 : Int32), .int (f_X6_whoIsIn R_in), .int (f_X6_streak R_streak), .int I_lot]))] := hD
  refine lv_aload_n hx hb dX3_take_21 rfl (lv_at hl 0 rfl) ?_
  refine lv_aload_n hx hb dX3_take_22 rfl (lv_at hl 1 rfl) ?_
  have hPc : va_P D vwCl [(aR, .inr (6, [.ref aT, .int R_in, .int R_streak, .int R_lot]))] H := hP.sub [0] rfl
  refine vp_callSi (va_Run.run (va_runV (As := []) (rest := [.ref aI]) ⟨hx, hb, hml, hown, hts⟩ (c_X6_theLot l D cI cJ cZ cO aR aT R_in R_streak R_lot _ rfl) (cwV 0 hts gX3_take_X6_theLot rfl rfl rfl (by decide +kernel) ⟨Nat.le_of_ble_eq_true rfl, Nat.le_of_ble_eq_true rfl⟩) ⟨fb_p, va_recv hK hP (ci := 6) (q0 := 0) rfl rfl, fun U hU hW => ⟨rfl, by rw [hU]; exact hPc, KK.warm hW hKK⟩⟩ rfl rfl hl.1 rfl (lv_room (Nat.le_of_ble_eq_true rfl)) dX3_take_23 ⟨Nat.le_of_ble_eq_true rfl, Nat.le_of_ble_eq_true rfl⟩)) (fun r hr => ?_)
  replace hr := hr.symm
  subst hr
  refine va_put (D := D) (ci := 3) (v := .int (f_X6_theLot R_lot)) (ty := .int) (C := RX3) (T := TX3) (N := 4) hx hb hts inX3 tyX3 tyX3_ok nmX3 hown hK hP hD hS 1 rfl rfl 3 (by decide) fl_31 (fun _ h9 => h9) rfl (by decide +kernel) rfl rfl (Nat.le_of_ble_eq_true rfl) dX3_take_26 (fun H locs hP hD hS => ?_)
  have hP : va_P D vwCl [(aR, .inr (6, [.ref aT, .int R_in, .int R_streak, .int R_lot])), (aI, .inr (3, [.int (1 : Int32), .int (f_X6_whoIsIn R_in), .int (f_X6_streak R_streak), .int (f_X6_theLot R_lot)]))] H := hP
  have hD : va_D A [(aR, .inr (6, [.ref aT, .int R_in, .int R_streak, .int R_lot])), (aI, .inr (3, [.int (1 : Int32), .int (f_X6_whoIsIn R_in), .int (f_X6_streak R_streak), .int (f_X6_theLot R_lot)]))] := hD
  have hy := Option.some.inj h
  subst hy
  exact W.vret hx hb hr (fun t ht hW => ⟨⟨(), rfl, trivial, by rw [ht]; exact hP, hD⟩, hS.F ht⟩) hS.2.2 dX3_take_29

def f_X3_giveTo (R_in : Int32) (R_streak : Int32) (R_lot : Int32) (I_in : Int32) (I_streak : Int32) (I_lot : Int32) : Option (Int32 × Int32 × Int32) := (Option.bind (f_X6_become R_in R_streak I_in I_streak) (fun y1 => (Option.bind (f_X6_setLot R_lot I_lot) (fun y2 => some (y1.1, y1.2, y2)))))
set_option maxHeartbeats 8000000 in
set_option maxRecDepth 100000 in
theorem c_X3_giveTo (l : Launch) (D : va_G) (cI cJ cZ cO : ClassId) (aR : Nat) (aI : Nat) (aT : Nat) (R_in : Int32) (R_streak : Int32) (R_lot : Int32) (I_kept : Int32) (I_in : Int32) (I_streak : Int32) (I_lot : Int32) (sz : Nat)   (y0 : Int32 × Int32 × Int32) (h : f_X3_giveTo R_in R_streak R_lot I_in I_streak I_lot = some y0) : Met l yX3_giveTo wsX3_giveTo ({ frames := 1, cells := 0, slots := 0, locals := 22 } : Room) (va_Pc [.ref aI, .ref aR] (fun U => U.heap.size = sz ∧ va_P D vwCl [(aR, .inr (6, [.ref aT, .int R_in, .int R_streak, .int R_lot])), (aI, .inr (3, [.int I_kept, .int I_in, .int I_streak, .int I_lot]))] U.heap ∧ KK D cI cJ cZ cO U ∧ va_D (fun _ => True) [(aR, .inr (6, [.ref aT, .int R_in, .int R_streak, .int R_lot])), (aI, .inr (3, [.int I_kept, .int I_in, .int I_streak, .int I_lot]))])) (va_Qv (fun (_ : Unit) => True) (fun (_ : Unit) t => va_P D vwCl [(aR, .inr (6, [.ref aT, .int y0.1, .int y0.2.1, .int y0.2.2])), (aI, .inr (3, [.int I_kept, .int I_in, .int I_streak, .int I_lot]))] t.heap ∧ va_D (va_A [(aR, .inr (6, [.ref aT, .int R_in, .int R_streak, .int R_lot])), (aI, .inr (3, [.int I_kept, .int I_in, .int I_streak, .int I_lot]))] sz) [(aR, .inr (6, [.ref aT, .int y0.1, .int y0.2.1, .int y0.2.2])), (aI, .inr (3, [.int I_kept, .int I_in, .int I_streak, .int I_lot]))]) (va_A [(aR, .inr (6, [.ref aT, .int R_in, .int R_streak, .int R_lot])), (aI, .inr (3, [.int I_kept, .int I_in, .int I_streak, .int I_lot]))] sz)) 0 0 (va_A [(aR, .inr (6, [.ref aT, .int R_in, .int R_streak, .int R_lot])), (aI, .inr (3, [.int I_kept, .int I_in, .int I_streak, .int I_lot]))] sz) := by
  refine Met.ofW (cc := cX3_giveTo) (maxL := 2) (ret := none) (by decide) rfl ?_
  intro p e s m args below meth c s₁ B hml hv
  obtain ⟨rfl, hsz, hP, hKK, hD0⟩ := hv
  have hx := B.exec
  have hb := B.bytes
  have hr := B.returns
  have hts := atoms_spec (ws := wsX3_giveTo) B.pre
  have hown : s.vm.findClass RX3 = some m.cls := findClass_of_methodNamed B.named
  have hlocks := B.notSynchronized
  have hK := hKK.1
  have fl_19 := hts (.fieldLink RX3 19 "SimonSays$Image" "in" "I") (by decide +kernel)
  have fl_26 := hts (.fieldLink RX3 26 "SimonSays$Image" "streak" "I") (by decide +kernel)
  have fl_31 := hts (.fieldLink RX3 31 "SimonSays$Image" "lot" "I") (by decide +kernel)
  have inX3 : ∀ w ∈ wsX30, w ∈ wsX3_giveTo := by decide +kernel
  subst hsz
  have hD := hD0.self (sz := s.heap.size)
  generalize hAe : va_A [(aR, .inr (6, [.ref aT, .int R_in, .int R_streak, .int R_lot])), (aI, .inr (3, [.int I_kept, .int I_in, .int I_streak, .int I_lot]))] s.heap.size = A at hD ⊢
  have hA : ∀ q : Nat, s.heap.size ≤ q → A q := fun q h => by rw [← hAe]; exact Or.inr h
  have hS : va_S A s.heap s.heap [] := va_S.rf
  have hl := lv_entry ([.ref aI, .ref aR]) (n := 2) (Nat.le_of_ble_eq_true rfl)
  rw [lg_entry_eq]
  generalize (lg_sl ([.ref aI, .ref aR]) ++ List.replicate (2 - (lg_sl ([.ref aI, .ref aR])).length) Slot.unset).toArray = ls at hl ⊢
  have hl : lv_has ls 2 [(0, .ref aI), (1, .ref aR)] := hl
  unfold f_X3_giveTo at h
  refine lv_aload_n hx hb dX3_giveTo_0 rfl (lv_at hl 1 rfl) ?_
  refine lv_aload_n hx hb dX3_giveTo_1 rfl (lv_at hl 0 rfl) ?_
  refine va_get (D := D) (ci := 3) (v := .int I_in) (C := RX3) (T := TX3) (N := 4) hx hb hts inX3 hown hK hP 1 rfl rfl 1 (by decide) fl_19 (fun _ h9 => h9) rfl dX3_giveTo_2 ?_
  refine lv_aload_n hx hb dX3_giveTo_5 rfl (lv_at hl 0 rfl) ?_
  refine va_get (D := D) (ci := 3) (v := .int I_streak) (C := RX3) (T := TX3) (N := 4) hx hb hts inX3 hown hK hP 1 rfl rfl 2 (by decide) fl_26 (fun _ h9 => h9) rfl dX3_giveTo_6 ?_
  obtain ⟨y1, qy1, h⟩ := ob_some h
  have hPc : va_P D vwCl [(aR, .inr (6, [.ref aT, .int R_in, .int R_streak, .int R_lot]))] s.heap := hP.sub [0] rfl
  have hDc : va_D A [(aR, .inr (6, [.ref aT, .int R_in, .int R_streak, .int R_lot]))] := hD.sub [0] (by decide) rfl
  have hFc := va_free (wc := [(aR, .inr (6, [.ref aT, .int R_in, .int R_streak, .int R_lot]))]) hD hS hA [0] rfl
  refine va_callv (va_runV (As := [.int I_in, .int I_streak]) (rest := []) ⟨hx, hb, hml, hown, hts⟩ (c_X6_become l D cI cJ cZ cO aR aT R_in R_streak R_lot s.heap.size I_in I_streak y1 qy1) (cwV 2 hts gX3_giveTo_X6_become rfl rfl rfl (by decide +kernel) ⟨Nat.le_of_ble_eq_true rfl, Nat.le_of_ble_eq_true rfl⟩) ⟨fb_i, va_recv hK hP (ci := 6) (q0 := 0) rfl rfl, fun U hU hW => ⟨rfl, by rw [hU], by rw [hU]; exact hPc, KK.warm hW hKK, hDc.weaken (fun _ _ _ _ => trivial)⟩⟩ rfl rfl hl.1 rfl (lv_room (Nat.le_of_ble_eq_true rfl)) dX3_giveTo_9 ⟨Nat.le_of_ble_eq_true rfl, Nat.le_of_ble_eq_true rfl⟩) hS (fun q _ h => hFc q h) hFc (fun u t H1 locs ht hvm hw hB hz1 hk1 hS => ?_)
  obtain ⟨hP1, hD1⟩ := hB
  rw [ht] at hP1
  obtain ⟨hP, hD⟩ := va_join (wr := [(aI, .inr (3, [.int I_kept, .int I_in, .int I_streak, .int I_lot]))]) (w1 := [(aR, .inr (6, [.ref aT, .int y1.1, .int y1.2, .int R_lot]))]) hP hD [0] [1] rfl rfl (by decide) (by decide) hk1 hFc hP1 hD1
  generalize H1 = H at hP hS ⊢
  have hP : va_P D vwCl [(aR, .inr (6, [.ref aT, .int y1.1, .int y1.2, .int R_lot])), (aI, .inr (3, [.int I_kept, .int I_in, .int I_streak, .int I_lot]))] H := hP.sub [1, 0] rfl
  have hD : va_D A [(aR, .inr (6, [.ref aT, .int y1.1, .int y1.2, .int R_lot])), (aI, .inr (3, [.int I_kept, .int I_in, .int I_streak, .int I_lot]))] := hD.sub [1, 0] (by decide) rfl
  refine lv_aload_n hx hb dX3_giveTo_12 rfl (lv_at hl 1 rfl) ?_
  refine lv_aload_n hx hb dX3_giveTo_13 rfl (lv_at hl 0 rfl) ?_
  refine va_get (D := D) (ci := 3) (v := .int I_lot) (C := RX3) (T := TX3) (N := 4) hx hb hts inX3 hown hK hP 1 rfl rfl 3 (by decide) fl_31 (fun _ h9 => h9) rfl dX3_giveTo_14 ?_
  obtain ⟨y2, qy2, h⟩ := ob_some h
  have hPc : va_P D vwCl [(aR, .inr (6, [.ref aT, .int y1.1, .int y1.2, .int R_lot]))] H := hP.sub [0] rfl
  have hDc : va_D A [(aR, .inr (6, [.ref aT, .int y1.1, .int y1.2, .int R_lot]))] := hD.sub [0] (by decide) rfl
  have hFc := va_free (wc := [(aR, .inr (6, [.ref aT, .int y1.1, .int y1.2, .int R_lot]))]) hD hS hA [0] rfl
  refine va_callv (va_runV (As := [.int I_lot]) (rest := []) ⟨hx, hb, hml, hown, hts⟩ (c_X6_setLot l D cI cJ cZ cO aR aT y1.1 y1.2 R_lot H.size I_lot y2 qy2) (cwV 1 hts gX3_giveTo_X6_setLot rfl rfl rfl (by decide +kernel) ⟨Nat.le_of_ble_eq_true rfl, Nat.le_of_ble_eq_true rfl⟩) ⟨fb_i, va_recv hK hP (ci := 6) (q0 := 0) rfl rfl, fun U hU hW => ⟨rfl, by rw [hU], by rw [hU]; exact hPc, KK.warm hW hKK, hDc.weaken (fun _ _ _ _ => trivial)⟩⟩ rfl rfl hl.1 rfl (lv_room (Nat.le_of_ble_eq_true rfl)) dX3_giveTo_17 ⟨Nat.le_of_ble_eq_true rfl, Nat.le_of_ble_eq_true rfl⟩) hS (fun q _ h => hFc q h) hFc (fun u t H1 locs ht hvm hw hB hz1 hk1 hS => ?_)
  obtain ⟨hP1, hD1⟩ := hB
  rw [ht] at hP1
  obtain ⟨hP, hD⟩ := va_join (wr := [(aI, .inr (3, [.int I_kept, .int I_in, .int I_streak, .int I_lot]))]) (w1 := [(aR, .inr (6, [.ref aT, .int y1.1, .int y1.2, .int y2]))]) hP hD [0] [1] rfl rfl (by decide) (by decide) hk1 hFc hP1 hD1
  generalize H1 = H at hP hS ⊢
  have hP : va_P D vwCl [(aR, .inr (6, [.ref aT, .int y1.1, .int y1.2, .int y2])), (aI, .inr (3, [.int I_kept, .int I_in, .int I_streak, .int I_lot]))] H := hP.sub [1, 0] rfl
  have hD : va_D A [(aR, .inr (6, [.ref aT, .int y1.1, .int y1.2, .int y2])), (aI, .inr (3, [.int I_kept, .int I_in, .int I_streak, .int I_lot]))] := hD.sub [1, 0] (by decide) rfl
  have hy := Option.some.inj h
  subst hy
  exact W.vret hx hb hr (fun t ht hW => ⟨⟨(), rfl, trivial, by rw [ht]; exact hP, hD⟩, hS.F ht⟩) hS.2.2 dX3_giveTo_20

def f_X7_length (W_length : Int32) : Int32 := W_length
set_option maxHeartbeats 8000000 in
set_option maxRecDepth 100000 in
theorem c_X7_length (l : Launch) (D : va_G) (cI cJ cZ cO : ClassId) (aW : Nat) (aW_figures : Nat) (W_length : Int32)    (y0 : Int32) (h : f_X7_length W_length = y0) : Met l yX7_length wsX7_length ({ frames := 0, cells := 0, slots := 0, locals := 0 } : Room) (va_Pc [.ref aW] (fun U => va_P D vwCl [(aW, .inr (7, [.ref aW_figures, .int W_length]))] U.heap ∧ KK D cI cJ cZ cO U)) (vp_Si (fun r => r = y0)) 0 0 (fun _ => False) := by
  refine Met.ofW (cc := cX7_length) (maxL := 1) (ret := (some .int)) (by decide) rfl ?_
  intro p e s m args below meth c s₁ B hml hv
  obtain ⟨rfl, hP, hKK⟩ := hv
  have hx := B.exec
  have hb := B.bytes
  have hr := B.returns
  have hts := atoms_spec (ws := wsX7_length) B.pre
  have hown : s.vm.findClass RX7 = some m.cls := findClass_of_methodNamed B.named
  have hlocks := B.notSynchronized
  have hK := hKK.1
  have fl_15 := hts (.fieldLink RX7 15 "SimonSays$Row" "length" "I") (by decide +kernel)
  have inX7 : ∀ w ∈ wsX70, w ∈ wsX7_length := by decide +kernel
  have hl := lv_entry ([.ref aW]) (n := 1) (Nat.le_of_ble_eq_true rfl)
  rw [lg_entry_eq]
  generalize (lg_sl ([.ref aW]) ++ List.replicate (1 - (lg_sl ([.ref aW])).length) Slot.unset).toArray = ls at hl ⊢
  have hl : lv_has ls 1 [(0, .ref aW)] := hl
  unfold f_X7_length at h
  refine lv_aload_n hx hb dX7_length_0 rfl (lv_at hl 0 rfl) ?_
  refine va_get (D := D) (ci := 7) (v := .int W_length) (C := RX7) (T := TX7) (N := 2) hx hb hts inX7 hown hK hP 0 rfl rfl 1 (by decide) fl_15 (fun _ h9 => h9) rfl dX7_length_1 ?_
  exact pr_i hx hb hr hlocks dX7_length_4 h

def f_X7_read_L71 (W_length : Int32) (W_figures : Nat → Int32) (x3 : Int32) : Option (Int32 × Int32 × (Nat → Int32)) := (if x3 = 0 then some ((1 : Int32), W_length, W_figures) else some ((0 : Int32), W_length, W_figures))
def f_X7_read_L10  : Nat → Int32 → (Nat → Int32) → Int32 → Int32 → Int32 → Option (Int32 × Int32 × (Nat → Int32))
  | 0, _, _, _, _, _ => none
  | n + 1, W_length, W_figures, x2, x3, x4 => (if x2 ≤ x4 then f_X7_read_L71 W_length W_figures x3 else (if (9 : Int32) ≤ x4 then f_X7_read_L71 W_length W_figures x3 else (if x3 ≤ 0 then f_X7_read_L71 W_length W_figures x3 else (if (f_X9_isOrder (x3 - x3 / (10 : Int32) * (10 : Int32))) = 0 then some ((0 : Int32), W_length, W_figures) else (if gIn x4 9 = true then f_X7_read_L10 n (W_length + (1 : Int32)) (upd W_figures x4.toNatClampNeg (x3 - x3 / (10 : Int32) * (10 : Int32))) x2 (x3 / (10 : Int32)) (x4 + (1 : Int32)) else none)))))
def f_X7_read (W_length : Int32) (W_figures : Nat → Int32) (p1 : Int32) (p2 : Int32) : Option (Int32 × Int32 × (Nat → Int32)) := f_X7_read_L10 300 (0 : Int32) W_figures p2 p1 (0 : Int32)
set_option maxHeartbeats 8000000 in
set_option maxRecDepth 100000 in
theorem c_X7_read (l : Launch) (D : va_G) (cI cJ cZ cO : ClassId) (aW : Nat) (aW_figures : Nat) (W_length : Int32) (W_figures : Nat → Int32) (sz : Nat) (p1 : Int32) (p2 : Int32)  (y0 : Int32 × Int32 × (Nat → Int32)) (h : f_X7_read W_length W_figures p1 p2 = some y0) : Met l yX7_read wsX7_read ({ frames := 1, cells := 0, slots := 0, locals := 20 } : Room) (va_Pc [.ref aW, .int p1, .int p2] (fun U => U.heap.size = sz ∧ va_P D vwCl [(aW, .inr (7, [.ref aW_figures, .int W_length])), (aW_figures, .inl (cI, 9, .inl W_figures))] U.heap ∧ KK D cI cJ cZ cO U ∧ va_D (fun _ => True) [(aW, .inr (7, [.ref aW_figures, .int W_length])), (aW_figures, .inl (cI, 9, .inl W_figures))])) (va_Qi (fun (r : Int32) (_ : Unit) => r = y0.1 ∧ zo r) (fun (_ : Unit) t => va_P D vwCl [(aW, .inr (7, [.ref aW_figures, .int y0.2.1])), (aW_figures, .inl (cI, 9, .inl y0.2.2))] t.heap ∧ va_D (va_A [(aW, .inr (7, [.ref aW_figures, .int W_length])), (aW_figures, .inl (cI, 9, .inl W_figures))] sz) [(aW, .inr (7, [.ref aW_figures, .int y0.2.1])), (aW_figures, .inl (cI, 9, .inl y0.2.2))]) (va_A [(aW, .inr (7, [.ref aW_figures, .int W_length])), (aW_figures, .inl (cI, 9, .inl W_figures))] sz)) 0 0 (va_A [(aW, .inr (7, [.ref aW_figures, .int W_length])), (aW_figures, .inl (cI, 9, .inl W_figures))] sz) := by
  refine Met.ofW (cc := cX7_read) (maxL := 5) (ret := (some .boolean)) (by decide) rfl ?_
  intro p e s m args below meth c s₁ B hml hv
  obtain ⟨rfl, hsz, hP, hKK, hD0⟩ := hv
  have hx := B.exec
  have hb := B.bytes
  have hr := B.returns
  have hts := atoms_spec (ws := wsX7_read) B.pre
  have hown : s.vm.findClass RX7 = some m.cls := findClass_of_methodNamed B.named
  have hlocks := B.notSynchronized
  have hK := hKK.1
  have fl_9 := hts (.fieldLink RX7 9 "SimonSays$Row" "figures" "[I") (by decide +kernel)
  have fl_15 := hts (.fieldLink RX7 15 "SimonSays$Row" "length" "I") (by decide +kernel)
  have ini_X9 := hts (.initialized RX9) (by decide +kernel)
  have sta_X9_isOrder := hts (.static yX9_isOrder) (by decide +kernel)
  have inX7 : ∀ w ∈ wsX70, w ∈ wsX7_read := by decide +kernel
  subst hsz
  have hD := hD0.self (sz := s.heap.size)
  generalize hAe : va_A [(aW, .inr (7, [.ref aW_figures, .int W_length])), (aW_figures, .inl (cI, 9, .inl W_figures))] s.heap.size = A at hD ⊢
  have hA : ∀ q : Nat, s.heap.size ≤ q → A q := fun q h => by rw [← hAe]; exact Or.inr h
  have hS : va_S A s.heap s.heap [] := va_S.rf
  have hl := lv_entry ([.ref aW, .int p1, .int p2]) (n := 5) (Nat.le_of_ble_eq_true rfl)
  rw [lg_entry_eq]
  generalize (lg_sl ([.ref aW, .int p1, .int p2]) ++ List.replicate (5 - (lg_sl ([.ref aW, .int p1, .int p2])).length) Slot.unset).toArray = ls at hl ⊢
  have hl : lv_has ls 5 [(0, .ref aW), (1, .int p1), (2, .int p2)] := hl
  have L71 : ∀ (W_length : Int32) (W_figures : Nat → Int32) (x3 : Int32), ∀ (H : Heap) (locs : List Loc), va_P D vwCl [(aW, .inr (7, [.ref aW_figures, .int W_length])), (aW_figures, .inl (cI, 9, .inl W_figures))] H → va_D A [(aW, .inr (7, [.ref aW_figures, .int W_length])), (aW_figures, .inl (cI, 9, .inl W_figures))] → va_S A s.heap H locs → ∀ (ls : Array Slot), lv_has ls 5 [(0, .ref aW), (3, .int x3)] → f_X7_read_L71 W_length W_figures x3 = some y0 → W p l e (headSpec wsX7_read ({ frames := 1, cells := 0, slots := 0, locals := 20 } : Room)).room s m ([.ref aW, .int p1, .int p2] : List Value).toArray below meth c H locs 0 0 (MQ below (va_Qi (fun (r : Int32) (_ : Unit) => r = y0.1 ∧ zo r) (fun (_ : Unit) t => va_P D vwCl [(aW, .inr (7, [.ref aW_figures, .int y0.2.1])), (aW_figures, .inl (cI, 9, .inl y0.2.2))] t.heap ∧ va_D A [(aW, .inr (7, [.ref aW_figures, .int y0.2.1])), (aW_figures, .inl (cI, 9, .inl y0.2.2))]) A) ([.ref aW, .int p1, .int p2] : List Value).toArray s 0 0 A) (F0 m 71 ls []) := by
    intro W_length W_figures x3 H locs hP hD hS ls hl h
    unfold f_X7_read_L71 at h
    refine lv_iload_n hx hb dX7_read_71 rfl (lv_at hl 1 rfl) ?_
    refine lv_if_ne (tgt := 79) hx hb dX7_read_72 (by decide) (fun c_7 => ?_) (fun c_7 => ?_)
    · replace h := if_n c_7 h
      refine lv_iconst (v := (0 : Int32)) hx hb dX7_read_79 (by decide) ?_
      have hy := Option.some.inj h
      subst hy
      exact W.zret (v := (0 : Int32)) hx hb hr (zo_nar (by decide)) (fun t ht hW => ⟨⟨(0 : Int32), (), rfl, ⟨rfl, (by decide)⟩, by rw [ht]; exact hP, hD⟩, hS.F ht⟩) hS.2.2 dX7_read_80
    · replace h := if_p c_7 h
      refine lv_iconst (v := (1 : Int32)) hx hb dX7_read_75 (by decide) ?_
      refine lv_goto (tgt := 80) hx hb dX7_read_76 (by decide) ?_
      have hy := Option.some.inj h
      subst hy
      exact W.zret (v := (1 : Int32)) hx hb hr (zo_nar (by decide)) (fun t ht hW => ⟨⟨(1 : Int32), (), rfl, ⟨rfl, (by decide)⟩, by rw [ht]; exact hP, hD⟩, hS.F ht⟩) hS.2.2 dX7_read_80
  have L10 : ∀ (n : Nat), ∀ (W_length : Int32) (W_figures : Nat → Int32) (x2 : Int32) (x3 : Int32) (x4 : Int32), ∀ (H : Heap) (locs : List Loc), va_P D vwCl [(aW, .inr (7, [.ref aW_figures, .int W_length])), (aW_figures, .inl (cI, 9, .inl W_figures))] H → va_D A [(aW, .inr (7, [.ref aW_figures, .int W_length])), (aW_figures, .inl (cI, 9, .inl W_figures))] → va_S A s.heap H locs → ∀ (ls : Array Slot), lv_has ls 5 [(0, .ref aW), (2, .int x2), (3, .int x3), (4, .int x4)] → f_X7_read_L10 n W_length W_figures x2 x3 x4 = some y0 → W p l e (headSpec wsX7_read ({ frames := 1, cells := 0, slots := 0, locals := 20 } : Room)).room s m ([.ref aW, .int p1, .int p2] : List Value).toArray below meth c H locs 0 0 (MQ below (va_Qi (fun (r : Int32) (_ : Unit) => r = y0.1 ∧ zo r) (fun (_ : Unit) t => va_P D vwCl [(aW, .inr (7, [.ref aW_figures, .int y0.2.1])), (aW_figures, .inl (cI, 9, .inl y0.2.2))] t.heap ∧ va_D A [(aW, .inr (7, [.ref aW_figures, .int y0.2.1])), (aW_figures, .inl (cI, 9, .inl y0.2.2))]) A) ([.ref aW, .int p1, .int p2] : List Value).toArray s 0 0 A) (F0 m 10 ls []) := by
    intro n
    induction n with
    | zero =>
      intro W_length W_figures x2 x3 x4 H locs hP hD hS ls hl h
      exact (ns h).elim
    | succ n ih =>
      intro W_length W_figures x2 x3 x4 H locs hP hD hS ls hl h
      unfold f_X7_read_L10 at h
      refine lv_iload hx hb dX7_read_10 (lv_at hl 3 rfl) ?_
      refine lv_iload_n hx hb dX7_read_12 rfl (lv_at hl 1 rfl) ?_
      refine lv_icmp_ge (tgt := 71) hx hb dX7_read_13 (by decide) (fun c_1 => ?_) (fun c_1 => ?_)
      · replace h := if_p c_1 h
        exact L71 W_length W_figures x3 _ _ hP hD hS ls (lv_sub hl [0, 2] rfl) h
      · replace h := if_n c_1 h
        refine lv_iload hx hb dX7_read_16 (lv_at hl 3 rfl) ?_
        refine lv_bipush (v := (9 : Int32)) hx hb dX7_read_18 (by decide) ?_
        refine lv_icmp_ge (tgt := 71) hx hb dX7_read_20 (by decide) (fun c_2 => ?_) (fun c_2 => ?_)
        · replace h := if_p c_2 h
          exact L71 W_length W_figures x3 _ _ hP hD hS ls (lv_sub hl [0, 2] rfl) h
        · replace h := if_n c_2 h
          refine lv_iload_n hx hb dX7_read_23 rfl (lv_at hl 2 rfl) ?_
          refine lv_if_le (tgt := 71) hx hb dX7_read_24 (by decide) (fun c_3 => ?_) (fun c_3 => ?_)
          · replace h := if_p c_3 h
            exact L71 W_length W_figures x3 _ _ hP hD hS ls (lv_sub hl [0, 2] rfl) h
          · replace h := if_n c_3 h
            refine lv_iload_n hx hb dX7_read_27 rfl (lv_at hl 2 rfl) ?_
            refine lv_bipush (v := (10 : Int32)) hx hb dX7_read_28 (by decide) ?_
            refine lv_irem hx hb dX7_read_30 (by decide) ?_
            have hPc : va_P D vwCl [] H := hP.sub [] rfl
            refine vp_callSi (va_Run.run (va_runSN (As := [.int (x3 - x3 / (10 : Int32) * (10 : Int32))]) (rest := []) ⟨hx, hb, hml, hown, hts⟩ (c_X9_isOrder l D cI cJ cZ cO (x3 - x3 / (10 : Int32) * (10 : Int32)) _ rfl) ⟨va_cnB (host := "SimonSays") 1 hts gX7_read_X9_isOrder_n19 rfl rfl rfl (gN_X7_19 hKK.2) ini_X9 (by decide +kernel) ⟨Nat.le_of_ble_eq_true rfl, Nat.le_of_ble_eq_true rfl⟩, sta_X9_isOrder, trivial⟩ ⟨fb_p, fun U hU hW => ⟨rfl, by rw [hU]; exact hPc, KK.warm hW hKK⟩⟩ rfl rfl hl.1 rfl (lv_room (Nat.le_of_ble_eq_true rfl)) dX7_read_31 ⟨Nat.le_of_ble_eq_true rfl, Nat.le_of_ble_eq_true rfl⟩)) (fun r hr => ?_)
            obtain ⟨hr, hz4⟩ := hr
            replace hr := hr.symm
            subst hr
            refine lv_if_ne (tgt := 39) hx hb dX7_read_34 (by decide) (fun c_5 => ?_) (fun c_5 => ?_)
            · replace h := if_n c_5 h
              refine lv_aload_n hx hb dX7_read_39 rfl (lv_at hl 0 rfl) ?_
              refine va_get (D := D) (ci := 7) (v := .ref aW_figures) (C := RX7) (T := TX7) (N := 2) hx hb hts inX7 hown hK hP 0 rfl rfl 0 (by decide) fl_9 (fun _ h9 => h9) rfl dX7_read_40 ?_
              refine lv_iload hx hb dX7_read_43 (lv_at hl 3 rfl) ?_
              refine lv_iload_n hx hb dX7_read_45 rfl (lv_at hl 2 rfl) ?_
              refine lv_bipush (v := (10 : Int32)) hx hb dX7_read_46 (by decide) ?_
              refine lv_irem hx hb dX7_read_48 (by decide) ?_
              obtain ⟨hi6, h⟩ := gd_in h
              refine va_iast hx hb hK hP hD hS 1 0 rfl rfl hi6 dX7_read_49 (fun H locs hP hD hS => ?_)
              have hP : va_P D vwCl [(aW, .inr (7, [.ref aW_figures, .int W_length])), (aW_figures, .inl (cI, 9, .inl (upd W_figures x4.toNatClampNeg (x3 - x3 / (10 : Int32) * (10 : Int32)))))] H := hP
              have hD : va_D A [(aW, .inr (7, [.ref aW_figures, .int W_length])), (aW_figures, .inl (cI, 9, .inl (upd W_figures x4.toNatClampNeg (x3 - x3 / (10 : Int32) * (10 : Int32)))))] := hD
              refine lv_iload_n hx hb dX7_read_50 rfl (lv_at hl 2 rfl) ?_
              refine lv_bipush (v := (10 : Int32)) hx hb dX7_read_51 (by decide) ?_
              refine lv_idiv hx hb dX7_read_53 (by decide) ?_
              refine lv_istore_n (lv' := [(3, .int (x3 / (10 : Int32))), (0, .ref aW), (2, .int x2), (4, .int x4)]) hx hb dX7_read_54 rfl hl (by decide) rfl (fun ls hl => ?_)
              refine lv_aload_n hx hb dX7_read_55 rfl (lv_at hl 1 rfl) ?_
              refine lv_dup hx hb dX7_read_56 rfl ?_
              refine va_get (D := D) (ci := 7) (v := .int W_length) (C := RX7) (T := TX7) (N := 2) hx hb hts inX7 hown hK hP 0 rfl rfl 1 (by decide) fl_15 (fun _ h9 => h9) rfl dX7_read_57 ?_
              refine lv_iconst (v := (1 : Int32)) hx hb dX7_read_60 (by decide) ?_
              refine lv_iadd hx hb dX7_read_61 ?_
              refine va_put (D := D) (ci := 7) (v := .int (W_length + (1 : Int32))) (ty := .int) (C := RX7) (T := TX7) (N := 2) hx hb hts inX7 tyX7 tyX7_ok nmX7 hown hK hP hD hS 0 rfl rfl 1 (by decide) fl_15 (fun _ h9 => h9) rfl (by decide +kernel) rfl rfl (Nat.le_of_ble_eq_true rfl) dX7_read_62 (fun H locs hP hD hS => ?_)
              have hP : va_P D vwCl [(aW, .inr (7, [.ref aW_figures, .int (W_length + (1 : Int32))])), (aW_figures, .inl (cI, 9, .inl (upd W_figures x4.toNatClampNeg (x3 - x3 / (10 : Int32) * (10 : Int32)))))] H := hP
              have hD : va_D A [(aW, .inr (7, [.ref aW_figures, .int (W_length + (1 : Int32))])), (aW_figures, .inl (cI, 9, .inl (upd W_figures x4.toNatClampNeg (x3 - x3 / (10 : Int32) * (10 : Int32)))))] := hD
              refine lv_iinc (v := (x4 + (1 : Int32))) (lv' := [(4, .int (x4 + (1 : Int32))), (3, .int (x3 / (10 : Int32))), (0, .ref aW), (2, .int x2)]) hx hb dX7_read_65 hl (k := 3) rfl rfl (by decide) rfl (fun ls hl => ?_)
              refine lv_goto (tgt := 10) hx hb dX7_read_68 (by decide) ?_
              exact ih (W_length + (1 : Int32)) (upd W_figures x4.toNatClampNeg (x3 - x3 / (10 : Int32) * (10 : Int32))) x2 (x3 / (10 : Int32)) (x4 + (1 : Int32)) _ _ hP hD hS ls (lv_sub hl [2, 3, 1, 0] rfl) h
            · replace h := if_p c_5 h
              refine lv_iconst (v := (0 : Int32)) hx hb dX7_read_37 (by decide) ?_
              have hy := Option.some.inj h
              subst hy
              exact W.zret (v := (0 : Int32)) hx hb hr (zo_nar (by decide)) (fun t ht hW => ⟨⟨(0 : Int32), (), rfl, ⟨rfl, (by decide)⟩, by rw [ht]; exact hP, hD⟩, hS.F ht⟩) hS.2.2 dX7_read_38
  unfold f_X7_read at h
  refine lv_iload_n hx hb dX7_read_0 rfl (lv_at hl 1 rfl) ?_
  refine lv_istore_n (lv' := [(3, .int p1), (0, .ref aW), (1, .int p1), (2, .int p2)]) hx hb dX7_read_1 rfl hl (by decide) rfl (fun ls hl => ?_)
  refine lv_aload_n hx hb dX7_read_2 rfl (lv_at hl 1 rfl) ?_
  refine lv_iconst (v := (0 : Int32)) hx hb dX7_read_3 (by decide) ?_
  refine va_put (D := D) (ci := 7) (v := .int (0 : Int32)) (ty := .int) (C := RX7) (T := TX7) (N := 2) hx hb hts inX7 tyX7 tyX7_ok nmX7 hown hK hP hD hS 0 rfl rfl 1 (by decide) fl_15 (fun _ h9 => h9) rfl (by decide +kernel) rfl rfl (Nat.le_of_ble_eq_true rfl) dX7_read_4 (fun H locs hP hD hS => ?_)
  have hP : va_P D vwCl [(aW, .inr (7, [.ref aW_figures, .int (0 : Int32)])), (aW_figures, .inl (cI, 9, .inl W_figures))] H := hP
  have hD : va_D A [(aW, .inr (7, [.ref aW_figures, .int (0 : Int32)])), (aW_figures, .inl (cI, 9, .inl W_figures))] := hD
  refine lv_iconst (v := (0 : Int32)) hx hb dX7_read_7 (by decide) ?_
  refine lv_istore (lv' := [(4, .int (0 : Int32)), (3, .int p1), (0, .ref aW), (1, .int p1), (2, .int p2)]) hx hb dX7_read_8 hl (by decide) rfl (fun ls hl => ?_)
  exact L10 300 (0 : Int32) W_figures p2 p1 (0 : Int32) _ _ hP hD hS ls (lv_sub hl [2, 4, 1, 0] rfl) h

def f_X7_orderAt (W_length : Int32) (W_figures : Nat → Int32) (p1 : Int32) : Option (Int32) := (if p1 < 0 then some (-9 : Int32) else (if W_length ≤ p1 then some (-9 : Int32) else (if gIn ((W_length - (1 : Int32)) - p1) 9 = true then some (W_figures ((W_length - (1 : Int32)) - p1).toNatClampNeg) else none)))
set_option maxHeartbeats 8000000 in
set_option maxRecDepth 100000 in
theorem c_X7_orderAt (l : Launch) (D : va_G) (cI cJ cZ cO : ClassId) (aW : Nat) (aW_figures : Nat) (W_length : Int32) (W_figures : Nat → Int32)  (p1 : Int32)  (y0 : Int32) (h : f_X7_orderAt W_length W_figures p1 = some y0) : Met l yX7_orderAt wsX7_orderAt ({ frames := 0, cells := 0, slots := 0, locals := 0 } : Room) (va_Pc [.ref aW, .int p1] (fun U => va_P D vwCl [(aW, .inr (7, [.ref aW_figures, .int W_length])), (aW_figures, .inl (cI, 9, .inl W_figures))] U.heap ∧ KK D cI cJ cZ cO U)) (vp_Si (fun r => r = y0)) 0 0 (fun _ => False) := by
  refine Met.ofW (cc := cX7_orderAt) (maxL := 2) (ret := (some .int)) (by decide) rfl ?_
  intro p e s m args below meth c s₁ B hml hv
  obtain ⟨rfl, hP, hKK⟩ := hv
  have hx := B.exec
  have hb := B.bytes
  have hr := B.returns
  have hts := atoms_spec (ws := wsX7_orderAt) B.pre
  have hown : s.vm.findClass RX7 = some m.cls := findClass_of_methodNamed B.named
  have hlocks := B.notSynchronized
  have hK := hKK.1
  have fl_9 := hts (.fieldLink RX7 9 "SimonSays$Row" "figures" "[I") (by decide +kernel)
  have fl_15 := hts (.fieldLink RX7 15 "SimonSays$Row" "length" "I") (by decide +kernel)
  have inX7 : ∀ w ∈ wsX70, w ∈ wsX7_orderAt := by decide +kernel
  have hl := lv_entry ([.ref aW, .int p1]) (n := 2) (Nat.le_of_ble_eq_true rfl)
  rw [lg_entry_eq]
  generalize (lg_sl ([.ref aW, .int p1]) ++ List.replicate (2 - (lg_sl ([.ref aW, .int p1])).length) Slot.unset).toArray = ls at hl ⊢
  have hl : lv_has ls 2 [(0, .ref aW), (1, .int p1)] := hl
  unfold f_X7_orderAt at h
  refine lv_iload_n hx hb dX7_orderAt_0 rfl (lv_at hl 1 rfl) ?_
  refine lv_if_lt (tgt := 28) hx hb dX7_orderAt_1 (by decide) (fun c_1 => ?_) (fun c_1 => ?_)
  · replace h := if_p c_1 h
    refine lv_bipush (v := (-9 : Int32)) hx hb dX7_orderAt_28 (by decide) ?_
    exact pr_i hx hb hr hlocks dX7_orderAt_30 (Option.some.inj h)
  · replace h := if_n c_1 h
    refine lv_iload_n hx hb dX7_orderAt_4 rfl (lv_at hl 1 rfl) ?_
    refine lv_aload_n hx hb dX7_orderAt_5 rfl (lv_at hl 0 rfl) ?_
    refine va_get (D := D) (ci := 7) (v := .int W_length) (C := RX7) (T := TX7) (N := 2) hx hb hts inX7 hown hK hP 0 rfl rfl 1 (by decide) fl_15 (fun _ h9 => h9) rfl dX7_orderAt_6 ?_
    refine lv_icmp_ge (tgt := 28) hx hb dX7_orderAt_9 (by decide) (fun c_2 => ?_) (fun c_2 => ?_)
    · replace h := if_p c_2 h
      refine lv_bipush (v := (-9 : Int32)) hx hb dX7_orderAt_28 (by decide) ?_
      exact pr_i hx hb hr hlocks dX7_orderAt_30 (Option.some.inj h)
    · replace h := if_n c_2 h
      refine lv_aload_n hx hb dX7_orderAt_12 rfl (lv_at hl 0 rfl) ?_
      refine va_get (D := D) (ci := 7) (v := .ref aW_figures) (C := RX7) (T := TX7) (N := 2) hx hb hts inX7 hown hK hP 0 rfl rfl 0 (by decide) fl_9 (fun _ h9 => h9) rfl dX7_orderAt_13 ?_
      refine lv_aload_n hx hb dX7_orderAt_16 rfl (lv_at hl 0 rfl) ?_
      refine va_get (D := D) (ci := 7) (v := .int W_length) (C := RX7) (T := TX7) (N := 2) hx hb hts inX7 hown hK hP 0 rfl rfl 1 (by decide) fl_15 (fun _ h9 => h9) rfl dX7_orderAt_17 ?_
      refine lv_iconst (v := (1 : Int32)) hx hb dX7_orderAt_20 (by decide) ?_
      refine lv_isub hx hb dX7_orderAt_21 ?_
      refine lv_iload_n hx hb dX7_orderAt_22 rfl (lv_at hl 1 rfl) ?_
      refine lv_isub hx hb dX7_orderAt_23 ?_
      obtain ⟨hi3, h⟩ := gd_in h
      refine va_iald hx hb hK hP 1 0 rfl rfl hi3 dX7_orderAt_24 ?_
      refine lv_goto (tgt := 30) hx hb dX7_orderAt_25 (by decide) ?_
      exact pr_i hx hb hr hlocks dX7_orderAt_30 (Option.some.inj h)

def f_X8_length (X_length : Int32) : Int32 := X_length
set_option maxHeartbeats 8000000 in
set_option maxRecDepth 100000 in
theorem c_X8_length (l : Launch) (D : va_G) (cI cJ cZ cO : ClassId) (aX : Nat) (aX_bytes : Nat) (X_length : Int32)    (y0 : Int32) (h : f_X8_length X_length = y0) : Met l yX8_length wsX8_length ({ frames := 0, cells := 0, slots := 0, locals := 0 } : Room) (va_Pc [.ref aX] (fun U => va_P D vwCl [(aX, .inr (8, [.ref aX_bytes, .int X_length]))] U.heap ∧ KK D cI cJ cZ cO U)) (vp_Si (fun r => r = y0)) 0 0 (fun _ => False) := by
  refine Met.ofW (cc := cX8_length) (maxL := 1) (ret := (some .int)) (by decide) rfl ?_
  intro p e s m args below meth c s₁ B hml hv
  obtain ⟨rfl, hP, hKK⟩ := hv
  have hx := B.exec
  have hb := B.bytes
  have hr := B.returns
  have hts := atoms_spec (ws := wsX8_length) B.pre
  have hown : s.vm.findClass RX8 = some m.cls := findClass_of_methodNamed B.named
  have hlocks := B.notSynchronized
  have hK := hKK.1
  have fl_15 := hts (.fieldLink RX8 15 "SimonSays$Text" "length" "I") (by decide +kernel)
  have inX8 : ∀ w ∈ wsX80, w ∈ wsX8_length := by decide +kernel
  have hl := lv_entry ([.ref aX]) (n := 1) (Nat.le_of_ble_eq_true rfl)
  rw [lg_entry_eq]
  generalize (lg_sl ([.ref aX]) ++ List.replicate (1 - (lg_sl ([.ref aX])).length) Slot.unset).toArray = ls at hl ⊢
  have hl : lv_has ls 1 [(0, .ref aX)] := hl
  unfold f_X8_length at h
  refine lv_aload_n hx hb dX8_length_0 rfl (lv_at hl 0 rfl) ?_
  refine va_get (D := D) (ci := 8) (v := .int X_length) (C := RX8) (T := TX8) (N := 2) hx hb hts inX8 hown hK hP 0 rfl rfl 1 (by decide) fl_15 (fun _ h9 => h9) rfl dX8_length_1 ?_
  exact pr_i hx hb hr hlocks dX8_length_4 h

def f_X8_append (X_length : Int32) (X_bytes : Nat → Int32) (p1 : Int32) : Option (Int32 × (Nat → Int32)) := (if (200 : Int32) ≤ X_length then some (X_length, X_bytes) else (if gIn X_length 200 = true then some ((X_length + (1 : Int32)), (upd X_bytes X_length.toNatClampNeg p1)) else none))
set_option maxHeartbeats 8000000 in
set_option maxRecDepth 100000 in
theorem c_X8_append (l : Launch) (D : va_G) (cI cJ cZ cO : ClassId) (aX : Nat) (aX_bytes : Nat) (X_length : Int32) (X_bytes : Nat → Int32) (sz : Nat) (p1 : Int32)  (y0 : Int32 × (Nat → Int32)) (h : f_X8_append X_length X_bytes p1 = some y0) : Met l yX8_append wsX8_append ({ frames := 0, cells := 0, slots := 0, locals := 0 } : Room) (va_Pc [.ref aX, .int p1] (fun U => U.heap.size = sz ∧ va_P D vwCl [(aX, .inr (8, [.ref aX_bytes, .int X_length])), (aX_bytes, .inl (cI, 200, .inl X_bytes))] U.heap ∧ KK D cI cJ cZ cO U ∧ va_D (fun _ => True) [(aX, .inr (8, [.ref aX_bytes, .int X_length])), (aX_bytes, .inl (cI, 200, .inl X_bytes))])) (va_Qv (fun (_ : Unit) => True) (fun (_ : Unit) t => va_P D vwCl [(aX, .inr (8, [.ref aX_bytes, .int y0.1])), (aX_bytes, .inl (cI, 200, .inl y0.2))] t.heap ∧ va_D (va_A [(aX, .inr (8, [.ref aX_bytes, .int X_length])), (aX_bytes, .inl (cI, 200, .inl X_bytes))] sz) [(aX, .inr (8, [.ref aX_bytes, .int y0.1])), (aX_bytes, .inl (cI, 200, .inl y0.2))]) (va_A [(aX, .inr (8, [.ref aX_bytes, .int X_length])), (aX_bytes, .inl (cI, 200, .inl X_bytes))] sz)) 0 0 (va_A [(aX, .inr (8, [.ref aX_bytes, .int X_length])), (aX_bytes, .inl (cI, 200, .inl X_bytes))] sz) := by
  refine Met.ofW (cc := cX8_append) (maxL := 2) (ret := none) (by decide) rfl ?_
  intro p e s m args below meth c s₁ B hml hv
  obtain ⟨rfl, hsz, hP, hKK, hD0⟩ := hv
  have hx := B.exec
  have hb := B.bytes
  have hr := B.returns
  have hts := atoms_spec (ws := wsX8_append) B.pre
  have hown : s.vm.findClass RX8 = some m.cls := findClass_of_methodNamed B.named
  have hlocks := B.notSynchronized
  have hK := hKK.1
  have fl_9 := hts (.fieldLink RX8 9 "SimonSays$Text" "bytes" "[I") (by decide +kernel)
  have fl_15 := hts (.fieldLink RX8 15 "SimonSays$Text" "length" "I") (by decide +kernel)
  have inX8 : ∀ w ∈ wsX80, w ∈ wsX8_append := by decide +kernel
  subst hsz
  have hD := hD0.self (sz := s.heap.size)
  generalize hAe : va_A [(aX, .inr (8, [.ref aX_bytes, .int X_length])), (aX_bytes, .inl (cI, 200, .inl X_bytes))] s.heap.size = A at hD ⊢
  have hA : ∀ q : Nat, s.heap.size ≤ q → A q := fun q h => by rw [← hAe]; exact Or.inr h
  have hS : va_S A s.heap s.heap [] := va_S.rf
  have hl := lv_entry ([.ref aX, .int p1]) (n := 2) (Nat.le_of_ble_eq_true rfl)
  rw [lg_entry_eq]
  generalize (lg_sl ([.ref aX, .int p1]) ++ List.replicate (2 - (lg_sl ([.ref aX, .int p1])).length) Slot.unset).toArray = ls at hl ⊢
  have hl : lv_has ls 2 [(0, .ref aX), (1, .int p1)] := hl
  unfold f_X8_append at h
  refine lv_aload_n hx hb dX8_append_0 rfl (lv_at hl 0 rfl) ?_
  refine va_get (D := D) (ci := 8) (v := .int X_length) (C := RX8) (T := TX8) (N := 2) hx hb hts inX8 hown hK hP 0 rfl rfl 1 (by decide) fl_15 (fun _ h9 => h9) rfl dX8_append_1 ?_
  refine lv_sipush (v := (200 : Int32)) hx hb dX8_append_4 (by decide) ?_
  refine lv_icmp_ge (tgt := 30) hx hb dX8_append_7 (by decide) (fun c_1 => ?_) (fun c_1 => ?_)
  · replace h := if_p c_1 h
    have hy := Option.some.inj h
    subst hy
    exact W.vret hx hb hr (fun t ht hW => ⟨⟨(), rfl, trivial, by rw [ht]; exact hP, hD⟩, hS.F ht⟩) hS.2.2 dX8_append_30
  · replace h := if_n c_1 h
    refine lv_aload_n hx hb dX8_append_10 rfl (lv_at hl 0 rfl) ?_
    refine va_get (D := D) (ci := 8) (v := .ref aX_bytes) (C := RX8) (T := TX8) (N := 2) hx hb hts inX8 hown hK hP 0 rfl rfl 0 (by decide) fl_9 (fun _ h9 => h9) rfl dX8_append_11 ?_
    refine lv_aload_n hx hb dX8_append_14 rfl (lv_at hl 0 rfl) ?_
    refine va_get (D := D) (ci := 8) (v := .int X_length) (C := RX8) (T := TX8) (N := 2) hx hb hts inX8 hown hK hP 0 rfl rfl 1 (by decide) fl_15 (fun _ h9 => h9) rfl dX8_append_15 ?_
    refine lv_iload_n hx hb dX8_append_18 rfl (lv_at hl 1 rfl) ?_
    obtain ⟨hi2, h⟩ := gd_in h
    refine va_iast hx hb hK hP hD hS 1 0 rfl rfl hi2 dX8_append_19 (fun H locs hP hD hS => ?_)
    have hP : va_P D vwCl [(aX, .inr (8, [.ref aX_bytes, .int X_length])), (aX_bytes, .inl (cI, 200, .inl (upd X_bytes X_length.toNatClampNeg p1)))] H := hP
    have hD : va_D A [(aX, .inr (8, [.ref aX_bytes, .int X_length])), (aX_bytes, .inl (cI, 200, .inl (upd X_bytes X_length.toNatClampNeg p1)))] := hD
    refine lv_aload_n hx hb dX8_append_20 rfl (lv_at hl 0 rfl) ?_
    refine lv_dup hx hb dX8_append_21 rfl ?_
    refine va_get (D := D) (ci := 8) (v := .int X_length) (C := RX8) (T := TX8) (N := 2) hx hb hts inX8 hown hK hP 0 rfl rfl 1 (by decide) fl_15 (fun _ h9 => h9) rfl dX8_append_22 ?_
    refine lv_iconst (v := (1 : Int32)) hx hb dX8_append_25 (by decide) ?_
    refine lv_iadd hx hb dX8_append_26 ?_
    refine va_put (D := D) (ci := 8) (v := .int (X_length + (1 : Int32))) (ty := .int) (C := RX8) (T := TX8) (N := 2) hx hb hts inX8 tyX8 tyX8_ok nmX8 hown hK hP hD hS 0 rfl rfl 1 (by decide) fl_15 (fun _ h9 => h9) rfl (by decide +kernel) rfl rfl (Nat.le_of_ble_eq_true rfl) dX8_append_27 (fun H locs hP hD hS => ?_)
    have hP : va_P D vwCl [(aX, .inr (8, [.ref aX_bytes, .int (X_length + (1 : Int32))])), (aX_bytes, .inl (cI, 200, .inl (upd X_bytes X_length.toNatClampNeg p1)))] H := hP
    have hD : va_D A [(aX, .inr (8, [.ref aX_bytes, .int (X_length + (1 : Int32))])), (aX_bytes, .inl (cI, 200, .inl (upd X_bytes X_length.toNatClampNeg p1)))] := hD
    have hy := Option.some.inj h
    subst hy
    exact W.vret hx hb hr (fun t ht hW => ⟨⟨(), rfl, trivial, by rw [ht]; exact hP, hD⟩, hS.F ht⟩) hS.2.2 dX8_append_30

def f_X8_byteAt (X_length : Int32) (X_bytes : Nat → Int32) (p1 : Int32) : Option (Int32) := (if p1 < 0 then some (-1 : Int32) else (if X_length ≤ p1 then some (-1 : Int32) else (if gIn p1 200 = true then some (X_bytes p1.toNatClampNeg) else none)))
set_option maxHeartbeats 8000000 in
set_option maxRecDepth 100000 in
theorem c_X8_byteAt (l : Launch) (D : va_G) (cI cJ cZ cO : ClassId) (aX : Nat) (aX_bytes : Nat) (X_length : Int32) (X_bytes : Nat → Int32)  (p1 : Int32)  (y0 : Int32) (h : f_X8_byteAt X_length X_bytes p1 = some y0) : Met l yX8_byteAt wsX8_byteAt ({ frames := 0, cells := 0, slots := 0, locals := 0 } : Room) (va_Pc [.ref aX, .int p1] (fun U => va_P D vwCl [(aX, .inr (8, [.ref aX_bytes, .int X_length])), (aX_bytes, .inl (cI, 200, .inl X_bytes))] U.heap ∧ KK D cI cJ cZ cO U)) (vp_Si (fun r => r = y0)) 0 0 (fun _ => False) := by
  refine Met.ofW (cc := cX8_byteAt) (maxL := 2) (ret := (some .int)) (by decide) rfl ?_
  intro p e s m args below meth c s₁ B hml hv
  obtain ⟨rfl, hP, hKK⟩ := hv
  have hx := B.exec
  have hb := B.bytes
  have hr := B.returns
  have hts := atoms_spec (ws := wsX8_byteAt) B.pre
  have hown : s.vm.findClass RX8 = some m.cls := findClass_of_methodNamed B.named
  have hlocks := B.notSynchronized
  have hK := hKK.1
  have fl_9 := hts (.fieldLink RX8 9 "SimonSays$Text" "bytes" "[I") (by decide +kernel)
  have fl_15 := hts (.fieldLink RX8 15 "SimonSays$Text" "length" "I") (by decide +kernel)
  have inX8 : ∀ w ∈ wsX80, w ∈ wsX8_byteAt := by decide +kernel
  have hl := lv_entry ([.ref aX, .int p1]) (n := 2) (Nat.le_of_ble_eq_true rfl)
  rw [lg_entry_eq]
  generalize (lg_sl ([.ref aX, .int p1]) ++ List.replicate (2 - (lg_sl ([.ref aX, .int p1])).length) Slot.unset).toArray = ls at hl ⊢
  have hl : lv_has ls 2 [(0, .ref aX), (1, .int p1)] := hl
  unfold f_X8_byteAt at h
  refine lv_iload_n hx hb dX8_byteAt_0 rfl (lv_at hl 1 rfl) ?_
  refine lv_if_lt (tgt := 21) hx hb dX8_byteAt_1 (by decide) (fun c_1 => ?_) (fun c_1 => ?_)
  · replace h := if_p c_1 h
    refine lv_iconst (v := (-1 : Int32)) hx hb dX8_byteAt_21 (by decide) ?_
    exact pr_i hx hb hr hlocks dX8_byteAt_22 (Option.some.inj h)
  · replace h := if_n c_1 h
    refine lv_iload_n hx hb dX8_byteAt_4 rfl (lv_at hl 1 rfl) ?_
    refine lv_aload_n hx hb dX8_byteAt_5 rfl (lv_at hl 0 rfl) ?_
    refine va_get (D := D) (ci := 8) (v := .int X_length) (C := RX8) (T := TX8) (N := 2) hx hb hts inX8 hown hK hP 0 rfl rfl 1 (by decide) fl_15 (fun _ h9 => h9) rfl dX8_byteAt_6 ?_
    refine lv_icmp_ge (tgt := 21) hx hb dX8_byteAt_9 (by decide) (fun c_2 => ?_) (fun c_2 => ?_)
    · replace h := if_p c_2 h
      refine lv_iconst (v := (-1 : Int32)) hx hb dX8_byteAt_21 (by decide) ?_
      exact pr_i hx hb hr hlocks dX8_byteAt_22 (Option.some.inj h)
    · replace h := if_n c_2 h
      refine lv_aload_n hx hb dX8_byteAt_12 rfl (lv_at hl 0 rfl) ?_
      refine va_get (D := D) (ci := 8) (v := .ref aX_bytes) (C := RX8) (T := TX8) (N := 2) hx hb hts inX8 hown hK hP 0 rfl rfl 0 (by decide) fl_9 (fun _ h9 => h9) rfl dX8_byteAt_13 ?_
      refine lv_iload_n hx hb dX8_byteAt_16 rfl (lv_at hl 1 rfl) ?_
      obtain ⟨hi3, h⟩ := gd_in h
      refine va_iald hx hb hK hP 1 0 rfl rfl hi3 dX8_byteAt_17 ?_
      refine lv_goto (tgt := 22) hx hb dX8_byteAt_18 (by decide) ?_
      exact pr_i hx hb hr hlocks dX8_byteAt_22 (Option.some.inj h)

def f_X8_drop (X_length : Int32) : Option (Int32) := some (0 : Int32)
set_option maxHeartbeats 8000000 in
set_option maxRecDepth 100000 in
theorem c_X8_drop (l : Launch) (D : va_G) (cI cJ cZ cO : ClassId) (aX : Nat) (aX_bytes : Nat) (X_length : Int32) (sz : Nat)   (y0 : Int32) (h : f_X8_drop X_length = some y0) : Met l yX8_drop wsX8_drop ({ frames := 0, cells := 0, slots := 0, locals := 0 } : Room) (va_Pc [.ref aX] (fun U => U.heap.size = sz ∧ va_P D vwCl [(aX, .inr (8, [.ref aX_bytes, .int X_length]))] U.heap ∧ KK D cI cJ cZ cO U ∧ va_D (fun _ => True) [(aX, .inr (8, [.ref aX_bytes, .int X_length]))])) (va_Qv (fun (_ : Unit) => True) (fun (_ : Unit) t => va_P D vwCl [(aX, .inr (8, [.ref aX_bytes, .int y0]))] t.heap ∧ va_D (va_A [(aX, .inr (8, [.ref aX_bytes, .int X_length]))] sz) [(aX, .inr (8, [.ref aX_bytes, .int y0]))]) (va_A [(aX, .inr (8, [.ref aX_bytes, .int X_length]))] sz)) 0 0 (va_A [(aX, .inr (8, [.ref aX_bytes, .int X_length]))] sz) := by
  refine Met.ofW (cc := cX8_drop) (maxL := 1) (ret := none) (by decide) rfl ?_
  intro p e s m args below meth c s₁ B hml hv
  obtain ⟨rfl, hsz, hP, hKK, hD0⟩ := hv
  have hx := B.exec
  have hb := B.bytes
  have hr := B.returns
  have hts := atoms_spec (ws := wsX8_drop) B.pre
  have hown : s.vm.findClass RX8 = some m.cls := findClass_of_methodNamed B.named
  have hlocks := B.notSynchronized
  have hK := hKK.1
  have fl_15 := hts (.fieldLink RX8 15 "SimonSays$Text" "length" "I") (by decide +kernel)
  have inX8 : ∀ w ∈ wsX80, w ∈ wsX8_drop := by decide +kernel
  subst hsz
  have hD := hD0.self (sz := s.heap.size)
  generalize hAe : va_A [(aX, .inr (8, [.ref aX_bytes, .int X_length]))] s.heap.size = A at hD ⊢
  have hA : ∀ q : Nat, s.heap.size ≤ q → A q := fun q h => by rw [← hAe]; exact Or.inr h
  have hS : va_S A s.heap s.heap [] := va_S.rf
  have hl := lv_entry ([.ref aX]) (n := 1) (Nat.le_of_ble_eq_true rfl)
  rw [lg_entry_eq]
  generalize (lg_sl ([.ref aX]) ++ List.replicate (1 - (lg_sl ([.ref aX])).length) Slot.unset).toArray = ls at hl ⊢
  have hl : lv_has ls 1 [(0, .ref aX)] := hl
  unfold f_X8_drop at h
  refine lv_aload_n hx hb dX8_drop_0 rfl (lv_at hl 0 rfl) ?_
  refine lv_iconst (v := (0 : Int32)) hx hb dX8_drop_1 (by decide) ?_
  refine va_put (D := D) (ci := 8) (v := .int (0 : Int32)) (ty := .int) (C := RX8) (T := TX8) (N := 2) hx hb hts inX8 tyX8 tyX8_ok nmX8 hown hK hP hD hS 0 rfl rfl 1 (by decide) fl_15 (fun _ h9 => h9) rfl (by decide +kernel) rfl rfl (Nat.le_of_ble_eq_true rfl) dX8_drop_2 (fun H locs hP hD hS => ?_)
  have hP : va_P D vwCl [(aX, .inr (8, [.ref aX_bytes, .int (0 : Int32)]))] H := hP
  have hD : va_D A [(aX, .inr (8, [.ref aX_bytes, .int (0 : Int32)]))] := hD
  have hy := Option.some.inj h
  subst hy
  exact W.vret hx hb hr (fun t ht hW => ⟨⟨(), rfl, trivial, by rw [ht]; exact hP, hD⟩, hS.F ht⟩) hS.2.2 dX8_drop_5
