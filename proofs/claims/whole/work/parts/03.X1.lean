def f_X1_forget (T_size : Int32) (T_littleOnes : Int32) : Option (Int32 × Int32) := some ((0 : Int32), (0 : Int32))
set_option maxHeartbeats 8000000 in
set_option maxRecDepth 100000 in
theorem c_X1_forget (l : Launch) (D : va_G) (cI cJ cZ cO : ClassId) (aT : Nat) (aT_slips : Nat) (aT_lates : Nat) (aT_copied : Nat) (T_size : Int32) (T_littleOnes : Int32) (sz : Nat)   (y0 : Int32 × Int32) (h : f_X1_forget T_size T_littleOnes = some y0) : Met l yX1_forget wsX1_forget ({ frames := 0, cells := 0, slots := 0, locals := 0 } : Room) (va_Pc [.ref aT] (fun U => U.heap.size = sz ∧ va_P D vwCl [(aT, .inr (1, [.ref aT_slips, .ref aT_lates, .ref aT_copied, .int T_size, .int T_littleOnes]))] U.heap ∧ KK D cI cJ cZ cO U ∧ va_D (fun _ => True) [(aT, .inr (1, [.ref aT_slips, .ref aT_lates, .ref aT_copied, .int T_size, .int T_littleOnes]))])) (va_Qv (fun (_ : Unit) => True) (fun (_ : Unit) t => va_P D vwCl [(aT, .inr (1, [.ref aT_slips, .ref aT_lates, .ref aT_copied, .int y0.1, .int y0.2]))] t.heap ∧ va_D (va_A [(aT, .inr (1, [.ref aT_slips, .ref aT_lates, .ref aT_copied, .int T_size, .int T_littleOnes]))] sz) [(aT, .inr (1, [.ref aT_slips, .ref aT_lates, .ref aT_copied, .int y0.1, .int y0.2]))]) (va_A [(aT, .inr (1, [.ref aT_slips, .ref aT_lates, .ref aT_copied, .int T_size, .int T_littleOnes]))] sz)) 0 0 (va_A [(aT, .inr (1, [.ref aT_slips, .ref aT_lates, .ref aT_copied, .int T_size, .int T_littleOnes]))] sz) := by
  refine Met.ofW (cc := cX1_forget) (maxL := 1) (ret := none) (by decide) rfl ?_
  intro p e s m args below meth c s₁ B hml hv
  obtain ⟨rfl, hsz, hP, hKK, hD0⟩ := hv
  have hx := B.exec
  have hb := B.bytes
  have hr := B.returns
  have hts := atoms_spec (ws := wsX1_forget) B.pre
  have hown : s.vm.findClass RX1 = some m.cls := findClass_of_methodNamed B.named
  have hlocks := B.notSynchronized
  have hK := hKK.1
  have fl_21 := hts (.fieldLink RX1 21 "SimonSays$Children" "size" "I") (by decide +kernel)
  have fl_25 := hts (.fieldLink RX1 25 "SimonSays$Children" "littleOnes" "I") (by decide +kernel)
  have inX1 : ∀ w ∈ wsX10, w ∈ wsX1_forget := by decide +kernel
  subst hsz
  have hD := hD0.self (sz := s.heap.size)
  generalize hAe : va_A [(aT, .inr (1, [.ref aT_slips, .ref aT_lates, .ref aT_copied, .int T_size, .int T_littleOnes]))] s.heap.size = A at hD ⊢
  have hA : ∀ q : Nat, s.heap.size ≤ q → A q := fun q h => by rw [← hAe]; exact Or.inr h
  have hS : va_S A s.heap s.heap [] := va_S.rf
  have hl := lv_entry ([.ref aT]) (n := 1) (Nat.le_of_ble_eq_true rfl)
  rw [lg_entry_eq]
  generalize (lg_sl ([.ref aT]) ++ List.replicate (1 - (lg_sl ([.ref aT])).length) Slot.unset).toArray = ls at hl ⊢
  have hl : lv_has ls 1 [(0, .ref aT)] := hl
  unfold f_X1_forget at h
  refine lv_aload_n hx hb dX1_forget_0 rfl (lv_at hl 0 rfl) ?_
  refine lv_iconst (v := (0 : Int32)) hx hb dX1_forget_1 (by decide) ?_
  refine va_put (D := D) (ci := 1) (v := .int (0 : Int32)) (ty := .int) (C := RX1) (T := TX1) (N := 5) hx hb hts inX1 tyX1 tyX1_ok nmX1 hown hK hP hD hS 0 rfl rfl 3 (by decide) fl_21 (fun _ h9 => h9) rfl (by decide +kernel) rfl rfl (Nat.le_of_ble_eq_true rfl) dX1_forget_2 (fun H locs hP hD hS => ?_)
  have hP : va_P D vwCl [(aT, .inr (1, [.ref aT_slips, .ref aT_lates, .ref aT_copied, .int (0 : Int32), .int T_littleOnes]))] H := hP
  have hD : va_D A [(aT, .inr (1, [.ref aT_slips, .ref aT_lates, .ref aT_copied, .int (0 : Int32), .int T_littleOnes]))] := hD
  refine lv_aload_n hx hb dX1_forget_5 rfl (lv_at hl 0 rfl) ?_
  refine lv_iconst (v := (0 : Int32)) hx hb dX1_forget_6 (by decide) ?_
  refine va_put (D := D) (ci := 1) (v := .int (0 : Int32)) (ty := .int) (C := RX1) (T := TX1) (N := 5) hx hb hts inX1 tyX1 tyX1_ok nmX1 hown hK hP hD hS 0 rfl rfl 4 (by decide) fl_25 (fun _ h9 => h9) rfl (by decide +kernel) rfl rfl (Nat.le_of_ble_eq_true rfl) dX1_forget_7 (fun H locs hP hD hS => ?_)
  have hP : va_P D vwCl [(aT, .inr (1, [.ref aT_slips, .ref aT_lates, .ref aT_copied, .int (0 : Int32), .int (0 : Int32)]))] H := hP
  have hD : va_D A [(aT, .inr (1, [.ref aT_slips, .ref aT_lates, .ref aT_copied, .int (0 : Int32), .int (0 : Int32)]))] := hD
  have hy := Option.some.inj h
  subst hy
  exact W.vret hx hb hr (fun t ht hW => ⟨⟨(), rfl, trivial, by rw [ht]; exact hP, hD⟩, hS.F ht⟩) hS.2.2 dX1_forget_10

def f_X1_size (T_size : Int32) : Int32 := T_size
set_option maxHeartbeats 8000000 in
set_option maxRecDepth 100000 in
theorem c_X1_size (l : Launch) (D : va_G) (cI cJ cZ cO : ClassId) (aT : Nat) (aT_slips : Nat) (aT_lates : Nat) (aT_copied : Nat) (T_size : Int32) (T_littleOnes : Int32)    (y0 : Int32) (h : f_X1_size T_size = y0) : Met l yX1_size wsX1_size ({ frames := 0, cells := 0, slots := 0, locals := 0 } : Room) (va_Pc [.ref aT] (fun U => va_P D vwCl [(aT, .inr (1, [.ref aT_slips, .ref aT_lates, .ref aT_copied, .int T_size, .int T_littleOnes]))] U.heap ∧ KK D cI cJ cZ cO U)) (vp_Si (fun r => r = y0)) 0 0 (fun _ => False) := by
  refine Met.ofW (cc := cX1_size) (maxL := 1) (ret := (some .int)) (by decide) rfl ?_
  intro p e s m args below meth c s₁ B hml hv
  obtain ⟨rfl, hP, hKK⟩ := hv
  have hx := B.exec
  have hb := B.bytes
  have hr := B.returns
  have hts := atoms_spec (ws := wsX1_size) B.pre
  have hown : s.vm.findClass RX1 = some m.cls := findClass_of_methodNamed B.named
  have hlocks := B.notSynchronized
  have hK := hKK.1
  have fl_21 := hts (.fieldLink RX1 21 "SimonSays$Children" "size" "I") (by decide +kernel)
  have inX1 : ∀ w ∈ wsX10, w ∈ wsX1_size := by decide +kernel
  have hl := lv_entry ([.ref aT]) (n := 1) (Nat.le_of_ble_eq_true rfl)
  rw [lg_entry_eq]
  generalize (lg_sl ([.ref aT]) ++ List.replicate (1 - (lg_sl ([.ref aT])).length) Slot.unset).toArray = ls at hl ⊢
  have hl : lv_has ls 1 [(0, .ref aT)] := hl
  unfold f_X1_size at h
  refine lv_aload_n hx hb dX1_size_0 rfl (lv_at hl 0 rfl) ?_
  refine va_get (D := D) (ci := 1) (v := .int T_size) (C := RX1) (T := TX1) (N := 5) hx hb hts inX1 hown hK hP 0 rfl rfl 3 (by decide) fl_21 (fun _ h9 => h9) rfl dX1_size_1 ?_
  exact pr_i hx hb hr hlocks dX1_size_4 h

def f_X1_littleOnes (T_littleOnes : Int32) : Int32 := T_littleOnes
set_option maxHeartbeats 8000000 in
set_option maxRecDepth 100000 in
theorem c_X1_littleOnes (l : Launch) (D : va_G) (cI cJ cZ cO : ClassId) (aT : Nat) (aT_slips : Nat) (aT_lates : Nat) (aT_copied : Nat) (T_size : Int32) (T_littleOnes : Int32)    (y0 : Int32) (h : f_X1_littleOnes T_littleOnes = y0) : Met l yX1_littleOnes wsX1_littleOnes ({ frames := 0, cells := 0, slots := 0, locals := 0 } : Room) (va_Pc [.ref aT] (fun U => va_P D vwCl [(aT, .inr (1, [.ref aT_slips, .ref aT_lates, .ref aT_copied, .int T_size, .int T_littleOnes]))] U.heap ∧ KK D cI cJ cZ cO U)) (vp_Si (fun r => r = y0)) 0 0 (fun _ => False) := by
  refine Met.ofW (cc := cX1_littleOnes) (maxL := 1) (ret := (some .int)) (by decide) rfl ?_
  intro p e s m args below meth c s₁ B hml hv
  obtain ⟨rfl, hP, hKK⟩ := hv
  have hx := B.exec
  have hb := B.bytes
  have hr := B.returns
  have hts := atoms_spec (ws := wsX1_littleOnes) B.pre
  have hown : s.vm.findClass RX1 = some m.cls := findClass_of_methodNamed B.named
  have hlocks := B.notSynchronized
  have hK := hKK.1
  have fl_25 := hts (.fieldLink RX1 25 "SimonSays$Children" "littleOnes" "I") (by decide +kernel)
  have inX1 : ∀ w ∈ wsX10, w ∈ wsX1_littleOnes := by decide +kernel
  have hl := lv_entry ([.ref aT]) (n := 1) (Nat.le_of_ble_eq_true rfl)
  rw [lg_entry_eq]
  generalize (lg_sl ([.ref aT]) ++ List.replicate (1 - (lg_sl ([.ref aT])).length) Slot.unset).toArray = ls at hl ⊢
  have hl : lv_has ls 1 [(0, .ref aT)] := hl
  unfold f_X1_littleOnes at h
  refine lv_aload_n hx hb dX1_littleOnes_0 rfl (lv_at hl 0 rfl) ?_
  refine va_get (D := D) (ci := 1) (v := .int T_littleOnes) (C := RX1) (T := TX1) (N := 5) hx hb hts inX1 hown hK hP 0 rfl rfl 4 (by decide) fl_25 (fun _ h9 => h9) rfl dX1_littleOnes_1 ?_
  exact pr_i hx hb hr hlocks dX1_littleOnes_4 h

def f_X1_everyone (T_size : Int32) : Int32 := (((1 : Int32) <<< (T_size &&& 31)) - (1 : Int32))
set_option maxHeartbeats 8000000 in
set_option maxRecDepth 100000 in
theorem c_X1_everyone (l : Launch) (D : va_G) (cI cJ cZ cO : ClassId) (aT : Nat) (aT_slips : Nat) (aT_lates : Nat) (aT_copied : Nat) (T_size : Int32) (T_littleOnes : Int32)    (y0 : Int32) (h : f_X1_everyone T_size = y0) : Met l yX1_everyone wsX1_everyone ({ frames := 0, cells := 0, slots := 0, locals := 0 } : Room) (va_Pc [.ref aT] (fun U => va_P D vwCl [(aT, .inr (1, [.ref aT_slips, .ref aT_lates, .ref aT_copied, .int T_size, .int T_littleOnes]))] U.heap ∧ KK D cI cJ cZ cO U)) (vp_Si (fun r => r = y0)) 0 0 (fun _ => False) := by
  refine Met.ofW (cc := cX1_everyone) (maxL := 1) (ret := (some .int)) (by decide) rfl ?_
  intro p e s m args below meth c s₁ B hml hv
  obtain ⟨rfl, hP, hKK⟩ := hv
  have hx := B.exec
  have hb := B.bytes
  have hr := B.returns
  have hts := atoms_spec (ws := wsX1_everyone) B.pre
  have hown : s.vm.findClass RX1 = some m.cls := findClass_of_methodNamed B.named
  have hlocks := B.notSynchronized
  have hK := hKK.1
  have fl_21 := hts (.fieldLink RX1 21 "SimonSays$Children" "size" "I") (by decide +kernel)
  have inX1 : ∀ w ∈ wsX10, w ∈ wsX1_everyone := by decide +kernel
  have hl := lv_entry ([.ref aT]) (n := 1) (Nat.le_of_ble_eq_true rfl)
  rw [lg_entry_eq]
  generalize (lg_sl ([.ref aT]) ++ List.replicate (1 - (lg_sl ([.ref aT])).length) Slot.unset).toArray = ls at hl ⊢
  have hl : lv_has ls 1 [(0, .ref aT)] := hl
  unfold f_X1_everyone at h
  refine lv_iconst (v := (1 : Int32)) hx hb dX1_everyone_0 (by decide) ?_
  refine lv_aload_n hx hb dX1_everyone_1 rfl (lv_at hl 0 rfl) ?_
  refine va_get (D := D) (ci := 1) (v := .int T_size) (C := RX1) (T := TX1) (N := 5) hx hb hts inX1 hown hK hP 0 rfl rfl 3 (by decide) fl_21 (fun _ h9 => h9) rfl dX1_everyone_2 ?_
  refine lv_ishl hx hb dX1_everyone_5 ?_
  refine lv_iconst (v := (1 : Int32)) hx hb dX1_everyone_6 (by decide) ?_
  refine lv_isub hx hb dX1_everyone_7 ?_
  exact pr_i hx hb hr hlocks dX1_everyone_8 h

def f_X1_isSet (T_size : Int32) (p1 : Int32) : Int32 := (if (p1 &&& ((f_X1_everyone T_size) ^^^ (-1 : Int32))) = 0 then (1 : Int32) else (0 : Int32))
set_option maxHeartbeats 8000000 in
set_option maxRecDepth 100000 in
theorem c_X1_isSet (l : Launch) (D : va_G) (cI cJ cZ cO : ClassId) (aT : Nat) (aT_slips : Nat) (aT_lates : Nat) (aT_copied : Nat) (T_size : Int32) (T_littleOnes : Int32)  (p1 : Int32)  (y0 : Int32) (h : f_X1_isSet T_size p1 = y0) : Met l yX1_isSet wsX1_isSet ({ frames := 1, cells := 0, slots := 0, locals := 20 } : Room) (va_Pc [.ref aT, .int p1] (fun U => va_P D vwCl [(aT, .inr (1, [.ref aT_slips, .ref aT_lates, .ref aT_copied, .int T_size, .int T_littleOnes]))] U.heap ∧ KK D cI cJ cZ cO U)) (vp_Si (fun r => r = y0 ∧ zo r)) 0 0 (fun _ => False) := by
  refine Met.ofW (cc := cX1_isSet) (maxL := 2) (ret := (some .boolean)) (by decide) rfl ?_
  intro p e s m args below meth c s₁ B hml hv
  obtain ⟨rfl, hP, hKK⟩ := hv
  have hx := B.exec
  have hb := B.bytes
  have hr := B.returns
  have hts := atoms_spec (ws := wsX1_isSet) B.pre
  have hown : s.vm.findClass RX1 = some m.cls := findClass_of_methodNamed B.named
  have hlocks := B.notSynchronized
  have hK := hKK.1
  have hl := lv_entry ([.ref aT, .int p1]) (n := 2) (Nat.le_of_ble_eq_true rfl)
  rw [lg_entry_eq]
  generalize (lg_sl ([.ref aT, .int p1]) ++ List.replicate (2 - (lg_sl ([.ref aT, .int p1])).length) Slot.unset).toArray = ls at hl ⊢
  have hl : lv_has ls 2 [(0, .ref aT), (1, .int p1)] := hl
  unfold f_X1_isSet at h
  refine lv_iload_n hx hb dX1_isSet_0 rfl (lv_at hl 1 rfl) ?_
  refine lv_aload_n hx hb dX1_isSet_1 rfl (lv_at hl 0 rfl) ?_
  have hPc : va_P D vwCl [(aT, .inr (1, [.ref aT_slips, .ref aT_lates, .ref aT_copied, .int T_size, .int T_littleOnes]))] s.heap := hP.sub [0] rfl
  refine vp_callSi (va_Run.run (va_runV (As := []) (rest := [.int p1]) ⟨hx, hb, hml, hown, hts⟩ (c_X1_everyone l D cI cJ cZ cO aT aT_slips aT_lates aT_copied T_size T_littleOnes _ rfl) (cwV 0 hts gX1_isSet_X1_everyone rfl rfl rfl (by decide +kernel) ⟨Nat.le_of_ble_eq_true rfl, Nat.le_of_ble_eq_true rfl⟩) ⟨fb_p, va_recv hK hP (ci := 1) (q0 := 0) rfl rfl, fun U hU hW => ⟨rfl, by rw [hU]; exact hPc, KK.warm hW hKK⟩⟩ rfl rfl hl.1 rfl (lv_room (Nat.le_of_ble_eq_true rfl)) dX1_isSet_2 ⟨Nat.le_of_ble_eq_true rfl, Nat.le_of_ble_eq_true rfl⟩)) (fun r hr => ?_)
  replace hr := hr.symm
  subst hr
  refine lv_iconst (v := (-1 : Int32)) hx hb dX1_isSet_5 (by decide) ?_
  refine lv_ixor hx hb dX1_isSet_6 ?_
  refine lv_iand hx hb dX1_isSet_7 ?_
  refine lv_if_ne (tgt := 15) hx hb dX1_isSet_8 (by decide) (fun c_1 => ?_) (fun c_1 => ?_)
  · replace h := if_n c_1 h
    refine lv_iconst (v := (0 : Int32)) hx hb dX1_isSet_15 (by decide) ?_
    exact pr_z hx hb hr hlocks dX1_isSet_16 h (by decide)
  · replace h := if_p c_1 h
    refine lv_iconst (v := (1 : Int32)) hx hb dX1_isSet_11 (by decide) ?_
    refine lv_goto (tgt := 16) hx hb dX1_isSet_12 (by decide) ?_
    exact pr_z hx hb hr hlocks dX1_isSet_16 h (by decide)

def f_X1_has (T_size : Int32) (p1 : Int32) : Int32 := (if p1 < 0 then (0 : Int32) else (if T_size ≤ p1 then (0 : Int32) else (1 : Int32)))
set_option maxHeartbeats 8000000 in
set_option maxRecDepth 100000 in
theorem c_X1_has (l : Launch) (D : va_G) (cI cJ cZ cO : ClassId) (aT : Nat) (aT_slips : Nat) (aT_lates : Nat) (aT_copied : Nat) (T_size : Int32) (T_littleOnes : Int32)  (p1 : Int32)  (y0 : Int32) (h : f_X1_has T_size p1 = y0) : Met l yX1_has wsX1_has ({ frames := 0, cells := 0, slots := 0, locals := 0 } : Room) (va_Pc [.ref aT, .int p1] (fun U => va_P D vwCl [(aT, .inr (1, [.ref aT_slips, .ref aT_lates, .ref aT_copied, .int T_size, .int T_littleOnes]))] U.heap ∧ KK D cI cJ cZ cO U)) (vp_Si (fun r => r = y0 ∧ zo r)) 0 0 (fun _ => False) := by
  refine Met.ofW (cc := cX1_has) (maxL := 2) (ret := (some .boolean)) (by decide) rfl ?_
  intro p e s m args below meth c s₁ B hml hv
  obtain ⟨rfl, hP, hKK⟩ := hv
  have hx := B.exec
  have hb := B.bytes
  have hr := B.returns
  have hts := atoms_spec (ws := wsX1_has) B.pre
  have hown : s.vm.findClass RX1 = some m.cls := findClass_of_methodNamed B.named
  have hlocks := B.notSynchronized
  have hK := hKK.1
  have fl_21 := hts (.fieldLink RX1 21 "SimonSays$Children" "size" "I") (by decide +kernel)
  have inX1 : ∀ w ∈ wsX10, w ∈ wsX1_has := by decide +kernel
  have hl := lv_entry ([.ref aT, .int p1]) (n := 2) (Nat.le_of_ble_eq_true rfl)
  rw [lg_entry_eq]
  generalize (lg_sl ([.ref aT, .int p1]) ++ List.replicate (2 - (lg_sl ([.ref aT, .int p1])).length) Slot.unset).toArray = ls at hl ⊢
  have hl : lv_has ls 2 [(0, .ref aT), (1, .int p1)] := hl
  unfold f_X1_has at h
  refine lv_iload_n hx hb dX1_has_0 rfl (lv_at hl 1 rfl) ?_
  refine lv_if_lt (tgt := 16) hx hb dX1_has_1 (by decide) (fun c_1 => ?_) (fun c_1 => ?_)
  · replace h := if_p c_1 h
    refine lv_iconst (v := (0 : Int32)) hx hb dX1_has_16 (by decide) ?_
    exact pr_z hx hb hr hlocks dX1_has_17 h (by decide)
  · replace h := if_n c_1 h
    refine lv_iload_n hx hb dX1_has_4 rfl (lv_at hl 1 rfl) ?_
    refine lv_aload_n hx hb dX1_has_5 rfl (lv_at hl 0 rfl) ?_
    refine va_get (D := D) (ci := 1) (v := .int T_size) (C := RX1) (T := TX1) (N := 5) hx hb hts inX1 hown hK hP 0 rfl rfl 3 (by decide) fl_21 (fun _ h9 => h9) rfl dX1_has_6 ?_
    refine lv_icmp_ge (tgt := 16) hx hb dX1_has_9 (by decide) (fun c_2 => ?_) (fun c_2 => ?_)
    · replace h := if_p c_2 h
      refine lv_iconst (v := (0 : Int32)) hx hb dX1_has_16 (by decide) ?_
      exact pr_z hx hb hr hlocks dX1_has_17 h (by decide)
    · replace h := if_n c_2 h
      refine lv_iconst (v := (1 : Int32)) hx hb dX1_has_12 (by decide) ?_
      refine lv_goto (tgt := 17) hx hb dX1_has_13 (by decide) ?_
      exact pr_z hx hb hr hlocks dX1_has_17 h (by decide)

def f_X1_isLittle (T_size : Int32) (T_littleOnes : Int32) (p1 : Int32) : Int32 := (if (f_X1_has T_size p1) = 0 then (0 : Int32) else (if ((T_littleOnes >>> (p1 &&& 31)) &&& (1 : Int32)) = (1 : Int32) then (1 : Int32) else (0 : Int32)))
set_option maxHeartbeats 8000000 in
set_option maxRecDepth 100000 in
theorem c_X1_isLittle (l : Launch) (D : va_G) (cI cJ cZ cO : ClassId) (aT : Nat) (aT_slips : Nat) (aT_lates : Nat) (aT_copied : Nat) (T_size : Int32) (T_littleOnes : Int32)  (p1 : Int32)  (y0 : Int32) (h : f_X1_isLittle T_size T_littleOnes p1 = y0) : Met l yX1_isLittle wsX1_isLittle ({ frames := 1, cells := 0, slots := 0, locals := 21 } : Room) (va_Pc [.ref aT, .int p1] (fun U => va_P D vwCl [(aT, .inr (1, [.ref aT_slips, .ref aT_lates, .ref aT_copied, .int T_size, .int T_littleOnes]))] U.heap ∧ KK D cI cJ cZ cO U)) (vp_Si (fun r => r = y0 ∧ zo r)) 0 0 (fun _ => False) := by
  refine Met.ofW (cc := cX1_isLittle) (maxL := 2) (ret := (some .boolean)) (by decide) rfl ?_
  intro p e s m args below meth c s₁ B hml hv
  obtain ⟨rfl, hP, hKK⟩ := hv
  have hx := B.exec
  have hb := B.bytes
  have hr := B.returns
  have hts := atoms_spec (ws := wsX1_isLittle) B.pre
  have hown : s.vm.findClass RX1 = some m.cls := findClass_of_methodNamed B.named
  have hlocks := B.notSynchronized
  have hK := hKK.1
  have fl_25 := hts (.fieldLink RX1 25 "SimonSays$Children" "littleOnes" "I") (by decide +kernel)
  have inX1 : ∀ w ∈ wsX10, w ∈ wsX1_isLittle := by decide +kernel
  have hl := lv_entry ([.ref aT, .int p1]) (n := 2) (Nat.le_of_ble_eq_true rfl)
  rw [lg_entry_eq]
  generalize (lg_sl ([.ref aT, .int p1]) ++ List.replicate (2 - (lg_sl ([.ref aT, .int p1])).length) Slot.unset).toArray = ls at hl ⊢
  have hl : lv_has ls 2 [(0, .ref aT), (1, .int p1)] := hl
  unfold f_X1_isLittle at h
  refine lv_aload_n hx hb dX1_isLittle_0 rfl (lv_at hl 0 rfl) ?_
  refine lv_iload_n hx hb dX1_isLittle_1 rfl (lv_at hl 1 rfl) ?_
  have hPc : va_P D vwCl [(aT, .inr (1, [.ref aT_slips, .ref aT_lates, .ref aT_copied, .int T_size, .int T_littleOnes]))] s.heap := hP.sub [0] rfl
  refine vp_callSi (va_Run.run (va_runV (As := [.int p1]) (rest := []) ⟨hx, hb, hml, hown, hts⟩ (c_X1_has l D cI cJ cZ cO aT aT_slips aT_lates aT_copied T_size T_littleOnes p1 _ rfl) (cwV 1 hts gX1_isLittle_X1_has rfl rfl rfl (by decide +kernel) ⟨Nat.le_of_ble_eq_true rfl, Nat.le_of_ble_eq_true rfl⟩) ⟨fb_p, va_recv hK hP (ci := 1) (q0 := 0) rfl rfl, fun U hU hW => ⟨rfl, by rw [hU]; exact hPc, KK.warm hW hKK⟩⟩ rfl rfl hl.1 rfl (lv_room (Nat.le_of_ble_eq_true rfl)) dX1_isLittle_2 ⟨Nat.le_of_ble_eq_true rfl, Nat.le_of_ble_eq_true rfl⟩)) (fun r hr => ?_)
  obtain ⟨hr, hz1⟩ := hr
  replace hr := hr.symm
  subst hr
  refine lv_if_eq (tgt := 24) hx hb dX1_isLittle_5 (by decide) (fun c_2 => ?_) (fun c_2 => ?_)
  · replace h := if_p c_2 h
    refine lv_iconst (v := (0 : Int32)) hx hb dX1_isLittle_24 (by decide) ?_
    exact pr_z hx hb hr hlocks dX1_isLittle_25 h (by decide)
  · replace h := if_n c_2 h
    refine lv_aload_n hx hb dX1_isLittle_8 rfl (lv_at hl 0 rfl) ?_
    refine va_get (D := D) (ci := 1) (v := .int T_littleOnes) (C := RX1) (T := TX1) (N := 5) hx hb hts inX1 hown hK hP 0 rfl rfl 4 (by decide) fl_25 (fun _ h9 => h9) rfl dX1_isLittle_9 ?_
    refine lv_iload_n hx hb dX1_isLittle_12 rfl (lv_at hl 1 rfl) ?_
    refine lv_ishr hx hb dX1_isLittle_13 ?_
    refine lv_iconst (v := (1 : Int32)) hx hb dX1_isLittle_14 (by decide) ?_
    refine lv_iand hx hb dX1_isLittle_15 ?_
    refine lv_iconst (v := (1 : Int32)) hx hb dX1_isLittle_16 (by decide) ?_
    refine lv_icmp_ne (tgt := 24) hx hb dX1_isLittle_17 (by decide) (fun c_3 => ?_) (fun c_3 => ?_)
    · replace h := if_n c_3 h
      refine lv_iconst (v := (0 : Int32)) hx hb dX1_isLittle_24 (by decide) ?_
      exact pr_z hx hb hr hlocks dX1_isLittle_25 h (by decide)
    · replace h := if_p c_3 h
      refine lv_iconst (v := (1 : Int32)) hx hb dX1_isLittle_20 (by decide) ?_
      refine lv_goto (tgt := 25) hx hb dX1_isLittle_21 (by decide) ?_
      exact pr_z hx hb hr hlocks dX1_isLittle_25 h (by decide)

def f_X1_slipOf (T_size : Int32) (T_slips : Nat → Int32) (p1 : Int32) : Option (Int32) := (if (f_X1_has T_size p1) = 0 then some (0 : Int32) else (if gIn p1 6 = true then some (T_slips p1.toNatClampNeg) else none))
set_option maxHeartbeats 8000000 in
set_option maxRecDepth 100000 in
theorem c_X1_slipOf (l : Launch) (D : va_G) (cI cJ cZ cO : ClassId) (aT : Nat) (aT_slips : Nat) (aT_lates : Nat) (aT_copied : Nat) (T_size : Int32) (T_littleOnes : Int32) (T_slips : Nat → Int32)  (p1 : Int32)  (y0 : Int32) (h : f_X1_slipOf T_size T_slips p1 = some y0) : Met l yX1_slipOf wsX1_slipOf ({ frames := 1, cells := 0, slots := 0, locals := 21 } : Room) (va_Pc [.ref aT, .int p1] (fun U => va_P D vwCl [(aT, .inr (1, [.ref aT_slips, .ref aT_lates, .ref aT_copied, .int T_size, .int T_littleOnes])), (aT_slips, .inl (cI, 6, .inl T_slips))] U.heap ∧ KK D cI cJ cZ cO U)) (vp_Si (fun r => r = y0)) 0 0 (fun _ => False) := by
  refine Met.ofW (cc := cX1_slipOf) (maxL := 2) (ret := (some .int)) (by decide) rfl ?_
  intro p e s m args below meth c s₁ B hml hv
  obtain ⟨rfl, hP, hKK⟩ := hv
  have hx := B.exec
  have hb := B.bytes
  have hr := B.returns
  have hts := atoms_spec (ws := wsX1_slipOf) B.pre
  have hown : s.vm.findClass RX1 = some m.cls := findClass_of_methodNamed B.named
  have hlocks := B.notSynchronized
  have hK := hKK.1
  have fl_9 := hts (.fieldLink RX1 9 "SimonSays$Children" "slips" "[I") (by decide +kernel)
  have inX1 : ∀ w ∈ wsX10, w ∈ wsX1_slipOf := by decide +kernel
  have hl := lv_entry ([.ref aT, .int p1]) (n := 2) (Nat.le_of_ble_eq_true rfl)
  rw [lg_entry_eq]
  generalize (lg_sl ([.ref aT, .int p1]) ++ List.replicate (2 - (lg_sl ([.ref aT, .int p1])).length) Slot.unset).toArray = ls at hl ⊢
  have hl : lv_has ls 2 [(0, .ref aT), (1, .int p1)] := hl
  unfold f_X1_slipOf at h
  refine lv_aload_n hx hb dX1_slipOf_0 rfl (lv_at hl 0 rfl) ?_
  refine lv_iload_n hx hb dX1_slipOf_1 rfl (lv_at hl 1 rfl) ?_
  have hPc : va_P D vwCl [(aT, .inr (1, [.ref aT_slips, .ref aT_lates, .ref aT_copied, .int T_size, .int T_littleOnes]))] s.heap := hP.sub [0] rfl
  refine vp_callSi (va_Run.run (va_runV (As := [.int p1]) (rest := []) ⟨hx, hb, hml, hown, hts⟩ (c_X1_has l D cI cJ cZ cO aT aT_slips aT_lates aT_copied T_size T_littleOnes p1 _ rfl) (cwV 1 hts gX1_slipOf_X1_has rfl rfl rfl (by decide +kernel) ⟨Nat.le_of_ble_eq_true rfl, Nat.le_of_ble_eq_true rfl⟩) ⟨fb_p, va_recv hK hP (ci := 1) (q0 := 0) rfl rfl, fun U hU hW => ⟨rfl, by rw [hU]; exact hPc, KK.warm hW hKK⟩⟩ rfl rfl hl.1 rfl (lv_room (Nat.le_of_ble_eq_true rfl)) dX1_slipOf_2 ⟨Nat.le_of_ble_eq_true rfl, Nat.le_of_ble_eq_true rfl⟩)) (fun r hr => ?_)
  obtain ⟨hr, hz1⟩ := hr
  replace hr := hr.symm
  subst hr
  refine lv_if_eq (tgt := 17) hx hb dX1_slipOf_5 (by decide) (fun c_2 => ?_) (fun c_2 => ?_)
  · replace h := if_p c_2 h
    refine lv_iconst (v := (0 : Int32)) hx hb dX1_slipOf_17 (by decide) ?_
    exact pr_i hx hb hr hlocks dX1_slipOf_18 (Option.some.inj h)
  · replace h := if_n c_2 h
    refine lv_aload_n hx hb dX1_slipOf_8 rfl (lv_at hl 0 rfl) ?_
    refine va_get (D := D) (ci := 1) (v := .ref aT_slips) (C := RX1) (T := TX1) (N := 5) hx hb hts inX1 hown hK hP 0 rfl rfl 0 (by decide) fl_9 (fun _ h9 => h9) rfl dX1_slipOf_9 ?_
    refine lv_iload_n hx hb dX1_slipOf_12 rfl (lv_at hl 1 rfl) ?_
    obtain ⟨hi3, h⟩ := gd_in h
    refine va_iald hx hb hK hP 1 0 rfl rfl hi3 dX1_slipOf_13 ?_
    refine lv_goto (tgt := 18) hx hb dX1_slipOf_14 (by decide) ?_
    exact pr_i hx hb hr hlocks dX1_slipOf_18 (Option.some.inj h)

def f_X1_lateOf (T_size : Int32) (T_lates : Nat → Int32) (p1 : Int32) : Option (Int32) := (if (f_X1_has T_size p1) = 0 then some (0 : Int32) else (if gIn p1 6 = true then some (T_lates p1.toNatClampNeg) else none))
set_option maxHeartbeats 8000000 in
set_option maxRecDepth 100000 in
theorem c_X1_lateOf (l : Launch) (D : va_G) (cI cJ cZ cO : ClassId) (aT : Nat) (aT_lates : Nat) (aT_slips : Nat) (aT_copied : Nat) (T_size : Int32) (T_littleOnes : Int32) (T_lates : Nat → Int32)  (p1 : Int32)  (y0 : Int32) (h : f_X1_lateOf T_size T_lates p1 = some y0) : Met l yX1_lateOf wsX1_lateOf ({ frames := 1, cells := 0, slots := 0, locals := 21 } : Room) (va_Pc [.ref aT, .int p1] (fun U => va_P D vwCl [(aT, .inr (1, [.ref aT_slips, .ref aT_lates, .ref aT_copied, .int T_size, .int T_littleOnes])), (aT_lates, .inl (cI, 6, .inl T_lates))] U.heap ∧ KK D cI cJ cZ cO U)) (vp_Si (fun r => r = y0)) 0 0 (fun _ => False) := by
  refine Met.ofW (cc := cX1_lateOf) (maxL := 2) (ret := (some .int)) (by decide) rfl ?_
  intro p e s m args below meth c s₁ B hml hv
  obtain ⟨rfl, hP, hKK⟩ := hv
  have hx := B.exec
  have hb := B.bytes
  have hr := B.returns
  have hts := atoms_spec (ws := wsX1_lateOf) B.pre
  have hown : s.vm.findClass RX1 = some m.cls := findClass_of_methodNamed B.named
  have hlocks := B.notSynchronized
  have hK := hKK.1
  have fl_15 := hts (.fieldLink RX1 15 "SimonSays$Children" "lates" "[I") (by decide +kernel)
  have inX1 : ∀ w ∈ wsX10, w ∈ wsX1_lateOf := by decide +kernel
  have hl := lv_entry ([.ref aT, .int p1]) (n := 2) (Nat.le_of_ble_eq_true rfl)
  rw [lg_entry_eq]
  generalize (lg_sl ([.ref aT, .int p1]) ++ List.replicate (2 - (lg_sl ([.ref aT, .int p1])).length) Slot.unset).toArray = ls at hl ⊢
  have hl : lv_has ls 2 [(0, .ref aT), (1, .int p1)] := hl
  unfold f_X1_lateOf at h
  refine lv_aload_n hx hb dX1_lateOf_0 rfl (lv_at hl 0 rfl) ?_
  refine lv_iload_n hx hb dX1_lateOf_1 rfl (lv_at hl 1 rfl) ?_
  have hPc : va_P D vwCl [(aT, .inr (1, [.ref aT_slips, .ref aT_lates, .ref aT_copied, .int T_size, .int T_littleOnes]))] s.heap := hP.sub [0] rfl
  refine vp_callSi (va_Run.run (va_runV (As := [.int p1]) (rest := []) ⟨hx, hb, hml, hown, hts⟩ (c_X1_has l D cI cJ cZ cO aT aT_slips aT_lates aT_copied T_size T_littleOnes p1 _ rfl) (cwV 1 hts gX1_lateOf_X1_has rfl rfl rfl (by decide +kernel) ⟨Nat.le_of_ble_eq_true rfl, Nat.le_of_ble_eq_true rfl⟩) ⟨fb_p, va_recv hK hP (ci := 1) (q0 := 0) rfl rfl, fun U hU hW => ⟨rfl, by rw [hU]; exact hPc, KK.warm hW hKK⟩⟩ rfl rfl hl.1 rfl (lv_room (Nat.le_of_ble_eq_true rfl)) dX1_lateOf_2 ⟨Nat.le_of_ble_eq_true rfl, Nat.le_of_ble_eq_true rfl⟩)) (fun r hr => ?_)
  obtain ⟨hr, hz1⟩ := hr
  replace hr := hr.symm
  subst hr
  refine lv_if_eq (tgt := 17) hx hb dX1_lateOf_5 (by decide) (fun c_2 => ?_) (fun c_2 => ?_)
  · replace h := if_p c_2 h
    refine lv_iconst (v := (0 : Int32)) hx hb dX1_lateOf_17 (by decide) ?_
    exact pr_i hx hb hr hlocks dX1_lateOf_18 (Option.some.inj h)
  · replace h := if_n c_2 h
    refine lv_aload_n hx hb dX1_lateOf_8 rfl (lv_at hl 0 rfl) ?_
    refine va_get (D := D) (ci := 1) (v := .ref aT_lates) (C := RX1) (T := TX1) (N := 5) hx hb hts inX1 hown hK hP 0 rfl rfl 1 (by decide) fl_15 (fun _ h9 => h9) rfl dX1_lateOf_9 ?_
    refine lv_iload_n hx hb dX1_lateOf_12 rfl (lv_at hl 1 rfl) ?_
    obtain ⟨hi3, h⟩ := gd_in h
    refine va_iald hx hb hK hP 1 0 rfl rfl hi3 dX1_lateOf_13 ?_
    refine lv_goto (tgt := 18) hx hb dX1_lateOf_14 (by decide) ?_
    exact pr_i hx hb hr hlocks dX1_lateOf_18 (Option.some.inj h)

def f_X1_copiedBy (T_size : Int32) (T_copied : Nat → Int32) (p1 : Int32) : Option (Int32) := (if (f_X1_has T_size p1) = 0 then some (9 : Int32) else (if gIn p1 6 = true then some (T_copied p1.toNatClampNeg) else none))
set_option maxHeartbeats 8000000 in
set_option maxRecDepth 100000 in
theorem c_X1_copiedBy (l : Launch) (D : va_G) (cI cJ cZ cO : ClassId) (aT : Nat) (aT_copied : Nat) (aT_slips : Nat) (aT_lates : Nat) (T_size : Int32) (T_littleOnes : Int32) (T_copied : Nat → Int32)  (p1 : Int32)  (y0 : Int32) (h : f_X1_copiedBy T_size T_copied p1 = some y0) : Met l yX1_copiedBy wsX1_copiedBy ({ frames := 1, cells := 0, slots := 0, locals := 21 } : Room) (va_Pc [.ref aT, .int p1] (fun U => va_P D vwCl [(aT, .inr (1, [.ref aT_slips, .ref aT_lates, .ref aT_copied, .int T_size, .int T_littleOnes])), (aT_copied, .inl (cI, 6, .inl T_copied))] U.heap ∧ KK D cI cJ cZ cO U)) (vp_Si (fun r => r = y0)) 0 0 (fun _ => False) := by
  refine Met.ofW (cc := cX1_copiedBy) (maxL := 2) (ret := (some .int)) (by decide) rfl ?_
  intro p e s m args below meth c s₁ B hml hv
  obtain ⟨rfl, hP, hKK⟩ := hv
  have hx := B.exec
  have hb := B.bytes
  have hr := B.returns
  have hts := atoms_spec (ws := wsX1_copiedBy) B.pre
  have hown : s.vm.findClass RX1 = some m.cls := findClass_of_methodNamed B.named
  have hlocks := B.notSynchronized
  have hK := hKK.1
  have fl_18 := hts (.fieldLink RX1 18 "SimonSays$Children" "copied" "[I") (by decide +kernel)
  have inX1 : ∀ w ∈ wsX10, w ∈ wsX1_copiedBy := by decide +kernel
  have hl := lv_entry ([.ref aT, .int p1]) (n := 2) (Nat.le_of_ble_eq_true rfl)
  rw [lg_entry_eq]
  generalize (lg_sl ([.ref aT, .int p1]) ++ List.replicate (2 - (lg_sl ([.ref aT, .int p1])).length) Slot.unset).toArray = ls at hl ⊢
  have hl : lv_has ls 2 [(0, .ref aT), (1, .int p1)] := hl
  unfold f_X1_copiedBy at h
  refine lv_aload_n hx hb dX1_copiedBy_0 rfl (lv_at hl 0 rfl) ?_
  refine lv_iload_n hx hb dX1_copiedBy_1 rfl (lv_at hl 1 rfl) ?_
  have hPc : va_P D vwCl [(aT, .inr (1, [.ref aT_slips, .ref aT_lates, .ref aT_copied, .int T_size, .int T_littleOnes]))] s.heap := hP.sub [0] rfl
  refine vp_callSi (va_Run.run (va_runV (As := [.int p1]) (rest := []) ⟨hx, hb, hml, hown, hts⟩ (c_X1_has l D cI cJ cZ cO aT aT_slips aT_lates aT_copied T_size T_littleOnes p1 _ rfl) (cwV 1 hts gX1_copiedBy_X1_has rfl rfl rfl (by decide +kernel) ⟨Nat.le_of_ble_eq_true rfl, Nat.le_of_ble_eq_true rfl⟩) ⟨fb_p, va_recv hK hP (ci := 1) (q0 := 0) rfl rfl, fun U hU hW => ⟨rfl, by rw [hU]; exact hPc, KK.warm hW hKK⟩⟩ rfl rfl hl.1 rfl (lv_room (Nat.le_of_ble_eq_true rfl)) dX1_copiedBy_2 ⟨Nat.le_of_ble_eq_true rfl, Nat.le_of_ble_eq_true rfl⟩)) (fun r hr => ?_)
  obtain ⟨hr, hz1⟩ := hr
  replace hr := hr.symm
  subst hr
  refine lv_if_eq (tgt := 17) hx hb dX1_copiedBy_5 (by decide) (fun c_2 => ?_) (fun c_2 => ?_)
  · replace h := if_p c_2 h
    refine lv_bipush (v := (9 : Int32)) hx hb dX1_copiedBy_17 (by decide) ?_
    exact pr_i hx hb hr hlocks dX1_copiedBy_19 (Option.some.inj h)
  · replace h := if_n c_2 h
    refine lv_aload_n hx hb dX1_copiedBy_8 rfl (lv_at hl 0 rfl) ?_
    refine va_get (D := D) (ci := 1) (v := .ref aT_copied) (C := RX1) (T := TX1) (N := 5) hx hb hts inX1 hown hK hP 0 rfl rfl 2 (by decide) fl_18 (fun _ h9 => h9) rfl dX1_copiedBy_9 ?_
    refine lv_iload_n hx hb dX1_copiedBy_12 rfl (lv_at hl 1 rfl) ?_
    obtain ⟨hi3, h⟩ := gd_in h
    refine va_iald hx hb hK hP 1 0 rfl rfl hi3 dX1_copiedBy_13 ?_
    refine lv_goto (tgt := 19) hx hb dX1_copiedBy_14 (by decide) ?_
    exact pr_i hx hb hr hlocks dX1_copiedBy_19 (Option.some.inj h)

def f_X1_howManyCopy_L4 (T_size : Int32) (T_copied : Nat → Int32) : Nat → Int32 → Int32 → Int32 → Option (Int32)
  | 0, _, _, _ => none
  | n + 1, x1, x2, x3 => (if T_size ≤ x3 then some x2 else (Option.bind (f_X1_copiedBy T_size T_copied x3) (fun y2 => (if y2 = x1 then f_X1_howManyCopy_L4 T_size T_copied n x1 (x2 + (1 : Int32)) (x3 + (1 : Int32)) else f_X1_howManyCopy_L4 T_size T_copied n x1 x2 (x3 + (1 : Int32))))))
def f_X1_howManyCopy (T_size : Int32) (T_copied : Nat → Int32) (p1 : Int32) : Option (Int32) := f_X1_howManyCopy_L4 T_size T_copied 300 p1 (0 : Int32) (0 : Int32)
set_option maxHeartbeats 8000000 in
set_option maxRecDepth 100000 in
theorem c_X1_howManyCopy (l : Launch) (D : va_G) (cI cJ cZ cO : ClassId) (aT : Nat) (aT_copied : Nat) (aT_slips : Nat) (aT_lates : Nat) (T_size : Int32) (T_littleOnes : Int32) (T_copied : Nat → Int32)  (p1 : Int32)  (y0 : Int32) (h : f_X1_howManyCopy T_size T_copied p1 = some y0) : Met l yX1_howManyCopy wsX1_howManyCopy ({ frames := 2, cells := 0, slots := 0, locals := 42 } : Room) (va_Pc [.ref aT, .int p1] (fun U => va_P D vwCl [(aT, .inr (1, [.ref aT_slips, .ref aT_lates, .ref aT_copied, .int T_size, .int T_littleOnes])), (aT_copied, .inl (cI, 6, .inl T_copied))] U.heap ∧ KK D cI cJ cZ cO U)) (vp_Si (fun r => r = y0)) 0 0 (fun _ => False) := by
  refine Met.ofW (cc := cX1_howManyCopy) (maxL := 4) (ret := (some .int)) (by decide) rfl ?_
  intro p e s m args below meth c s₁ B hml hv
  obtain ⟨rfl, hP, hKK⟩ := hv
  have hx := B.exec
  have hb := B.bytes
  have hr := B.returns
  have hts := atoms_spec (ws := wsX1_howManyCopy) B.pre
  have hown : s.vm.findClass RX1 = some m.cls := findClass_of_methodNamed B.named
  have hlocks := B.notSynchronized
  have hK := hKK.1
  have fl_21 := hts (.fieldLink RX1 21 "SimonSays$Children" "size" "I") (by decide +kernel)
  have inX1 : ∀ w ∈ wsX10, w ∈ wsX1_howManyCopy := by decide +kernel
  have hl := lv_entry ([.ref aT, .int p1]) (n := 4) (Nat.le_of_ble_eq_true rfl)
  rw [lg_entry_eq]
  generalize (lg_sl ([.ref aT, .int p1]) ++ List.replicate (4 - (lg_sl ([.ref aT, .int p1])).length) Slot.unset).toArray = ls at hl ⊢
  have hl : lv_has ls 4 [(0, .ref aT), (1, .int p1)] := hl
  have L4 : ∀ (n : Nat), ∀ (x1 : Int32) (x2 : Int32) (x3 : Int32), ∀ (ls : Array Slot), lv_has ls 4 [(0, .ref aT), (1, .int x1), (2, .int x2), (3, .int x3)] → f_X1_howManyCopy_L4 T_size T_copied n x1 x2 x3 = some y0 → W p l e (headSpec wsX1_howManyCopy ({ frames := 2, cells := 0, slots := 0, locals := 42 } : Room)).room s m ([.ref aT, .int p1] : List Value).toArray below meth c s.heap [] 0 0 (MQ below (vp_Si (fun r => r = y0)) ([.ref aT, .int p1] : List Value).toArray s 0 0 (fun _ => False)) (F0 m 4 ls []) := by
    intro n
    induction n with
    | zero =>
      intro x1 x2 x3 ls hl h
      exact (ns h).elim
    | succ n ih =>
      intro x1 x2 x3 ls hl h
      unfold f_X1_howManyCopy_L4 at h
      refine lv_iload_n hx hb dX1_howManyCopy_4 rfl (lv_at hl 3 rfl) ?_
      refine lv_aload_n hx hb dX1_howManyCopy_5 rfl (lv_at hl 0 rfl) ?_
      refine va_get (D := D) (ci := 1) (v := .int T_size) (C := RX1) (T := TX1) (N := 5) hx hb hts inX1 hown hK hP 0 rfl rfl 3 (by decide) fl_21 (fun _ h9 => h9) rfl dX1_howManyCopy_6 ?_
      refine lv_icmp_ge (tgt := 30) hx hb dX1_howManyCopy_9 (by decide) (fun c_1 => ?_) (fun c_1 => ?_)
      · replace h := if_p c_1 h
        refine lv_iload_n hx hb dX1_howManyCopy_30 rfl (lv_at hl 2 rfl) ?_
        exact pr_i hx hb hr hlocks dX1_howManyCopy_31 (Option.some.inj h)
      · replace h := if_n c_1 h
        refine lv_aload_n hx hb dX1_howManyCopy_12 rfl (lv_at hl 0 rfl) ?_
        refine lv_iload_n hx hb dX1_howManyCopy_13 rfl (lv_at hl 3 rfl) ?_
        obtain ⟨y2, qy2, h⟩ := ob_some h
        have hPc : va_P D vwCl [(aT, .inr (1, [.ref aT_slips, .ref aT_lates, .ref aT_copied, .int T_size, .int T_littleOnes])), (aT_copied, .inl (cI, 6, .inl T_copied))] s.heap := hP.sub [0, 1] rfl
        refine vp_callSi (va_Run.run (va_runV (As := [.int x3]) (rest := []) ⟨hx, hb, hml, hown, hts⟩ (c_X1_copiedBy l D cI cJ cZ cO aT aT_copied aT_slips aT_lates T_size T_littleOnes T_copied x3 y2 qy2) (cwV 1 hts gX1_howManyCopy_X1_copiedBy rfl rfl rfl (by decide +kernel) ⟨Nat.le_of_ble_eq_true rfl, Nat.le_of_ble_eq_true rfl⟩) ⟨fb_p, va_recv hK hP (ci := 1) (q0 := 0) rfl rfl, fun U hU hW => ⟨rfl, by rw [hU]; exact hPc, KK.warm hW hKK⟩⟩ rfl rfl hl.1 rfl (lv_room (Nat.le_of_ble_eq_true rfl)) dX1_howManyCopy_14 ⟨Nat.le_of_ble_eq_true rfl, Nat.le_of_ble_eq_true rfl⟩)) (fun r hr => ?_)
        replace hr := hr.symm
        subst hr
        refine lv_iload_n hx hb dX1_howManyCopy_17 rfl (lv_at hl 1 rfl) ?_
        refine lv_icmp_ne (tgt := 24) hx hb dX1_howManyCopy_18 (by decide) (fun c_3 => ?_) (fun c_3 => ?_)
        · replace h := if_n c_3 h
          refine lv_iinc (v := (x3 + (1 : Int32))) (lv' := [(3, .int (x3 + (1 : Int32))), (0, .ref aT), (1, .int x1), (2, .int x2)]) hx hb dX1_howManyCopy_24 hl (k := 3) rfl rfl (by decide) rfl (fun ls hl => ?_)
          refine lv_goto (tgt := 4) hx hb dX1_howManyCopy_27 (by decide) ?_
          exact ih x1 x2 (x3 + (1 : Int32)) ls (lv_sub hl [1, 2, 3, 0] rfl) h
        · replace h := if_p c_3 h
          refine lv_iinc (v := (x2 + (1 : Int32))) (lv' := [(2, .int (x2 + (1 : Int32))), (0, .ref aT), (1, .int x1), (3, .int x3)]) hx hb dX1_howManyCopy_21 hl (k := 2) rfl rfl (by decide) rfl (fun ls hl => ?_)
          refine lv_iinc (v := (x3 + (1 : Int32))) (lv' := [(3, .int (x3 + (1 : Int32))), (2, .int (x2 + (1 : Int32))), (0, .ref aT), (1, .int x1)]) hx hb dX1_howManyCopy_24 hl (k := 3) rfl rfl (by decide) rfl (fun ls hl => ?_)
          refine lv_goto (tgt := 4) hx hb dX1_howManyCopy_27 (by decide) ?_
          exact ih x1 (x2 + (1 : Int32)) (x3 + (1 : Int32)) ls (lv_sub hl [2, 3, 1, 0] rfl) h
  unfold f_X1_howManyCopy at h
  refine lv_iconst (v := (0 : Int32)) hx hb dX1_howManyCopy_0 (by decide) ?_
  refine lv_istore_n (lv' := [(2, .int (0 : Int32)), (0, .ref aT), (1, .int p1)]) hx hb dX1_howManyCopy_1 rfl hl (by decide) rfl (fun ls hl => ?_)
  refine lv_iconst (v := (0 : Int32)) hx hb dX1_howManyCopy_2 (by decide) ?_
  refine lv_istore_n (lv' := [(3, .int (0 : Int32)), (2, .int (0 : Int32)), (0, .ref aT), (1, .int p1)]) hx hb dX1_howManyCopy_3 rfl hl (by decide) rfl (fun ls hl => ?_)
  exact L4 300 p1 (0 : Int32) (0 : Int32) ls (lv_sub hl [2, 3, 1, 0] rfl) h

def f_X1_add (T_size : Int32) (T_slips : Nat → Int32) (T_lates : Nat → Int32) (T_copied : Nat → Int32) (p1 : Int32) (p2 : Int32) (p3 : Int32) : Option (Int32 × (Nat → Int32) × (Nat → Int32) × (Nat → Int32)) := (if (6 : Int32) ≤ T_size then some (T_size, T_slips, T_lates, T_copied) else (if gIn T_size 6 = true then (if gIn T_size 6 = true then (if gIn T_size 6 = true then some ((T_size + (1 : Int32)), (upd T_slips T_size.toNatClampNeg p1), (upd T_lates T_size.toNatClampNeg p2), (upd T_copied T_size.toNatClampNeg p3)) else none) else none) else none))
set_option maxHeartbeats 8000000 in
set_option maxRecDepth 100000 in
theorem c_X1_add (l : Launch) (D : va_G) (cI cJ cZ cO : ClassId) (aT : Nat) (aT_slips : Nat) (aT_lates : Nat) (aT_copied : Nat) (T_size : Int32) (T_littleOnes : Int32) (T_slips : Nat → Int32) (T_lates : Nat → Int32) (T_copied : Nat → Int32) (sz : Nat) (p1 : Int32) (p2 : Int32) (p3 : Int32)  (y0 : Int32 × (Nat → Int32) × (Nat → Int32) × (Nat → Int32)) (h : f_X1_add T_size T_slips T_lates T_copied p1 p2 p3 = some y0) : Met l yX1_add wsX1_add ({ frames := 0, cells := 0, slots := 0, locals := 0 } : Room) (va_Pc [.ref aT, .int p1, .int p2, .int p3] (fun U => U.heap.size = sz ∧ va_P D vwCl [(aT, .inr (1, [.ref aT_slips, .ref aT_lates, .ref aT_copied, .int T_size, .int T_littleOnes])), (aT_slips, .inl (cI, 6, .inl T_slips)), (aT_lates, .inl (cI, 6, .inl T_lates)), (aT_copied, .inl (cI, 6, .inl T_copied))] U.heap ∧ KK D cI cJ cZ cO U ∧ va_D (fun _ => True) [(aT, .inr (1, [.ref aT_slips, .ref aT_lates, .ref aT_copied, .int T_size, .int T_littleOnes])), (aT_slips, .inl (cI, 6, .inl T_slips)), (aT_lates, .inl (cI, 6, .inl T_lates)), (aT_copied, .inl (cI, 6, .inl T_copied))])) (va_Qv (fun (_ : Unit) => True) (fun (_ : Unit) t => va_P D vwCl [(aT, .inr (1, [.ref aT_slips, .ref aT_lates, .ref aT_copied, .int y0.1, .int T_littleOnes])), (aT_slips, .inl (cI, 6, .inl y0.2.1)), (aT_lates, .inl (cI, 6, .inl y0.2.2.1)), (aT_copied, .inl (cI, 6, .inl y0.2.2.2))] t.heap ∧ va_D (va_A [(aT, .inr (1, [.ref aT_slips, .ref aT_lates, .ref aT_copied, .int T_size, .int T_littleOnes])), (aT_slips, .inl (cI, 6, .inl T_slips)), (aT_lates, .inl (cI, 6, .inl T_lates)), (aT_copied, .inl (cI, 6, .inl T_copied))] sz) [(aT, .inr (1, [.ref aT_slips, .ref aT_lates, .ref aT_copied, .int y0.1, .int T_littleOnes])), (aT_slips, .inl (cI, 6, .inl y0.2.1)), (aT_lates, .inl (cI, 6, .inl y0.2.2.1)), (aT_copied, .inl (cI, 6, .inl y0.2.2.2))]) (va_A [(aT, .inr (1, [.ref aT_slips, .ref aT_lates, .ref aT_copied, .int T_size, .int T_littleOnes])), (aT_slips, .inl (cI, 6, .inl T_slips)), (aT_lates, .inl (cI, 6, .inl T_lates)), (aT_copied, .inl (cI, 6, .inl T_copied))] sz)) 0 0 (va_A [(aT, .inr (1, [.ref aT_slips, .ref aT_lates, .ref aT_copied, .int T_size, .int T_littleOnes])), (aT_slips, .inl (cI, 6, .inl T_slips)), (aT_lates, .inl (cI, 6, .inl T_lates)), (aT_copied, .inl (cI, 6, .inl T_copied))] sz) := by
  refine Met.ofW (cc := cX1_add) (maxL := 4) (ret := none) (by decide) rfl ?_
  intro p e s m args below meth c s₁ B hml hv
  obtain ⟨rfl, hsz, hP, hKK, hD0⟩ := hv
  have hx := B.exec
  have hb := B.bytes
  have hr := B.returns
  have hts := atoms_spec (ws := wsX1_add) B.pre
  have hown : s.vm.findClass RX1 = some m.cls := findClass_of_methodNamed B.named
  have hlocks := B.notSynchronized
  have hK := hKK.1
  have fl_9 := hts (.fieldLink RX1 9 "SimonSays$Children" "slips" "[I") (by decide +kernel)
  have fl_15 := hts (.fieldLink RX1 15 "SimonSays$Children" "lates" "[I") (by decide +kernel)
  have fl_18 := hts (.fieldLink RX1 18 "SimonSays$Children" "copied" "[I") (by decide +kernel)
  have fl_21 := hts (.fieldLink RX1 21 "SimonSays$Children" "size" "I") (by decide +kernel)
  have inX1 : ∀ w ∈ wsX10, w ∈ wsX1_add := by decide +kernel
  subst hsz
  have hD := hD0.self (sz := s.heap.size)
  generalize hAe : va_A [(aT, .inr (1, [.ref aT_slips, .ref aT_lates, .ref aT_copied, .int T_size, .int T_littleOnes])), (aT_slips, .inl (cI, 6, .inl T_slips)), (aT_lates, .inl (cI, 6, .inl T_lates)), (aT_copied, .inl (cI, 6, .inl T_copied))] s.heap.size = A at hD ⊢
  have hA : ∀ q : Nat, s.heap.size ≤ q → A q := fun q h => by rw [← hAe]; exact Or.inr h
  have hS : va_S A s.heap s.heap [] := va_S.rf
  have hl := lv_entry ([.ref aT, .int p1, .int p2, .int p3]) (n := 4) (Nat.le_of_ble_eq_true rfl)
  rw [lg_entry_eq]
  generalize (lg_sl ([.ref aT, .int p1, .int p2, .int p3]) ++ List.replicate (4 - (lg_sl ([.ref aT, .int p1, .int p2, .int p3])).length) Slot.unset).toArray = ls at hl ⊢
  have hl : lv_has ls 4 [(0, .ref aT), (1, .int p1), (2, .int p2), (3, .int p3)] := hl
  unfold f_X1_add at h
  refine lv_aload_n hx hb dX1_add_0 rfl (lv_at hl 0 rfl) ?_
  refine va_get (D := D) (ci := 1) (v := .int T_size) (C := RX1) (T := TX1) (N := 5) hx hb hts inX1 hown hK hP 0 rfl rfl 3 (by decide) fl_21 (fun _ h9 => h9) rfl dX1_add_1 ?_
  refine lv_bipush (v := (6 : Int32)) hx hb dX1_add_4 (by decide) ?_
  refine lv_icmp_ge (tgt := 49) hx hb dX1_add_6 (by decide) (fun c_1 => ?_) (fun c_1 => ?_)
  · replace h := if_p c_1 h
    have hy := Option.some.inj h
    subst hy
    exact W.vret hx hb hr (fun t ht hW => ⟨⟨(), rfl, trivial, by rw [ht]; exact hP, hD⟩, hS.F ht⟩) hS.2.2 dX1_add_49
  · replace h := if_n c_1 h
    refine lv_aload_n hx hb dX1_add_9 rfl (lv_at hl 0 rfl) ?_
    refine va_get (D := D) (ci := 1) (v := .ref aT_slips) (C := RX1) (T := TX1) (N := 5) hx hb hts inX1 hown hK hP 0 rfl rfl 0 (by decide) fl_9 (fun _ h9 => h9) rfl dX1_add_10 ?_
    refine lv_aload_n hx hb dX1_add_13 rfl (lv_at hl 0 rfl) ?_
    refine va_get (D := D) (ci := 1) (v := .int T_size) (C := RX1) (T := TX1) (N := 5) hx hb hts inX1 hown hK hP 0 rfl rfl 3 (by decide) fl_21 (fun _ h9 => h9) rfl dX1_add_14 ?_
    refine lv_iload_n hx hb dX1_add_17 rfl (lv_at hl 1 rfl) ?_
    obtain ⟨hi2, h⟩ := gd_in h
    refine va_iast hx hb hK hP hD hS 1 0 rfl rfl hi2 dX1_add_18 (fun H locs hP hD hS => ?_)
    have hP : va_P D vwCl [(aT, .inr (1, [.ref aT_slips, .ref aT_lates, .ref aT_copied, .int T_size, .int T_littleOnes])), (aT_slips, .inl (cI, 6, .inl (upd T_slips T_size.toNatClampNeg p1))), (aT_lates, .inl (cI, 6, .inl T_lates)), (aT_copied, .inl (cI, 6, .inl T_copied))] H := hP
    have hD : va_D A [(aT, .inr (1, [.ref aT_slips, .ref aT_lates, .ref aT_copied, .int T_size, .int T_littleOnes])), (aT_slips, .inl (cI, 6, .inl (upd T_slips T_size.toNatClampNeg p1))), (aT_lates, .inl (cI, 6, .inl T_lates)), (aT_copied, .inl (cI, 6, .inl T_copied))] := hD
    refine lv_aload_n hx hb dX1_add_19 rfl (lv_at hl 0 rfl) ?_
    refine va_get (D := D) (ci := 1) (v := .ref aT_lates) (C := RX1) (T := TX1) (N := 5) hx hb hts inX1 hown hK hP 0 rfl rfl 1 (by decide) fl_15 (fun _ h9 => h9) rfl dX1_add_20 ?_
    refine lv_aload_n hx hb dX1_add_23 rfl (lv_at hl 0 rfl) ?_
    refine va_get (D := D) (ci := 1) (v := .int T_size) (C := RX1) (T := TX1) (N := 5) hx hb hts inX1 hown hK hP 0 rfl rfl 3 (by decide) fl_21 (fun _ h9 => h9) rfl dX1_add_24 ?_
    refine lv_iload_n hx hb dX1_add_27 rfl (lv_at hl 2 rfl) ?_
    obtain ⟨hi3, h⟩ := gd_in h
    refine va_iast hx hb hK hP hD hS 2 0 rfl rfl hi3 dX1_add_28 (fun H locs hP hD hS => ?_)
    have hP : va_P D vwCl [(aT, .inr (1, [.ref aT_slips, .ref aT_lates, .ref aT_copied, .int T_size, .int T_littleOnes])), (aT_slips, .inl (cI, 6, .inl (upd T_slips T_size.toNatClampNeg p1))), (aT_lates, .inl (cI, 6, .inl (upd T_lates T_size.toNatClampNeg p2))), (aT_copied, .inl (cI, 6, .inl T_copied))] H := hP
    have hD : va_D A [(aT, .inr (1, [.ref aT_slips, .ref aT_lates, .ref aT_copied, .int T_size, .int T_littleOnes])), (aT_slips, .inl (cI, 6, .inl (upd T_slips T_size.toNatClampNeg p1))), (aT_lates, .inl (cI, 6, .inl (upd T_lates T_size.toNatClampNeg p2))), (aT_copied, .inl (cI, 6, .inl T_copied))] := hD
    refine lv_aload_n hx hb dX1_add_29 rfl (lv_at hl 0 rfl) ?_
    refine va_get (D := D) (ci := 1) (v := .ref aT_copied) (C := RX1) (T := TX1) (N := 5) hx hb hts inX1 hown hK hP 0 rfl rfl 2 (by decide) fl_18 (fun _ h9 => h9) rfl dX1_add_30 ?_
    refine lv_aload_n hx hb dX1_add_33 rfl (lv_at hl 0 rfl) ?_
    refine va_get (D := D) (ci := 1) (v := .int T_size) (C := RX1) (T := TX1) (N := 5) hx hb hts inX1 hown hK hP 0 rfl rfl 3 (by decide) fl_21 (fun _ h9 => h9) rfl dX1_add_34 ?_
    refine lv_iload_n hx hb dX1_add_37 rfl (lv_at hl 3 rfl) ?_
    obtain ⟨hi4, h⟩ := gd_in h
    refine va_iast hx hb hK hP hD hS 3 0 rfl rfl hi4 dX1_add_38 (fun H locs hP hD hS => ?_)
    have hP : va_P D vwCl [(aT, .inr (1, [.ref aT_slips, .ref aT_lates, .ref aT_copied, .int T_size, .int T_littleOnes])), (aT_slips, .inl (cI, 6, .inl (upd T_slips T_size.toNatClampNeg p1))), (aT_lates, .inl (cI, 6, .inl (upd T_lates T_size.toNatClampNeg p2))), (aT_copied, .inl (cI, 6, .inl (upd T_copied T_size.toNatClampNeg p3)))] H := hP
    have hD : va_D A [(aT, .inr (1, [.ref aT_slips, .ref aT_lates, .ref aT_copied, .int T_size, .int T_littleOnes])), (aT_slips, .inl (cI, 6, .inl (upd T_slips T_size.toNatClampNeg p1))), (aT_lates, .inl (cI, 6, .inl (upd T_lates T_size.toNatClampNeg p2))), (aT_copied, .inl (cI, 6, .inl (upd T_copied T_size.toNatClampNeg p3)))] := hD
    refine lv_aload_n hx hb dX1_add_39 rfl (lv_at hl 0 rfl) ?_
    refine lv_dup hx hb dX1_add_40 rfl ?_
    refine va_get (D := D) (ci := 1) (v := .int T_size) (C := RX1) (T := TX1) (N := 5) hx hb hts inX1 hown hK hP 0 rfl rfl 3 (by decide) fl_21 (fun _ h9 => h9) rfl dX1_add_41 ?_
    refine lv_iconst (v := (1 : Int32)) hx hb dX1_add_44 (by decide) ?_
    refine lv_iadd hx hb dX1_add_45 ?_
    refine va_put (D := D) (ci := 1) (v := .int (T_size + (1 : Int32))) (ty := .int) (C := RX1) (T := TX1) (N := 5) hx hb hts inX1 tyX1 tyX1_ok nmX1 hown hK hP hD hS 0 rfl rfl 3 (by decide) fl_21 (fun _ h9 => h9) rfl (by decide +kernel) rfl rfl (Nat.le_of_ble_eq_true rfl) dX1_add_46 (fun H locs hP hD hS => ?_)
    have hP : va_P D vwCl [(aT, .inr (1, [.ref aT_slips, .ref aT_lates, .ref aT_copied, .int (T_size + (1 : Int32)), .int T_littleOnes])), (aT_slips, .inl (cI, 6, .inl (upd T_slips T_size.toNatClampNeg p1))), (aT_lates, .inl (cI, 6, .inl (upd T_lates T_size.toNatClampNeg p2))), (aT_copied, .inl (cI, 6, .inl (upd T_copied T_size.toNatClampNeg p3)))] H := hP
    have hD : va_D A [(aT, .inr (1, [.ref aT_slips, .ref aT_lates, .ref aT_copied, .int (T_size + (1 : Int32)), .int T_littleOnes])), (aT_slips, .inl (cI, 6, .inl (upd T_slips T_size.toNatClampNeg p1))), (aT_lates, .inl (cI, 6, .inl (upd T_lates T_size.toNatClampNeg p2))), (aT_copied, .inl (cI, 6, .inl (upd T_copied T_size.toNatClampNeg p3)))] := hD
    have hy := Option.some.inj h
    subst hy
    exact W.vret hx hb hr (fun t ht hW => ⟨⟨(), rfl, trivial, by rw [ht]; exact hP, hD⟩, hS.F ht⟩) hS.2.2 dX1_add_49

def f_X1_makeLittle (T_littleOnes : Int32) (p1 : Int32) : Option (Int32) := some (T_littleOnes ||| ((1 : Int32) <<< (p1 &&& 31)))
set_option maxHeartbeats 8000000 in
set_option maxRecDepth 100000 in
theorem c_X1_makeLittle (l : Launch) (D : va_G) (cI cJ cZ cO : ClassId) (aT : Nat) (aT_slips : Nat) (aT_lates : Nat) (aT_copied : Nat) (T_size : Int32) (T_littleOnes : Int32) (sz : Nat) (p1 : Int32)  (y0 : Int32) (h : f_X1_makeLittle T_littleOnes p1 = some y0) : Met l yX1_makeLittle wsX1_makeLittle ({ frames := 0, cells := 0, slots := 0, locals := 0 } : Room) (va_Pc [.ref aT, .int p1] (fun U => U.heap.size = sz ∧ va_P D vwCl [(aT, .inr (1, [.ref aT_slips, .ref aT_lates, .ref aT_copied, .int T_size, .int T_littleOnes]))] U.heap ∧ KK D cI cJ cZ cO U ∧ va_D (fun _ => True) [(aT, .inr (1, [.ref aT_slips, .ref aT_lates, .ref aT_copied, .int T_size, .int T_littleOnes]))])) (va_Qv (fun (_ : Unit) => True) (fun (_ : Unit) t => va_P D vwCl [(aT, .inr (1, [.ref aT_slips, .ref aT_lates, .ref aT_copied, .int T_size, .int y0]))] t.heap ∧ va_D (va_A [(aT, .inr (1, [.ref aT_slips, .ref aT_lates, .ref aT_copied, .int T_size, .int T_littleOnes]))] sz) [(aT, .inr (1, [.ref aT_slips, .ref aT_lates, .ref aT_copied, .int T_size, .int y0]))]) (va_A [(aT, .inr (1, [.ref aT_slips, .ref aT_lates, .ref aT_copied, .int T_size, .int T_littleOnes]))] sz)) 0 0 (va_A [(aT, .inr (1, [.ref aT_slips, .ref aT_lates, .ref aT_copied, .int T_size, .int T_littleOnes]))] sz) := by
  refine Met.ofW (cc := cX1_makeLittle) (maxL := 2) (ret := none) (by decide) rfl ?_
  intro p e s m args below meth c s₁ B hml hv
  obtain ⟨rfl, hsz, hP, hKK, hD0⟩ := hv
  have hx := B.exec
  have hb := B.bytes
  have hr := B.returns
  have hts := atoms_spec (ws := wsX1_makeLittle) B.pre
  have hown : s.vm.findClass RX1 = some m.cls := findClass_of_methodNamed B.named
  have hlocks := B.notSynchronized
  have hK := hKK.1
  have fl_25 := hts (.fieldLink RX1 25 "SimonSays$Children" "littleOnes" "I") (by decide +kernel)
  have inX1 : ∀ w ∈ wsX10, w ∈ wsX1_makeLittle := by decide +kernel
  subst hsz
  have hD := hD0.self (sz := s.heap.size)
  generalize hAe : va_A [(aT, .inr (1, [.ref aT_slips, .ref aT_lates, .ref aT_copied, .int T_size, .int T_littleOnes]))] s.heap.size = A at hD ⊢
  have hA : ∀ q : Nat, s.heap.size ≤ q → A q := fun q h => by rw [← hAe]; exact Or.inr h
  have hS : va_S A s.heap s.heap [] := va_S.rf
  have hl := lv_entry ([.ref aT, .int p1]) (n := 2) (Nat.le_of_ble_eq_true rfl)
  rw [lg_entry_eq]
  generalize (lg_sl ([.ref aT, .int p1]) ++ List.replicate (2 - (lg_sl ([.ref aT, .int p1])).length) Slot.unset).toArray = ls at hl ⊢
  have hl : lv_has ls 2 [(0, .ref aT), (1, .int p1)] := hl
  unfold f_X1_makeLittle at h
  refine lv_aload_n hx hb dX1_makeLittle_0 rfl (lv_at hl 0 rfl) ?_
  refine lv_dup hx hb dX1_makeLittle_1 rfl ?_
  refine va_get (D := D) (ci := 1) (v := .int T_littleOnes) (C := RX1) (T := TX1) (N := 5) hx hb hts inX1 hown hK hP 0 rfl rfl 4 (by decide) fl_25 (fun _ h9 => h9) rfl dX1_makeLittle_2 ?_
  refine lv_iconst (v := (1 : Int32)) hx hb dX1_makeLittle_5 (by decide) ?_
  refine lv_iload_n hx hb dX1_makeLittle_6 rfl (lv_at hl 1 rfl) ?_
  refine lv_ishl hx hb dX1_makeLittle_7 ?_
  refine lv_ior hx hb dX1_makeLittle_8 ?_
  refine va_put (D := D) (ci := 1) (v := .int (T_littleOnes ||| ((1 : Int32) <<< (p1 &&& 31)))) (ty := .int) (C := RX1) (T := TX1) (N := 5) hx hb hts inX1 tyX1 tyX1_ok nmX1 hown hK hP hD hS 0 rfl rfl 4 (by decide) fl_25 (fun _ h9 => h9) rfl (by decide +kernel) rfl rfl (Nat.le_of_ble_eq_true rfl) dX1_makeLittle_9 (fun H locs hP hD hS => ?_)
  have hP : va_P D vwCl [(aT, .inr (1, [.ref aT_slips, .ref aT_lates, .ref aT_copied, .int T_size, .int (T_littleOnes ||| ((1 : Int32) <<< (p1 &&& 31)))]))] H := hP
  have hD : va_D A [(aT, .inr (1, [.ref aT_slips, .ref aT_lates, .ref aT_copied, .int T_size, .int (T_littleOnes ||| ((1 : Int32) <<< (p1 &&& 31)))]))] := hD
  have hy := Option.some.inj h
  subst hy
  exact W.vret hx hb hr (fun t ht hW => ⟨⟨(), rfl, trivial, by rw [ht]; exact hP, hD⟩, hS.F ht⟩) hS.2.2 dX1_makeLittle_12

def f_X1_errsOf (T_size : Int32) (T_slips : Nat → Int32) (T_lates : Nat → Int32) (p1 : Int32) (p2 : Int32) (p3 : Int32) : Option (Int32) := (if p2 = (2 : Int32) then (Option.bind (f_X1_slipOf T_size T_slips p1) (fun y1 => some (if (y1 + p3) < (10 : Int32) then (y1 + p3) else (10 : Int32)))) else (if p2 = (3 : Int32) then (Option.bind (f_X1_slipOf T_size T_slips p1) (fun y3 => some (if ((y3 + p3) + (2 : Int32)) < (10 : Int32) then ((y3 + p3) + (2 : Int32)) else (10 : Int32)))) else (if p2 = (4 : Int32) then (Option.bind (f_X1_lateOf T_size T_lates p1) (fun y5 => some (if y5 < (10 : Int32) then y5 else (10 : Int32)))) else some (0 : Int32))))
set_option maxHeartbeats 8000000 in
set_option maxRecDepth 100000 in
theorem c_X1_errsOf (l : Launch) (D : va_G) (cI cJ cZ cO : ClassId) (aT : Nat) (aT_slips : Nat) (aT_lates : Nat) (aT_copied : Nat) (T_size : Int32) (T_littleOnes : Int32) (T_slips : Nat → Int32) (T_lates : Nat → Int32)  (p1 : Int32) (p2 : Int32) (p3 : Int32)  (y0 : Int32) (h : f_X1_errsOf T_size T_slips T_lates p1 p2 p3 = some y0) : Met l yX1_errsOf wsX1_errsOf ({ frames := 2, cells := 0, slots := 0, locals := 42 } : Room) (va_Pc [.ref aT, .int p1, .int p2, .int p3] (fun U => va_P D vwCl [(aT, .inr (1, [.ref aT_slips, .ref aT_lates, .ref aT_copied, .int T_size, .int T_littleOnes])), (aT_slips, .inl (cI, 6, .inl T_slips)), (aT_lates, .inl (cI, 6, .inl T_lates))] U.heap ∧ KK D cI cJ cZ cO U)) (vp_Si (fun r => r = y0)) 0 0 (fun _ => False) := by
  refine Met.ofW (cc := cX1_errsOf) (maxL := 4) (ret := (some .int)) (by decide) rfl ?_
  intro p e s m args below meth c s₁ B hml hv
  obtain ⟨rfl, hP, hKK⟩ := hv
  have hx := B.exec
  have hb := B.bytes
  have hr := B.returns
  have hts := atoms_spec (ws := wsX1_errsOf) B.pre
  have hown : s.vm.findClass RX1 = some m.cls := findClass_of_methodNamed B.named
  have hlocks := B.notSynchronized
  have hK := hKK.1
  have comin := hts (.code Lib.Math.min.name Lib.Math.min.code 2 (some .int)) (by decide +kernel)
  have inmin := hts (.initialized "java/lang/Math") (by decide +kernel)
  have mlmin53 := hts (.methodLink RX1 53 Lib.Math.min.name) (by decide +kernel)
  have stmin := hts (.static Lib.Math.min.name) (by decide +kernel)
  have hl := lv_entry ([.ref aT, .int p1, .int p2, .int p3]) (n := 4) (Nat.le_of_ble_eq_true rfl)
  rw [lg_entry_eq]
  generalize (lg_sl ([.ref aT, .int p1, .int p2, .int p3]) ++ List.replicate (4 - (lg_sl ([.ref aT, .int p1, .int p2, .int p3])).length) Slot.unset).toArray = ls at hl ⊢
  have hl : lv_has ls 4 [(0, .ref aT), (1, .int p1), (2, .int p2), (3, .int p3)] := hl
  unfold f_X1_errsOf at h
  refine lv_iload_n hx hb dX1_errsOf_0 rfl (lv_at hl 2 rfl) ?_
  by_cases s_2 : p2 = (2 : Int32)
  · replace h := if_p s_2 h
    refine lv_tableIn (off := 27) (tgt := 28) hx hb dX1_errsOf_1 (by rw [s_2]; decide) (by rw [s_2]; decide) (by rw [s_2]; decide) (by decide) ?_
    refine lv_bipush (v := (10 : Int32)) hx hb dX1_errsOf_28 (by decide) ?_
    refine lv_aload_n hx hb dX1_errsOf_30 rfl (lv_at hl 0 rfl) ?_
    refine lv_iload_n hx hb dX1_errsOf_31 rfl (lv_at hl 1 rfl) ?_
    obtain ⟨y1, qy1, h⟩ := ob_some h
    have hPc : va_P D vwCl [(aT, .inr (1, [.ref aT_slips, .ref aT_lates, .ref aT_copied, .int T_size, .int T_littleOnes])), (aT_slips, .inl (cI, 6, .inl T_slips))] s.heap := hP.sub [0, 1] rfl
    refine vp_callSi (va_Run.run (va_runV (As := [.int p1]) (rest := [.int (10 : Int32)]) ⟨hx, hb, hml, hown, hts⟩ (c_X1_slipOf l D cI cJ cZ cO aT aT_slips aT_lates aT_copied T_size T_littleOnes T_slips p1 y1 qy1) (cwV 1 hts gX1_errsOf_X1_slipOf rfl rfl rfl (by decide +kernel) ⟨Nat.le_of_ble_eq_true rfl, Nat.le_of_ble_eq_true rfl⟩) ⟨fb_p, va_recv hK hP (ci := 1) (q0 := 0) rfl rfl, fun U hU hW => ⟨rfl, by rw [hU]; exact hPc, KK.warm hW hKK⟩⟩ rfl rfl hl.1 rfl (lv_room (Nat.le_of_ble_eq_true rfl)) dX1_errsOf_32 ⟨Nat.le_of_ble_eq_true rfl, Nat.le_of_ble_eq_true rfl⟩)) (fun r hr => ?_)
    replace hr := hr.symm
    subst hr
    refine lv_iload_n hx hb dX1_errsOf_35 rfl (lv_at hl 3 rfl) ?_
    refine lv_iadd hx hb dX1_errsOf_36 ?_
    refine va_mmin hx hb (hml.trans hl.1.symm) hown mlmin53 stmin inmin comin (Nat.le_of_ble_eq_true rfl) (Nat.le_of_ble_eq_true rfl) (Nat.le_of_ble_eq_true rfl) (Nat.le_of_ble_eq_true rfl) dX1_errsOf_37 ?_
    exact pr_i hx hb hr hlocks dX1_errsOf_40 (Option.some.inj h)
  replace h := if_n s_2 h
  by_cases s_4 : p2 = (3 : Int32)
  · replace h := if_p s_4 h
    refine lv_tableIn (off := 40) (tgt := 41) hx hb dX1_errsOf_1 (by rw [s_4]; decide) (by rw [s_4]; decide) (by rw [s_4]; decide) (by decide) ?_
    refine lv_bipush (v := (10 : Int32)) hx hb dX1_errsOf_41 (by decide) ?_
    refine lv_aload_n hx hb dX1_errsOf_43 rfl (lv_at hl 0 rfl) ?_
    refine lv_iload_n hx hb dX1_errsOf_44 rfl (lv_at hl 1 rfl) ?_
    obtain ⟨y3, qy3, h⟩ := ob_some h
    have hPc : va_P D vwCl [(aT, .inr (1, [.ref aT_slips, .ref aT_lates, .ref aT_copied, .int T_size, .int T_littleOnes])), (aT_slips, .inl (cI, 6, .inl T_slips))] s.heap := hP.sub [0, 1] rfl
    refine vp_callSi (va_Run.run (va_runV (As := [.int p1]) (rest := [.int (10 : Int32)]) ⟨hx, hb, hml, hown, hts⟩ (c_X1_slipOf l D cI cJ cZ cO aT aT_slips aT_lates aT_copied T_size T_littleOnes T_slips p1 y3 qy3) (cwV 1 hts gX1_errsOf_X1_slipOf rfl rfl rfl (by decide +kernel) ⟨Nat.le_of_ble_eq_true rfl, Nat.le_of_ble_eq_true rfl⟩) ⟨fb_p, va_recv hK hP (ci := 1) (q0 := 0) rfl rfl, fun U hU hW => ⟨rfl, by rw [hU]; exact hPc, KK.warm hW hKK⟩⟩ rfl rfl hl.1 rfl (lv_room (Nat.le_of_ble_eq_true rfl)) dX1_errsOf_45 ⟨Nat.le_of_ble_eq_true rfl, Nat.le_of_ble_eq_true rfl⟩)) (fun r hr => ?_)
    replace hr := hr.symm
    subst hr
    refine lv_iload_n hx hb dX1_errsOf_48 rfl (lv_at hl 3 rfl) ?_
    refine lv_iadd hx hb dX1_errsOf_49 ?_
    refine lv_iconst (v := (2 : Int32)) hx hb dX1_errsOf_50 (by decide) ?_
    refine lv_iadd hx hb dX1_errsOf_51 ?_
    refine va_mmin hx hb (hml.trans hl.1.symm) hown mlmin53 stmin inmin comin (Nat.le_of_ble_eq_true rfl) (Nat.le_of_ble_eq_true rfl) (Nat.le_of_ble_eq_true rfl) (Nat.le_of_ble_eq_true rfl) dX1_errsOf_52 ?_
    exact pr_i hx hb hr hlocks dX1_errsOf_55 (Option.some.inj h)
  replace h := if_n s_4 h
  by_cases s_6 : p2 = (4 : Int32)
  · replace h := if_p s_6 h
    refine lv_tableIn (off := 55) (tgt := 56) hx hb dX1_errsOf_1 (by rw [s_6]; decide) (by rw [s_6]; decide) (by rw [s_6]; decide) (by decide) ?_
    refine lv_bipush (v := (10 : Int32)) hx hb dX1_errsOf_56 (by decide) ?_
    refine lv_aload_n hx hb dX1_errsOf_58 rfl (lv_at hl 0 rfl) ?_
    refine lv_iload_n hx hb dX1_errsOf_59 rfl (lv_at hl 1 rfl) ?_
    obtain ⟨y5, qy5, h⟩ := ob_some h
    have hPc : va_P D vwCl [(aT, .inr (1, [.ref aT_slips, .ref aT_lates, .ref aT_copied, .int T_size, .int T_littleOnes])), (aT_lates, .inl (cI, 6, .inl T_lates))] s.heap := hP.sub [0, 2] rfl
    refine vp_callSi (va_Run.run (va_runV (As := [.int p1]) (rest := [.int (10 : Int32)]) ⟨hx, hb, hml, hown, hts⟩ (c_X1_lateOf l D cI cJ cZ cO aT aT_lates aT_slips aT_copied T_size T_littleOnes T_lates p1 y5 qy5) (cwV 1 hts gX1_errsOf_X1_lateOf rfl rfl rfl (by decide +kernel) ⟨Nat.le_of_ble_eq_true rfl, Nat.le_of_ble_eq_true rfl⟩) ⟨fb_p, va_recv hK hP (ci := 1) (q0 := 0) rfl rfl, fun U hU hW => ⟨rfl, by rw [hU]; exact hPc, KK.warm hW hKK⟩⟩ rfl rfl hl.1 rfl (lv_room (Nat.le_of_ble_eq_true rfl)) dX1_errsOf_60 ⟨Nat.le_of_ble_eq_true rfl, Nat.le_of_ble_eq_true rfl⟩)) (fun r hr => ?_)
    replace hr := hr.symm
    subst hr
    refine va_mmin hx hb (hml.trans hl.1.symm) hown mlmin53 stmin inmin comin (Nat.le_of_ble_eq_true rfl) (Nat.le_of_ble_eq_true rfl) (Nat.le_of_ble_eq_true rfl) (Nat.le_of_ble_eq_true rfl) dX1_errsOf_63 ?_
    exact pr_i hx hb hr hlocks dX1_errsOf_66 (Option.some.inj h)
  replace h := if_n s_6 h
  refine lv_tableOut (tgt := 67) hx hb dX1_errsOf_1 (by have e2 := i32_nek (2) (2 : Int32) (by decide) s_2; have e3 := i32_nek (3) (3 : Int32) (by decide) s_4; have e4 := i32_nek (4) (4 : Int32) (by decide) s_6; omega) (by decide) ?_
  refine lv_iconst (v := (0 : Int32)) hx hb dX1_errsOf_67 (by decide) ?_
  exact pr_i hx hb hr hlocks dX1_errsOf_68 (Option.some.inj h)

def f_X1_takeOver_L6 (F_size : Int32) (F_littleOnes : Int32) (F_slips : Nat → Int32) (F_lates : Nat → Int32) (F_copied : Nat → Int32) : Nat → Int32 → Int32 → (Nat → Int32) → (Nat → Int32) → (Nat → Int32) → Int32 → Option (Int32 × Int32 × (Nat → Int32) × (Nat → Int32) × (Nat → Int32))
  | 0, _, _, _, _, _, _ => none
  | n + 1, T_size, T_littleOnes, T_slips, T_lates, T_copied, x2 => (if F_size ≤ x2 then some (T_size, F_littleOnes, T_slips, T_lates, T_copied) else (Option.bind (f_X1_slipOf F_size F_slips x2) (fun y3 => (Option.bind (f_X1_lateOf F_size F_lates x2) (fun y4 => (Option.bind (f_X1_copiedBy F_size F_copied x2) (fun y5 => (Option.bind (f_X1_add T_size T_slips T_lates T_copied y3 y4 y5) (fun y6 => f_X1_takeOver_L6 F_size F_littleOnes F_slips F_lates F_copied n y6.1 T_littleOnes y6.2.1 y6.2.2.1 y6.2.2.2 (x2 + (1 : Int32)))))))))))
def f_X1_takeOver (F_size : Int32) (F_littleOnes : Int32) (F_slips : Nat → Int32) (F_lates : Nat → Int32) (F_copied : Nat → Int32) (T_size : Int32) (T_littleOnes : Int32) (T_slips : Nat → Int32) (T_lates : Nat → Int32) (T_copied : Nat → Int32) : Option (Int32 × Int32 × (Nat → Int32) × (Nat → Int32) × (Nat → Int32)) := (Option.bind (f_X1_forget T_size T_littleOnes) (fun y1 => f_X1_takeOver_L6 F_size F_littleOnes F_slips F_lates F_copied 300 y1.1 y1.2 T_slips T_lates T_copied (0 : Int32)))
set_option maxHeartbeats 8000000 in
set_option maxRecDepth 100000 in
theorem c_X1_takeOver (l : Launch) (D : va_G) (cI cJ cZ cO : ClassId) (aF : Nat) (aF_slips : Nat) (aF_lates : Nat) (aF_copied : Nat) (aT : Nat) (aT_slips : Nat) (aT_lates : Nat) (aT_copied : Nat) (F_size : Int32) (F_littleOnes : Int32) (F_slips : Nat → Int32) (F_lates : Nat → Int32) (F_copied : Nat → Int32) (T_size : Int32) (T_littleOnes : Int32) (T_slips : Nat → Int32) (T_lates : Nat → Int32) (T_copied : Nat → Int32) (sz : Nat)   (y0 : Int32 × Int32 × (Nat → Int32) × (Nat → Int32) × (Nat → Int32)) (h : f_X1_takeOver F_size F_littleOnes F_slips F_lates F_copied T_size T_littleOnes T_slips T_lates T_copied = some y0) : Met l yX1_takeOver wsX1_takeOver ({ frames := 2, cells := 0, slots := 0, locals := 42 } : Room) (va_Pc [.ref aT, .ref aF] (fun U => U.heap.size = sz ∧ va_P D vwCl [(aF, .inr (1, [.ref aF_slips, .ref aF_lates, .ref aF_copied, .int F_size, .int F_littleOnes])), (aF_slips, .inl (cI, 6, .inl F_slips)), (aF_lates, .inl (cI, 6, .inl F_lates)), (aF_copied, .inl (cI, 6, .inl F_copied)), (aT, .inr (1, [.ref aT_slips, .ref aT_lates, .ref aT_copied, .int T_size, .int T_littleOnes])), (aT_slips, .inl (cI, 6, .inl T_slips)), (aT_lates, .inl (cI, 6, .inl T_lates)), (aT_copied, .inl (cI, 6, .inl T_copied))] U.heap ∧ KK D cI cJ cZ cO U ∧ va_D (fun _ => True) [(aF, .inr (1, [.ref aF_slips, .ref aF_lates, .ref aF_copied, .int F_size, .int F_littleOnes])), (aF_slips, .inl (cI, 6, .inl F_slips)), (aF_lates, .inl (cI, 6, .inl F_lates)), (aF_copied, .inl (cI, 6, .inl F_copied)), (aT, .inr (1, [.ref aT_slips, .ref aT_lates, .ref aT_copied, .int T_size, .int T_littleOnes])), (aT_slips, .inl (cI, 6, .inl T_slips)), (aT_lates, .inl (cI, 6, .inl T_lates)), (aT_copied, .inl (cI, 6, .inl T_copied))])) (va_Qv (fun (_ : Unit) => True) (fun (_ : Unit) t => va_P D vwCl [(aF, .inr (1, [.ref aF_slips, .ref aF_lates, .ref aF_copied, .int F_size, .int F_littleOnes])), (aF_slips, .inl (cI, 6, .inl F_slips)), (aF_lates, .inl (cI, 6, .inl F_lates)), (aF_copied, .inl (cI, 6, .inl F_copied)), (aT, .inr (1, [.ref aT_slips, .ref aT_lates, .ref aT_copied, .int y0.1, .int y0.2.1])), (aT_slips, .inl (cI, 6, .inl y0.2.2.1)), (aT_lates, .inl (cI, 6, .inl y0.2.2.2.1)), (aT_copied, .inl (cI, 6, .inl y0.2.2.2.2))] t.heap ∧ va_D (va_A [(aF, .inr (1, [.ref aF_slips, .ref aF_lates, .ref aF_copied, .int F_size, .int F_littleOnes])), (aF_slips, .inl (cI, 6, .inl F_slips)), (aF_lates, .inl (cI, 6, .inl F_lates)), (aF_copied, .inl (cI, 6, .inl F_copied)), (aT, .inr (1, [.ref aT_slips, .ref aT_lates, .ref aT_copied, .int T_size, .int T_littleOnes])), (aT_slips, .inl (cI, 6, .inl T_slips)), (aT_lates, .inl (cI, 6, .inl T_lates)), (aT_copied, .inl (cI, 6, .inl T_copied))] sz) [(aF, .inr (1, [.ref aF_slips, .ref aF_lates, .ref aF_copied, .int F_size, .int F_littleOnes])), (aF_slips, .inl (cI, 6, .inl F_slips)), (aF_lates, .inl (cI, 6, .inl F_lates)), (aF_copied, .inl (cI, 6, .inl F_copied)), (aT, .inr (1, [.ref aT_slips, .ref aT_lates, .ref aT_copied, .int y0.1, .int y0.2.1])), (aT_slips, .inl (cI, 6, .inl y0.2.2.1)), (aT_lates, .inl (cI, 6, .inl y0.2.2.2.1)), (aT_copied, .inl (cI, 6, .inl y0.2.2.2.2))]) (va_A [(aF, .inr (1, [.ref aF_slips, .ref aF_lates, .ref aF_copied, .int F_size, .int F_littleOnes])), (aF_slips, .inl (cI, 6, .inl F_slips)), (aF_lates, .inl (cI, 6, .inl F_lates)), (aF_copied, .inl (cI, 6, .inl F_copied)), (aT, .inr (1, [.ref aT_slips, .ref aT_lates, .ref aT_copied, .int T_size, .int T_littleOnes])), (aT_slips, .inl (cI, 6, .inl T_slips)), (aT_lates, .inl (cI, 6, .inl T_lates)), (aT_copied, .inl (cI, 6, .inl T_copied))] sz)) 0 0 (va_A [(aF, .inr (1, [.ref aF_slips, .ref aF_lates, .ref aF_copied, .int F_size, .int F_littleOnes])), (aF_slips, .inl (cI, 6, .inl F_slips)), (aF_lates, .inl (cI, 6, .inl F_lates)), (aF_copied, .inl (cI, 6, .inl F_copied)), (aT, .inr (1, [.ref aT_slips, .ref aT_lates, .ref aT_copied, .int T_size, .int T_littleOnes])), (aT_slips, .inl (cI, 6, .inl T_slips)), (aT_lates, .inl (cI, 6, .inl T_lates)), (aT_copied, .inl (cI, 6, .inl T_copied))] sz) := by
  refine Met.ofW (cc := cX1_takeOver) (maxL := 3) (ret := none) (by decide) rfl ?_
  intro p e s m args below meth c s₁ B hml hv
  obtain ⟨rfl, hsz, hP, hKK, hD0⟩ := hv
  have hx := B.exec
  have hb := B.bytes
  have hr := B.returns
  have hts := atoms_spec (ws := wsX1_takeOver) B.pre
  have hown : s.vm.findClass RX1 = some m.cls := findClass_of_methodNamed B.named
  have hlocks := B.notSynchronized
  have hK := hKK.1
  have fl_21 := hts (.fieldLink RX1 21 "SimonSays$Children" "size" "I") (by decide +kernel)
  have fl_25 := hts (.fieldLink RX1 25 "SimonSays$Children" "littleOnes" "I") (by decide +kernel)
  have inX1 : ∀ w ∈ wsX10, w ∈ wsX1_takeOver := by decide +kernel
  subst hsz
  have hD := hD0.self (sz := s.heap.size)
  generalize hAe : va_A [(aF, .inr (1, [.ref aF_slips, .ref aF_lates, .ref aF_copied, .int F_size, .int F_littleOnes])), (aF_slips, .inl (cI, 6, .inl F_slips)), (aF_lates, .inl (cI, 6, .inl F_lates)), (aF_copied, .inl (cI, 6, .inl F_copied)), (aT, .inr (1, [.ref aT_slips, .ref aT_lates, .ref aT_copied, .int T_size, .int T_littleOnes])), (aT_slips, .inl (cI, 6, .inl T_slips)), (aT_lates, .inl (cI, 6, .inl T_lates)), (aT_copied, .inl (cI, 6, .inl T_copied))] s.heap.size = A at hD ⊢
  have hA : ∀ q : Nat, s.heap.size ≤ q → A q := fun q h => by rw [← hAe]; exact Or.inr h
  have hS : va_S A s.heap s.heap [] := va_S.rf
  have hl := lv_entry ([.ref aT, .ref aF]) (n := 3) (Nat.le_of_ble_eq_true rfl)
  rw [lg_entry_eq]
  generalize (lg_sl ([.ref aT, .ref aF]) ++ List.replicate (3 - (lg_sl ([.ref aT, .ref aF])).length) Slot.unset).toArray = ls at hl ⊢
  have hl : lv_has ls 3 [(0, .ref aT), (1, .ref aF)] := hl
  have L6 : ∀ (n : Nat), ∀ (T_size : Int32) (T_littleOnes : Int32) (T_slips : Nat → Int32) (T_lates : Nat → Int32) (T_copied : Nat → Int32) (x2 : Int32), ∀ (H : Heap) (locs : List Loc), va_P D vwCl [(aF, .inr (1, [.ref aF_slips, .ref aF_lates, .ref aF_copied, .int F_size, .int F_littleOnes])), (aF_slips, .inl (cI, 6, .inl F_slips)), (aF_lates, .inl (cI, 6, .inl F_lates)), (aF_copied, .inl (cI, 6, .inl F_copied)), (aT, .inr (1, [.ref aT_slips, .ref aT_lates, .ref aT_copied, .int T_size, .int T_littleOnes])), (aT_slips, .inl (cI, 6, .inl T_slips)), (aT_lates, .inl (cI, 6, .inl T_lates)), (aT_copied, .inl (cI, 6, .inl T_copied))] H → va_D A [(aF, .inr (1, [.ref aF_slips, .ref aF_lates, .ref aF_copied, .int F_size, .int F_littleOnes])), (aF_slips, .inl (cI, 6, .inl F_slips)), (aF_lates, .inl (cI, 6, .inl F_lates)), (aF_copied, .inl (cI, 6, .inl F_copied)), (aT, .inr (1, [.ref aT_slips, .ref aT_lates, .ref aT_copied, .int T_size, .int T_littleOnes])), (aT_slips, .inl (cI, 6, .inl T_slips)), (aT_lates, .inl (cI, 6, .inl T_lates)), (aT_copied, .inl (cI, 6, .inl T_copied))] → va_S A s.heap H locs → ∀ (ls : Array Slot), lv_has ls 3 [(0, .ref aT), (1, .ref aF), (2, .int x2)] → f_X1_takeOver_L6 F_size F_littleOnes F_slips F_lates F_copied n T_size T_littleOnes T_slips T_lates T_copied x2 = some y0 → W p l e (headSpec wsX1_takeOver ({ frames := 2, cells := 0, slots := 0, locals := 42 } : Room)).room s m ([.ref aT, .ref aF] : List Value).toArray below meth c H locs 0 0 (MQ below (va_Qv (fun (_ : Unit) => True) (fun (_ : Unit) t => va_P D vwCl [(aF, .inr (1, [.ref aF_slips, .ref aF_lates, .ref aF_copied, .int F_size, .int F_littleOnes])), (aF_slips, .inl (cI, 6, .inl F_slips)), (aF_lates, .inl (cI, 6, .inl F_lates)), (aF_copied, .inl (cI, 6, .inl F_copied)), (aT, .inr (1, [.ref aT_slips, .ref aT_lates, .ref aT_copied, .int y0.1, .int y0.2.1])), (aT_slips, .inl (cI, 6, .inl y0.2.2.1)), (aT_lates, .inl (cI, 6, .inl y0.2.2.2.1)), (aT_copied, .inl (cI, 6, .inl y0.2.2.2.2))] t.heap ∧ va_D A [(aF, .inr (1, [.ref aF_slips, .ref aF_lates, .ref aF_copied, .int F_size, .int F_littleOnes])), (aF_slips, .inl (cI, 6, .inl F_slips)), (aF_lates, .inl (cI, 6, .inl F_lates)), (aF_copied, .inl (cI, 6, .inl F_copied)), (aT, .inr (1, [.ref aT_slips, .ref aT_lates, .ref aT_copied, .int y0.1, .int y0.2.1])), (aT_slips, .inl (cI, 6, .inl y0.2.2.1)), (aT_lates, .inl (cI, 6, .inl y0.2.2.2.1)), (aT_copied, .inl (cI, 6, .inl y0.2.2.2.2))]) A) ([.ref aT, .ref aF] : List Value).toArray s 0 0 A) (F0 m 6 ls []) := by
    intro n
    induction n with
    | zero =>
      intro T_size T_littleOnes T_slips T_lates T_copied x2 H locs hP hD hS ls hl h
      exact (ns h).elim
    | succ n ih =>
      intro T_size T_littleOnes T_slips T_lates T_copied x2 H locs hP hD hS ls hl h
      unfold f_X1_takeOver_L6 at h
      refine lv_iload_n hx hb dX1_takeOver_6 rfl (lv_at hl 2 rfl) ?_
      refine lv_aload_n hx hb dX1_takeOver_7 rfl (lv_at hl 1 rfl) ?_
      refine va_get (D := D) (ci := 1) (v := .int F_size) (C := RX1) (T := TX1) (N := 5) hx hb hts inX1 hown hK hP 0 rfl rfl 3 (by decide) fl_21 (fun _ h9 => h9) rfl dX1_takeOver_8 ?_
      refine lv_icmp_ge (tgt := 39) hx hb dX1_takeOver_11 (by decide) (fun c_2 => ?_) (fun c_2 => ?_)
      · replace h := if_p c_2 h
        refine lv_aload_n hx hb dX1_takeOver_39 rfl (lv_at hl 0 rfl) ?_
        refine lv_aload_n hx hb dX1_takeOver_40 rfl (lv_at hl 1 rfl) ?_
        refine va_get (D := D) (ci := 1) (v := .int F_littleOnes) (C := RX1) (T := TX1) (N := 5) hx hb hts inX1 hown hK hP 0 rfl rfl 4 (by decide) fl_25 (fun _ h9 => h9) rfl dX1_takeOver_41 ?_
        refine va_put (D := D) (ci := 1) (v := .int F_littleOnes) (ty := .int) (C := RX1) (T := TX1) (N := 5) hx hb hts inX1 tyX1 tyX1_ok nmX1 hown hK hP hD hS 4 rfl rfl 4 (by decide) fl_25 (fun _ h9 => h9) rfl (by decide +kernel) rfl rfl (Nat.le_of_ble_eq_true rfl) dX1_takeOver_44 (fun H locs hP hD hS => ?_)
        have hP : va_P D vwCl [(aF, .inr (1, [.ref aF_slips, .ref aF_lates, .ref aF_copied, .int F_size, .int F_littleOnes])), (aF_slips, .inl (cI, 6, .inl F_slips)), (aF_lates, .inl (cI, 6, .inl F_lates)), (aF_copied, .inl (cI, 6, .inl F_copied)), (aT, .inr (1, [.ref aT_slips, .ref aT_lates, .ref aT_copied, .int T_size, .int F_littleOnes])), (aT_slips, .inl (cI, 6, .inl T_slips)), (aT_lates, .inl (cI, 6, .inl T_lates)), (aT_copied, .inl (cI, 6, .inl T_copied))] H := hP
        have hD : va_D A [(aF, .inr (1, [.ref aF_slips, .ref aF_lates, .ref aF_copied, .int F_size, .int F_littleOnes])), (aF_slips, .inl (cI, 6, .inl F_slips)), (aF_lates, .inl (cI, 6, .inl F_lates)), (aF_copied, .inl (cI, 6, .inl F_copied)), (aT, .inr (1, [.ref aT_slips, .ref aT_lates, .ref aT_copied, .int T_size, .int F_littleOnes])), (aT_slips, .inl (cI, 6, .inl T_slips)), (aT_lates, .inl (cI, 6, .inl T_lates)), (aT_copied, .inl (cI, 6, .inl T_copied))] := hD
        have hy := Option.some.inj h
        subst hy
        exact W.vret hx hb hr (fun t ht hW => ⟨⟨(), rfl, trivial, by rw [ht]; exact hP, hD⟩, hS.F ht⟩) hS.2.2 dX1_takeOver_47
      · replace h := if_n c_2 h
        refine lv_aload_n hx hb dX1_takeOver_14 rfl (lv_at hl 0 rfl) ?_
        refine lv_aload_n hx hb dX1_takeOver_15 rfl (lv_at hl 1 rfl) ?_
        refine lv_iload_n hx hb dX1_takeOver_16 rfl (lv_at hl 2 rfl) ?_
        obtain ⟨y3, qy3, h⟩ := ob_some h
        have hPc : va_P D vwCl [(aF, .inr (1, [.ref aF_slips, .ref aF_lates, .ref aF_copied, .int F_size, .int F_littleOnes])), (aF_slips, .inl (cI, 6, .inl F_slips))] H := hP.sub [0, 1] rfl
        refine vp_callSi (va_Run.run (va_runV (As := [.int x2]) (rest := [.ref aT]) ⟨hx, hb, hml, hown, hts⟩ (c_X1_slipOf l D cI cJ cZ cO aF aF_slips aF_lates aF_copied F_size F_littleOnes F_slips x2 y3 qy3) (cwV 1 hts gX1_takeOver_X1_slipOf rfl rfl rfl (by decide +kernel) ⟨Nat.le_of_ble_eq_true rfl, Nat.le_of_ble_eq_true rfl⟩) ⟨fb_p, va_recv hK hP (ci := 1) (q0 := 0) rfl rfl, fun U hU hW => ⟨rfl, by rw [hU]; exact hPc, KK.warm hW hKK⟩⟩ rfl rfl hl.1 rfl (lv_room (Nat.le_of_ble_eq_true rfl)) dX1_takeOver_17 ⟨Nat.le_of_ble_eq_true rfl, Nat.le_of_ble_eq_true rfl⟩)) (fun r hr => ?_)
        replace hr := hr.symm
        subst hr
        refine lv_aload_n hx hb dX1_takeOver_20 rfl (lv_at hl 1 rfl) ?_
        refine lv_iload_n hx hb dX1_takeOver_21 rfl (lv_at hl 2 rfl) ?_
        obtain ⟨y4, qy4, h⟩ := ob_some h
        have hPc : va_P D vwCl [(aF, .inr (1, [.ref aF_slips, .ref aF_lates, .ref aF_copied, .int F_size, .int F_littleOnes])), (aF_lates, .inl (cI, 6, .inl F_lates))] H := hP.sub [0, 2] rfl
        refine vp_callSi (va_Run.run (va_runV (As := [.int x2]) (rest := [.int y3, .ref aT]) ⟨hx, hb, hml, hown, hts⟩ (c_X1_lateOf l D cI cJ cZ cO aF aF_lates aF_slips aF_copied F_size F_littleOnes F_lates x2 y4 qy4) (cwV 1 hts gX1_takeOver_X1_lateOf rfl rfl rfl (by decide +kernel) ⟨Nat.le_of_ble_eq_true rfl, Nat.le_of_ble_eq_true rfl⟩) ⟨fb_p, va_recv hK hP (ci := 1) (q0 := 0) rfl rfl, fun U hU hW => ⟨rfl, by rw [hU]; exact hPc, KK.warm hW hKK⟩⟩ rfl rfl hl.1 rfl (lv_room (Nat.le_of_ble_eq_true rfl)) dX1_takeOver_22 ⟨Nat.le_of_ble_eq_true rfl, Nat.le_of_ble_eq_true rfl⟩)) (fun r hr => ?_)
        replace hr := hr.symm
        subst hr
        refine lv_aload_n hx hb dX1_takeOver_25 rfl (lv_at hl 1 rfl) ?_
        refine lv_iload_n hx hb dX1_takeOver_26 rfl (lv_at hl 2 rfl) ?_
        obtain ⟨y5, qy5, h⟩ := ob_some h
        have hPc : va_P D vwCl [(aF, .inr (1, [.ref aF_slips, .ref aF_lates, .ref aF_copied, .int F_size, .int F_littleOnes])), (aF_copied, .inl (cI, 6, .inl F_copied))] H := hP.sub [0, 3] rfl
        refine vp_callSi (va_Run.run (va_runV (As := [.int x2]) (rest := [.int y4, .int y3, .ref aT]) ⟨hx, hb, hml, hown, hts⟩ (c_X1_copiedBy l D cI cJ cZ cO aF aF_copied aF_slips aF_lates F_size F_littleOnes F_copied x2 y5 qy5) (cwV 1 hts gX1_takeOver_X1_copiedBy rfl rfl rfl (by decide +kernel) ⟨Nat.le_of_ble_eq_true rfl, Nat.le_of_ble_eq_true rfl⟩) ⟨fb_p, va_recv hK hP (ci := 1) (q0 := 0) rfl rfl, fun U hU hW => ⟨rfl, by rw [hU]; exact hPc, KK.warm hW hKK⟩⟩ rfl rfl hl.1 rfl (lv_room (Nat.le_of_ble_eq_true rfl)) dX1_takeOver_27 ⟨Nat.le_of_ble_eq_true rfl, Nat.le_of_ble_eq_true rfl⟩)) (fun r hr => ?_)
        replace hr := hr.symm
        subst hr
        obtain ⟨y6, qy6, h⟩ := ob_some h
        have hPc : va_P D vwCl [(aT, .inr (1, [.ref aT_slips, .ref aT_lates, .ref aT_copied, .int T_size, .int T_littleOnes])), (aT_slips, .inl (cI, 6, .inl T_slips)), (aT_lates, .inl (cI, 6, .inl T_lates)), (aT_copied, .inl (cI, 6, .inl T_copied))] H := hP.sub [4, 5, 6, 7] rfl
        have hDc : va_D A [(aT, .inr (1, [.ref aT_slips, .ref aT_lates, .ref aT_copied, .int T_size, .int T_littleOnes])), (aT_slips, .inl (cI, 6, .inl T_slips)), (aT_lates, .inl (cI, 6, .inl T_lates)), (aT_copied, .inl (cI, 6, .inl T_copied))] := hD.sub [4, 5, 6, 7] (by decide) rfl
        have hFc := va_free (wc := [(aT, .inr (1, [.ref aT_slips, .ref aT_lates, .ref aT_copied, .int T_size, .int T_littleOnes])), (aT_slips, .inl (cI, 6, .inl T_slips)), (aT_lates, .inl (cI, 6, .inl T_lates)), (aT_copied, .inl (cI, 6, .inl T_copied))]) hD hS hA [4, 5, 6, 7] rfl
        refine va_callv (va_runV (As := [.int y3, .int y4, .int y5]) (rest := []) ⟨hx, hb, hml, hown, hts⟩ (c_X1_add l D cI cJ cZ cO aT aT_slips aT_lates aT_copied T_size T_littleOnes T_slips T_lates T_copied H.size y3 y4 y5 y6 qy6) (cwV 3 hts gX1_takeOver_X1_add rfl rfl rfl (by decide +kernel) ⟨Nat.le_of_ble_eq_true rfl, Nat.le_of_ble_eq_true rfl⟩) ⟨fb_i, va_recv hK hP (ci := 1) (q0 := 4) rfl rfl, fun U hU hW => ⟨rfl, by rw [hU], by rw [hU]; exact hPc, KK.warm hW hKK, hDc.weaken (fun _ _ _ _ => trivial)⟩⟩ rfl rfl hl.1 rfl (lv_room (Nat.le_of_ble_eq_true rfl)) dX1_takeOver_30 ⟨Nat.le_of_ble_eq_true rfl, Nat.le_of_ble_eq_true rfl⟩) hS (fun q _ h => hFc q h) hFc (fun u t H1 locs ht hvm hw hB hz1 hk1 hS => ?_)
        obtain ⟨hP1, hD1⟩ := hB
        rw [ht] at hP1
        obtain ⟨hP, hD⟩ := va_join (wr := [(aF, .inr (1, [.ref aF_slips, .ref aF_lates, .ref aF_copied, .int F_size, .int F_littleOnes])), (aF_slips, .inl (cI, 6, .inl F_slips)), (aF_lates, .inl (cI, 6, .inl F_lates)), (aF_copied, .inl (cI, 6, .inl F_copied))]) (w1 := [(aT, .inr (1, [.ref aT_slips, .ref aT_lates, .ref aT_copied, .int y6.1, .int T_littleOnes])), (aT_slips, .inl (cI, 6, .inl y6.2.1)), (aT_lates, .inl (cI, 6, .inl y6.2.2.1)), (aT_copied, .inl (cI, 6, .inl y6.2.2.2))]) hP hD [4, 5, 6, 7] [0, 1, 2, 3] rfl rfl (by decide) (by decide) hk1 hFc hP1 hD1
        generalize H1 = H at hP hS ⊢
        have hP : va_P D vwCl [(aF, .inr (1, [.ref aF_slips, .ref aF_lates, .ref aF_copied, .int F_size, .int F_littleOnes])), (aF_slips, .inl (cI, 6, .inl F_slips)), (aF_lates, .inl (cI, 6, .inl F_lates)), (aF_copied, .inl (cI, 6, .inl F_copied)), (aT, .inr (1, [.ref aT_slips, .ref aT_lates, .ref aT_copied, .int y6.1, .int T_littleOnes])), (aT_slips, .inl (cI, 6, .inl y6.2.1)), (aT_lates, .inl (cI, 6, .inl y6.2.2.1)), (aT_copied, .inl (cI, 6, .inl y6.2.2.2))] H := hP.sub [0, 1, 2, 3, 4, 5, 6, 7] rfl
        have hD : va_D A [(aF, .inr (1, [.ref aF_slips, .ref aF_lates, .ref aF_copied, .int F_size, .int F_littleOnes])), (aF_slips, .inl (cI, 6, .inl F_slips)), (aF_lates, .inl (cI, 6, .inl F_lates)), (aF_copied, .inl (cI, 6, .inl F_copied)), (aT, .inr (1, [.ref aT_slips, .ref aT_lates, .ref aT_copied, .int y6.1, .int T_littleOnes])), (aT_slips, .inl (cI, 6, .inl y6.2.1)), (aT_lates, .inl (cI, 6, .inl y6.2.2.1)), (aT_copied, .inl (cI, 6, .inl y6.2.2.2))] := hD.sub [0, 1, 2, 3, 4, 5, 6, 7] (by decide) rfl
        refine lv_iinc (v := (x2 + (1 : Int32))) (lv' := [(2, .int (x2 + (1 : Int32))), (0, .ref aT), (1, .ref aF)]) hx hb dX1_takeOver_33 hl (k := 2) rfl rfl (by decide) rfl (fun ls hl => ?_)
        refine lv_goto (tgt := 6) hx hb dX1_takeOver_36 (by decide) ?_
        exact ih y6.1 T_littleOnes y6.2.1 y6.2.2.1 y6.2.2.2 (x2 + (1 : Int32)) _ _ hP hD hS ls (lv_sub hl [1, 2, 0] rfl) h
  unfold f_X1_takeOver at h
  refine lv_aload_n hx hb dX1_takeOver_0 rfl (lv_at hl 0 rfl) ?_
  obtain ⟨y1, qy1, h⟩ := ob_some h
  have hPc : va_P D vwCl [(aT, .inr (1, [.ref aT_slips, .ref aT_lates, .ref aT_copied, .int T_size, .int T_littleOnes]))] s.heap := hP.sub [4] rfl
  have hDc : va_D A [(aT, .inr (1, [.ref aT_slips, .ref aT_lates, .ref aT_copied, .int T_size, .int T_littleOnes]))] := hD.sub [4] (by decide) rfl
  have hFc := va_free (wc := [(aT, .inr (1, [.ref aT_slips, .ref aT_lates, .ref aT_copied, .int T_size, .int T_littleOnes]))]) hD hS hA [4] rfl
  refine va_callv (va_runV (As := []) (rest := []) ⟨hx, hb, hml, hown, hts⟩ (c_X1_forget l D cI cJ cZ cO aT aT_slips aT_lates aT_copied T_size T_littleOnes s.heap.size y1 qy1) (cwV 0 hts gX1_takeOver_X1_forget rfl rfl rfl (by decide +kernel) ⟨Nat.le_of_ble_eq_true rfl, Nat.le_of_ble_eq_true rfl⟩) ⟨fb_i, va_recv hK hP (ci := 1) (q0 := 4) rfl rfl, fun U hU hW => ⟨rfl, by rw [hU], by rw [hU]; exact hPc, KK.warm hW hKK, hDc.weaken (fun _ _ _ _ => trivial)⟩⟩ rfl rfl hl.1 rfl (lv_room (Nat.le_of_ble_eq_true rfl)) dX1_takeOver_1 ⟨Nat.le_of_ble_eq_true rfl, Nat.le_of_ble_eq_true rfl⟩) hS (fun q _ h => hFc q h) hFc (fun u t H1 locs ht hvm hw hB hz1 hk1 hS => ?_)
  obtain ⟨hP1, hD1⟩ := hB
  rw [ht] at hP1
  obtain ⟨hP, hD⟩ := va_join (wr := [(aF, .inr (1, [.ref aF_slips, .ref aF_lates, .ref aF_copied, .int F_size, .int F_littleOnes])), (aF_slips, .inl (cI, 6, .inl F_slips)), (aF_lates, .inl (cI, 6, .inl F_lates)), (aF_copied, .inl (cI, 6, .inl F_copied)), (aT_slips, .inl (cI, 6, .inl T_slips)), (aT_lates, .inl (cI, 6, .inl T_lates)), (aT_copied, .inl (cI, 6, .inl T_copied))]) (w1 := [(aT, .inr (1, [.ref aT_slips, .ref aT_lates, .ref aT_copied, .int y1.1, .int y1.2]))]) hP hD [4] [0, 1, 2, 3, 5, 6, 7] rfl rfl (by decide) (by decide) hk1 hFc hP1 hD1
  generalize H1 = H at hP hS ⊢
  have hP : va_P D vwCl [(aF, .inr (1, [.ref aF_slips, .ref aF_lates, .ref aF_copied, .int F_size, .int F_littleOnes])), (aF_slips, .inl (cI, 6, .inl F_slips)), (aF_lates, .inl (cI, 6, .inl F_lates)), (aF_copied, .inl (cI, 6, .inl F_copied)), (aT, .inr (1, [.ref aT_slips, .ref aT_lates, .ref aT_copied, .int y1.1, .int y1.2])), (aT_slips, .inl (cI, 6, .inl T_slips)), (aT_lates, .inl (cI, 6, .inl T_lates)), (aT_copied, .inl (cI, 6, .inl T_copied))] H := hP.sub [0, 1, 2, 3, 7, 4, 5, 6] rfl
  have hD : va_D A [(aF, .inr (1, [.ref aF_slips, .ref aF_lates, .ref aF_copied, .int F_size, .int F_littleOnes])), (aF_slips, .inl (cI, 6, .inl F_slips)), (aF_lates, .inl (cI, 6, .inl F_lates)), (aF_copied, .inl (cI, 6, .inl F_copied)), (aT, .inr (1, [.ref aT_slips, .ref aT_lates, .ref aT_copied, .int y1.1, .int y1.2])), (aT_slips, .inl (cI, 6, .inl T_slips)), (aT_lates, .inl (cI, 6, .inl T_lates)), (aT_copied, .inl (cI, 6, .inl T_copied))] := hD.sub [0, 1, 2, 3, 7, 4, 5, 6] (by decide) rfl
  refine lv_iconst (v := (0 : Int32)) hx hb dX1_takeOver_4 (by decide) ?_
  refine lv_istore_n (lv' := [(2, .int (0 : Int32)), (0, .ref aT), (1, .ref aF)]) hx hb dX1_takeOver_5 rfl hl (by decide) rfl (fun ls hl => ?_)
  exact L6 300 y1.1 y1.2 T_slips T_lates T_copied (0 : Int32) _ _ hP hD hS ls (lv_sub hl [1, 2, 0] rfl) h
