def f_X4_theTrace (K_trace : Int64) : Int64 := K_trace
set_option maxHeartbeats 8000000 in
set_option maxRecDepth 100000 in
theorem c_X4_theTrace (l : Launch) (D : va_G) (cI cJ cZ cO : ClassId) (aK : Nat) (aT : Nat) (aR : Nat) (K_trace : Int64)    (y0 : Int64) (h : f_X4_theTrace K_trace = y0) : Met l yX4_theTrace wsX4_theTrace ({ frames := 0, cells := 0, slots := 0, locals := 0 } : Room) (va_Pc [.ref aK] (fun U => va_P D vwCl [(aK, .inr (4, [.ref aT, .ref aR, .long K_trace]))] U.heap ∧ KK D cI cJ cZ cO U)) (vp_Sl (fun r => r = y0)) 0 0 (fun _ => False) := by
  refine Met.ofW (cc := cX4_theTrace) (maxL := 1) (ret := (some .long)) (by decide) rfl ?_
  intro p e s m args below meth c s₁ B hml hv
  obtain ⟨rfl, hP, hKK⟩ := hv
  have hx := B.exec
  have hb := B.bytes
  have hr := B.returns
  have hts := atoms_spec (ws := wsX4_theTrace) B.pre
  have hown : s.vm.findClass RX4 = some m.cls := findClass_of_methodNamed B.named
  have hlocks := B.notSynchronized
  have hK := hKK.1
  have fl_19 := hts (.fieldLink RX4 19 "SimonSays$Kinds" "trace" "J") (by decide +kernel)
  have inX4 : ∀ w ∈ wsX40, w ∈ wsX4_theTrace := by decide +kernel
  have hl := lv_entry ([.ref aK]) (n := 1) (Nat.le_of_ble_eq_true rfl)
  rw [lg_entry_eq]
  generalize (lg_sl ([.ref aK]) ++ List.replicate (1 - (lg_sl ([.ref aK])).length) Slot.unset).toArray = ls at hl ⊢
  have hl : lv_has ls 1 [(0, .ref aK)] := hl
  unfold f_X4_theTrace at h
  refine lv_aload_n hx hb dX4_theTrace_0 rfl (lv_at hl 0 rfl) ?_
  refine va_get (D := D) (ci := 4) (v := .long K_trace) (C := RX4) (T := TX4) (N := 3) hx hb hts inX4 hown hK hP 0 rfl rfl 2 (by decide) fl_19 (fun _ h9 => h9) rfl dX4_theTrace_1 ?_
  exact pr_l hx hb hr hlocks dX4_theTrace_4 h

def f_X4_asChild (T_size : Int32) (T_slips : Nat → Int32) (K_trace : Int64) (p1 : Int32) : Option (Int32 × Int64) := (Option.bind (f_X1_slipOf T_size T_slips p1) (fun y1 => some (y1, (K_trace + (1 : Int64)))))
set_option maxHeartbeats 8000000 in
set_option maxRecDepth 100000 in
theorem c_X4_asChild (l : Launch) (D : va_G) (cI cJ cZ cO : ClassId) (aT : Nat) (aT_slips : Nat) (aK : Nat) (aT_lates : Nat) (aT_copied : Nat) (aR : Nat) (T_size : Int32) (T_littleOnes : Int32) (T_slips : Nat → Int32) (K_trace : Int64) (sz : Nat) (p1 : Int32)  (y0 : Int32 × Int64) (h : f_X4_asChild T_size T_slips K_trace p1 = some y0) : Met l yX4_asChild wsX4_asChild ({ frames := 2, cells := 0, slots := 0, locals := 42 } : Room) (va_Pc [.ref aK, .int p1] (fun U => U.heap.size = sz ∧ va_P D vwCl [(aT, .inr (1, [.ref aT_slips, .ref aT_lates, .ref aT_copied, .int T_size, .int T_littleOnes])), (aT_slips, .inl (cI, 6, .inl T_slips)), (aK, .inr (4, [.ref aT, .ref aR, .long K_trace]))] U.heap ∧ KK D cI cJ cZ cO U ∧ va_D (fun _ => True) [(aT, .inr (1, [.ref aT_slips, .ref aT_lates, .ref aT_copied, .int T_size, .int T_littleOnes])), (aT_slips, .inl (cI, 6, .inl T_slips)), (aK, .inr (4, [.ref aT, .ref aR, .long K_trace]))])) (va_Qi (fun (r : Int32) (_ : Unit) => r = y0.1) (fun (_ : Unit) t => va_P D vwCl [(aT, .inr (1, [.ref aT_slips, .ref aT_lates, .ref aT_copied, .int T_size, .int T_littleOnes])), (aT_slips, .inl (cI, 6, .inl T_slips)), (aK, .inr (4, [.ref aT, .ref aR, .long y0.2]))] t.heap ∧ va_D (va_A [(aT, .inr (1, [.ref aT_slips, .ref aT_lates, .ref aT_copied, .int T_size, .int T_littleOnes])), (aT_slips, .inl (cI, 6, .inl T_slips)), (aK, .inr (4, [.ref aT, .ref aR, .long K_trace]))] sz) [(aT, .inr (1, [.ref aT_slips, .ref aT_lates, .ref aT_copied, .int T_size, .int T_littleOnes])), (aT_slips, .inl (cI, 6, .inl T_slips)), (aK, .inr (4, [.ref aT, .ref aR, .long y0.2]))]) (va_A [(aT, .inr (1, [.ref aT_slips, .ref aT_lates, .ref aT_copied, .int T_size, .int T_littleOnes])), (aT_slips, .inl (cI, 6, .inl T_slips)), (aK, .inr (4, [.ref aT, .ref aR, .long K_trace]))] sz)) 0 0 (va_A [(aT, .inr (1, [.ref aT_slips, .ref aT_lates, .ref aT_copied, .int T_size, .int T_littleOnes])), (aT_slips, .inl (cI, 6, .inl T_slips)), (aK, .inr (4, [.ref aT, .ref aR, .long K_trace]))] sz) := by
  refine Met.ofW (cc := cX4_asChild) (maxL := 2) (ret := (some .int)) (by decide) rfl ?_
  intro p e s m args below meth c s₁ B hml hv
  obtain ⟨rfl, hsz, hP, hKK, hD0⟩ := hv
  have hx := B.exec
  have hb := B.bytes
  have hr := B.returns
  have hts := atoms_spec (ws := wsX4_asChild) B.pre
  have hown : s.vm.findClass RX4 = some m.cls := findClass_of_methodNamed B.named
  have hlocks := B.notSynchronized
  have hK := hKK.1
  have fl_9 := hts (.fieldLink RX4 9 "SimonSays$Kinds" "told" "LSimonSays$Children;") (by decide +kernel)
  have fl_19 := hts (.fieldLink RX4 19 "SimonSays$Kinds" "trace" "J") (by decide +kernel)
  have inX4 : ∀ w ∈ wsX40, w ∈ wsX4_asChild := by decide +kernel
  subst hsz
  have hD := hD0.self (sz := s.heap.size)
  generalize hAe : va_A [(aT, .inr (1, [.ref aT_slips, .ref aT_lates, .ref aT_copied, .int T_size, .int T_littleOnes])), (aT_slips, .inl (cI, 6, .inl T_slips)), (aK, .inr (4, [.ref aT, .ref aR, .long K_trace]))] s.heap.size = A at hD ⊢
  have hA : ∀ q : Nat, s.heap.size ≤ q → A q := fun q h => by rw [← hAe]; exact Or.inr h
  have hS : va_S A s.heap s.heap [] := va_S.rf
  have hl := lv_entry ([.ref aK, .int p1]) (n := 2) (Nat.le_of_ble_eq_true rfl)
  rw [lg_entry_eq]
  generalize (lg_sl ([.ref aK, .int p1]) ++ List.replicate (2 - (lg_sl ([.ref aK, .int p1])).length) Slot.unset).toArray = ls at hl ⊢
  have hl : lv_has ls 2 [(0, .ref aK), (1, .int p1)] := hl
  unfold f_X4_asChild at h
  refine lv_aload_n hx hb dX4_asChild_0 rfl (lv_at hl 0 rfl) ?_
  refine lv_dup hx hb dX4_asChild_1 rfl ?_
  refine va_get (D := D) (ci := 4) (v := .long K_trace) (C := RX4) (T := TX4) (N := 3) hx hb hts inX4 hown hK hP 2 rfl rfl 2 (by decide) fl_19 (fun _ h9 => h9) rfl dX4_asChild_2 ?_
  refine lv_lconst (v := (1 : Int64)) hx hb dX4_asChild_5 (by decide) ?_
  refine lv_ladd hx hb dX4_asChild_6 ?_
  refine va_put (D := D) (ci := 4) (v := .long (K_trace + (1 : Int64))) (ty := .long) (C := RX4) (T := TX4) (N := 3) hx hb hts inX4 tyX4 tyX4_ok nmX4 hown hK hP hD hS 2 rfl rfl 2 (by decide) fl_19 (fun _ h9 => h9) rfl (by decide +kernel) rfl rfl (Nat.le_of_ble_eq_true rfl) dX4_asChild_7 (fun H locs hP hD hS => ?_)
  have hP : va_P D vwCl [(aT, .inr (1, [.ref aT_slips, .ref aT_lates, .ref aT_copied, .int T_size, .int T_littleOnes])), (aT_slips, .inl (cI, 6, .inl T_slips)), (aK, .inr (4, [.ref aT, .ref aR, .long (K_trace + (1 : Int64))]))] H := hP
  have hD : va_D A [(aT, .inr (1, [.ref aT_slips, .ref aT_lates, .ref aT_copied, .int T_size, .int T_littleOnes])), (aT_slips, .inl (cI, 6, .inl T_slips)), (aK, .inr (4, [.ref aT, .ref aR, .long (K_trace + (1 : Int64))]))] := hD
  refine lv_aload_n hx hb dX4_asChild_10 rfl (lv_at hl 0 rfl) ?_
  refine va_get (D := D) (ci := 4) (v := .ref aT) (C := RX4) (T := TX4) (N := 3) hx hb hts inX4 hown hK hP 2 rfl rfl 0 (by decide) fl_9 (fun _ h9 => h9) rfl dX4_asChild_11 ?_
  refine lv_iload_n hx hb dX4_asChild_14 rfl (lv_at hl 1 rfl) ?_
  obtain ⟨y1, qy1, h⟩ := ob_some h
  have hPc : va_P D vwCl [(aT, .inr (1, [.ref aT_slips, .ref aT_lates, .ref aT_copied, .int T_size, .int T_littleOnes])), (aT_slips, .inl (cI, 6, .inl T_slips))] H := hP.sub [0, 1] rfl
  refine vp_callSi (va_Run.run (va_runV (As := [.int p1]) (rest := []) ⟨hx, hb, hml, hown, hts⟩ (c_X1_slipOf l D cI cJ cZ cO aT aT_slips aT_lates aT_copied T_size T_littleOnes T_slips p1 y1 qy1) (cwV 1 hts gX4_asChild_X1_slipOf rfl rfl rfl (by decide +kernel) ⟨Nat.le_of_ble_eq_true rfl, Nat.le_of_ble_eq_true rfl⟩) ⟨fb_p, va_recv hK hP (ci := 1) (q0 := 0) rfl rfl, fun U hU hW => ⟨rfl, by rw [hU]; exact hPc, KK.warm hW hKK⟩⟩ rfl rfl hl.1 rfl (lv_room (Nat.le_of_ble_eq_true rfl)) dX4_asChild_15 ⟨Nat.le_of_ble_eq_true rfl, Nat.le_of_ble_eq_true rfl⟩)) (fun r hr => ?_)
  replace hr := hr.symm
  subst hr
  have hy := Option.some.inj h
  subst hy
  exact W.iret (v := y1) hx hb hr (fun t ht hW => ⟨⟨y1, (), rfl, rfl, by rw [ht]; exact hP, hD⟩, hS.F ht⟩) hS.2.2 dX4_asChild_18

def f_X4_asDreamer (R_streak : Int32) (T_size : Int32) (T_slips : Nat → Int32) (K_trace : Int64) (p1 : Int32) : Option (Int32 × Int64) := (Option.bind (f_X4_asChild T_size T_slips (K_trace + (10 : Int64)) p1) (fun y1 => some ((y1.1 + (f_X6_streak R_streak)), y1.2)))
set_option maxHeartbeats 8000000 in
set_option maxRecDepth 100000 in
theorem c_X4_asDreamer (l : Launch) (D : va_G) (cI cJ cZ cO : ClassId) (aR : Nat) (aT : Nat) (aT_slips : Nat) (aK : Nat) (aT_lates : Nat) (aT_copied : Nat) (R_in : Int32) (R_streak : Int32) (R_lot : Int32) (T_size : Int32) (T_littleOnes : Int32) (T_slips : Nat → Int32) (K_trace : Int64) (sz : Nat) (p1 : Int32)  (y0 : Int32 × Int64) (h : f_X4_asDreamer R_streak T_size T_slips K_trace p1 = some y0) : Met l yX4_asDreamer wsX4_asDreamer ({ frames := 3, cells := 0, slots := 0, locals := 63 } : Room) (va_Pc [.ref aK, .int p1] (fun U => U.heap.size = sz ∧ va_P D vwCl [(aR, .inr (6, [.ref aT, .int R_in, .int R_streak, .int R_lot])), (aT, .inr (1, [.ref aT_slips, .ref aT_lates, .ref aT_copied, .int T_size, .int T_littleOnes])), (aT_slips, .inl (cI, 6, .inl T_slips)), (aK, .inr (4, [.ref aT, .ref aR, .long K_trace]))] U.heap ∧ KK D cI cJ cZ cO U ∧ va_D (fun _ => True) [(aR, .inr (6, [.ref aT, .int R_in, .int R_streak, .int R_lot])), (aT, .inr (1, [.ref aT_slips, .ref aT_lates, .ref aT_copied, .int T_size, .int T_littleOnes])), (aT_slips, .inl (cI, 6, .inl T_slips)), (aK, .inr (4, [.ref aT, .ref aR, .long K_trace]))])) (va_Qi (fun (r : Int32) (_ : Unit) => r = y0.1) (fun (_ : Unit) t => va_P D vwCl [(aR, .inr (6, [.ref aT, .int R_in, .int R_streak, .int R_lot])), (aT, .inr (1, [.ref aT_slips, .ref aT_lates, .ref aT_copied, .int T_size, .int T_littleOnes])), (aT_slips, .inl (cI, 6, .inl T_slips)), (aK, .inr (4, [.ref aT, .ref aR, .long y0.2]))] t.heap ∧ va_D (va_A [(aR, .inr (6, [.ref aT, .int R_in, .int R_streak, .int R_lot])), (aT, .inr (1, [.ref aT_slips, .ref aT_lates, .ref aT_copied, .int T_size, .int T_littleOnes])), (aT_slips, .inl (cI, 6, .inl T_slips)), (aK, .inr (4, [.ref aT, .ref aR, .long K_trace]))] sz) [(aR, .inr (6, [.ref aT, .int R_in, .int R_streak, .int R_lot])), (aT, .inr (1, [.ref aT_slips, .ref aT_lates, .ref aT_copied, .int T_size, .int T_littleOnes])), (aT_slips, .inl (cI, 6, .inl T_slips)), (aK, .inr (4, [.ref aT, .ref aR, .long y0.2]))]) (va_A [(aR, .inr (6, [.ref aT, .int R_in, .int R_streak, .int R_lot])), (aT, .inr (1, [.ref aT_slips, .ref aT_lates, .ref aT_copied, .int T_size, .int T_littleOnes])), (aT_slips, .inl (cI, 6, .inl T_slips)), (aK, .inr (4, [.ref aT, .ref aR, .long K_trace]))] sz)) 0 0 (va_A [(aR, .inr (6, [.ref aT, .int R_in, .int R_streak, .int R_lot])), (aT, .inr (1, [.ref aT_slips, .ref aT_lates, .ref aT_copied, .int T_size, .int T_littleOnes])), (aT_slips, .inl (cI, 6, .inl T_slips)), (aK, .inr (4, [.ref aT, .ref aR, .long K_trace]))] sz) := by
  refine Met.ofW (cc := cX4_asDreamer) (maxL := 2) (ret := (some .int)) (by decide) rfl ?_
  intro p e s m args below meth c s₁ B hml hv
  obtain ⟨rfl, hsz, hP, hKK, hD0⟩ := hv
  have hx := B.exec
  have hb := B.bytes
  have hr := B.returns
  have hts := atoms_spec (ws := wsX4_asDreamer) B.pre
  have hown : s.vm.findClass RX4 = some m.cls := findClass_of_methodNamed B.named
  have hlocks := B.notSynchronized
  have hK := hKK.1
  have fl_15 := hts (.fieldLink RX4 15 "SimonSays$Kinds" "round" "LSimonSays$Round;") (by decide +kernel)
  have fl_19 := hts (.fieldLink RX4 19 "SimonSays$Kinds" "trace" "J") (by decide +kernel)
  have cst_48 := hts (.constantLong RX4 48 (10)) (by decide +kernel)
  have inX4 : ∀ w ∈ wsX40, w ∈ wsX4_asDreamer := by decide +kernel
  subst hsz
  have hD := hD0.self (sz := s.heap.size)
  generalize hAe : va_A [(aR, .inr (6, [.ref aT, .int R_in, .int R_streak, .int R_lot])), (aT, .inr (1, [.ref aT_slips, .ref aT_lates, .ref aT_copied, .int T_size, .int T_littleOnes])), (aT_slips, .inl (cI, 6, .inl T_slips)), (aK, .inr (4, [.ref aT, .ref aR, .long K_trace]))] s.heap.size = A at hD ⊢
  have hA : ∀ q : Nat, s.heap.size ≤ q → A q := fun q h => by rw [← hAe]; exact Or.inr h
  have hS : va_S A s.heap s.heap [] := va_S.rf
  have hl := lv_entry ([.ref aK, .int p1]) (n := 2) (Nat.le_of_ble_eq_true rfl)
  rw [lg_entry_eq]
  generalize (lg_sl ([.ref aK, .int p1]) ++ List.replicate (2 - (lg_sl ([.ref aK, .int p1])).length) Slot.unset).toArray = ls at hl ⊢
  have hl : lv_has ls 2 [(0, .ref aK), (1, .int p1)] := hl
  unfold f_X4_asDreamer at h
  refine lv_aload_n hx hb dX4_asDreamer_0 rfl (lv_at hl 0 rfl) ?_
  refine lv_dup hx hb dX4_asDreamer_1 rfl ?_
  refine va_get (D := D) (ci := 4) (v := .long K_trace) (C := RX4) (T := TX4) (N := 3) hx hb hts inX4 hown hK hP 3 rfl rfl 2 (by decide) fl_19 (fun _ h9 => h9) rfl dX4_asDreamer_2 ?_
  refine lv_ldc2 (v := (10 : Int64)) hx hb hown cst_48 dX4_asDreamer_5 ?_
  refine lv_ladd hx hb dX4_asDreamer_8 ?_
  refine va_put (D := D) (ci := 4) (v := .long (K_trace + (10 : Int64))) (ty := .long) (C := RX4) (T := TX4) (N := 3) hx hb hts inX4 tyX4 tyX4_ok nmX4 hown hK hP hD hS 3 rfl rfl 2 (by decide) fl_19 (fun _ h9 => h9) rfl (by decide +kernel) rfl rfl (Nat.le_of_ble_eq_true rfl) dX4_asDreamer_9 (fun H locs hP hD hS => ?_)
  have hP : va_P D vwCl [(aR, .inr (6, [.ref aT, .int R_in, .int R_streak, .int R_lot])), (aT, .inr (1, [.ref aT_slips, .ref aT_lates, .ref aT_copied, .int T_size, .int T_littleOnes])), (aT_slips, .inl (cI, 6, .inl T_slips)), (aK, .inr (4, [.ref aT, .ref aR, .long (K_trace + (10 : Int64))]))] H := hP
  have hD : va_D A [(aR, .inr (6, [.ref aT, .int R_in, .int R_streak, .int R_lot])), (aT, .inr (1, [.ref aT_slips, .ref aT_lates, .ref aT_copied, .int T_size, .int T_littleOnes])), (aT_slips, .inl (cI, 6, .inl T_slips)), (aK, .inr (4, [.ref aT, .ref aR, .long (K_trace + (10 : Int64))]))] := hD
  refine lv_aload_n hx hb dX4_asDreamer_12 rfl (lv_at hl 0 rfl) ?_
  refine lv_iload_n hx hb dX4_asDreamer_13 rfl (lv_at hl 1 rfl) ?_
  obtain ⟨y1, qy1, h⟩ := ob_some h
  have hPc : va_P D vwCl [(aT, .inr (1, [.ref aT_slips, .ref aT_lates, .ref aT_copied, .int T_size, .int T_littleOnes])), (aT_slips, .inl (cI, 6, .inl T_slips)), (aK, .inr (4, [.ref aT, .ref aR, .long (K_trace + (10 : Int64))]))] H := hP.sub [1, 2, 3] rfl
  have hDc : va_D A [(aT, .inr (1, [.ref aT_slips, .ref aT_lates, .ref aT_copied, .int T_size, .int T_littleOnes])), (aT_slips, .inl (cI, 6, .inl T_slips)), (aK, .inr (4, [.ref aT, .ref aR, .long (K_trace + (10 : Int64))]))] := hD.sub [1, 2, 3] (by decide) rfl
  have hFc := va_free (wc := [(aT, .inr (1, [.ref aT_slips, .ref aT_lates, .ref aT_copied, .int T_size, .int T_littleOnes])), (aT_slips, .inl (cI, 6, .inl T_slips)), (aK, .inr (4, [.ref aT, .ref aR, .long (K_trace + (10 : Int64))]))]) hD hS hA [1, 2, 3] rfl
  refine va_calli (va_runV (As := [.int p1]) (rest := []) ⟨hx, hb, hml, hown, hts⟩ (c_X4_asChild l D cI cJ cZ cO aT aT_slips aK aT_lates aT_copied aR T_size T_littleOnes T_slips (K_trace + (10 : Int64)) H.size p1 y1 qy1) (cwV 1 hts gX4_asDreamer_X4_asChild rfl rfl rfl (by decide +kernel) ⟨Nat.le_of_ble_eq_true rfl, Nat.le_of_ble_eq_true rfl⟩) ⟨fb_i, va_recv hK hP (ci := 4) (q0 := 3) rfl rfl, fun U hU hW => ⟨rfl, by rw [hU], by rw [hU]; exact hPc, KK.warm hW hKK, hDc.weaken (fun _ _ _ _ => trivial)⟩⟩ rfl rfl hl.1 rfl (lv_room (Nat.le_of_ble_eq_true rfl)) dX4_asDreamer_14 ⟨Nat.le_of_ble_eq_true rfl, Nat.le_of_ble_eq_true rfl⟩) hS (fun q _ h => hFc q h) hFc (fun r u t H1 locs ht hvm hw hB hz1 hk1 hS => ?_)
  obtain ⟨hP1, hD1⟩ := hB
  rw [ht] at hP1
  replace hw := hw.symm
  subst hw
  obtain ⟨hP, hD⟩ := va_join (wr := [(aR, .inr (6, [.ref aT, .int R_in, .int R_streak, .int R_lot]))]) (w1 := [(aT, .inr (1, [.ref aT_slips, .ref aT_lates, .ref aT_copied, .int T_size, .int T_littleOnes])), (aT_slips, .inl (cI, 6, .inl T_slips)), (aK, .inr (4, [.ref aT, .ref aR, .long y1.2]))]) hP hD [1, 2, 3] [0] rfl rfl (by decide) (by decide) hk1 hFc hP1 hD1
  generalize H1 = H at hP hS ⊢
  have hP : va_P D vwCl [(aR, .inr (6, [.ref aT, .int R_in, .int R_streak, .int R_lot])), (aT, .inr (1, [.ref aT_slips, .ref aT_lates, .ref aT_copied, .int T_size, .int T_littleOnes])), (aT_slips, .inl (cI, 6, .inl T_slips)), (aK, .inr (4, [.ref aT, .ref aR, .long y1.2]))] H := hP.sub [0, 1, 2, 3] rfl
  have hD : va_D A [(aR, .inr (6, [.ref aT, .int R_in, .int R_streak, .int R_lot])), (aT, .inr (1, [.ref aT_slips, .ref aT_lates, .ref aT_copied, .int T_size, .int T_littleOnes])), (aT_slips, .inl (cI, 6, .inl T_slips)), (aK, .inr (4, [.ref aT, .ref aR, .long y1.2]))] := hD.sub [0, 1, 2, 3] (by decide) rfl
  refine lv_aload_n hx hb dX4_asDreamer_17 rfl (lv_at hl 0 rfl) ?_
  refine va_get (D := D) (ci := 4) (v := .ref aR) (C := RX4) (T := TX4) (N := 3) hx hb hts inX4 hown hK hP 3 rfl rfl 1 (by decide) fl_15 (fun _ h9 => h9) rfl dX4_asDreamer_18 ?_
  have hPc : va_P D vwCl [(aR, .inr (6, [.ref aT, .int R_in, .int R_streak, .int R_lot]))] H := hP.sub [0] rfl
  refine vp_callSi (va_Run.run (va_runV (As := []) (rest := [.int y1.1]) ⟨hx, hb, hml, hown, hts⟩ (c_X6_streak l D cI cJ cZ cO aR aT R_in R_streak R_lot _ rfl) (cwV 0 hts gX4_asDreamer_X6_streak rfl rfl rfl (by decide +kernel) ⟨Nat.le_of_ble_eq_true rfl, Nat.le_of_ble_eq_true rfl⟩) ⟨fb_p, va_recv hK hP (ci := 6) (q0 := 0) rfl rfl, fun U hU hW => ⟨rfl, by rw [hU]; exact hPc, KK.warm hW hKK⟩⟩ rfl rfl hl.1 rfl (lv_room (Nat.le_of_ble_eq_true rfl)) dX4_asDreamer_21 ⟨Nat.le_of_ble_eq_true rfl, Nat.le_of_ble_eq_true rfl⟩)) (fun r hr => ?_)
  replace hr := hr.symm
  subst hr
  refine lv_iadd hx hb dX4_asDreamer_24 ?_
  have hy := Option.some.inj h
  subst hy
  exact W.iret (v := (y1.1 + (f_X6_streak R_streak))) hx hb hr (fun t ht hW => ⟨⟨(y1.1 + (f_X6_streak R_streak)), (), rfl, rfl, by rw [ht]; exact hP, hD⟩, hS.F ht⟩) hS.2.2 dX4_asDreamer_25

def f_X4_asWatcher (T_size : Int32) (T_slips : Nat → Int32) (T_lates : Nat → Int32) (K_trace : Int64) (p1 : Int32) : Option (Int32 × Int64) := (Option.bind (f_X4_asChild T_size T_slips (K_trace + (100 : Int64)) p1) (fun y1 => (Option.bind (f_X1_lateOf T_size T_lates p1) (fun y2 => some ((y1.1 - y2), y1.2)))))
set_option maxHeartbeats 8000000 in
set_option maxRecDepth 100000 in
theorem c_X4_asWatcher (l : Launch) (D : va_G) (cI cJ cZ cO : ClassId) (aT : Nat) (aT_slips : Nat) (aT_lates : Nat) (aK : Nat) (aT_copied : Nat) (aR : Nat) (T_size : Int32) (T_littleOnes : Int32) (T_slips : Nat → Int32) (T_lates : Nat → Int32) (K_trace : Int64) (sz : Nat) (p1 : Int32)  (y0 : Int32 × Int64) (h : f_X4_asWatcher T_size T_slips T_lates K_trace p1 = some y0) : Met l yX4_asWatcher wsX4_asWatcher ({ frames := 3, cells := 0, slots := 0, locals := 63 } : Room) (va_Pc [.ref aK, .int p1] (fun U => U.heap.size = sz ∧ va_P D vwCl [(aT, .inr (1, [.ref aT_slips, .ref aT_lates, .ref aT_copied, .int T_size, .int T_littleOnes])), (aT_slips, .inl (cI, 6, .inl T_slips)), (aT_lates, .inl (cI, 6, .inl T_lates)), (aK, .inr (4, [.ref aT, .ref aR, .long K_trace]))] U.heap ∧ KK D cI cJ cZ cO U ∧ va_D (fun _ => True) [(aT, .inr (1, [.ref aT_slips, .ref aT_lates, .ref aT_copied, .int T_size, .int T_littleOnes])), (aT_slips, .inl (cI, 6, .inl T_slips)), (aT_lates, .inl (cI, 6, .inl T_lates)), (aK, .inr (4, [.ref aT, .ref aR, .long K_trace]))])) (va_Qi (fun (r : Int32) (_ : Unit) => r = y0.1) (fun (_ : Unit) t => va_P D vwCl [(aT, .inr (1, [.ref aT_slips, .ref aT_lates, .ref aT_copied, .int T_size, .int T_littleOnes])), (aT_slips, .inl (cI, 6, .inl T_slips)), (aT_lates, .inl (cI, 6, .inl T_lates)), (aK, .inr (4, [.ref aT, .ref aR, .long y0.2]))] t.heap ∧ va_D (va_A [(aT, .inr (1, [.ref aT_slips, .ref aT_lates, .ref aT_copied, .int T_size, .int T_littleOnes])), (aT_slips, .inl (cI, 6, .inl T_slips)), (aT_lates, .inl (cI, 6, .inl T_lates)), (aK, .inr (4, [.ref aT, .ref aR, .long K_trace]))] sz) [(aT, .inr (1, [.ref aT_slips, .ref aT_lates, .ref aT_copied, .int T_size, .int T_littleOnes])), (aT_slips, .inl (cI, 6, .inl T_slips)), (aT_lates, .inl (cI, 6, .inl T_lates)), (aK, .inr (4, [.ref aT, .ref aR, .long y0.2]))]) (va_A [(aT, .inr (1, [.ref aT_slips, .ref aT_lates, .ref aT_copied, .int T_size, .int T_littleOnes])), (aT_slips, .inl (cI, 6, .inl T_slips)), (aT_lates, .inl (cI, 6, .inl T_lates)), (aK, .inr (4, [.ref aT, .ref aR, .long K_trace]))] sz)) 0 0 (va_A [(aT, .inr (1, [.ref aT_slips, .ref aT_lates, .ref aT_copied, .int T_size, .int T_littleOnes])), (aT_slips, .inl (cI, 6, .inl T_slips)), (aT_lates, .inl (cI, 6, .inl T_lates)), (aK, .inr (4, [.ref aT, .ref aR, .long K_trace]))] sz) := by
  refine Met.ofW (cc := cX4_asWatcher) (maxL := 2) (ret := (some .int)) (by decide) rfl ?_
  intro p e s m args below meth c s₁ B hml hv
  obtain ⟨rfl, hsz, hP, hKK, hD0⟩ := hv
  have hx := B.exec
  have hb := B.bytes
  have hr := B.returns
  have hts := atoms_spec (ws := wsX4_asWatcher) B.pre
  have hown : s.vm.findClass RX4 = some m.cls := findClass_of_methodNamed B.named
  have hlocks := B.notSynchronized
  have hK := hKK.1
  have fl_9 := hts (.fieldLink RX4 9 "SimonSays$Kinds" "told" "LSimonSays$Children;") (by decide +kernel)
  have fl_19 := hts (.fieldLink RX4 19 "SimonSays$Kinds" "trace" "J") (by decide +kernel)
  have cst_56 := hts (.constantLong RX4 56 (100)) (by decide +kernel)
  have inX4 : ∀ w ∈ wsX40, w ∈ wsX4_asWatcher := by decide +kernel
  subst hsz
  have hD := hD0.self (sz := s.heap.size)
  generalize hAe : va_A [(aT, .inr (1, [.ref aT_slips, .ref aT_lates, .ref aT_copied, .int T_size, .int T_littleOnes])), (aT_slips, .inl (cI, 6, .inl T_slips)), (aT_lates, .inl (cI, 6, .inl T_lates)), (aK, .inr (4, [.ref aT, .ref aR, .long K_trace]))] s.heap.size = A at hD ⊢
  have hA : ∀ q : Nat, s.heap.size ≤ q → A q := fun q h => by rw [← hAe]; exact Or.inr h
  have hS : va_S A s.heap s.heap [] := va_S.rf
  have hl := lv_entry ([.ref aK, .int p1]) (n := 2) (Nat.le_of_ble_eq_true rfl)
  rw [lg_entry_eq]
  generalize (lg_sl ([.ref aK, .int p1]) ++ List.replicate (2 - (lg_sl ([.ref aK, .int p1])).length) Slot.unset).toArray = ls at hl ⊢
  have hl : lv_has ls 2 [(0, .ref aK), (1, .int p1)] := hl
  unfold f_X4_asWatcher at h
  refine lv_aload_n hx hb dX4_asWatcher_0 rfl (lv_at hl 0 rfl) ?_
  refine lv_dup hx hb dX4_asWatcher_1 rfl ?_
  refine va_get (D := D) (ci := 4) (v := .long K_trace) (C := RX4) (T := TX4) (N := 3) hx hb hts inX4 hown hK hP 3 rfl rfl 2 (by decide) fl_19 (fun _ h9 => h9) rfl dX4_asWatcher_2 ?_
  refine lv_ldc2 (v := (100 : Int64)) hx hb hown cst_56 dX4_asWatcher_5 ?_
  refine lv_ladd hx hb dX4_asWatcher_8 ?_
  refine va_put (D := D) (ci := 4) (v := .long (K_trace + (100 : Int64))) (ty := .long) (C := RX4) (T := TX4) (N := 3) hx hb hts inX4 tyX4 tyX4_ok nmX4 hown hK hP hD hS 3 rfl rfl 2 (by decide) fl_19 (fun _ h9 => h9) rfl (by decide +kernel) rfl rfl (Nat.le_of_ble_eq_true rfl) dX4_asWatcher_9 (fun H locs hP hD hS => ?_)
  have hP : va_P D vwCl [(aT, .inr (1, [.ref aT_slips, .ref aT_lates, .ref aT_copied, .int T_size, .int T_littleOnes])), (aT_slips, .inl (cI, 6, .inl T_slips)), (aT_lates, .inl (cI, 6, .inl T_lates)), (aK, .inr (4, [.ref aT, .ref aR, .long (K_trace + (100 : Int64))]))] H := hP
  have hD : va_D A [(aT, .inr (1, [.ref aT_slips, .ref aT_lates, .ref aT_copied, .int T_size, .int T_littleOnes])), (aT_slips, .inl (cI, 6, .inl T_slips)), (aT_lates, .inl (cI, 6, .inl T_lates)), (aK, .inr (4, [.ref aT, .ref aR, .long (K_trace + (100 : Int64))]))] := hD
  refine lv_aload_n hx hb dX4_asWatcher_12 rfl (lv_at hl 0 rfl) ?_
  refine lv_iload_n hx hb dX4_asWatcher_13 rfl (lv_at hl 1 rfl) ?_
  obtain ⟨y1, qy1, h⟩ := ob_some h
  have hPc : va_P D vwCl [(aT, .inr (1, [.ref aT_slips, .ref aT_lates, .ref aT_copied, .int T_size, .int T_littleOnes])), (aT_slips, .inl (cI, 6, .inl T_slips)), (aK, .inr (4, [.ref aT, .ref aR, .long (K_trace + (100 : Int64))]))] H := hP.sub [0, 1, 3] rfl
  have hDc : va_D A [(aT, .inr (1, [.ref aT_slips, .ref aT_lates, .ref aT_copied, .int T_size, .int T_littleOnes])), (aT_slips, .inl (cI, 6, .inl T_slips)), (aK, .inr (4, [.ref aT, .ref aR, .long (K_trace + (100 : Int64))]))] := hD.sub [0, 1, 3] (by decide) rfl
  have hFc := va_free (wc := [(aT, .inr (1, [.ref aT_slips, .ref aT_lates, .ref aT_copied, .int T_size, .int T_littleOnes])), (aT_slips, .inl (cI, 6, .inl T_slips)), (aK, .inr (4, [.ref aT, .ref aR, .long (K_trace + (100 : Int64))]))]) hD hS hA [0, 1, 3] rfl
  refine va_calli (va_runV (As := [.int p1]) (rest := []) ⟨hx, hb, hml, hown, hts⟩ (c_X4_asChild l D cI cJ cZ cO aT aT_slips aK aT_lates aT_copied aR T_size T_littleOnes T_slips (K_trace + (100 : Int64)) H.size p1 y1 qy1) (cwV 1 hts gX4_asWatcher_X4_asChild rfl rfl rfl (by decide +kernel) ⟨Nat.le_of_ble_eq_true rfl, Nat.le_of_ble_eq_true rfl⟩) ⟨fb_i, va_recv hK hP (ci := 4) (q0 := 3) rfl rfl, fun U hU hW => ⟨rfl, by rw [hU], by rw [hU]; exact hPc, KK.warm hW hKK, hDc.weaken (fun _ _ _ _ => trivial)⟩⟩ rfl rfl hl.1 rfl (lv_room (Nat.le_of_ble_eq_true rfl)) dX4_asWatcher_14 ⟨Nat.le_of_ble_eq_true rfl, Nat.le_of_ble_eq_true rfl⟩) hS (fun q _ h => hFc q h) hFc (fun r u t H1 locs ht hvm hw hB hz1 hk1 hS => ?_)
  obtain ⟨hP1, hD1⟩ := hB
  rw [ht] at hP1
  replace hw := hw.symm
  subst hw
  obtain ⟨hP, hD⟩ := va_join (wr := [(aT_lates, .inl (cI, 6, .inl T_lates))]) (w1 := [(aT, .inr (1, [.ref aT_slips, .ref aT_lates, .ref aT_copied, .int T_size, .int T_littleOnes])), (aT_slips, .inl (cI, 6, .inl T_slips)), (aK, .inr (4, [.ref aT, .ref aR, .long y1.2]))]) hP hD [0, 1, 3] [2] rfl rfl (by decide) (by decide) hk1 hFc hP1 hD1
  generalize H1 = H at hP hS ⊢
  have hP : va_P D vwCl [(aT, .inr (1, [.ref aT_slips, .ref aT_lates, .ref aT_copied, .int T_size, .int T_littleOnes])), (aT_slips, .inl (cI, 6, .inl T_slips)), (aT_lates, .inl (cI, 6, .inl T_lates)), (aK, .inr (4, [.ref aT, .ref aR, .long y1.2]))] H := hP.sub [1, 2, 0, 3] rfl
  have hD : va_D A [(aT, .inr (1, [.ref aT_slips, .ref aT_lates, .ref aT_copied, .int T_size, .int T_littleOnes])), (aT_slips, .inl (cI, 6, .inl T_slips)), (aT_lates, .inl (cI, 6, .inl T_lates)), (aK, .inr (4, [.ref aT, .ref aR, .long y1.2]))] := hD.sub [1, 2, 0, 3] (by decide) rfl
  refine lv_aload_n hx hb dX4_asWatcher_17 rfl (lv_at hl 0 rfl) ?_
  refine va_get (D := D) (ci := 4) (v := .ref aT) (C := RX4) (T := TX4) (N := 3) hx hb hts inX4 hown hK hP 3 rfl rfl 0 (by decide) fl_9 (fun _ h9 => h9) rfl dX4_asWatcher_18 ?_
  refine lv_iload_n hx hb dX4_asWatcher_21 rfl (lv_at hl 1 rfl) ?_
  obtain ⟨y2, qy2, h⟩ := ob_some h
  have hPc : va_P D vwCl [(aT, .inr (1, [.ref aT_slips, .ref aT_lates, .ref aT_copied, .int T_size, .int T_littleOnes])), (aT_lates, .inl (cI, 6, .inl T_lates))] H := hP.sub [0, 2] rfl
  refine vp_callSi (va_Run.run (va_runV (As := [.int p1]) (rest := [.int y1.1]) ⟨hx, hb, hml, hown, hts⟩ (c_X1_lateOf l D cI cJ cZ cO aT aT_lates aT_slips aT_copied T_size T_littleOnes T_lates p1 y2 qy2) (cwV 1 hts gX4_asWatcher_X1_lateOf rfl rfl rfl (by decide +kernel) ⟨Nat.le_of_ble_eq_true rfl, Nat.le_of_ble_eq_true rfl⟩) ⟨fb_p, va_recv hK hP (ci := 1) (q0 := 0) rfl rfl, fun U hU hW => ⟨rfl, by rw [hU]; exact hPc, KK.warm hW hKK⟩⟩ rfl rfl hl.1 rfl (lv_room (Nat.le_of_ble_eq_true rfl)) dX4_asWatcher_22 ⟨Nat.le_of_ble_eq_true rfl, Nat.le_of_ble_eq_true rfl⟩)) (fun r hr => ?_)
  replace hr := hr.symm
  subst hr
  refine lv_isub hx hb dX4_asWatcher_25 ?_
  have hy := Option.some.inj h
  subst hy
  exact W.iret (v := (y1.1 - y2)) hx hb hr (fun t ht hW => ⟨⟨(y1.1 - y2), (), rfl, rfl, by rw [ht]; exact hP, hD⟩, hS.F ht⟩) hS.2.2 dX4_asWatcher_26

def f_X4_asRunner (R_streak : Int32) (T_size : Int32) (T_slips : Nat → Int32) (K_trace : Int64) (p1 : Int32) : Option (Int32 × Int64) := (Option.bind (f_X4_asDreamer R_streak T_size T_slips (K_trace + (1000 : Int64)) p1) (fun y1 => some (((2 : Int32) * y1.1), y1.2)))
set_option maxHeartbeats 8000000 in
set_option maxRecDepth 100000 in
theorem c_X4_asRunner (l : Launch) (D : va_G) (cI cJ cZ cO : ClassId) (aR : Nat) (aT : Nat) (aT_slips : Nat) (aK : Nat) (aT_lates : Nat) (aT_copied : Nat) (R_in : Int32) (R_streak : Int32) (R_lot : Int32) (T_size : Int32) (T_littleOnes : Int32) (T_slips : Nat → Int32) (K_trace : Int64) (sz : Nat) (p1 : Int32)  (y0 : Int32 × Int64) (h : f_X4_asRunner R_streak T_size T_slips K_trace p1 = some y0) : Met l yX4_asRunner wsX4_asRunner ({ frames := 4, cells := 0, slots := 0, locals := 84 } : Room) (va_Pc [.ref aK, .int p1] (fun U => U.heap.size = sz ∧ va_P D vwCl [(aR, .inr (6, [.ref aT, .int R_in, .int R_streak, .int R_lot])), (aT, .inr (1, [.ref aT_slips, .ref aT_lates, .ref aT_copied, .int T_size, .int T_littleOnes])), (aT_slips, .inl (cI, 6, .inl T_slips)), (aK, .inr (4, [.ref aT, .ref aR, .long K_trace]))] U.heap ∧ KK D cI cJ cZ cO U ∧ va_D (fun _ => True) [(aR, .inr (6, [.ref aT, .int R_in, .int R_streak, .int R_lot])), (aT, .inr (1, [.ref aT_slips, .ref aT_lates, .ref aT_copied, .int T_size, .int T_littleOnes])), (aT_slips, .inl (cI, 6, .inl T_slips)), (aK, .inr (4, [.ref aT, .ref aR, .long K_trace]))])) (va_Qi (fun (r : Int32) (_ : Unit) => r = y0.1) (fun (_ : Unit) t => va_P D vwCl [(aR, .inr (6, [.ref aT, .int R_in, .int R_streak, .int R_lot])), (aT, .inr (1, [.ref aT_slips, .ref aT_lates, .ref aT_copied, .int T_size, .int T_littleOnes])), (aT_slips, .inl (cI, 6, .inl T_slips)), (aK, .inr (4, [.ref aT, .ref aR, .long y0.2]))] t.heap ∧ va_D (va_A [(aR, .inr (6, [.ref aT, .int R_in, .int R_streak, .int R_lot])), (aT, .inr (1, [.ref aT_slips, .ref aT_lates, .ref aT_copied, .int T_size, .int T_littleOnes])), (aT_slips, .inl (cI, 6, .inl T_slips)), (aK, .inr (4, [.ref aT, .ref aR, .long K_trace]))] sz) [(aR, .inr (6, [.ref aT, .int R_in, .int R_streak, .int R_lot])), (aT, .inr (1, [.ref aT_slips, .ref aT_lates, .ref aT_copied, .int T_size, .int T_littleOnes])), (aT_slips, .inl (cI, 6, .inl T_slips)), (aK, .inr (4, [.ref aT, .ref aR, .long y0.2]))]) (va_A [(aR, .inr (6, [.ref aT, .int R_in, .int R_streak, .int R_lot])), (aT, .inr (1, [.ref aT_slips, .ref aT_lates, .ref aT_copied, .int T_size, .int T_littleOnes])), (aT_slips, .inl (cI, 6, .inl T_slips)), (aK, .inr (4, [.ref aT, .ref aR, .long K_trace]))] sz)) 0 0 (va_A [(aR, .inr (6, [.ref aT, .int R_in, .int R_streak, .int R_lot])), (aT, .inr (1, [.ref aT_slips, .ref aT_lates, .ref aT_copied, .int T_size, .int T_littleOnes])), (aT_slips, .inl (cI, 6, .inl T_slips)), (aK, .inr (4, [.ref aT, .ref aR, .long K_trace]))] sz) := by
  refine Met.ofW (cc := cX4_asRunner) (maxL := 2) (ret := (some .int)) (by decide) rfl ?_
  intro p e s m args below meth c s₁ B hml hv
  obtain ⟨rfl, hsz, hP, hKK, hD0⟩ := hv
  have hx := B.exec
  have hb := B.bytes
  have hr := B.returns
  have hts := atoms_spec (ws := wsX4_asRunner) B.pre
  have hown : s.vm.findClass RX4 = some m.cls := findClass_of_methodNamed B.named
  have hlocks := B.notSynchronized
  have hK := hKK.1
  have fl_19 := hts (.fieldLink RX4 19 "SimonSays$Kinds" "trace" "J") (by decide +kernel)
  have cst_61 := hts (.constantLong RX4 61 (1000)) (by decide +kernel)
  have inX4 : ∀ w ∈ wsX40, w ∈ wsX4_asRunner := by decide +kernel
  subst hsz
  have hD := hD0.self (sz := s.heap.size)
  generalize hAe : va_A [(aR, .inr (6, [.ref aT, .int R_in, .int R_streak, .int R_lot])), (aT, .inr (1, [.ref aT_slips, .ref aT_lates, .ref aT_copied, .int T_size, .int T_littleOnes])), (aT_slips, .inl (cI, 6, .inl T_slips)), (aK, .inr (4, [.ref aT, .ref aR, .long K_trace]))] s.heap.size = A at hD ⊢
  have hA : ∀ q : Nat, s.heap.size ≤ q → A q := fun q h => by rw [← hAe]; exact Or.inr h
  have hS : va_S A s.heap s.heap [] := va_S.rf
  have hl := lv_entry ([.ref aK, .int p1]) (n := 2) (Nat.le_of_ble_eq_true rfl)
  rw [lg_entry_eq]
  generalize (lg_sl ([.ref aK, .int p1]) ++ List.replicate (2 - (lg_sl ([.ref aK, .int p1])).length) Slot.unset).toArray = ls at hl ⊢
  have hl : lv_has ls 2 [(0, .ref aK), (1, .int p1)] := hl
  unfold f_X4_asRunner at h
  refine lv_aload_n hx hb dX4_asRunner_0 rfl (lv_at hl 0 rfl) ?_
  refine lv_dup hx hb dX4_asRunner_1 rfl ?_
  refine va_get (D := D) (ci := 4) (v := .long K_trace) (C := RX4) (T := TX4) (N := 3) hx hb hts inX4 hown hK hP 3 rfl rfl 2 (by decide) fl_19 (fun _ h9 => h9) rfl dX4_asRunner_2 ?_
  refine lv_ldc2 (v := (1000 : Int64)) hx hb hown cst_61 dX4_asRunner_5 ?_
  refine lv_ladd hx hb dX4_asRunner_8 ?_
  refine va_put (D := D) (ci := 4) (v := .long (K_trace + (1000 : Int64))) (ty := .long) (C := RX4) (T := TX4) (N := 3) hx hb hts inX4 tyX4 tyX4_ok nmX4 hown hK hP hD hS 3 rfl rfl 2 (by decide) fl_19 (fun _ h9 => h9) rfl (by decide +kernel) rfl rfl (Nat.le_of_ble_eq_true rfl) dX4_asRunner_9 (fun H locs hP hD hS => ?_)
  have hP : va_P D vwCl [(aR, .inr (6, [.ref aT, .int R_in, .int R_streak, .int R_lot])), (aT, .inr (1, [.ref aT_slips, .ref aT_lates, .ref aT_copied, .int T_size, .int T_littleOnes])), (aT_slips, .inl (cI, 6, .inl T_slips)), (aK, .inr (4, [.ref aT, .ref aR, .long (K_trace + (1000 : Int64))]))] H := hP
  have hD : va_D A [(aR, .inr (6, [.ref aT, .int R_in, .int R_streak, .int R_lot])), (aT, .inr (1, [.ref aT_slips, .ref aT_lates, .ref aT_copied, .int T_size, .int T_littleOnes])), (aT_slips, .inl (cI, 6, .inl T_slips)), (aK, .inr (4, [.ref aT, .ref aR, .long (K_trace + (1000 : Int64))]))] := hD
  refine lv_iconst (v := (2 : Int32)) hx hb dX4_asRunner_12 (by decide) ?_
  refine lv_aload_n hx hb dX4_asRunner_13 rfl (lv_at hl 0 rfl) ?_
  refine lv_iload_n hx hb dX4_asRunner_14 rfl (lv_at hl 1 rfl) ?_
  obtain ⟨y1, qy1, h⟩ := ob_some h
  have hPc : va_P D vwCl [(aR, .inr (6, [.ref aT, .int R_in, .int R_streak, .int R_lot])), (aT, .inr (1, [.ref aT_slips, .ref aT_lates, .ref aT_copied, .int T_size, .int T_littleOnes])), (aT_slips, .inl (cI, 6, .inl T_slips)), (aK, .inr (4, [.ref aT, .ref aR, .long (K_trace + (1000 : Int64))]))] H := hP.sub [0, 1, 2, 3] rfl
  have hDc : va_D A [(aR, .inr (6, [.ref aT, .int R_in, .int R_streak, .int R_lot])), (aT, .inr (1, [.ref aT_slips, .ref aT_lates, .ref aT_copied, .int T_size, .int T_littleOnes])), (aT_slips, .inl (cI, 6, .inl T_slips)), (aK, .inr (4, [.ref aT, .ref aR, .long (K_trace + (1000 : Int64))]))] := hD.sub [0, 1, 2, 3] (by decide) rfl
  have hFc := va_free (wc := [(aR, .inr (6, [.ref aT, .int R_in, .int R_streak, .int R_lot])), (aT, .inr (1, [.ref aT_slips, .ref aT_lates, .ref aT_copied, .int T_size, .int T_littleOnes])), (aT_slips, .inl (cI, 6, .inl T_slips)), (aK, .inr (4, [.ref aT, .ref aR, .long (K_trace + (1000 : Int64))]))]) hD hS hA [0, 1, 2, 3] rfl
  refine va_calli (va_runV (As := [.int p1]) (rest := [.int (2 : Int32)]) ⟨hx, hb, hml, hown, hts⟩ (c_X4_asDreamer l D cI cJ cZ cO aR aT aT_slips aK aT_lates aT_copied R_in R_streak R_lot T_size T_littleOnes T_slips (K_trace + (1000 : Int64)) H.size p1 y1 qy1) (cwV 1 hts gX4_asRunner_X4_asDreamer rfl rfl rfl (by decide +kernel) ⟨Nat.le_of_ble_eq_true rfl, Nat.le_of_ble_eq_true rfl⟩) ⟨fb_i, va_recv hK hP (ci := 4) (q0 := 3) rfl rfl, fun U hU hW => ⟨rfl, by rw [hU], by rw [hU]; exact hPc, KK.warm hW hKK, hDc.weaken (fun _ _ _ _ => trivial)⟩⟩ rfl rfl hl.1 rfl (lv_room (Nat.le_of_ble_eq_true rfl)) dX4_asRunner_15 ⟨Nat.le_of_ble_eq_true rfl, Nat.le_of_ble_eq_true rfl⟩) hS (fun q _ h => hFc q h) hFc (fun r u t H1 locs ht hvm hw hB hz1 hk1 hS => ?_)
  obtain ⟨hP1, hD1⟩ := hB
  rw [ht] at hP1
  replace hw := hw.symm
  subst hw
  obtain ⟨hP, hD⟩ := va_join (wr := []) (w1 := [(aR, .inr (6, [.ref aT, .int R_in, .int R_streak, .int R_lot])), (aT, .inr (1, [.ref aT_slips, .ref aT_lates, .ref aT_copied, .int T_size, .int T_littleOnes])), (aT_slips, .inl (cI, 6, .inl T_slips)), (aK, .inr (4, [.ref aT, .ref aR, .long y1.2]))]) hP hD [0, 1, 2, 3] [] rfl rfl (by decide) (by decide) hk1 hFc hP1 hD1
  generalize H1 = H at hP hS ⊢
  have hP : va_P D vwCl [(aR, .inr (6, [.ref aT, .int R_in, .int R_streak, .int R_lot])), (aT, .inr (1, [.ref aT_slips, .ref aT_lates, .ref aT_copied, .int T_size, .int T_littleOnes])), (aT_slips, .inl (cI, 6, .inl T_slips)), (aK, .inr (4, [.ref aT, .ref aR, .long y1.2]))] H := hP.sub [0, 1, 2, 3] rfl
  have hD : va_D A [(aR, .inr (6, [.ref aT, .int R_in, .int R_streak, .int R_lot])), (aT, .inr (1, [.ref aT_slips, .ref aT_lates, .ref aT_copied, .int T_size, .int T_littleOnes])), (aT_slips, .inl (cI, 6, .inl T_slips)), (aK, .inr (4, [.ref aT, .ref aR, .long y1.2]))] := hD.sub [0, 1, 2, 3] (by decide) rfl
  refine lv_imul hx hb dX4_asRunner_18 ?_
  have hy := Option.some.inj h
  subst hy
  exact W.iret (v := ((2 : Int32) * y1.1)) hx hb hr (fun t ht hW => ⟨⟨((2 : Int32) * y1.1), (), rfl, rfl, by rw [ht]; exact hP, hD⟩, hS.F ht⟩) hS.2.2 dX4_asRunner_19

def f_X4_asCopier (T_size : Int32) (T_slips : Nat → Int32) (T_lates : Nat → Int32) (T_copied : Nat → Int32) (K_trace : Int64) (p1 : Int32) : Option (Int32 × Int64) := (Option.bind (f_X4_asWatcher T_size T_slips T_lates (K_trace + (10000 : Int64)) p1) (fun y1 => (Option.bind (f_X1_howManyCopy T_size T_copied p1) (fun y2 => some ((y1.1 + y2), y1.2)))))
set_option maxHeartbeats 8000000 in
set_option maxRecDepth 100000 in
theorem c_X4_asCopier (l : Launch) (D : va_G) (cI cJ cZ cO : ClassId) (aT : Nat) (aT_slips : Nat) (aT_lates : Nat) (aT_copied : Nat) (aK : Nat) (aR : Nat) (T_size : Int32) (T_littleOnes : Int32) (T_slips : Nat → Int32) (T_lates : Nat → Int32) (T_copied : Nat → Int32) (K_trace : Int64) (sz : Nat) (p1 : Int32)  (y0 : Int32 × Int64) (h : f_X4_asCopier T_size T_slips T_lates T_copied K_trace p1 = some y0) : Met l yX4_asCopier wsX4_asCopier ({ frames := 4, cells := 0, slots := 0, locals := 84 } : Room) (va_Pc [.ref aK, .int p1] (fun U => U.heap.size = sz ∧ va_P D vwCl [(aT, .inr (1, [.ref aT_slips, .ref aT_lates, .ref aT_copied, .int T_size, .int T_littleOnes])), (aT_slips, .inl (cI, 6, .inl T_slips)), (aT_lates, .inl (cI, 6, .inl T_lates)), (aT_copied, .inl (cI, 6, .inl T_copied)), (aK, .inr (4, [.ref aT, .ref aR, .long K_trace]))] U.heap ∧ KK D cI cJ cZ cO U ∧ va_D (fun _ => True) [(aT, .inr (1, [.ref aT_slips, .ref aT_lates, .ref aT_copied, .int T_size, .int T_littleOnes])), (aT_slips, .inl (cI, 6, .inl T_slips)), (aT_lates, .inl (cI, 6, .inl T_lates)), (aT_copied, .inl (cI, 6, .inl T_copied)), (aK, .inr (4, [.ref aT, .ref aR, .long K_trace]))])) (va_Qi (fun (r : Int32) (_ : Unit) => r = y0.1) (fun (_ : Unit) t => va_P D vwCl [(aT, .inr (1, [.ref aT_slips, .ref aT_lates, .ref aT_copied, .int T_size, .int T_littleOnes])), (aT_slips, .inl (cI, 6, .inl T_slips)), (aT_lates, .inl (cI, 6, .inl T_lates)), (aT_copied, .inl (cI, 6, .inl T_copied)), (aK, .inr (4, [.ref aT, .ref aR, .long y0.2]))] t.heap ∧ va_D (va_A [(aT, .inr (1, [.ref aT_slips, .ref aT_lates, .ref aT_copied, .int T_size, .int T_littleOnes])), (aT_slips, .inl (cI, 6, .inl T_slips)), (aT_lates, .inl (cI, 6, .inl T_lates)), (aT_copied, .inl (cI, 6, .inl T_copied)), (aK, .inr (4, [.ref aT, .ref aR, .long K_trace]))] sz) [(aT, .inr (1, [.ref aT_slips, .ref aT_lates, .ref aT_copied, .int T_size, .int T_littleOnes])), (aT_slips, .inl (cI, 6, .inl T_slips)), (aT_lates, .inl (cI, 6, .inl T_lates)), (aT_copied, .inl (cI, 6, .inl T_copied)), (aK, .inr (4, [.ref aT, .ref aR, .long y0.2]))]) (va_A [(aT, .inr (1, [.ref aT_slips, .ref aT_lates, .ref aT_copied, .int T_size, .int T_littleOnes])), (aT_slips, .inl (cI, 6, .inl T_slips)), (aT_lates, .inl (cI, 6, .inl T_lates)), (aT_copied, .inl (cI, 6, .inl T_copied)), (aK, .inr (4, [.ref aT, .ref aR, .long K_trace]))] sz)) 0 0 (va_A [(aT, .inr (1, [.ref aT_slips, .ref aT_lates, .ref aT_copied, .int T_size, .int T_littleOnes])), (aT_slips, .inl (cI, 6, .inl T_slips)), (aT_lates, .inl (cI, 6, .inl T_lates)), (aT_copied, .inl (cI, 6, .inl T_copied)), (aK, .inr (4, [.ref aT, .ref aR, .long K_trace]))] sz) := by
  refine Met.ofW (cc := cX4_asCopier) (maxL := 2) (ret := (some .int)) (by decide) rfl ?_
  intro p e s m args below meth c s₁ B hml hv
  obtain ⟨rfl, hsz, hP, hKK, hD0⟩ := hv
  have hx := B.exec
  have hb := B.bytes
  have hr := B.returns
  have hts := atoms_spec (ws := wsX4_asCopier) B.pre
  have hown : s.vm.findClass RX4 = some m.cls := findClass_of_methodNamed B.named
  have hlocks := B.notSynchronized
  have hK := hKK.1
  have fl_9 := hts (.fieldLink RX4 9 "SimonSays$Kinds" "told" "LSimonSays$Children;") (by decide +kernel)
  have fl_19 := hts (.fieldLink RX4 19 "SimonSays$Kinds" "trace" "J") (by decide +kernel)
  have cst_63 := hts (.constantLong RX4 63 (10000)) (by decide +kernel)
  have inX4 : ∀ w ∈ wsX40, w ∈ wsX4_asCopier := by decide +kernel
  subst hsz
  have hD := hD0.self (sz := s.heap.size)
  generalize hAe : va_A [(aT, .inr (1, [.ref aT_slips, .ref aT_lates, .ref aT_copied, .int T_size, .int T_littleOnes])), (aT_slips, .inl (cI, 6, .inl T_slips)), (aT_lates, .inl (cI, 6, .inl T_lates)), (aT_copied, .inl (cI, 6, .inl T_copied)), (aK, .inr (4, [.ref aT, .ref aR, .long K_trace]))] s.heap.size = A at hD ⊢
  have hA : ∀ q : Nat, s.heap.size ≤ q → A q := fun q h => by rw [← hAe]; exact Or.inr h
  have hS : va_S A s.heap s.heap [] := va_S.rf
  have hl := lv_entry ([.ref aK, .int p1]) (n := 2) (Nat.le_of_ble_eq_true rfl)
  rw [lg_entry_eq]
  generalize (lg_sl ([.ref aK, .int p1]) ++ List.replicate (2 - (lg_sl ([.ref aK, .int p1])).length) Slot.unset).toArray = ls at hl ⊢
  have hl : lv_has ls 2 [(0, .ref aK), (1, .int p1)] := hl
  unfold f_X4_asCopier at h
  refine lv_aload_n hx hb dX4_asCopier_0 rfl (lv_at hl 0 rfl) ?_
  refine lv_dup hx hb dX4_asCopier_1 rfl ?_
  refine va_get (D := D) (ci := 4) (v := .long K_trace) (C := RX4) (T := TX4) (N := 3) hx hb hts inX4 hown hK hP 4 rfl rfl 2 (by decide) fl_19 (fun _ h9 => h9) rfl dX4_asCopier_2 ?_
  refine lv_ldc2 (v := (10000 : Int64)) hx hb hown cst_63 dX4_asCopier_5 ?_
  refine lv_ladd hx hb dX4_asCopier_8 ?_
  refine va_put (D := D) (ci := 4) (v := .long (K_trace + (10000 : Int64))) (ty := .long) (C := RX4) (T := TX4) (N := 3) hx hb hts inX4 tyX4 tyX4_ok nmX4 hown hK hP hD hS 4 rfl rfl 2 (by decide) fl_19 (fun _ h9 => h9) rfl (by decide +kernel) rfl rfl (Nat.le_of_ble_eq_true rfl) dX4_asCopier_9 (fun H locs hP hD hS => ?_)
  have hP : va_P D vwCl [(aT, .inr (1, [.ref aT_slips, .ref aT_lates, .ref aT_copied, .int T_size, .int T_littleOnes])), (aT_slips, .inl (cI, 6, .inl T_slips)), (aT_lates, .inl (cI, 6, .inl T_lates)), (aT_copied, .inl (cI, 6, .inl T_copied)), (aK, .inr (4, [.ref aT, .ref aR, .long (K_trace + (10000 : Int64))]))] H := hP
  have hD : va_D A [(aT, .inr (1, [.ref aT_slips, .ref aT_lates, .ref aT_copied, .int T_size, .int T_littleOnes])), (aT_slips, .inl (cI, 6, .inl T_slips)), (aT_lates, .inl (cI, 6, .inl T_lates)), (aT_copied, .inl (cI, 6, .inl T_copied)), (aK, .inr (4, [.ref aT, .ref aR, .long (K_trace + (10000 : Int64))]))] := hD
  refine lv_aload_n hx hb dX4_asCopier_12 rfl (lv_at hl 0 rfl) ?_
  refine lv_iload_n hx hb dX4_asCopier_13 rfl (lv_at hl 1 rfl) ?_
  obtain ⟨y1, qy1, h⟩ := ob_some h
  have hPc : va_P D vwCl [(aT, .inr (1, [.ref aT_slips, .ref aT_lates, .ref aT_copied, .int T_size, .int T_littleOnes])), (aT_slips, .inl (cI, 6, .inl T_slips)), (aT_lates, .inl (cI, 6, .inl T_lates)), (aK, .inr (4, [.ref aT, .ref aR, .long (K_trace + (10000 : Int64))]))] H := hP.sub [0, 1, 2, 4] rfl
  have hDc : va_D A [(aT, .inr (1, [.ref aT_slips, .ref aT_lates, .ref aT_copied, .int T_size, .int T_littleOnes])), (aT_slips, .inl (cI, 6, .inl T_slips)), (aT_lates, .inl (cI, 6, .inl T_lates)), (aK, .inr (4, [.ref aT, .ref aR, .long (K_trace + (10000 : Int64))]))] := hD.sub [0, 1, 2, 4] (by decide) rfl
  have hFc := va_free (wc := [(aT, .inr (1, [.ref aT_slips, .ref aT_lates, .ref aT_copied, .int T_size, .int T_littleOnes])), (aT_slips, .inl (cI, 6, .inl T_slips)), (aT_lates, .inl (cI, 6, .inl T_lates)), (aK, .inr (4, [.ref aT, .ref aR, .long (K_trace + (10000 : Int64))]))]) hD hS hA [0, 1, 2, 4] rfl
  refine va_calli (va_runV (As := [.int p1]) (rest := []) ⟨hx, hb, hml, hown, hts⟩ (c_X4_asWatcher l D cI cJ cZ cO aT aT_slips aT_lates aK aT_copied aR T_size T_littleOnes T_slips T_lates (K_trace + (10000 : Int64)) H.size p1 y1 qy1) (cwV 1 hts gX4_asCopier_X4_asWatcher rfl rfl rfl (by decide +kernel) ⟨Nat.le_of_ble_eq_true rfl, Nat.le_of_ble_eq_true rfl⟩) ⟨fb_i, va_recv hK hP (ci := 4) (q0 := 4) rfl rfl, fun U hU hW => ⟨rfl, by rw [hU], by rw [hU]; exact hPc, KK.warm hW hKK, hDc.weaken (fun _ _ _ _ => trivial)⟩⟩ rfl rfl hl.1 rfl (lv_room (Nat.le_of_ble_eq_true rfl)) dX4_asCopier_14 ⟨Nat.le_of_ble_eq_true rfl, Nat.le_of_ble_eq_true rfl⟩) hS (fun q _ h => hFc q h) hFc (fun r u t H1 locs ht hvm hw hB hz1 hk1 hS => ?_)
  obtain ⟨hP1, hD1⟩ := hB
  rw [ht] at hP1
  replace hw := hw.symm
  subst hw
  obtain ⟨hP, hD⟩ := va_join (wr := [(aT_copied, .inl (cI, 6, .inl T_copied))]) (w1 := [(aT, .inr (1, [.ref aT_slips, .ref aT_lates, .ref aT_copied, .int T_size, .int T_littleOnes])), (aT_slips, .inl (cI, 6, .inl T_slips)), (aT_lates, .inl (cI, 6, .inl T_lates)), (aK, .inr (4, [.ref aT, .ref aR, .long y1.2]))]) hP hD [0, 1, 2, 4] [3] rfl rfl (by decide) (by decide) hk1 hFc hP1 hD1
  generalize H1 = H at hP hS ⊢
  have hP : va_P D vwCl [(aT, .inr (1, [.ref aT_slips, .ref aT_lates, .ref aT_copied, .int T_size, .int T_littleOnes])), (aT_slips, .inl (cI, 6, .inl T_slips)), (aT_lates, .inl (cI, 6, .inl T_lates)), (aT_copied, .inl (cI, 6, .inl T_copied)), (aK, .inr (4, [.ref aT, .ref aR, .long y1.2]))] H := hP.sub [1, 2, 3, 0, 4] rfl
  have hD : va_D A [(aT, .inr (1, [.ref aT_slips, .ref aT_lates, .ref aT_copied, .int T_size, .int T_littleOnes])), (aT_slips, .inl (cI, 6, .inl T_slips)), (aT_lates, .inl (cI, 6, .inl T_lates)), (aT_copied, .inl (cI, 6, .inl T_copied)), (aK, .inr (4, [.ref aT, .ref aR, .long y1.2]))] := hD.sub [1, 2, 3, 0, 4] (by decide) rfl
  refine lv_aload_n hx hb dX4_asCopier_17 rfl (lv_at hl 0 rfl) ?_
  refine va_get (D := D) (ci := 4) (v := .ref aT) (C := RX4) (T := TX4) (N := 3) hx hb hts inX4 hown hK hP 4 rfl rfl 0 (by decide) fl_9 (fun _ h9 => h9) rfl dX4_asCopier_18 ?_
  refine lv_iload_n hx hb dX4_asCopier_21 rfl (lv_at hl 1 rfl) ?_
  obtain ⟨y2, qy2, h⟩ := ob_some h
  have hPc : va_P D vwCl [(aT, .inr (1, [.ref aT_slips, .ref aT_lates, .ref aT_copied, .int T_size, .int T_littleOnes])), (aT_copied, .inl (cI, 6, .inl T_copied))] H := hP.sub [0, 3] rfl
  refine vp_callSi (va_Run.run (va_runV (As := [.int p1]) (rest := [.int y1.1]) ⟨hx, hb, hml, hown, hts⟩ (c_X1_howManyCopy l D cI cJ cZ cO aT aT_copied aT_slips aT_lates T_size T_littleOnes T_copied p1 y2 qy2) (cwV 1 hts gX4_asCopier_X1_howManyCopy rfl rfl rfl (by decide +kernel) ⟨Nat.le_of_ble_eq_true rfl, Nat.le_of_ble_eq_true rfl⟩) ⟨fb_p, va_recv hK hP (ci := 1) (q0 := 0) rfl rfl, fun U hU hW => ⟨rfl, by rw [hU]; exact hPc, KK.warm hW hKK⟩⟩ rfl rfl hl.1 rfl (lv_room (Nat.le_of_ble_eq_true rfl)) dX4_asCopier_22 ⟨Nat.le_of_ble_eq_true rfl, Nat.le_of_ble_eq_true rfl⟩)) (fun r hr => ?_)
  replace hr := hr.symm
  subst hr
  refine lv_iadd hx hb dX4_asCopier_25 ?_
  have hy := Option.some.inj h
  subst hy
  exact W.iret (v := (y1.1 + y2)) hx hb hr (fun t ht hW => ⟨⟨(y1.1 + y2), (), rfl, rfl, by rw [ht]; exact hP, hD⟩, hS.F ht⟩) hS.2.2 dX4_asCopier_26

def f_X4_asListener (R_in : Int32) (T_size : Int32) (T_slips : Nat → Int32) (K_trace : Int64) (p1 : Int32) : Option (Int32 × Int64) := (Option.bind (f_X4_asChild T_size T_slips (K_trace + (100000 : Int64)) p1) (fun y1 => some ((y1.1 + (f_X6_howManyIn R_in)), y1.2)))
set_option maxHeartbeats 8000000 in
set_option maxRecDepth 100000 in
theorem c_X4_asListener (l : Launch) (D : va_G) (cI cJ cZ cO : ClassId) (aR : Nat) (aT : Nat) (aT_slips : Nat) (aK : Nat) (aT_lates : Nat) (aT_copied : Nat) (R_in : Int32) (R_streak : Int32) (R_lot : Int32) (T_size : Int32) (T_littleOnes : Int32) (T_slips : Nat → Int32) (K_trace : Int64) (sz : Nat) (p1 : Int32)  (y0 : Int32 × Int64) (h : f_X4_asListener R_in T_size T_slips K_trace p1 = some y0) : Met l yX4_asListener wsX4_asListener ({ frames := 3, cells := 0, slots := 0, locals := 63 } : Room) (va_Pc [.ref aK, .int p1] (fun U => U.heap.size = sz ∧ va_P D vwCl [(aR, .inr (6, [.ref aT, .int R_in, .int R_streak, .int R_lot])), (aT, .inr (1, [.ref aT_slips, .ref aT_lates, .ref aT_copied, .int T_size, .int T_littleOnes])), (aT_slips, .inl (cI, 6, .inl T_slips)), (aK, .inr (4, [.ref aT, .ref aR, .long K_trace]))] U.heap ∧ KK D cI cJ cZ cO U ∧ va_D (fun _ => True) [(aR, .inr (6, [.ref aT, .int R_in, .int R_streak, .int R_lot])), (aT, .inr (1, [.ref aT_slips, .ref aT_lates, .ref aT_copied, .int T_size, .int T_littleOnes])), (aT_slips, .inl (cI, 6, .inl T_slips)), (aK, .inr (4, [.ref aT, .ref aR, .long K_trace]))])) (va_Qi (fun (r : Int32) (_ : Unit) => r = y0.1) (fun (_ : Unit) t => va_P D vwCl [(aR, .inr (6, [.ref aT, .int R_in, .int R_streak, .int R_lot])), (aT, .inr (1, [.ref aT_slips, .ref aT_lates, .ref aT_copied, .int T_size, .int T_littleOnes])), (aT_slips, .inl (cI, 6, .inl T_slips)), (aK, .inr (4, [.ref aT, .ref aR, .long y0.2]))] t.heap ∧ va_D (va_A [(aR, .inr (6, [.ref aT, .int R_in, .int R_streak, .int R_lot])), (aT, .inr (1, [.ref aT_slips, .ref aT_lates, .ref aT_copied, .int T_size, .int T_littleOnes])), (aT_slips, .inl (cI, 6, .inl T_slips)), (aK, .inr (4, [.ref aT, .ref aR, .long K_trace]))] sz) [(aR, .inr (6, [.ref aT, .int R_in, .int R_streak, .int R_lot])), (aT, .inr (1, [.ref aT_slips, .ref aT_lates, .ref aT_copied, .int T_size, .int T_littleOnes])), (aT_slips, .inl (cI, 6, .inl T_slips)), (aK, .inr (4, [.ref aT, .ref aR, .long y0.2]))]) (va_A [(aR, .inr (6, [.ref aT, .int R_in, .int R_streak, .int R_lot])), (aT, .inr (1, [.ref aT_slips, .ref aT_lates, .ref aT_copied, .int T_size, .int T_littleOnes])), (aT_slips, .inl (cI, 6, .inl T_slips)), (aK, .inr (4, [.ref aT, .ref aR, .long K_trace]))] sz)) 0 0 (va_A [(aR, .inr (6, [.ref aT, .int R_in, .int R_streak, .int R_lot])), (aT, .inr (1, [.ref aT_slips, .ref aT_lates, .ref aT_copied, .int T_size, .int T_littleOnes])), (aT_slips, .inl (cI, 6, .inl T_slips)), (aK, .inr (4, [.ref aT, .ref aR, .long K_trace]))] sz) := by
  refine Met.ofW (cc := cX4_asListener) (maxL := 2) (ret := (some .int)) (by decide) rfl ?_
  intro p e s m args below meth c s₁ B hml hv
  obtain ⟨rfl, hsz, hP, hKK, hD0⟩ := hv
  have hx := B.exec
  have hb := B.bytes
  have hr := B.returns
  have hts := atoms_spec (ws := wsX4_asListener) B.pre
  have hown : s.vm.findClass RX4 = some m.cls := findClass_of_methodNamed B.named
  have hlocks := B.notSynchronized
  have hK := hKK.1
  have fl_15 := hts (.fieldLink RX4 15 "SimonSays$Kinds" "round" "LSimonSays$Round;") (by decide +kernel)
  have fl_19 := hts (.fieldLink RX4 19 "SimonSays$Kinds" "trace" "J") (by decide +kernel)
  have cst_68 := hts (.constantLong RX4 68 (100000)) (by decide +kernel)
  have inX4 : ∀ w ∈ wsX40, w ∈ wsX4_asListener := by decide +kernel
  subst hsz
  have hD := hD0.self (sz := s.heap.size)
  generalize hAe : va_A [(aR, .inr (6, [.ref aT, .int R_in, .int R_streak, .int R_lot])), (aT, .inr (1, [.ref aT_slips, .ref aT_lates, .ref aT_copied, .int T_size, .int T_littleOnes])), (aT_slips, .inl (cI, 6, .inl T_slips)), (aK, .inr (4, [.ref aT, .ref aR, .long K_trace]))] s.heap.size = A at hD ⊢
  have hA : ∀ q : Nat, s.heap.size ≤ q → A q := fun q h => by rw [← hAe]; exact Or.inr h
  have hS : va_S A s.heap s.heap [] := va_S.rf
  have hl := lv_entry ([.ref aK, .int p1]) (n := 2) (Nat.le_of_ble_eq_true rfl)
  rw [lg_entry_eq]
  generalize (lg_sl ([.ref aK, .int p1]) ++ List.replicate (2 - (lg_sl ([.ref aK, .int p1])).length) Slot.unset).toArray = ls at hl ⊢
  have hl : lv_has ls 2 [(0, .ref aK), (1, .int p1)] := hl
  unfold f_X4_asListener at h
  refine lv_aload_n hx hb dX4_asListener_0 rfl (lv_at hl 0 rfl) ?_
  refine lv_dup hx hb dX4_asListener_1 rfl ?_
  refine va_get (D := D) (ci := 4) (v := .long K_trace) (C := RX4) (T := TX4) (N := 3) hx hb hts inX4 hown hK hP 3 rfl rfl 2 (by decide) fl_19 (fun _ h9 => h9) rfl dX4_asListener_2 ?_
  refine lv_ldc2 (v := (100000 : Int64)) hx hb hown cst_68 dX4_asListener_5 ?_
  refine lv_ladd hx hb dX4_asListener_8 ?_
  refine va_put (D := D) (ci := 4) (v := .long (K_trace + (100000 : Int64))) (ty := .long) (C := RX4) (T := TX4) (N := 3) hx hb hts inX4 tyX4 tyX4_ok nmX4 hown hK hP hD hS 3 rfl rfl 2 (by decide) fl_19 (fun _ h9 => h9) rfl (by decide +kernel) rfl rfl (Nat.le_of_ble_eq_true rfl) dX4_asListener_9 (fun H locs hP hD hS => ?_)
  have hP : va_P D vwCl [(aR, .inr (6, [.ref aT, .int R_in, .int R_streak, .int R_lot])), (aT, .inr (1, [.ref aT_slips, .ref aT_lates, .ref aT_copied, .int T_size, .int T_littleOnes])), (aT_slips, .inl (cI, 6, .inl T_slips)), (aK, .inr (4, [.ref aT, .ref aR, .long (K_trace + (100000 : Int64))]))] H := hP
  have hD : va_D A [(aR, .inr (6, [.ref aT, .int R_in, .int R_streak, .int R_lot])), (aT, .inr (1, [.ref aT_slips, .ref aT_lates, .ref aT_copied, .int T_size, .int T_littleOnes])), (aT_slips, .inl (cI, 6, .inl T_slips)), (aK, .inr (4, [.ref aT, .ref aR, .long (K_trace + (100000 : Int64))]))] := hD
  refine lv_aload_n hx hb dX4_asListener_12 rfl (lv_at hl 0 rfl) ?_
  refine lv_iload_n hx hb dX4_asListener_13 rfl (lv_at hl 1 rfl) ?_
  obtain ⟨y1, qy1, h⟩ := ob_some h
  have hPc : va_P D vwCl [(aT, .inr (1, [.ref aT_slips, .ref aT_lates, .ref aT_copied, .int T_size, .int T_littleOnes])), (aT_slips, .inl (cI, 6, .inl T_slips)), (aK, .inr (4, [.ref aT, .ref aR, .long (K_trace + (100000 : Int64))]))] H := hP.sub [1, 2, 3] rfl
  have hDc : va_D A [(aT, .inr (1, [.ref aT_slips, .ref aT_lates, .ref aT_copied, .int T_size, .int T_littleOnes])), (aT_slips, .inl (cI, 6, .inl T_slips)), (aK, .inr (4, [.ref aT, .ref aR, .long (K_trace + (100000 : Int64))]))] := hD.sub [1, 2, 3] (by decide) rfl
  have hFc := va_free (wc := [(aT, .inr (1, [.ref aT_slips, .ref aT_lates, .ref aT_copied, .int T_size, .int T_littleOnes])), (aT_slips, .inl (cI, 6, .inl T_slips)), (aK, .inr (4, [.ref aT, .ref aR, .long (K_trace + (100000 : Int64))]))]) hD hS hA [1, 2, 3] rfl
  refine va_calli (va_runV (As := [.int p1]) (rest := []) ⟨hx, hb, hml, hown, hts⟩ (c_X4_asChild l D cI cJ cZ cO aT aT_slips aK aT_lates aT_copied aR T_size T_littleOnes T_slips (K_trace + (100000 : Int64)) H.size p1 y1 qy1) (cwV 1 hts gX4_asListener_X4_asChild rfl rfl rfl (by decide +kernel) ⟨Nat.le_of_ble_eq_true rfl, Nat.le_of_ble_eq_true rfl⟩) ⟨fb_i, va_recv hK hP (ci := 4) (q0 := 3) rfl rfl, fun U hU hW => ⟨rfl, by rw [hU], by rw [hU]; exact hPc, KK.warm hW hKK, hDc.weaken (fun _ _ _ _ => trivial)⟩⟩ rfl rfl hl.1 rfl (lv_room (Nat.le_of_ble_eq_true rfl)) dX4_asListener_14 ⟨Nat.le_of_ble_eq_true rfl, Nat.le_of_ble_eq_true rfl⟩) hS (fun q _ h => hFc q h) hFc (fun r u t H1 locs ht hvm hw hB hz1 hk1 hS => ?_)
  obtain ⟨hP1, hD1⟩ := hB
  rw [ht] at hP1
  replace hw := hw.symm
  subst hw
  obtain ⟨hP, hD⟩ := va_join (wr := [(aR, .inr (6, [.ref aT, .int R_in, .int R_streak, .int R_lot]))]) (w1 := [(aT, .inr (1, [.ref aT_slips, .ref aT_lates, .ref aT_copied, .int T_size, .int T_littleOnes])), (aT_slips, .inl (cI, 6, .inl T_slips)), (aK, .inr (4, [.ref aT, .ref aR, .long y1.2]))]) hP hD [1, 2, 3] [0] rfl rfl (by decide) (by decide) hk1 hFc hP1 hD1
  generalize H1 = H at hP hS ⊢
  have hP : va_P D vwCl [(aR, .inr (6, [.ref aT, .int R_in, .int R_streak, .int R_lot])), (aT, .inr (1, [.ref aT_slips, .ref aT_lates, .ref aT_copied, .int T_size, .int T_littleOnes])), (aT_slips, .inl (cI, 6, .inl T_slips)), (aK, .inr (4, [.ref aT, .ref aR, .long y1.2]))] H := hP.sub [0, 1, 2, 3] rfl
  have hD : va_D A [(aR, .inr (6, [.ref aT, .int R_in, .int R_streak, .int R_lot])), (aT, .inr (1, [.ref aT_slips, .ref aT_lates, .ref aT_copied, .int T_size, .int T_littleOnes])), (aT_slips, .inl (cI, 6, .inl T_slips)), (aK, .inr (4, [.ref aT, .ref aR, .long y1.2]))] := hD.sub [0, 1, 2, 3] (by decide) rfl
  refine lv_aload_n hx hb dX4_asListener_17 rfl (lv_at hl 0 rfl) ?_
  refine va_get (D := D) (ci := 4) (v := .ref aR) (C := RX4) (T := TX4) (N := 3) hx hb hts inX4 hown hK hP 3 rfl rfl 1 (by decide) fl_15 (fun _ h9 => h9) rfl dX4_asListener_18 ?_
  have hPc : va_P D vwCl [(aR, .inr (6, [.ref aT, .int R_in, .int R_streak, .int R_lot]))] H := hP.sub [0] rfl
  refine vp_callSi (va_Run.run (va_runV (As := []) (rest := [.int y1.1]) ⟨hx, hb, hml, hown, hts⟩ (c_X6_howManyIn l D cI cJ cZ cO aR aT R_in R_streak R_lot _ rfl) (cwV 0 hts gX4_asListener_X6_howManyIn rfl rfl rfl (by decide +kernel) ⟨Nat.le_of_ble_eq_true rfl, Nat.le_of_ble_eq_true rfl⟩) ⟨fb_p, va_recv hK hP (ci := 6) (q0 := 0) rfl rfl, fun U hU hW => ⟨rfl, by rw [hU]; exact hPc, KK.warm hW hKK⟩⟩ rfl rfl hl.1 rfl (lv_room (Nat.le_of_ble_eq_true rfl)) dX4_asListener_21 ⟨Nat.le_of_ble_eq_true rfl, Nat.le_of_ble_eq_true rfl⟩)) (fun r hr => ?_)
  replace hr := hr.symm
  subst hr
  refine lv_iadd hx hb dX4_asListener_24 ?_
  have hy := Option.some.inj h
  subst hy
  exact W.iret (v := (y1.1 + (f_X6_howManyIn R_in))) hx hb hr (fun t ht hW => ⟨⟨(y1.1 + (f_X6_howManyIn R_in)), (), rfl, rfl, by rw [ht]; exact hP, hD⟩, hS.F ht⟩) hS.2.2 dX4_asListener_25

def f_X4_rateAs (R_in : Int32) (R_streak : Int32) (T_size : Int32) (T_slips : Nat → Int32) (T_lates : Nat → Int32) (T_copied : Nat → Int32) (K_trace : Int64) (p1 : Int32) (p2 : Int32) : Option (Int32 × Int64) := (if p1 = (0 : Int32) then (Option.bind (f_X4_asChild T_size T_slips K_trace p2) (fun y1 => some (y1.1, y1.2))) else (if p1 = (1 : Int32) then (Option.bind (f_X4_asDreamer R_streak T_size T_slips K_trace p2) (fun y3 => some (y3.1, y3.2))) else (if p1 = (2 : Int32) then (Option.bind (f_X4_asWatcher T_size T_slips T_lates K_trace p2) (fun y5 => some (y5.1, y5.2))) else (if p1 = (3 : Int32) then (Option.bind (f_X4_asRunner R_streak T_size T_slips K_trace p2) (fun y7 => some (y7.1, y7.2))) else (if p1 = (4 : Int32) then (Option.bind (f_X4_asCopier T_size T_slips T_lates T_copied K_trace p2) (fun y9 => some (y9.1, y9.2))) else (if p1 = (5 : Int32) then (Option.bind (f_X4_asListener R_in T_size T_slips K_trace p2) (fun y11 => some (y11.1, y11.2))) else some ((-1000000 : Int32), K_trace)))))))
set_option maxHeartbeats 8000000 in
set_option maxRecDepth 100000 in
theorem c_X4_rateAs (l : Launch) (D : va_G) (cI cJ cZ cO : ClassId) (aR : Nat) (aT : Nat) (aT_slips : Nat) (aT_lates : Nat) (aT_copied : Nat) (aK : Nat) (R_in : Int32) (R_streak : Int32) (R_lot : Int32) (T_size : Int32) (T_littleOnes : Int32) (T_slips : Nat → Int32) (T_lates : Nat → Int32) (T_copied : Nat → Int32) (K_trace : Int64) (sz : Nat) (p1 : Int32) (p2 : Int32)  (y0 : Int32 × Int64) (h : f_X4_rateAs R_in R_streak T_size T_slips T_lates T_copied K_trace p1 p2 = some y0) : Met l yX4_rateAs wsX4_rateAs ({ frames := 5, cells := 0, slots := 0, locals := 105 } : Room) (va_Pc [.ref aK, .int p1, .int p2] (fun U => U.heap.size = sz ∧ va_P D vwCl [(aR, .inr (6, [.ref aT, .int R_in, .int R_streak, .int R_lot])), (aT, .inr (1, [.ref aT_slips, .ref aT_lates, .ref aT_copied, .int T_size, .int T_littleOnes])), (aT_slips, .inl (cI, 6, .inl T_slips)), (aT_lates, .inl (cI, 6, .inl T_lates)), (aT_copied, .inl (cI, 6, .inl T_copied)), (aK, .inr (4, [.ref aT, .ref aR, .long K_trace]))] U.heap ∧ KK D cI cJ cZ cO U ∧ va_D (fun _ => True) [(aR, .inr (6, [.ref aT, .int R_in, .int R_streak, .int R_lot])), (aT, .inr (1, [.ref aT_slips, .ref aT_lates, .ref aT_copied, .int T_size, .int T_littleOnes])), (aT_slips, .inl (cI, 6, .inl T_slips)), (aT_lates, .inl (cI, 6, .inl T_lates)), (aT_copied, .inl (cI, 6, .inl T_copied)), (aK, .inr (4, [.ref aT, .ref aR, .long K_trace]))])) (va_Qi (fun (r : Int32) (_ : Unit) => r = y0.1) (fun (_ : Unit) t => va_P D vwCl [(aR, .inr (6, [.ref aT, .int R_in, .int R_streak, .int R_lot])), (aT, .inr (1, [.ref aT_slips, .ref aT_lates, .ref aT_copied, .int T_size, .int T_littleOnes])), (aT_slips, .inl (cI, 6, .inl T_slips)), (aT_lates, .inl (cI, 6, .inl T_lates)), (aT_copied, .inl (cI, 6, .inl T_copied)), (aK, .inr (4, [.ref aT, .ref aR, .long y0.2]))] t.heap ∧ va_D (va_A [(aR, .inr (6, [.ref aT, .int R_in, .int R_streak, .int R_lot])), (aT, .inr (1, [.ref aT_slips, .ref aT_lates, .ref aT_copied, .int T_size, .int T_littleOnes])), (aT_slips, .inl (cI, 6, .inl T_slips)), (aT_lates, .inl (cI, 6, .inl T_lates)), (aT_copied, .inl (cI, 6, .inl T_copied)), (aK, .inr (4, [.ref aT, .ref aR, .long K_trace]))] sz) [(aR, .inr (6, [.ref aT, .int R_in, .int R_streak, .int R_lot])), (aT, .inr (1, [.ref aT_slips, .ref aT_lates, .ref aT_copied, .int T_size, .int T_littleOnes])), (aT_slips, .inl (cI, 6, .inl T_slips)), (aT_lates, .inl (cI, 6, .inl T_lates)), (aT_copied, .inl (cI, 6, .inl T_copied)), (aK, .inr (4, [.ref aT, .ref aR, .long y0.2]))]) (va_A [(aR, .inr (6, [.ref aT, .int R_in, .int R_streak, .int R_lot])), (aT, .inr (1, [.ref aT_slips, .ref aT_lates, .ref aT_copied, .int T_size, .int T_littleOnes])), (aT_slips, .inl (cI, 6, .inl T_slips)), (aT_lates, .inl (cI, 6, .inl T_lates)), (aT_copied, .inl (cI, 6, .inl T_copied)), (aK, .inr (4, [.ref aT, .ref aR, .long K_trace]))] sz)) 0 0 (va_A [(aR, .inr (6, [.ref aT, .int R_in, .int R_streak, .int R_lot])), (aT, .inr (1, [.ref aT_slips, .ref aT_lates, .ref aT_copied, .int T_size, .int T_littleOnes])), (aT_slips, .inl (cI, 6, .inl T_slips)), (aT_lates, .inl (cI, 6, .inl T_lates)), (aT_copied, .inl (cI, 6, .inl T_copied)), (aK, .inr (4, [.ref aT, .ref aR, .long K_trace]))] sz) := by
  refine Met.ofW (cc := cX4_rateAs) (maxL := 3) (ret := (some .int)) (by decide) rfl ?_
  intro p e s m args below meth c s₁ B hml hv
  obtain ⟨rfl, hsz, hP, hKK, hD0⟩ := hv
  have hx := B.exec
  have hb := B.bytes
  have hr := B.returns
  have hts := atoms_spec (ws := wsX4_rateAs) B.pre
  have hown : s.vm.findClass RX4 = some m.cls := findClass_of_methodNamed B.named
  have hlocks := B.notSynchronized
  have hK := hKK.1
  have cst_42 := hts (.constant RX4 42 (-1000000)) (by decide +kernel)
  subst hsz
  have hD := hD0.self (sz := s.heap.size)
  generalize hAe : va_A [(aR, .inr (6, [.ref aT, .int R_in, .int R_streak, .int R_lot])), (aT, .inr (1, [.ref aT_slips, .ref aT_lates, .ref aT_copied, .int T_size, .int T_littleOnes])), (aT_slips, .inl (cI, 6, .inl T_slips)), (aT_lates, .inl (cI, 6, .inl T_lates)), (aT_copied, .inl (cI, 6, .inl T_copied)), (aK, .inr (4, [.ref aT, .ref aR, .long K_trace]))] s.heap.size = A at hD ⊢
  have hA : ∀ q : Nat, s.heap.size ≤ q → A q := fun q h => by rw [← hAe]; exact Or.inr h
  have hS : va_S A s.heap s.heap [] := va_S.rf
  have hl := lv_entry ([.ref aK, .int p1, .int p2]) (n := 3) (Nat.le_of_ble_eq_true rfl)
  rw [lg_entry_eq]
  generalize (lg_sl ([.ref aK, .int p1, .int p2]) ++ List.replicate (3 - (lg_sl ([.ref aK, .int p1, .int p2])).length) Slot.unset).toArray = ls at hl ⊢
  have hl : lv_has ls 3 [(0, .ref aK), (1, .int p1), (2, .int p2)] := hl
  unfold f_X4_rateAs at h
  refine lv_iload_n hx hb dX4_rateAs_0 rfl (lv_at hl 1 rfl) ?_
  by_cases s_2 : p1 = (0 : Int32)
  · replace h := if_p s_2 h
    refine lv_tableIn (off := 39) (tgt := 40) hx hb dX4_rateAs_1 (by rw [s_2]; decide) (by rw [s_2]; decide) (by rw [s_2]; decide) (by decide) ?_
    refine lv_aload_n hx hb dX4_rateAs_40 rfl (lv_at hl 0 rfl) ?_
    refine lv_iload_n hx hb dX4_rateAs_41 rfl (lv_at hl 2 rfl) ?_
    obtain ⟨y1, qy1, h⟩ := ob_some h
    have hPc : va_P D vwCl [(aT, .inr (1, [.ref aT_slips, .ref aT_lates, .ref aT_copied, .int T_size, .int T_littleOnes])), (aT_slips, .inl (cI, 6, .inl T_slips)), (aK, .inr (4, [.ref aT, .ref aR, .long K_trace]))] s.heap := hP.sub [1, 2, 5] rfl
    have hDc : va_D A [(aT, .inr (1, [.ref aT_slips, .ref aT_lates, .ref aT_copied, .int T_size, .int T_littleOnes])), (aT_slips, .inl (cI, 6, .inl T_slips)), (aK, .inr (4, [.ref aT, .ref aR, .long K_trace]))] := hD.sub [1, 2, 5] (by decide) rfl
    have hFc := va_free (wc := [(aT, .inr (1, [.ref aT_slips, .ref aT_lates, .ref aT_copied, .int T_size, .int T_littleOnes])), (aT_slips, .inl (cI, 6, .inl T_slips)), (aK, .inr (4, [.ref aT, .ref aR, .long K_trace]))]) hD hS hA [1, 2, 5] rfl
    refine va_calli (va_runV (As := [.int p2]) (rest := []) ⟨hx, hb, hml, hown, hts⟩ (c_X4_asChild l D cI cJ cZ cO aT aT_slips aK aT_lates aT_copied aR T_size T_littleOnes T_slips K_trace s.heap.size p2 y1 qy1) (cwV 1 hts gX4_rateAs_X4_asChild rfl rfl rfl (by decide +kernel) ⟨Nat.le_of_ble_eq_true rfl, Nat.le_of_ble_eq_true rfl⟩) ⟨fb_i, va_recv hK hP (ci := 4) (q0 := 5) rfl rfl, fun U hU hW => ⟨rfl, by rw [hU], by rw [hU]; exact hPc, KK.warm hW hKK, hDc.weaken (fun _ _ _ _ => trivial)⟩⟩ rfl rfl hl.1 rfl (lv_room (Nat.le_of_ble_eq_true rfl)) dX4_rateAs_42 ⟨Nat.le_of_ble_eq_true rfl, Nat.le_of_ble_eq_true rfl⟩) hS (fun q _ h => hFc q h) hFc (fun r u t H1 locs ht hvm hw hB hz1 hk1 hS => ?_)
    obtain ⟨hP1, hD1⟩ := hB
    rw [ht] at hP1
    replace hw := hw.symm
    subst hw
    obtain ⟨hP, hD⟩ := va_join (wr := [(aR, .inr (6, [.ref aT, .int R_in, .int R_streak, .int R_lot])), (aT_lates, .inl (cI, 6, .inl T_lates)), (aT_copied, .inl (cI, 6, .inl T_copied))]) (w1 := [(aT, .inr (1, [.ref aT_slips, .ref aT_lates, .ref aT_copied, .int T_size, .int T_littleOnes])), (aT_slips, .inl (cI, 6, .inl T_slips)), (aK, .inr (4, [.ref aT, .ref aR, .long y1.2]))]) hP hD [1, 2, 5] [0, 3, 4] rfl rfl (by decide) (by decide) hk1 hFc hP1 hD1
    generalize H1 = H at hP hS ⊢
    have hP : va_P D vwCl [(aR, .inr (6, [.ref aT, .int R_in, .int R_streak, .int R_lot])), (aT, .inr (1, [.ref aT_slips, .ref aT_lates, .ref aT_copied, .int T_size, .int T_littleOnes])), (aT_slips, .inl (cI, 6, .inl T_slips)), (aT_lates, .inl (cI, 6, .inl T_lates)), (aT_copied, .inl (cI, 6, .inl T_copied)), (aK, .inr (4, [.ref aT, .ref aR, .long y1.2]))] H := hP.sub [0, 3, 4, 1, 2, 5] rfl
    have hD : va_D A [(aR, .inr (6, [.ref aT, .int R_in, .int R_streak, .int R_lot])), (aT, .inr (1, [.ref aT_slips, .ref aT_lates, .ref aT_copied, .int T_size, .int T_littleOnes])), (aT_slips, .inl (cI, 6, .inl T_slips)), (aT_lates, .inl (cI, 6, .inl T_lates)), (aT_copied, .inl (cI, 6, .inl T_copied)), (aK, .inr (4, [.ref aT, .ref aR, .long y1.2]))] := hD.sub [0, 3, 4, 1, 2, 5] (by decide) rfl
    have hy := Option.some.inj h
    subst hy
    exact W.iret (v := y1.1) hx hb hr (fun t ht hW => ⟨⟨y1.1, (), rfl, rfl, by rw [ht]; exact hP, hD⟩, hS.F ht⟩) hS.2.2 dX4_rateAs_45
  replace h := if_n s_2 h
  by_cases s_4 : p1 = (1 : Int32)
  · replace h := if_p s_4 h
    refine lv_tableIn (off := 45) (tgt := 46) hx hb dX4_rateAs_1 (by rw [s_4]; decide) (by rw [s_4]; decide) (by rw [s_4]; decide) (by decide) ?_
    refine lv_aload_n hx hb dX4_rateAs_46 rfl (lv_at hl 0 rfl) ?_
    refine lv_iload_n hx hb dX4_rateAs_47 rfl (lv_at hl 2 rfl) ?_
    obtain ⟨y3, qy3, h⟩ := ob_some h
    have hPc : va_P D vwCl [(aR, .inr (6, [.ref aT, .int R_in, .int R_streak, .int R_lot])), (aT, .inr (1, [.ref aT_slips, .ref aT_lates, .ref aT_copied, .int T_size, .int T_littleOnes])), (aT_slips, .inl (cI, 6, .inl T_slips)), (aK, .inr (4, [.ref aT, .ref aR, .long K_trace]))] s.heap := hP.sub [0, 1, 2, 5] rfl
    have hDc : va_D A [(aR, .inr (6, [.ref aT, .int R_in, .int R_streak, .int R_lot])), (aT, .inr (1, [.ref aT_slips, .ref aT_lates, .ref aT_copied, .int T_size, .int T_littleOnes])), (aT_slips, .inl (cI, 6, .inl T_slips)), (aK, .inr (4, [.ref aT, .ref aR, .long K_trace]))] := hD.sub [0, 1, 2, 5] (by decide) rfl
    have hFc := va_free (wc := [(aR, .inr (6, [.ref aT, .int R_in, .int R_streak, .int R_lot])), (aT, .inr (1, [.ref aT_slips, .ref aT_lates, .ref aT_copied, .int T_size, .int T_littleOnes])), (aT_slips, .inl (cI, 6, .inl T_slips)), (aK, .inr (4, [.ref aT, .ref aR, .long K_trace]))]) hD hS hA [0, 1, 2, 5] rfl
    refine va_calli (va_runV (As := [.int p2]) (rest := []) ⟨hx, hb, hml, hown, hts⟩ (c_X4_asDreamer l D cI cJ cZ cO aR aT aT_slips aK aT_lates aT_copied R_in R_streak R_lot T_size T_littleOnes T_slips K_trace s.heap.size p2 y3 qy3) (cwV 1 hts gX4_rateAs_X4_asDreamer rfl rfl rfl (by decide +kernel) ⟨Nat.le_of_ble_eq_true rfl, Nat.le_of_ble_eq_true rfl⟩) ⟨fb_i, va_recv hK hP (ci := 4) (q0 := 5) rfl rfl, fun U hU hW => ⟨rfl, by rw [hU], by rw [hU]; exact hPc, KK.warm hW hKK, hDc.weaken (fun _ _ _ _ => trivial)⟩⟩ rfl rfl hl.1 rfl (lv_room (Nat.le_of_ble_eq_true rfl)) dX4_rateAs_48 ⟨Nat.le_of_ble_eq_true rfl, Nat.le_of_ble_eq_true rfl⟩) hS (fun q _ h => hFc q h) hFc (fun r u t H1 locs ht hvm hw hB hz1 hk1 hS => ?_)
    obtain ⟨hP1, hD1⟩ := hB
    rw [ht] at hP1
    replace hw := hw.symm
    subst hw
    obtain ⟨hP, hD⟩ := va_join (wr := [(aT_lates, .inl (cI, 6, .inl T_lates)), (aT_copied, .inl (cI, 6, .inl T_copied))]) (w1 := [(aR, .inr (6, [.ref aT, .int R_in, .int R_streak, .int R_lot])), (aT, .inr (1, [.ref aT_slips, .ref aT_lates, .ref aT_copied, .int T_size, .int T_littleOnes])), (aT_slips, .inl (cI, 6, .inl T_slips)), (aK, .inr (4, [.ref aT, .ref aR, .long y3.2]))]) hP hD [0, 1, 2, 5] [3, 4] rfl rfl (by decide) (by decide) hk1 hFc hP1 hD1
    generalize H1 = H at hP hS ⊢
    have hP : va_P D vwCl [(aR, .inr (6, [.ref aT, .int R_in, .int R_streak, .int R_lot])), (aT, .inr (1, [.ref aT_slips, .ref aT_lates, .ref aT_copied, .int T_size, .int T_littleOnes])), (aT_slips, .inl (cI, 6, .inl T_slips)), (aT_lates, .inl (cI, 6, .inl T_lates)), (aT_copied, .inl (cI, 6, .inl T_copied)), (aK, .inr (4, [.ref aT, .ref aR, .long y3.2]))] H := hP.sub [2, 3, 4, 0, 1, 5] rfl
    have hD : va_D A [(aR, .inr (6, [.ref aT, .int R_in, .int R_streak, .int R_lot])), (aT, .inr (1, [.ref aT_slips, .ref aT_lates, .ref aT_copied, .int T_size, .int T_littleOnes])), (aT_slips, .inl (cI, 6, .inl T_slips)), (aT_lates, .inl (cI, 6, .inl T_lates)), (aT_copied, .inl (cI, 6, .inl T_copied)), (aK, .inr (4, [.ref aT, .ref aR, .long y3.2]))] := hD.sub [2, 3, 4, 0, 1, 5] (by decide) rfl
    have hy := Option.some.inj h
    subst hy
    exact W.iret (v := y3.1) hx hb hr (fun t ht hW => ⟨⟨y3.1, (), rfl, rfl, by rw [ht]; exact hP, hD⟩, hS.F ht⟩) hS.2.2 dX4_rateAs_51
  replace h := if_n s_4 h
  by_cases s_6 : p1 = (2 : Int32)
  · replace h := if_p s_6 h
    refine lv_tableIn (off := 51) (tgt := 52) hx hb dX4_rateAs_1 (by rw [s_6]; decide) (by rw [s_6]; decide) (by rw [s_6]; decide) (by decide) ?_
    refine lv_aload_n hx hb dX4_rateAs_52 rfl (lv_at hl 0 rfl) ?_
    refine lv_iload_n hx hb dX4_rateAs_53 rfl (lv_at hl 2 rfl) ?_
    obtain ⟨y5, qy5, h⟩ := ob_some h
    have hPc : va_P D vwCl [(aT, .inr (1, [.ref aT_slips, .ref aT_lates, .ref aT_copied, .int T_size, .int T_littleOnes])), (aT_slips, .inl (cI, 6, .inl T_slips)), (aT_lates, .inl (cI, 6, .inl T_lates)), (aK, .inr (4, [.ref aT, .ref aR, .long K_trace]))] s.heap := hP.sub [1, 2, 3, 5] rfl
    have hDc : va_D A [(aT, .inr (1, [.ref aT_slips, .ref aT_lates, .ref aT_copied, .int T_size, .int T_littleOnes])), (aT_slips, .inl (cI, 6, .inl T_slips)), (aT_lates, .inl (cI, 6, .inl T_lates)), (aK, .inr (4, [.ref aT, .ref aR, .long K_trace]))] := hD.sub [1, 2, 3, 5] (by decide) rfl
    have hFc := va_free (wc := [(aT, .inr (1, [.ref aT_slips, .ref aT_lates, .ref aT_copied, .int T_size, .int T_littleOnes])), (aT_slips, .inl (cI, 6, .inl T_slips)), (aT_lates, .inl (cI, 6, .inl T_lates)), (aK, .inr (4, [.ref aT, .ref aR, .long K_trace]))]) hD hS hA [1, 2, 3, 5] rfl
    refine va_calli (va_runV (As := [.int p2]) (rest := []) ⟨hx, hb, hml, hown, hts⟩ (c_X4_asWatcher l D cI cJ cZ cO aT aT_slips aT_lates aK aT_copied aR T_size T_littleOnes T_slips T_lates K_trace s.heap.size p2 y5 qy5) (cwV 1 hts gX4_rateAs_X4_asWatcher rfl rfl rfl (by decide +kernel) ⟨Nat.le_of_ble_eq_true rfl, Nat.le_of_ble_eq_true rfl⟩) ⟨fb_i, va_recv hK hP (ci := 4) (q0 := 5) rfl rfl, fun U hU hW => ⟨rfl, by rw [hU], by rw [hU]; exact hPc, KK.warm hW hKK, hDc.weaken (fun _ _ _ _ => trivial)⟩⟩ rfl rfl hl.1 rfl (lv_room (Nat.le_of_ble_eq_true rfl)) dX4_rateAs_54 ⟨Nat.le_of_ble_eq_true rfl, Nat.le_of_ble_eq_true rfl⟩) hS (fun q _ h => hFc q h) hFc (fun r u t H1 locs ht hvm hw hB hz1 hk1 hS => ?_)
    obtain ⟨hP1, hD1⟩ := hB
    rw [ht] at hP1
    replace hw := hw.symm
    subst hw
    obtain ⟨hP, hD⟩ := va_join (wr := [(aR, .inr (6, [.ref aT, .int R_in, .int R_streak, .int R_lot])), (aT_copied, .inl (cI, 6, .inl T_copied))]) (w1 := [(aT, .inr (1, [.ref aT_slips, .ref aT_lates, .ref aT_copied, .int T_size, .int T_littleOnes])), (aT_slips, .inl (cI, 6, .inl T_slips)), (aT_lates, .inl (cI, 6, .inl T_lates)), (aK, .inr (4, [.ref aT, .ref aR, .long y5.2]))]) hP hD [1, 2, 3, 5] [0, 4] rfl rfl (by decide) (by decide) hk1 hFc hP1 hD1
    generalize H1 = H at hP hS ⊢
    have hP : va_P D vwCl [(aR, .inr (6, [.ref aT, .int R_in, .int R_streak, .int R_lot])), (aT, .inr (1, [.ref aT_slips, .ref aT_lates, .ref aT_copied, .int T_size, .int T_littleOnes])), (aT_slips, .inl (cI, 6, .inl T_slips)), (aT_lates, .inl (cI, 6, .inl T_lates)), (aT_copied, .inl (cI, 6, .inl T_copied)), (aK, .inr (4, [.ref aT, .ref aR, .long y5.2]))] H := hP.sub [0, 2, 3, 4, 1, 5] rfl
    have hD : va_D A [(aR, .inr (6, [.ref aT, .int R_in, .int R_streak, .int R_lot])), (aT, .inr (1, [.ref aT_slips, .ref aT_lates, .ref aT_copied, .int T_size, .int T_littleOnes])), (aT_slips, .inl (cI, 6, .inl T_slips)), (aT_lates, .inl (cI, 6, .inl T_lates)), (aT_copied, .inl (cI, 6, .inl T_copied)), (aK, .inr (4, [.ref aT, .ref aR, .long y5.2]))] := hD.sub [0, 2, 3, 4, 1, 5] (by decide) rfl
    have hy := Option.some.inj h
    subst hy
    exact W.iret (v := y5.1) hx hb hr (fun t ht hW => ⟨⟨y5.1, (), rfl, rfl, by rw [ht]; exact hP, hD⟩, hS.F ht⟩) hS.2.2 dX4_rateAs_57
  replace h := if_n s_6 h
  by_cases s_8 : p1 = (3 : Int32)
  · replace h := if_p s_8 h
    refine lv_tableIn (off := 57) (tgt := 58) hx hb dX4_rateAs_1 (by rw [s_8]; decide) (by rw [s_8]; decide) (by rw [s_8]; decide) (by decide) ?_
    refine lv_aload_n hx hb dX4_rateAs_58 rfl (lv_at hl 0 rfl) ?_
    refine lv_iload_n hx hb dX4_rateAs_59 rfl (lv_at hl 2 rfl) ?_
    obtain ⟨y7, qy7, h⟩ := ob_some h
    have hPc : va_P D vwCl [(aR, .inr (6, [.ref aT, .int R_in, .int R_streak, .int R_lot])), (aT, .inr (1, [.ref aT_slips, .ref aT_lates, .ref aT_copied, .int T_size, .int T_littleOnes])), (aT_slips, .inl (cI, 6, .inl T_slips)), (aK, .inr (4, [.ref aT, .ref aR, .long K_trace]))] s.heap := hP.sub [0, 1, 2, 5] rfl
    have hDc : va_D A [(aR, .inr (6, [.ref aT, .int R_in, .int R_streak, .int R_lot])), (aT, .inr (1, [.ref aT_slips, .ref aT_lates, .ref aT_copied, .int T_size, .int T_littleOnes])), (aT_slips, .inl (cI, 6, .inl T_slips)), (aK, .inr (4, [.ref aT, .ref aR, .long K_trace]))] := hD.sub [0, 1, 2, 5] (by decide) rfl
    have hFc := va_free (wc := [(aR, .inr (6, [.ref aT, .int R_in, .int R_streak, .int R_lot])), (aT, .inr (1, [.ref aT_slips, .ref aT_lates, .ref aT_copied, .int T_size, .int T_littleOnes])), (aT_slips, .inl (cI, 6, .inl T_slips)), (aK, .inr (4, [.ref aT, .ref aR, .long K_trace]))]) hD hS hA [0, 1, 2, 5] rfl
    refine va_calli (va_runV (As := [.int p2]) (rest := []) ⟨hx, hb, hml, hown, hts⟩ (c_X4_asRunner l D cI cJ cZ cO aR aT aT_slips aK aT_lates aT_copied R_in R_streak R_lot T_size T_littleOnes T_slips K_trace s.heap.size p2 y7 qy7) (cwV 1 hts gX4_rateAs_X4_asRunner rfl rfl rfl (by decide +kernel) ⟨Nat.le_of_ble_eq_true rfl, Nat.le_of_ble_eq_true rfl⟩) ⟨fb_i, va_recv hK hP (ci := 4) (q0 := 5) rfl rfl, fun U hU hW => ⟨rfl, by rw [hU], by rw [hU]; exact hPc, KK.warm hW hKK, hDc.weaken (fun _ _ _ _ => trivial)⟩⟩ rfl rfl hl.1 rfl (lv_room (Nat.le_of_ble_eq_true rfl)) dX4_rateAs_60 ⟨Nat.le_of_ble_eq_true rfl, Nat.le_of_ble_eq_true rfl⟩) hS (fun q _ h => hFc q h) hFc (fun r u t H1 locs ht hvm hw hB hz1 hk1 hS => ?_)
    obtain ⟨hP1, hD1⟩ := hB
    rw [ht] at hP1
    replace hw := hw.symm
    subst hw
    obtain ⟨hP, hD⟩ := va_join (wr := [(aT_lates, .inl (cI, 6, .inl T_lates)), (aT_copied, .inl (cI, 6, .inl T_copied))]) (w1 := [(aR, .inr (6, [.ref aT, .int R_in, .int R_streak, .int R_lot])), (aT, .inr (1, [.ref aT_slips, .ref aT_lates, .ref aT_copied, .int T_size, .int T_littleOnes])), (aT_slips, .inl (cI, 6, .inl T_slips)), (aK, .inr (4, [.ref aT, .ref aR, .long y7.2]))]) hP hD [0, 1, 2, 5] [3, 4] rfl rfl (by decide) (by decide) hk1 hFc hP1 hD1
    generalize H1 = H at hP hS ⊢
    have hP : va_P D vwCl [(aR, .inr (6, [.ref aT, .int R_in, .int R_streak, .int R_lot])), (aT, .inr (1, [.ref aT_slips, .ref aT_lates, .ref aT_copied, .int T_size, .int T_littleOnes])), (aT_slips, .inl (cI, 6, .inl T_slips)), (aT_lates, .inl (cI, 6, .inl T_lates)), (aT_copied, .inl (cI, 6, .inl T_copied)), (aK, .inr (4, [.ref aT, .ref aR, .long y7.2]))] H := hP.sub [2, 3, 4, 0, 1, 5] rfl
    have hD : va_D A [(aR, .inr (6, [.ref aT, .int R_in, .int R_streak, .int R_lot])), (aT, .inr (1, [.ref aT_slips, .ref aT_lates, .ref aT_copied, .int T_size, .int T_littleOnes])), (aT_slips, .inl (cI, 6, .inl T_slips)), (aT_lates, .inl (cI, 6, .inl T_lates)), (aT_copied, .inl (cI, 6, .inl T_copied)), (aK, .inr (4, [.ref aT, .ref aR, .long y7.2]))] := hD.sub [2, 3, 4, 0, 1, 5] (by decide) rfl
    have hy := Option.some.inj h
    subst hy
    exact W.iret (v := y7.1) hx hb hr (fun t ht hW => ⟨⟨y7.1, (), rfl, rfl, by rw [ht]; exact hP, hD⟩, hS.F ht⟩) hS.2.2 dX4_rateAs_63
  replace h := if_n s_8 h
  by_cases s_10 : p1 = (4 : Int32)
  · replace h := if_p s_10 h
    refine lv_tableIn (off := 63) (tgt := 64) hx hb dX4_rateAs_1 (by rw [s_10]; decide) (by rw [s_10]; decide) (by rw [s_10]; decide) (by decide) ?_
    refine lv_aload_n hx hb dX4_rateAs_64 rfl (lv_at hl 0 rfl) ?_
    refine lv_iload_n hx hb dX4_rateAs_65 rfl (lv_at hl 2 rfl) ?_
    obtain ⟨y9, qy9, h⟩ := ob_some h
    have hPc : va_P D vwCl [(aT, .inr (1, [.ref aT_slips, .ref aT_lates, .ref aT_copied, .int T_size, .int T_littleOnes])), (aT_slips, .inl (cI, 6, .inl T_slips)), (aT_lates, .inl (cI, 6, .inl T_lates)), (aT_copied, .inl (cI, 6, .inl T_copied)), (aK, .inr (4, [.ref aT, .ref aR, .long K_trace]))] s.heap := hP.sub [1, 2, 3, 4, 5] rfl
    have hDc : va_D A [(aT, .inr (1, [.ref aT_slips, .ref aT_lates, .ref aT_copied, .int T_size, .int T_littleOnes])), (aT_slips, .inl (cI, 6, .inl T_slips)), (aT_lates, .inl (cI, 6, .inl T_lates)), (aT_copied, .inl (cI, 6, .inl T_copied)), (aK, .inr (4, [.ref aT, .ref aR, .long K_trace]))] := hD.sub [1, 2, 3, 4, 5] (by decide) rfl
    have hFc := va_free (wc := [(aT, .inr (1, [.ref aT_slips, .ref aT_lates, .ref aT_copied, .int T_size, .int T_littleOnes])), (aT_slips, .inl (cI, 6, .inl T_slips)), (aT_lates, .inl (cI, 6, .inl T_lates)), (aT_copied, .inl (cI, 6, .inl T_copied)), (aK, .inr (4, [.ref aT, .ref aR, .long K_trace]))]) hD hS hA [1, 2, 3, 4, 5] rfl
    refine va_calli (va_runV (As := [.int p2]) (rest := []) ⟨hx, hb, hml, hown, hts⟩ (c_X4_asCopier l D cI cJ cZ cO aT aT_slips aT_lates aT_copied aK aR T_size T_littleOnes T_slips T_lates T_copied K_trace s.heap.size p2 y9 qy9) (cwV 1 hts gX4_rateAs_X4_asCopier rfl rfl rfl (by decide +kernel) ⟨Nat.le_of_ble_eq_true rfl, Nat.le_of_ble_eq_true rfl⟩) ⟨fb_i, va_recv hK hP (ci := 4) (q0 := 5) rfl rfl, fun U hU hW => ⟨rfl, by rw [hU], by rw [hU]; exact hPc, KK.warm hW hKK, hDc.weaken (fun _ _ _ _ => trivial)⟩⟩ rfl rfl hl.1 rfl (lv_room (Nat.le_of_ble_eq_true rfl)) dX4_rateAs_66 ⟨Nat.le_of_ble_eq_true rfl, Nat.le_of_ble_eq_true rfl⟩) hS (fun q _ h => hFc q h) hFc (fun r u t H1 locs ht hvm hw hB hz1 hk1 hS => ?_)
    obtain ⟨hP1, hD1⟩ := hB
    rw [ht] at hP1
    replace hw := hw.symm
    subst hw
    obtain ⟨hP, hD⟩ := va_join (wr := [(aR, .inr (6, [.ref aT, .int R_in, .int R_streak, .int R_lot]))]) (w1 := [(aT, .inr (1, [.ref aT_slips, .ref aT_lates, .ref aT_copied, .int T_size, .int T_littleOnes])), (aT_slips, .inl (cI, 6, .inl T_slips)), (aT_lates, .inl (cI, 6, .inl T_lates)), (aT_copied, .inl (cI, 6, .inl T_copied)), (aK, .inr (4, [.ref aT, .ref aR, .long y9.2]))]) hP hD [1, 2, 3, 4, 5] [0] rfl rfl (by decide) (by decide) hk1 hFc hP1 hD1
    generalize H1 = H at hP hS ⊢
    have hP : va_P D vwCl [(aR, .inr (6, [.ref aT, .int R_in, .int R_streak, .int R_lot])), (aT, .inr (1, [.ref aT_slips, .ref aT_lates, .ref aT_copied, .int T_size, .int T_littleOnes])), (aT_slips, .inl (cI, 6, .inl T_slips)), (aT_lates, .inl (cI, 6, .inl T_lates)), (aT_copied, .inl (cI, 6, .inl T_copied)), (aK, .inr (4, [.ref aT, .ref aR, .long y9.2]))] H := hP.sub [0, 1, 2, 3, 4, 5] rfl
    have hD : va_D A [(aR, .inr (6, [.ref aT, .int R_in, .int R_streak, .int R_lot])), (aT, .inr (1, [.ref aT_slips, .ref aT_lates, .ref aT_copied, .int T_size, .int T_littleOnes])), (aT_slips, .inl (cI, 6, .inl T_slips)), (aT_lates, .inl (cI, 6, .inl T_lates)), (aT_copied, .inl (cI, 6, .inl T_copied)), (aK, .inr (4, [.ref aT, .ref aR, .long y9.2]))] := hD.sub [0, 1, 2, 3, 4, 5] (by decide) rfl
    have hy := Option.some.inj h
    subst hy
    exact W.iret (v := y9.1) hx hb hr (fun t ht hW => ⟨⟨y9.1, (), rfl, rfl, by rw [ht]; exact hP, hD⟩, hS.F ht⟩) hS.2.2 dX4_rateAs_69
  replace h := if_n s_10 h
  by_cases s_12 : p1 = (5 : Int32)
  · replace h := if_p s_12 h
    refine lv_tableIn (off := 69) (tgt := 70) hx hb dX4_rateAs_1 (by rw [s_12]; decide) (by rw [s_12]; decide) (by rw [s_12]; decide) (by decide) ?_
    refine lv_aload_n hx hb dX4_rateAs_70 rfl (lv_at hl 0 rfl) ?_
    refine lv_iload_n hx hb dX4_rateAs_71 rfl (lv_at hl 2 rfl) ?_
    obtain ⟨y11, qy11, h⟩ := ob_some h
    have hPc : va_P D vwCl [(aR, .inr (6, [.ref aT, .int R_in, .int R_streak, .int R_lot])), (aT, .inr (1, [.ref aT_slips, .ref aT_lates, .ref aT_copied, .int T_size, .int T_littleOnes])), (aT_slips, .inl (cI, 6, .inl T_slips)), (aK, .inr (4, [.ref aT, .ref aR, .long K_trace]))] s.heap := hP.sub [0, 1, 2, 5] rfl
    have hDc : va_D A [(aR, .inr (6, [.ref aT, .int R_in, .int R_streak, .int R_lot])), (aT, .inr (1, [.ref aT_slips, .ref aT_lates, .ref aT_copied, .int T_size, .int T_littleOnes])), (aT_slips, .inl (cI, 6, .inl T_slips)), (aK, .inr (4, [.ref aT, .ref aR, .long K_trace]))] := hD.sub [0, 1, 2, 5] (by decide) rfl
    have hFc := va_free (wc := [(aR, .inr (6, [.ref aT, .int R_in, .int R_streak, .int R_lot])), (aT, .inr (1, [.ref aT_slips, .ref aT_lates, .ref aT_copied, .int T_size, .int T_littleOnes])), (aT_slips, .inl (cI, 6, .inl T_slips)), (aK, .inr (4, [.ref aT, .ref aR, .long K_trace]))]) hD hS hA [0, 1, 2, 5] rfl
    refine va_calli (va_runV (As := [.int p2]) (rest := []) ⟨hx, hb, hml, hown, hts⟩ (c_X4_asListener l D cI cJ cZ cO aR aT aT_slips aK aT_lates aT_copied R_in R_streak R_lot T_size T_littleOnes T_slips K_trace s.heap.size p2 y11 qy11) (cwV 1 hts gX4_rateAs_X4_asListener rfl rfl rfl (by decide +kernel) ⟨Nat.le_of_ble_eq_true rfl, Nat.le_of_ble_eq_true rfl⟩) ⟨fb_i, va_recv hK hP (ci := 4) (q0 := 5) rfl rfl, fun U hU hW => ⟨rfl, by rw [hU], by rw [hU]; exact hPc, KK.warm hW hKK, hDc.weaken (fun _ _ _ _ => trivial)⟩⟩ rfl rfl hl.1 rfl (lv_room (Nat.le_of_ble_eq_true rfl)) dX4_rateAs_72 ⟨Nat.le_of_ble_eq_true rfl, Nat.le_of_ble_eq_true rfl⟩) hS (fun q _ h => hFc q h) hFc (fun r u t H1 locs ht hvm hw hB hz1 hk1 hS => ?_)
    obtain ⟨hP1, hD1⟩ := hB
    rw [ht] at hP1
    replace hw := hw.symm
    subst hw
    obtain ⟨hP, hD⟩ := va_join (wr := [(aT_lates, .inl (cI, 6, .inl T_lates)), (aT_copied, .inl (cI, 6, .inl T_copied))]) (w1 := [(aR, .inr (6, [.ref aT, .int R_in, .int R_streak, .int R_lot])), (aT, .inr (1, [.ref aT_slips, .ref aT_lates, .ref aT_copied, .int T_size, .int T_littleOnes])), (aT_slips, .inl (cI, 6, .inl T_slips)), (aK, .inr (4, [.ref aT, .ref aR, .long y11.2]))]) hP hD [0, 1, 2, 5] [3, 4] rfl rfl (by decide) (by decide) hk1 hFc hP1 hD1
    generalize H1 = H at hP hS ⊢
    have hP : va_P D vwCl [(aR, .inr (6, [.ref aT, .int R_in, .int R_streak, .int R_lot])), (aT, .inr (1, [.ref aT_slips, .ref aT_lates, .ref aT_copied, .int T_size, .int T_littleOnes])), (aT_slips, .inl (cI, 6, .inl T_slips)), (aT_lates, .inl (cI, 6, .inl T_lates)), (aT_copied, .inl (cI, 6, .inl T_copied)), (aK, .inr (4, [.ref aT, .ref aR, .long y11.2]))] H := hP.sub [2, 3, 4, 0, 1, 5] rfl
    have hD : va_D A [(aR, .inr (6, [.ref aT, .int R_in, .int R_streak, .int R_lot])), (aT, .inr (1, [.ref aT_slips, .ref aT_lates, .ref aT_copied, .int T_size, .int T_littleOnes])), (aT_slips, .inl (cI, 6, .inl T_slips)), (aT_lates, .inl (cI, 6, .inl T_lates)), (aT_copied, .inl (cI, 6, .inl T_copied)), (aK, .inr (4, [.ref aT, .ref aR, .long y11.2]))] := hD.sub [2, 3, 4, 0, 1, 5] (by decide) rfl
    have hy := Option.some.inj h
    subst hy
    exact W.iret (v := y11.1) hx hb hr (fun t ht hW => ⟨⟨y11.1, (), rfl, rfl, by rw [ht]; exact hP, hD⟩, hS.F ht⟩) hS.2.2 dX4_rateAs_75
  replace h := if_n s_12 h
  refine lv_tableOut (tgt := 76) hx hb dX4_rateAs_1 (by have e0 := i32_nek (0) (0 : Int32) (by decide) s_2; have e1 := i32_nek (1) (1 : Int32) (by decide) s_4; have e2 := i32_nek (2) (2 : Int32) (by decide) s_6; have e3 := i32_nek (3) (3 : Int32) (by decide) s_8; have e4 := i32_nek (4) (4 : Int32) (by decide) s_10; have e5 := i32_nek (5) (5 : Int32) (by decide) s_12; omega) (by decide) ?_
  refine lv_ldc (v := (-1000000 : Int32)) hx hb hown cst_42 dX4_rateAs_76 ?_
  have hy := Option.some.inj h
  subst hy
  exact W.iret (v := (-1000000 : Int32)) hx hb hr (fun t ht hW => ⟨⟨(-1000000 : Int32), (), rfl, rfl, by rw [ht]; exact hP, hD⟩, hS.F ht⟩) hS.2.2 dX4_rateAs_78
