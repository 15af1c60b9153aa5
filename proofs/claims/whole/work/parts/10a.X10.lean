def f_X10_within (p0 : Int64) (p2 : Int64) (p4 : Int64) : Int32 := (if (lg_cmp p0 p2) < 0 then (0 : Int32) else (if 0 < (lg_cmp p0 p4) then (0 : Int32) else (1 : Int32)))
set_option maxHeartbeats 8000000 in
set_option maxRecDepth 100000 in
theorem c_X10_within (l : Launch) (D : va_G) (cI cJ cZ cO : ClassId)   (p0 : Int64) (p2 : Int64) (p4 : Int64)  (y0 : Int32) (h : f_X10_within p0 p2 p4 = y0) : Met l yX10_within wsX10_within ({ frames := 0, cells := 0, slots := 0, locals := 0 } : Room) (va_Pc [.long p0, .long p2, .long p4] (fun U => va_P D vwCl [] U.heap ∧ KK D cI cJ cZ cO U)) (vp_Si (fun r => r = y0 ∧ zo r)) 0 0 (fun _ => False) := by
  refine Met.ofW (cc := cX10_within) (maxL := 6) (ret := (some .boolean)) (by decide) rfl ?_
  intro p e s m args below meth c s₁ B hml hv
  obtain ⟨rfl, hP, hKK⟩ := hv
  have hx := B.exec
  have hb := B.bytes
  have hr := B.returns
  have hts := atoms_spec (ws := wsX10_within) B.pre
  have hown : s.vm.findClass RX10 = some m.cls := findClass_of_methodNamed B.named
  have hlocks := B.notSynchronized
  have hK := hKK.1
  have hl := lv_entry ([.long p0, .long p2, .long p4]) (n := 6) (Nat.le_of_ble_eq_true rfl)
  rw [lg_entry_eq]
  generalize (lg_sl ([.long p0, .long p2, .long p4]) ++ List.replicate (6 - (lg_sl ([.long p0, .long p2, .long p4])).length) Slot.unset).toArray = ls at hl ⊢
  have hl : lv_has ls 6 [(0, .long p0), (2, .long p2), (4, .long p4)] := hl
  unfold f_X10_within at h
  refine lv_lload_n hx hb dX10_within_0 rfl (lv_at hl 0 rfl) ?_
  refine lv_lload_n hx hb dX10_within_1 rfl (lv_at hl 1 rfl) ?_
  refine W.lcmp hx hb dX10_within_2 ?_
  refine lv_if_lt (tgt := 17) hx hb dX10_within_3 (by decide) (fun c_1 => ?_) (fun c_1 => ?_)
  · replace h := if_p c_1 h
    refine lv_iconst (v := (0 : Int32)) hx hb dX10_within_17 (by decide) ?_
    exact pr_z hx hb hr hlocks dX10_within_18 h (by decide)
  · replace h := if_n c_1 h
    refine lv_lload_n hx hb dX10_within_6 rfl (lv_at hl 0 rfl) ?_
    refine lv_lload hx hb dX10_within_7 (lv_at hl 2 rfl) ?_
    refine W.lcmp hx hb dX10_within_9 ?_
    refine lv_if_gt (tgt := 17) hx hb dX10_within_10 (by decide) (fun c_2 => ?_) (fun c_2 => ?_)
    · replace h := if_p c_2 h
      refine lv_iconst (v := (0 : Int32)) hx hb dX10_within_17 (by decide) ?_
      exact pr_z hx hb hr hlocks dX10_within_18 h (by decide)
    · replace h := if_n c_2 h
      refine lv_iconst (v := (1 : Int32)) hx hb dX10_within_13 (by decide) ?_
      refine lv_goto (tgt := 18) hx hb dX10_within_14 (by decide) ?_
      exact pr_z hx hb hr hlocks dX10_within_18 h (by decide)

def f_X10_has (p0 : Int32) (p1 : Int32) : Int32 := (if ((p0 >>> (p1 &&& 31)) &&& (1 : Int32)) = (1 : Int32) then (1 : Int32) else (0 : Int32))
set_option maxHeartbeats 8000000 in
set_option maxRecDepth 100000 in
theorem c_X10_has (l : Launch) (D : va_G) (cI cJ cZ cO : ClassId)   (p0 : Int32) (p1 : Int32)  (y0 : Int32) (h : f_X10_has p0 p1 = y0) : Met l yX10_has wsX10_has ({ frames := 0, cells := 0, slots := 0, locals := 0 } : Room) (va_Pc [.int p0, .int p1] (fun U => va_P D vwCl [] U.heap ∧ KK D cI cJ cZ cO U)) (vp_Si (fun r => r = y0 ∧ zo r)) 0 0 (fun _ => False) := by
  refine Met.ofW (cc := cX10_has) (maxL := 2) (ret := (some .boolean)) (by decide) rfl ?_
  intro p e s m args below meth c s₁ B hml hv
  obtain ⟨rfl, hP, hKK⟩ := hv
  have hx := B.exec
  have hb := B.bytes
  have hr := B.returns
  have hts := atoms_spec (ws := wsX10_has) B.pre
  have hown : s.vm.findClass RX10 = some m.cls := findClass_of_methodNamed B.named
  have hlocks := B.notSynchronized
  have hK := hKK.1
  have hl := lv_entry ([.int p0, .int p1]) (n := 2) (Nat.le_of_ble_eq_true rfl)
  rw [lg_entry_eq]
  generalize (lg_sl ([.int p0, .int p1]) ++ List.replicate (2 - (lg_sl ([.int p0, .int p1])).length) Slot.unset).toArray = ls at hl ⊢
  have hl : lv_has ls 2 [(0, .int p0), (1, .int p1)] := hl
  unfold f_X10_has at h
  refine lv_iload_n hx hb dX10_has_0 rfl (lv_at hl 0 rfl) ?_
  refine lv_iload_n hx hb dX10_has_1 rfl (lv_at hl 1 rfl) ?_
  refine lv_ishr hx hb dX10_has_2 ?_
  refine lv_iconst (v := (1 : Int32)) hx hb dX10_has_3 (by decide) ?_
  refine lv_iand hx hb dX10_has_4 ?_
  refine lv_iconst (v := (1 : Int32)) hx hb dX10_has_5 (by decide) ?_
  refine lv_icmp_ne (tgt := 13) hx hb dX10_has_6 (by decide) (fun c_1 => ?_) (fun c_1 => ?_)
  · replace h := if_n c_1 h
    refine lv_iconst (v := (0 : Int32)) hx hb dX10_has_13 (by decide) ?_
    exact pr_z hx hb hr hlocks dX10_has_14 h (by decide)
  · replace h := if_p c_1 h
    refine lv_iconst (v := (1 : Int32)) hx hb dX10_has_9 (by decide) ?_
    refine lv_goto (tgt := 14) hx hb dX10_has_10 (by decide) ?_
    exact pr_z hx hb hr hlocks dX10_has_14 h (by decide)

def f_X10_bits_L4  : Nat → Int32 → Int32 → Option (Int32)
  | 0, _, _ => none
  | n + 1, x1, x2 => (if x2 = 0 then some x1 else f_X10_bits_L4 n (x1 + (1 : Int32)) (x2 &&& (x2 - (1 : Int32))))
def f_X10_bits (p0 : Int32) : Option (Int32) := f_X10_bits_L4 300 (0 : Int32) p0
set_option maxHeartbeats 8000000 in
set_option maxRecDepth 100000 in
theorem c_X10_bits (l : Launch) (D : va_G) (cI cJ cZ cO : ClassId)   (p0 : Int32)  (y0 : Int32) (h : f_X10_bits p0 = some y0) : Met l yX10_bits wsX10_bits ({ frames := 0, cells := 0, slots := 0, locals := 0 } : Room) (va_Pc [.int p0] (fun U => va_P D vwCl [] U.heap ∧ KK D cI cJ cZ cO U)) (vp_Si (fun r => r = y0)) 0 0 (fun _ => False) := by
  refine Met.ofW (cc := cX10_bits) (maxL := 3) (ret := (some .int)) (by decide) rfl ?_
  intro p e s m args below meth c s₁ B hml hv
  obtain ⟨rfl, hP, hKK⟩ := hv
  have hx := B.exec
  have hb := B.bytes
  have hr := B.returns
  have hts := atoms_spec (ws := wsX10_bits) B.pre
  have hown : s.vm.findClass RX10 = some m.cls := findClass_of_methodNamed B.named
  have hlocks := B.notSynchronized
  have hK := hKK.1
  have hl := lv_entry ([.int p0]) (n := 3) (Nat.le_of_ble_eq_true rfl)
  rw [lg_entry_eq]
  generalize (lg_sl ([.int p0]) ++ List.replicate (3 - (lg_sl ([.int p0])).length) Slot.unset).toArray = ls at hl ⊢
  have hl : lv_has ls 3 [(0, .int p0)] := hl
  have L4 : ∀ (n : Nat), ∀ (x1 : Int32) (x2 : Int32), ∀ (ls : Array Slot), lv_has ls 3 [(1, .int x1), (2, .int x2)] → f_X10_bits_L4 n x1 x2 = some y0 → W p l e (headSpec wsX10_bits ({ frames := 0, cells := 0, slots := 0, locals := 0 } : Room)).room s m ([.int p0] : List Value).toArray below meth c s.heap [] 0 0 (MQ below (vp_Si (fun r => r = y0)) ([.int p0] : List Value).toArray s 0 0 (fun _ => False)) (F0 m 4 ls []) := by
    intro n
    induction n with
    | zero =>
      intro x1 x2 ls hl h
      exact (ns h).elim
    | succ n ih =>
      intro x1 x2 ls hl h
      unfold f_X10_bits_L4 at h
      refine lv_iload_n hx hb dX10_bits_4 rfl (lv_at hl 1 rfl) ?_
      refine lv_if_eq (tgt := 20) hx hb dX10_bits_5 (by decide) (fun c_1 => ?_) (fun c_1 => ?_)
      · replace h := if_p c_1 h
        refine lv_iload_n hx hb dX10_bits_20 rfl (lv_at hl 0 rfl) ?_
        exact pr_i hx hb hr hlocks dX10_bits_21 (Option.some.inj h)
      · replace h := if_n c_1 h
        refine lv_iinc (v := (x1 + (1 : Int32))) (lv' := [(1, .int (x1 + (1 : Int32))), (2, .int x2)]) hx hb dX10_bits_8 hl (k := 0) rfl rfl (by decide) rfl (fun ls hl => ?_)
        refine lv_iload_n hx hb dX10_bits_11 rfl (lv_at hl 1 rfl) ?_
        refine lv_iload_n hx hb dX10_bits_12 rfl (lv_at hl 1 rfl) ?_
        refine lv_iconst (v := (1 : Int32)) hx hb dX10_bits_13 (by decide) ?_
        refine lv_isub hx hb dX10_bits_14 ?_
        refine lv_iand hx hb dX10_bits_15 ?_
        refine lv_istore_n (lv' := [(2, .int (x2 &&& (x2 - (1 : Int32)))), (1, .int (x1 + (1 : Int32)))]) hx hb dX10_bits_16 rfl hl (by decide) rfl (fun ls hl => ?_)
        refine lv_goto (tgt := 4) hx hb dX10_bits_17 (by decide) ?_
        exact ih (x1 + (1 : Int32)) (x2 &&& (x2 - (1 : Int32))) ls (lv_sub hl [1, 0] rfl) h
  unfold f_X10_bits at h
  refine lv_iconst (v := (0 : Int32)) hx hb dX10_bits_0 (by decide) ?_
  refine lv_istore_n (lv' := [(1, .int (0 : Int32)), (0, .int p0)]) hx hb dX10_bits_1 rfl hl (by decide) rfl (fun ls hl => ?_)
  refine lv_iload_n hx hb dX10_bits_2 rfl (lv_at hl 1 rfl) ?_
  refine lv_istore_n (lv' := [(2, .int p0), (1, .int (0 : Int32)), (0, .int p0)]) hx hb dX10_bits_3 rfl hl (by decide) rfl (fun ls hl => ?_)
  exact L4 300 (0 : Int32) p0 ls (lv_sub hl [1, 0] rfl) h

def f_X10_isChild (M_many : Int32) (p1 : Int32) : Int32 := (f_X10_within p1.toInt64 (0 : Int64) ((M_many - (1 : Int32)).toInt64))
set_option maxHeartbeats 8000000 in
set_option maxRecDepth 100000 in
theorem c_X10_isChild (l : Launch) (D : va_G) (cI cJ cZ cO : ClassId) (aM : Nat) (aM_text : Nat) (aM_slips : Nat) (aM_lates : Nat) (aM_copies : Nat) (aM_before : Nat) (aM_images : Nat) (aM_kept : Nat) (aM_read : Nat) (M_size : Int32) (M_many : Int32) (M_little : Int32) (M_in : Int32) (M_streak : Int32) (M_lot : Int32) (M_undos : Int32) (M_trace : Int64) (M_at : Int32) (M_begin : Int32) (M_kind : Int32) (M_value : Int64) (M_readMany : Int32) (M_readLittle : Int32) (M_below : Int64)  (p1 : Int32)  (y0 : Int32) (h : f_X10_isChild M_many p1 = y0) : Met l yX10_isChild wsX10_isChild ({ frames := 1, cells := 0, slots := 0, locals := 25 } : Room) (va_Pc [.ref aM, .int p1] (fun U => va_P D vwCl [(aM, .inr (10, [.ref aM_text, .int M_size, .int M_many, .ref aM_slips, .ref aM_lates, .ref aM_copies, .int M_little, .int M_in, .int M_streak, .int M_lot, .int M_undos, .ref aM_before, .ref aM_images, .ref aM_kept, .long M_trace, .int M_at, .int M_begin, .int M_kind, .long M_value, .int M_readMany, .int M_readLittle, .ref aM_read, .long M_below]))] U.heap ∧ KK D cI cJ cZ cO U)) (vp_Si (fun r => r = y0 ∧ zo r)) 0 0 (fun _ => False) := by
  refine Met.ofW (cc := cX10_isChild) (maxL := 2) (ret := (some .boolean)) (by decide) rfl ?_
  intro p e s m args below meth c s₁ B hml hv
  obtain ⟨rfl, hP, hKK⟩ := hv
  have hx := B.exec
  have hb := B.bytes
  have hr := B.returns
  have hts := atoms_spec (ws := wsX10_isChild) B.pre
  have hown : s.vm.findClass RX10 = some m.cls := findClass_of_methodNamed B.named
  have hlocks := B.notSynchronized
  have hK := hKK.1
  have fl_39 := hts (.fieldLink RX10 39 "SimonSaysModel" "many" "I") (by decide +kernel)
  have inX10 : ∀ w ∈ wsX100, w ∈ wsX10_isChild := by decide +kernel
  have hl := lv_entry ([.ref aM, .int p1]) (n := 2) (Nat.le_of_ble_eq_true rfl)
  rw [lg_entry_eq]
  generalize (lg_sl ([.ref aM, .int p1]) ++ List.replicate (2 - (lg_sl ([.ref aM, .int p1])).length) Slot.unset).toArray = ls at hl ⊢
  have hl : lv_has ls 2 [(0, .ref aM), (1, .int p1)] := hl
  unfold f_X10_isChild at h
  refine lv_iload_n hx hb dX10_isChild_0 rfl (lv_at hl 1 rfl) ?_
  refine lv_i2l (v := p1.toInt64) hx hb dX10_isChild_1 rfl ?_
  refine lv_lconst (v := (0 : Int64)) hx hb dX10_isChild_2 (by decide) ?_
  refine lv_aload_n hx hb dX10_isChild_3 rfl (lv_at hl 0 rfl) ?_
  refine va_get (D := D) (ci := 10) (v := .int M_many) (C := RX10) (T := TX10) (N := 23) hx hb hts inX10 hown hK hP 0 rfl rfl 2 (by decide) fl_39 (fun _ h9 => h9) rfl dX10_isChild_4 ?_
  refine lv_iconst (v := (1 : Int32)) hx hb dX10_isChild_7 (by decide) ?_
  refine lv_isub hx hb dX10_isChild_8 ?_
  refine lv_i2l (v := (M_many - (1 : Int32)).toInt64) hx hb dX10_isChild_9 rfl ?_
  have hPc : va_P D vwCl [] s.heap := hP.sub [] rfl
  refine vp_callSi (va_Run.run (va_runS (As := [.long p1.toInt64, .long (0 : Int64), .long ((M_many - (1 : Int32)).toInt64)]) (rest := []) ⟨hx, hb, hml, hown, hts⟩ (c_X10_within l D cI cJ cZ cO p1.toInt64 (0 : Int64) ((M_many - (1 : Int32)).toInt64) _ rfl) (cwS 3 hts gX10_isChild_X10_within rfl rfl rfl (by decide +kernel) ⟨Nat.le_of_ble_eq_true rfl, Nat.le_of_ble_eq_true rfl⟩) ⟨fb_p, fun U hU hW => ⟨rfl, by rw [hU]; exact hPc, KK.warm hW hKK⟩⟩ rfl rfl hl.1 rfl (lv_room (Nat.le_of_ble_eq_true rfl)) dX10_isChild_10 ⟨Nat.le_of_ble_eq_true rfl, Nat.le_of_ble_eq_true rfl⟩)) (fun r hr => ?_)
  obtain ⟨hr, hz1⟩ := hr
  replace hr := hr.symm
  subst hr
  exact pr_z hx hb hr hlocks dX10_isChild_13 h hz1

def f_X10_isOrder (p0 : Int32) : Int32 := (f_X10_within p0.toInt64 (1 : Int64) (4 : Int64))
set_option maxHeartbeats 8000000 in
set_option maxRecDepth 100000 in
theorem c_X10_isOrder (l : Launch) (D : va_G) (cI cJ cZ cO : ClassId)   (p0 : Int32)  (y0 : Int32) (h : f_X10_isOrder p0 = y0) : Met l yX10_isOrder wsX10_isOrder ({ frames := 1, cells := 0, slots := 0, locals := 25 } : Room) (va_Pc [.int p0] (fun U => va_P D vwCl [] U.heap ∧ KK D cI cJ cZ cO U)) (vp_Si (fun r => r = y0 ∧ zo r)) 0 0 (fun _ => False) := by
  refine Met.ofW (cc := cX10_isOrder) (maxL := 1) (ret := (some .boolean)) (by decide) rfl ?_
  intro p e s m args below meth c s₁ B hml hv
  obtain ⟨rfl, hP, hKK⟩ := hv
  have hx := B.exec
  have hb := B.bytes
  have hr := B.returns
  have hts := atoms_spec (ws := wsX10_isOrder) B.pre
  have hown : s.vm.findClass RX10 = some m.cls := findClass_of_methodNamed B.named
  have hlocks := B.notSynchronized
  have hK := hKK.1
  have cst_46 := hts (.constantLong RX10 46 (4)) (by decide +kernel)
  have hl := lv_entry ([.int p0]) (n := 1) (Nat.le_of_ble_eq_true rfl)
  rw [lg_entry_eq]
  generalize (lg_sl ([.int p0]) ++ List.replicate (1 - (lg_sl ([.int p0])).length) Slot.unset).toArray = ls at hl ⊢
  have hl : lv_has ls 1 [(0, .int p0)] := hl
  unfold f_X10_isOrder at h
  refine lv_iload_n hx hb dX10_isOrder_0 rfl (lv_at hl 0 rfl) ?_
  refine lv_i2l (v := p0.toInt64) hx hb dX10_isOrder_1 rfl ?_
  refine lv_lconst (v := (1 : Int64)) hx hb dX10_isOrder_2 (by decide) ?_
  refine lv_ldc2 (v := (4 : Int64)) hx hb hown cst_46 dX10_isOrder_3 ?_
  have hPc : va_P D vwCl [] s.heap := hP.sub [] rfl
  refine vp_callSi (va_Run.run (va_runS (As := [.long p0.toInt64, .long (1 : Int64), .long (4 : Int64)]) (rest := []) ⟨hx, hb, hml, hown, hts⟩ (c_X10_within l D cI cJ cZ cO p0.toInt64 (1 : Int64) (4 : Int64) _ rfl) (cwS 3 hts gX10_isOrder_X10_within rfl rfl rfl (by decide +kernel) ⟨Nat.le_of_ble_eq_true rfl, Nat.le_of_ble_eq_true rfl⟩) ⟨fb_p, fun U hU hW => ⟨rfl, by rw [hU]; exact hPc, KK.warm hW hKK⟩⟩ rfl rfl hl.1 rfl (lv_room (Nat.le_of_ble_eq_true rfl)) dX10_isOrder_6 ⟨Nat.le_of_ble_eq_true rfl, Nat.le_of_ble_eq_true rfl⟩)) (fun r hr => ?_)
  obtain ⟨hr, hz1⟩ := hr
  replace hr := hr.symm
  subst hr
  exact pr_z hx hb hr hlocks dX10_isOrder_9 h hz1

def f_X10_isSet (M_many : Int32) (p1 : Int32) : Int32 := (f_X10_within p1.toInt64 (0 : Int64) ((((1 : Int32) <<< (M_many &&& 31)) - (1 : Int32)).toInt64))
set_option maxHeartbeats 8000000 in
set_option maxRecDepth 100000 in
theorem c_X10_isSet (l : Launch) (D : va_G) (cI cJ cZ cO : ClassId) (aM : Nat) (aM_text : Nat) (aM_slips : Nat) (aM_lates : Nat) (aM_copies : Nat) (aM_before : Nat) (aM_images : Nat) (aM_kept : Nat) (aM_read : Nat) (M_size : Int32) (M_many : Int32) (M_little : Int32) (M_in : Int32) (M_streak : Int32) (M_lot : Int32) (M_undos : Int32) (M_trace : Int64) (M_at : Int32) (M_begin : Int32) (M_kind : Int32) (M_value : Int64) (M_readMany : Int32) (M_readLittle : Int32) (M_below : Int64)  (p1 : Int32)  (y0 : Int32) (h : f_X10_isSet M_many p1 = y0) : Met l yX10_isSet wsX10_isSet ({ frames := 1, cells := 0, slots := 0, locals := 25 } : Room) (va_Pc [.ref aM, .int p1] (fun U => va_P D vwCl [(aM, .inr (10, [.ref aM_text, .int M_size, .int M_many, .ref aM_slips, .ref aM_lates, .ref aM_copies, .int M_little, .int M_in, .int M_streak, .int M_lot, .int M_undos, .ref aM_before, .ref aM_images, .ref aM_kept, .long M_trace, .int M_at, .int M_begin, .int M_kind, .long M_value, .int M_readMany, .int M_readLittle, .ref aM_read, .long M_below]))] U.heap ∧ KK D cI cJ cZ cO U)) (vp_Si (fun r => r = y0 ∧ zo r)) 0 0 (fun _ => False) := by
  refine Met.ofW (cc := cX10_isSet) (maxL := 2) (ret := (some .boolean)) (by decide) rfl ?_
  intro p e s m args below meth c s₁ B hml hv
  obtain ⟨rfl, hP, hKK⟩ := hv
  have hx := B.exec
  have hb := B.bytes
  have hr := B.returns
  have hts := atoms_spec (ws := wsX10_isSet) B.pre
  have hown : s.vm.findClass RX10 = some m.cls := findClass_of_methodNamed B.named
  have hlocks := B.notSynchronized
  have hK := hKK.1
  have fl_39 := hts (.fieldLink RX10 39 "SimonSaysModel" "many" "I") (by decide +kernel)
  have inX10 : ∀ w ∈ wsX100, w ∈ wsX10_isSet := by decide +kernel
  have hl := lv_entry ([.ref aM, .int p1]) (n := 2) (Nat.le_of_ble_eq_true rfl)
  rw [lg_entry_eq]
  generalize (lg_sl ([.ref aM, .int p1]) ++ List.replicate (2 - (lg_sl ([.ref aM, .int p1])).length) Slot.unset).toArray = ls at hl ⊢
  have hl : lv_has ls 2 [(0, .ref aM), (1, .int p1)] := hl
  unfold f_X10_isSet at h
  refine lv_iload_n hx hb dX10_isSet_0 rfl (lv_at hl 1 rfl) ?_
  refine lv_i2l (v := p1.toInt64) hx hb dX10_isSet_1 rfl ?_
  refine lv_lconst (v := (0 : Int64)) hx hb dX10_isSet_2 (by decide) ?_
  refine lv_iconst (v := (1 : Int32)) hx hb dX10_isSet_3 (by decide) ?_
  refine lv_aload_n hx hb dX10_isSet_4 rfl (lv_at hl 0 rfl) ?_
  refine va_get (D := D) (ci := 10) (v := .int M_many) (C := RX10) (T := TX10) (N := 23) hx hb hts inX10 hown hK hP 0 rfl rfl 2 (by decide) fl_39 (fun _ h9 => h9) rfl dX10_isSet_5 ?_
  refine lv_ishl hx hb dX10_isSet_8 ?_
  refine lv_iconst (v := (1 : Int32)) hx hb dX10_isSet_9 (by decide) ?_
  refine lv_isub hx hb dX10_isSet_10 ?_
  refine lv_i2l (v := (((1 : Int32) <<< (M_many &&& 31)) - (1 : Int32)).toInt64) hx hb dX10_isSet_11 rfl ?_
  have hPc : va_P D vwCl [] s.heap := hP.sub [] rfl
  refine vp_callSi (va_Run.run (va_runS (As := [.long p1.toInt64, .long (0 : Int64), .long ((((1 : Int32) <<< (M_many &&& 31)) - (1 : Int32)).toInt64)]) (rest := []) ⟨hx, hb, hml, hown, hts⟩ (c_X10_within l D cI cJ cZ cO p1.toInt64 (0 : Int64) ((((1 : Int32) <<< (M_many &&& 31)) - (1 : Int32)).toInt64) _ rfl) (cwS 3 hts gX10_isSet_X10_within rfl rfl rfl (by decide +kernel) ⟨Nat.le_of_ble_eq_true rfl, Nat.le_of_ble_eq_true rfl⟩) ⟨fb_p, fun U hU hW => ⟨rfl, by rw [hU]; exact hPc, KK.warm hW hKK⟩⟩ rfl rfl hl.1 rfl (lv_room (Nat.le_of_ble_eq_true rfl)) dX10_isSet_12 ⟨Nat.le_of_ble_eq_true rfl, Nat.le_of_ble_eq_true rfl⟩)) (fun r hr => ?_)
  obtain ⟨hr, hz1⟩ := hr
  replace hr := hr.symm
  subst hr
  exact pr_z hx hb hr hlocks dX10_isSet_15 h hz1

def f_X10_type_L34  : Nat → Int32 → (Nat → Int32) → Int64 → Int32 → Option (Int32 × Int32 × (Nat → Int32))
  | 0, _, _, _, _ => none
  | n + 1, M_size, M_text, x1, x4 => (if x4 < 0 then some (M_size, M_size, M_text) else (if gIn M_size 200 = true then f_X10_type_L34 n (M_size + (1 : Int32)) (upd M_text M_size.toNatClampNeg (((x1 >>> (((8 : Int32) * x4).toInt64 &&& 63)) &&& (255 : Int64)).toInt32)) x1 (x4 + (-1 : Int32)) else none))
def f_X10_type (M_size : Int32) (M_text : Nat → Int32) (p1 : Int64) (p3 : Int32) : Option (Int32 × Int32 × (Nat → Int32)) := (if (f_X10_within p3.toInt64 (1 : Int64) (8 : Int64)) = 0 then some ((-1 : Int32), M_size, M_text) else (if (M_size + p3) ≤ (200 : Int32) then f_X10_type_L34 300 M_size M_text p1 (p3 - (1 : Int32)) else some ((-3 : Int32), M_size, M_text)))
set_option maxHeartbeats 8000000 in
set_option maxRecDepth 100000 in
theorem c_X10_type (l : Launch) (D : va_G) (cI cJ cZ cO : ClassId) (aM : Nat) (aM_text : Nat) (aM_slips : Nat) (aM_lates : Nat) (aM_copies : Nat) (aM_before : Nat) (aM_images : Nat) (aM_kept : Nat) (aM_read : Nat) (M_size : Int32) (M_many : Int32) (M_little : Int32) (M_in : Int32) (M_streak : Int32) (M_lot : Int32) (M_undos : Int32) (M_trace : Int64) (M_at : Int32) (M_begin : Int32) (M_kind : Int32) (M_value : Int64) (M_readMany : Int32) (M_readLittle : Int32) (M_below : Int64) (M_text : Nat → Int32) (sz : Nat) (p1 : Int64) (p3 : Int32)  (y0 : Int32 × Int32 × (Nat → Int32)) (h : f_X10_type M_size M_text p1 p3 = some y0) : Met l yX10_type wsX10_type ({ frames := 1, cells := 0, slots := 0, locals := 25 } : Room) (va_Pc [.ref aM, .long p1, .int p3] (fun U => U.heap.size = sz ∧ va_P D vwCl [(aM, .inr (10, [.ref aM_text, .int M_size, .int M_many, .ref aM_slips, .ref aM_lates, .ref aM_copies, .int M_little, .int M_in, .int M_streak, .int M_lot, .int M_undos, .ref aM_before, .ref aM_images, .ref aM_kept, .long M_trace, .int M_at, .int M_begin, .int M_kind, .long M_value, .int M_readMany, .int M_readLittle, .ref aM_read, .long M_below])), (aM_text, .inl (cI, 200, .inl M_text))] U.heap ∧ KK D cI cJ cZ cO U ∧ va_D (fun _ => True) [(aM, .inr (10, [.ref aM_text, .int M_size, .int M_many, .ref aM_slips, .ref aM_lates, .ref aM_copies, .int M_little, .int M_in, .int M_streak, .int M_lot, .int M_undos, .ref aM_before, .ref aM_images, .ref aM_kept, .long M_trace, .int M_at, .int M_begin, .int M_kind, .long M_value, .int M_readMany, .int M_readLittle, .ref aM_read, .long M_below])), (aM_text, .inl (cI, 200, .inl M_text))])) (va_Qi (fun (r : Int32) (_ : Unit) => r = y0.1) (fun (_ : Unit) t => va_P D vwCl [(aM, .inr (10, [.ref aM_text, .int y0.2.1, .int M_many, .ref aM_slips, .ref aM_lates, .ref aM_copies, .int M_little, .int M_in, .int M_streak, .int M_lot, .int M_undos, .ref aM_before, .ref aM_images, .ref aM_kept, .long M_trace, .int M_at, .int M_begin, .int M_kind, .long M_value, .int M_readMany, .int M_readLittle, .ref aM_read, .long M_below])), (aM_text, .inl (cI, 200, .inl y0.2.2))] t.heap ∧ va_D (va_A [(aM, .inr (10, [.ref aM_text, .int M_size, .int M_many, .ref aM_slips, .ref aM_lates, .ref aM_copies, .int M_little, .int M_in, .int M_streak, .int M_lot, .int M_undos, .ref aM_before, .ref aM_images, .ref aM_kept, .long M_trace, .int M_at, .int M_begin, .int M_kind, .long M_value, .int M_readMany, .int M_readLittle, .ref aM_read, .long M_below])), (aM_text, .inl (cI, 200, .inl M_text))] sz) [(aM, .inr (10, [.ref aM_text, .int y0.2.1, .int M_many, .ref aM_slips, .ref aM_lates, .ref aM_copies, .int M_little, .int M_in, .int M_streak, .int M_lot, .int M_undos, .ref aM_before, .ref aM_images, .ref aM_kept, .long M_trace, .int M_at, .int M_begin, .int M_kind, .long M_value, .int M_readMany, .int M_readLittle, .ref aM_read, .long M_below])), (aM_text, .inl (cI, 200, .inl y0.2.2))]) (va_A [(aM, .inr (10, [.ref aM_text, .int M_size, .int M_many, .ref aM_slips, .ref aM_lates, .ref aM_copies, .int M_little, .int M_in, .int M_streak, .int M_lot, .int M_undos, .ref aM_before, .ref aM_images, .ref aM_kept, .long M_trace, .int M_at, .int M_begin, .int M_kind, .long M_value, .int M_readMany, .int M_readLittle, .ref aM_read, .long M_below])), (aM_text, .inl (cI, 200, .inl M_text))] sz)) 0 0 (va_A [(aM, .inr (10, [.ref aM_text, .int M_size, .int M_many, .ref aM_slips, .ref aM_lates, .ref aM_copies, .int M_little, .int M_in, .int M_streak, .int M_lot, .int M_undos, .ref aM_before, .ref aM_images, .ref aM_kept, .long M_trace, .int M_at, .int M_begin, .int M_kind, .long M_value, .int M_readMany, .int M_readLittle, .ref aM_read, .long M_below])), (aM_text, .inl (cI, 200, .inl M_text))] sz) := by
  refine Met.ofW (cc := cX10_type) (maxL := 5) (ret := (some .int)) (by decide) rfl ?_
  intro p e s m args below meth c s₁ B hml hv
  obtain ⟨rfl, hsz, hP, hKK, hD0⟩ := hv
  have hx := B.exec
  have hb := B.bytes
  have hr := B.returns
  have hts := atoms_spec (ws := wsX10_type) B.pre
  have hown : s.vm.findClass RX10 = some m.cls := findClass_of_methodNamed B.named
  have hlocks := B.notSynchronized
  have hK := hKK.1
  have fl_7 := hts (.fieldLink RX10 7 "SimonSaysModel" "text" "[I") (by decide +kernel)
  have fl_50 := hts (.fieldLink RX10 50 "SimonSaysModel" "size" "I") (by decide +kernel)
  have cst_48 := hts (.constantLong RX10 48 (8)) (by decide +kernel)
  have cst_53 := hts (.constantLong RX10 53 (255)) (by decide +kernel)
  have inX10 : ∀ w ∈ wsX100, w ∈ wsX10_type := by decide +kernel
  subst hsz
  have hD := hD0.self (sz := s.heap.size)
  generalize hAe : va_A [(aM, .inr (10, [.ref aM_text, .int M_size, .int M_many, .ref aM_slips, .ref aM_lates, .ref aM_copies, .int M_little, .int M_in, .int M_streak, .int M_lot, .int M_undos, .ref aM_before, .ref aM_images, .ref aM_kept, .long M_trace, .int M_at, .int M_begin, .int M_kind, .long M_value, .int M_readMany, .int M_readLittle, .ref aM_read, .long M_below])), (aM_text, .inl (cI, 200, .inl M_text))] s.heap.size = A at hD ⊢
  have hA : ∀ q : Nat, s.heap.size ≤ q → A q := fun q h => by rw [← hAe]; exact Or.inr h
  have hS : va_S A s.heap s.heap [] := va_S.rf
  have hl := lv_entry ([.ref aM, .long p1, .int p3]) (n := 5) (Nat.le_of_ble_eq_true rfl)
  rw [lg_entry_eq]
  generalize (lg_sl ([.ref aM, .long p1, .int p3]) ++ List.replicate (5 - (lg_sl ([.ref aM, .long p1, .int p3])).length) Slot.unset).toArray = ls at hl ⊢
  have hl : lv_has ls 5 [(0, .ref aM), (1, .long p1), (3, .int p3)] := hl
  have L34 : ∀ (n : Nat), ∀ (M_size : Int32) (M_text : Nat → Int32) (x1 : Int64) (x4 : Int32), ∀ (H : Heap) (locs : List Loc), va_P D vwCl [(aM, .inr (10, [.ref aM_text, .int M_size, .int M_many, .ref aM_slips, .ref aM_lates, .ref aM_copies, .int M_little, .int M_in, .int M_streak, .int M_lot, .int M_undos, .ref aM_before, .ref aM_images, .ref aM_kept, .long M_trace, .int M_at, .int M_begin, .int M_kind, .long M_value, .int M_readMany, .int M_readLittle, .ref aM_read, .long M_below])), (aM_text, .inl (cI, 200, .inl M_text))] H → va_D A [(aM, .inr (10, [.ref aM_text, .int M_size, .int M_many, .ref aM_slips, .ref aM_lates, .ref aM_copies, .int M_little, .int M_in, .int M_streak, .int M_lot, .int M_undos, .ref aM_before, .ref aM_images, .ref aM_kept, .long M_trace, .int M_at, .int M_begin, .int M_kind, .long M_value, .int M_readMany, .int M_readLittle, .ref aM_read, .long M_below])), (aM_text, .inl (cI, 200, .inl M_text))] → va_S A s.heap H locs → ∀ (ls : Array Slot), lv_has ls 5 [(0, .ref aM), (1, .long x1), (4, .int x4)] → f_X10_type_L34 n M_size M_text x1 x4 = some y0 → W p l e (headSpec wsX10_type ({ frames := 1, cells := 0, slots := 0, locals := 25 } : Room)).room s m ([.ref aM, .long p1, .int p3] : List Value).toArray below meth c H locs 0 0 (MQ below (va_Qi (fun (r : Int32) (_ : Unit) => r = y0.1) (fun (_ : Unit) t => va_P D vwCl [(aM, .inr (10, [.ref aM_text, .int y0.2.1, .int M_many, .ref aM_slips, .ref aM_lates, .ref aM_copies, .int M_little, .int M_in, .int M_streak, .int M_lot, .int M_undos, .ref aM_before, .ref aM_images, .ref aM_kept, .long M_trace, .int M_at, .int M_begin, .int M_kind, .long M_value, .int M_readMany, .int M_readLittle, .ref aM_read, .long M_below])), (aM_text, .inl (cI, 200, .inl y0.2.2))] t.heap ∧ va_D A [(aM, .inr (10, [.ref aM_text, .int y0.2.1, .int M_many, .ref aM_slips, .ref aM_lates, .ref aM_copies, .int M_little, .int M_in, .int M_streak, .int M_lot, .int M_undos, .ref aM_before, .ref aM_images, .ref aM_kept, .long M_trace, .int M_at, .int M_begin, .int M_kind, .long M_value, .int M_readMany, .int M_readLittle, .ref aM_read, .long M_below])), (aM_text, .inl (cI, 200, .inl y0.2.2))]) A) ([.ref aM, .long p1, .int p3] : List Value).toArray s 0 0 A) (F0 m 34 ls []) := by
    intro n
    induction n with
    | zero =>
      intro M_size M_text x1 x4 H locs hP hD hS ls hl h
      exact (ns h).elim
    | succ n ih =>
      intro M_size M_text x1 x4 H locs hP hD hS ls hl h
      unfold f_X10_type_L34 at h
      refine lv_iload hx hb dX10_type_34 (lv_at hl 2 rfl) ?_
      refine lv_if_lt (tgt := 76) hx hb dX10_type_36 (by decide) (fun c_4 => ?_) (fun c_4 => ?_)
      · replace h := if_p c_4 h
        refine lv_aload_n hx hb dX10_type_76 rfl (lv_at hl 0 rfl) ?_
        refine va_get (D := D) (ci := 10) (v := .int M_size) (C := RX10) (T := TX10) (N := 23) hx hb hts inX10 hown hK hP 0 rfl rfl 1 (by decide) fl_50 (fun _ h9 => h9) rfl dX10_type_77 ?_
        have hy := Option.some.inj h
        subst hy
        exact W.iret (v := M_size) hx hb hr (fun t ht hW => ⟨⟨M_size, (), rfl, rfl, by rw [ht]; exact hP, hD⟩, hS.F ht⟩) hS.2.2 dX10_type_80
      · replace h := if_n c_4 h
        refine lv_aload_n hx hb dX10_type_39 rfl (lv_at hl 0 rfl) ?_
        refine va_get (D := D) (ci := 10) (v := .ref aM_text) (C := RX10) (T := TX10) (N := 23) hx hb hts inX10 hown hK hP 0 rfl rfl 0 (by decide) fl_7 (fun _ h9 => h9) rfl dX10_type_40 ?_
        refine lv_aload_n hx hb dX10_type_43 rfl (lv_at hl 0 rfl) ?_
        refine va_get (D := D) (ci := 10) (v := .int M_size) (C := RX10) (T := TX10) (N := 23) hx hb hts inX10 hown hK hP 0 rfl rfl 1 (by decide) fl_50 (fun _ h9 => h9) rfl dX10_type_44 ?_
        refine lv_lload_n hx hb dX10_type_47 rfl (lv_at hl 1 rfl) ?_
        refine lv_bipush (v := (8 : Int32)) hx hb dX10_type_48 (by decide) ?_
        refine lv_iload hx hb dX10_type_50 (lv_at hl 2 rfl) ?_
        refine lv_imul hx hb dX10_type_52 ?_
        refine lv_lshr (v := (x1 >>> (((8 : Int32) * x4).toInt64 &&& 63))) hx hb dX10_type_53 rfl ?_
        refine lv_ldc2 (v := (255 : Int64)) hx hb hown cst_53 dX10_type_54 ?_
        refine lv_land hx hb dX10_type_57 ?_
        refine lv_l2i (v := ((x1 >>> (((8 : Int32) * x4).toInt64 &&& 63)) &&& (255 : Int64)).toInt32) hx hb dX10_type_58 rfl ?_
        obtain ⟨hi5, h⟩ := gd_in h
        refine va_iast hx hb hK hP hD hS 1 0 rfl rfl hi5 dX10_type_59 (fun H locs hP hD hS => ?_)
        have hP : va_P D vwCl [(aM, .inr (10, [.ref aM_text, .int M_size, .int M_many, .ref aM_slips, .ref aM_lates, .ref aM_copies, .int M_little, .int M_in, .int M_streak, .int M_lot, .int M_undos, .ref aM_before, .ref aM_images, .ref aM_kept, .long M_trace, .int M_at, .int M_begin, .int M_kind, .long M_value, .int M_readMany, .int M_readLittle, .ref aM_read, .long M_below])), (aM_text, .inl (cI, 200, .inl (upd M_text M_size.toNatClampNeg (((x1 >>> (((8 : Int32) * x4).toInt64 &&& 63)) &&& (255 : Int64)).toInt32))))] H := hP
        have hD : va_D A [(aM, .inr (10, [.ref aM_text, .int M_size, .int M_many, .ref aM_slips, .ref aM_lates, .ref aM_copies, .int M_little, .int M_in, .int M_streak, .int M_lot, .int M_undos, .ref aM_before, .ref aM_images, .ref aM_kept, .long M_trace, .int M_at, .int M_begin, .int M_kind, .long M_value, .int M_readMany, .int M_readLittle, .ref aM_read, .long M_below])), (aM_text, .inl (cI, 200, .inl (upd M_text M_size.toNatClampNeg (((x1 >>> (((8 : Int32) * x4).toInt64 &&& 63)) &&& (255 : Int64)).toInt32))))] := hD
        refine lv_aload_n hx hb dX10_type_60 rfl (lv_at hl 0 rfl) ?_
        refine lv_dup hx hb dX10_type_61 rfl ?_
        refine va_get (D := D) (ci := 10) (v := .int M_size) (C := RX10) (T := TX10) (N := 23) hx hb hts inX10 hown hK hP 0 rfl rfl 1 (by decide) fl_50 (fun _ h9 => h9) rfl dX10_type_62 ?_
        refine lv_iconst (v := (1 : Int32)) hx hb dX10_type_65 (by decide) ?_
        refine lv_iadd hx hb dX10_type_66 ?_
        refine va_put (D := D) (ci := 10) (v := .int (M_size + (1 : Int32))) (ty := .int) (C := RX10) (T := TX10) (N := 23) hx hb hts inX10 tyX10 tyX10_ok nmX10 hown hK hP hD hS 0 rfl rfl 1 (by decide) fl_50 (fun _ h9 => h9) rfl (by decide +kernel) rfl rfl (Nat.le_of_ble_eq_true rfl) dX10_type_67 (fun H locs hP hD hS => ?_)
        have hP : va_P D vwCl [(aM, .inr (10, [.ref aM_text, .int (M_size + (1 : Int32)), .int M_many, .ref aM_slips, .ref aM_lates, .ref aM_copies, .int M_little, .int M_in, .int M_streak, .int M_lot, .int M_undos, .ref aM_before, .ref aM_images, .ref aM_kept, .long M_trace, .int M_at, .int M_begin, .int M_kind, .long M_value, .int M_readMany, .int M_readLittle, .ref aM_read, .long M_below])), (aM_text, .inl (cI, 200, .inl (upd M_text M_size.toNatClampNeg (((x1 >>> (((8 : Int32) * x4).toInt64 &&& 63)) &&& (255 : Int64)).toInt32))))] H := hP
        have hD : va_D A [(aM, .inr (10, [.ref aM_text, .int (M_size + (1 : Int32)), .int M_many, .ref aM_slips, .ref aM_lates, .ref aM_copies, .int M_little, .int M_in, .int M_streak, .int M_lot, .int M_undos, .ref aM_before, .ref aM_images, .ref aM_kept, .long M_trace, .int M_at, .int M_begin, .int M_kind, .long M_value, .int M_readMany, .int M_readLittle, .ref aM_read, .long M_below])), (aM_text, .inl (cI, 200, .inl (upd M_text M_size.toNatClampNeg (((x1 >>> (((8 : Int32) * x4).toInt64 &&& 63)) &&& (255 : Int64)).toInt32))))] := hD
        refine lv_iinc (v := (x4 + (-1 : Int32))) (lv' := [(4, .int (x4 + (-1 : Int32))), (0, .ref aM), (1, .long x1)]) hx hb dX10_type_70 hl (k := 2) rfl rfl (by decide) rfl (fun ls hl => ?_)
        refine lv_goto (tgt := 34) hx hb dX10_type_73 (by decide) ?_
        exact ih (M_size + (1 : Int32)) (upd M_text M_size.toNatClampNeg (((x1 >>> (((8 : Int32) * x4).toInt64 &&& 63)) &&& (255 : Int64)).toInt32)) x1 (x4 + (-1 : Int32)) _ _ hP hD hS ls (lv_sub hl [1, 2, 0] rfl) h
  unfold f_X10_type at h
  refine lv_iload_n hx hb dX10_type_0 rfl (lv_at hl 2 rfl) ?_
  refine lv_i2l (v := p3.toInt64) hx hb dX10_type_1 rfl ?_
  refine lv_lconst (v := (1 : Int64)) hx hb dX10_type_2 (by decide) ?_
  refine lv_ldc2 (v := (8 : Int64)) hx hb hown cst_48 dX10_type_3 ?_
  have hPc : va_P D vwCl [] s.heap := hP.sub [] rfl
  refine vp_callSi (va_Run.run (va_runS (As := [.long p3.toInt64, .long (1 : Int64), .long (8 : Int64)]) (rest := []) ⟨hx, hb, hml, hown, hts⟩ (c_X10_within l D cI cJ cZ cO p3.toInt64 (1 : Int64) (8 : Int64) _ rfl) (cwS 3 hts gX10_type_X10_within rfl rfl rfl (by decide +kernel) ⟨Nat.le_of_ble_eq_true rfl, Nat.le_of_ble_eq_true rfl⟩) ⟨fb_p, fun U hU hW => ⟨rfl, by rw [hU]; exact hPc, KK.warm hW hKK⟩⟩ rfl rfl hl.1 rfl (lv_room (Nat.le_of_ble_eq_true rfl)) dX10_type_6 ⟨Nat.le_of_ble_eq_true rfl, Nat.le_of_ble_eq_true rfl⟩)) (fun r hr => ?_)
  obtain ⟨hr, hz1⟩ := hr
  replace hr := hr.symm
  subst hr
  refine lv_if_ne (tgt := 14) hx hb dX10_type_9 (by decide) (fun c_2 => ?_) (fun c_2 => ?_)
  · replace h := if_n c_2 h
    refine lv_aload_n hx hb dX10_type_14 rfl (lv_at hl 0 rfl) ?_
    refine va_get (D := D) (ci := 10) (v := .int M_size) (C := RX10) (T := TX10) (N := 23) hx hb hts inX10 hown hK hP 0 rfl rfl 1 (by decide) fl_50 (fun _ h9 => h9) rfl dX10_type_15 ?_
    refine lv_iload_n hx hb dX10_type_18 rfl (lv_at hl 2 rfl) ?_
    refine lv_iadd hx hb dX10_type_19 ?_
    refine lv_sipush (v := (200 : Int32)) hx hb dX10_type_20 (by decide) ?_
    refine lv_icmp_le (tgt := 29) hx hb dX10_type_23 (by decide) (fun c_3 => ?_) (fun c_3 => ?_)
    · replace h := if_p c_3 h
      refine lv_iload_n hx hb dX10_type_29 rfl (lv_at hl 2 rfl) ?_
      refine lv_iconst (v := (1 : Int32)) hx hb dX10_type_30 (by decide) ?_
      refine lv_isub hx hb dX10_type_31 ?_
      refine lv_istore (lv' := [(4, .int (p3 - (1 : Int32))), (0, .ref aM), (1, .long p1), (3, .int p3)]) hx hb dX10_type_32 hl (by decide) rfl (fun ls hl => ?_)
      exact L34 300 M_size M_text p1 (p3 - (1 : Int32)) _ _ hP hD hS ls (lv_sub hl [1, 2, 0] rfl) h
    · replace h := if_n c_3 h
      refine lv_bipush (v := (-3 : Int32)) hx hb dX10_type_26 (by decide) ?_
      have hy := Option.some.inj h
      subst hy
      exact W.iret (v := (-3 : Int32)) hx hb hr (fun t ht hW => ⟨⟨(-3 : Int32), (), rfl, rfl, by rw [ht]; exact hP, hD⟩, hS.F ht⟩) hS.2.2 dX10_type_28
  · replace h := if_p c_2 h
    refine lv_iconst (v := (-1 : Int32)) hx hb dX10_type_12 (by decide) ?_
    have hy := Option.some.inj h
    subst hy
    exact W.iret (v := (-1 : Int32)) hx hb hr (fun t ht hW => ⟨⟨(-1 : Int32), (), rfl, rfl, by rw [ht]; exact hP, hD⟩, hS.F ht⟩) hS.2.2 dX10_type_13

def f_X10_clear (M_size : Int32) : Option (Int32 × Int32) := some (M_size, (0 : Int32))
set_option maxHeartbeats 8000000 in
set_option maxRecDepth 100000 in
theorem c_X10_clear (l : Launch) (D : va_G) (cI cJ cZ cO : ClassId) (aM : Nat) (aM_text : Nat) (aM_slips : Nat) (aM_lates : Nat) (aM_copies : Nat) (aM_before : Nat) (aM_images : Nat) (aM_kept : Nat) (aM_read : Nat) (M_size : Int32) (M_many : Int32) (M_little : Int32) (M_in : Int32) (M_streak : Int32) (M_lot : Int32) (M_undos : Int32) (M_trace : Int64) (M_at : Int32) (M_begin : Int32) (M_kind : Int32) (M_value : Int64) (M_readMany : Int32) (M_readLittle : Int32) (M_below : Int64) (sz : Nat)   (y0 : Int32 × Int32) (h : f_X10_clear M_size = some y0) : Met l yX10_clear wsX10_clear ({ frames := 0, cells := 0, slots := 0, locals := 0 } : Room) (va_Pc [.ref aM] (fun U => U.heap.size = sz ∧ va_P D vwCl [(aM, .inr (10, [.ref aM_text, .int M_size, .int M_many, .ref aM_slips, .ref aM_lates, .ref aM_copies, .int M_little, .int M_in, .int M_streak, .int M_lot, .int M_undos, .ref aM_before, .ref aM_images, .ref aM_kept, .long M_trace, .int M_at, .int M_begin, .int M_kind, .long M_value, .int M_readMany, .int M_readLittle, .ref aM_read, .long M_below]))] U.heap ∧ KK D cI cJ cZ cO U ∧ va_D (fun _ => True) [(aM, .inr (10, [.ref aM_text, .int M_size, .int M_many, .ref aM_slips, .ref aM_lates, .ref aM_copies, .int M_little, .int M_in, .int M_streak, .int M_lot, .int M_undos, .ref aM_before, .ref aM_images, .ref aM_kept, .long M_trace, .int M_at, .int M_begin, .int M_kind, .long M_value, .int M_readMany, .int M_readLittle, .ref aM_read, .long M_below]))])) (va_Qi (fun (r : Int32) (_ : Unit) => r = y0.1) (fun (_ : Unit) t => va_P D vwCl [(aM, .inr (10, [.ref aM_text, .int y0.2, .int M_many, .ref aM_slips, .ref aM_lates, .ref aM_copies, .int M_little, .int M_in, .int M_streak, .int M_lot, .int M_undos, .ref aM_before, .ref aM_images, .ref aM_kept, .long M_trace, .int M_at, .int M_begin, .int M_kind, .long M_value, .int M_readMany, .int M_readLittle, .ref aM_read, .long M_below]))] t.heap ∧ va_D (va_A [(aM, .inr (10, [.ref aM_text, .int M_size, .int M_many, .ref aM_slips, .ref aM_lates, .ref aM_copies, .int M_little, .int M_in, .int M_streak, .int M_lot, .int M_undos, .ref aM_before, .ref aM_images, .ref aM_kept, .long M_trace, .int M_at, .int M_begin, .int M_kind, .long M_value, .int M_readMany, .int M_readLittle, .ref aM_read, .long M_below]))] sz) [(aM, .inr (10, [.ref aM_text, .int y0.2, .int M_many, .ref aM_slips, .ref aM_lates, .ref aM_copies, .int M_little, .int M_in, .int M_streak, .int M_lot, .int M_undos, .ref aM_before, .ref aM_images, .ref aM_kept, .long M_trace, .int M_at, .int M_begin, .int M_kind, .long M_value, .int M_readMany, .int M_readLittle, .ref aM_read, .long M_below]))]) (va_A [(aM, .inr (10, [.ref aM_text, .int M_size, .int M_many, .ref aM_slips, .ref aM_lates, .ref aM_copies, .int M_little, .int M_in, .int M_streak, .int M_lot, .int M_undos, .ref aM_before, .ref aM_images, .ref aM_kept, .long M_trace, .int M_at, .int M_begin, .int M_kind, .long M_value, .int M_readMany, .int M_readLittle, .ref aM_read, .long M_below]))] sz)) 0 0 (va_A [(aM, .inr (10, [.ref aM_text, .int M_size, .int M_many, .ref aM_slips, .ref aM_lates, .ref aM_copies, .int M_little, .int M_in, .int M_streak, .int M_lot, .int M_undos, .ref aM_before, .ref aM_images, .ref aM_kept, .long M_trace, .int M_at, .int M_begin, .int M_kind, .long M_value, .int M_readMany, .int M_readLittle, .ref aM_read, .long M_below]))] sz) := by
  refine Met.ofW (cc := cX10_clear) (maxL := 2) (ret := (some .int)) (by decide) rfl ?_
  intro p e s m args below meth c s₁ B hml hv
  obtain ⟨rfl, hsz, hP, hKK, hD0⟩ := hv
  have hx := B.exec
  have hb := B.bytes
  have hr := B.returns
  have hts := atoms_spec (ws := wsX10_clear) B.pre
  have hown : s.vm.findClass RX10 = some m.cls := findClass_of_methodNamed B.named
  have hlocks := B.notSynchronized
  have hK := hKK.1
  have fl_50 := hts (.fieldLink RX10 50 "SimonSaysModel" "size" "I") (by decide +kernel)
  have inX10 : ∀ w ∈ wsX100, w ∈ wsX10_clear := by decide +kernel
  subst hsz
  have hD := hD0.self (sz := s.heap.size)
  generalize hAe : va_A [(aM, .inr (10, [.ref aM_text, .int M_size, .int M_many, .ref aM_slips, .ref aM_lates, .ref aM_copies, .int M_little, .int M_in, .int M_streak, .int M_lot, .int M_undos, .ref aM_before, .ref aM_images, .ref aM_kept, .long M_trace, .int M_at, .int M_begin, .int M_kind, .long M_value, .int M_readMany, .int M_readLittle, .ref aM_read, .long M_below]))] s.heap.size = A at hD ⊢
  have hA : ∀ q : Nat, s.heap.size ≤ q → A q := fun q h => by rw [← hAe]; exact Or.inr h
  have hS : va_S A s.heap s.heap [] := va_S.rf
  have hl := lv_entry ([.ref aM]) (n := 2) (Nat.le_of_ble_eq_true rfl)
  rw [lg_entry_eq]
  generalize (lg_sl ([.ref aM]) ++ List.replicate (2 - (lg_sl ([.ref aM])).length) Slot.unset).toArray = ls at hl ⊢
  have hl : lv_has ls 2 [(0, .ref aM)] := hl
  unfold f_X10_clear at h
  refine lv_aload_n hx hb dX10_clear_0 rfl (lv_at hl 0 rfl) ?_
  refine va_get (D := D) (ci := 10) (v := .int M_size) (C := RX10) (T := TX10) (N := 23) hx hb hts inX10 hown hK hP 0 rfl rfl 1 (by decide) fl_50 (fun _ h9 => h9) rfl dX10_clear_1 ?_
  refine lv_istore_n (lv' := [(1, .int M_size), (0, .ref aM)]) hx hb dX10_clear_4 rfl hl (by decide) rfl (fun ls hl => ?_)
  refine lv_aload_n hx hb dX10_clear_5 rfl (lv_at hl 1 rfl) ?_
  refine lv_iconst (v := (0 : Int32)) hx hb dX10_clear_6 (by decide) ?_
  refine va_put (D := D) (ci := 10) (v := .int (0 : Int32)) (ty := .int) (C := RX10) (T := TX10) (N := 23) hx hb hts inX10 tyX10 tyX10_ok nmX10 hown hK hP hD hS 0 rfl rfl 1 (by decide) fl_50 (fun _ h9 => h9) rfl (by decide +kernel) rfl rfl (Nat.le_of_ble_eq_true rfl) dX10_clear_7 (fun H locs hP hD hS => ?_)
  have hP : va_P D vwCl [(aM, .inr (10, [.ref aM_text, .int (0 : Int32), .int M_many, .ref aM_slips, .ref aM_lates, .ref aM_copies, .int M_little, .int M_in, .int M_streak, .int M_lot, .int M_undos, .ref aM_before, .ref aM_images, .ref aM_kept, .long M_trace, .int M_at, .int M_begin, .int M_kind, .long M_value, .int M_readMany, .int M_readLittle, .ref aM_read, .long M_below]))] H := hP
  have hD : va_D A [(aM, .inr (10, [.ref aM_text, .int (0 : Int32), .int M_many, .ref aM_slips, .ref aM_lates, .ref aM_copies, .int M_little, .int M_in, .int M_streak, .int M_lot, .int M_undos, .ref aM_before, .ref aM_images, .ref aM_kept, .long M_trace, .int M_at, .int M_begin, .int M_kind, .long M_value, .int M_readMany, .int M_readLittle, .ref aM_read, .long M_below]))] := hD
  refine lv_iload_n hx hb dX10_clear_10 rfl (lv_at hl 0 rfl) ?_
  have hy := Option.some.inj h
  subst hy
  exact W.iret (v := M_size) hx hb hr (fun t ht hW => ⟨⟨M_size, (), rfl, rfl, by rw [ht]; exact hP, hD⟩, hS.F ht⟩) hS.2.2 dX10_clear_11

def f_X10_isLetter (p0 : Int32) : Int32 := (if p0 ≤ (96 : Int32) then (0 : Int32) else (if (123 : Int32) ≤ p0 then (0 : Int32) else (1 : Int32)))
set_option maxHeartbeats 8000000 in
set_option maxRecDepth 100000 in
theorem c_X10_isLetter (l : Launch) (D : va_G) (cI cJ cZ cO : ClassId)   (p0 : Int32)  (y0 : Int32) (h : f_X10_isLetter p0 = y0) : Met l yX10_isLetter wsX10_isLetter ({ frames := 0, cells := 0, slots := 0, locals := 0 } : Room) (va_Pc [.int p0] (fun U => va_P D vwCl [] U.heap ∧ KK D cI cJ cZ cO U)) (vp_Si (fun r => r = y0 ∧ zo r)) 0 0 (fun _ => False) := by
  refine Met.ofW (cc := cX10_isLetter) (maxL := 1) (ret := (some .boolean)) (by decide) rfl ?_
  intro p e s m args below meth c s₁ B hml hv
  obtain ⟨rfl, hP, hKK⟩ := hv
  have hx := B.exec
  have hb := B.bytes
  have hr := B.returns
  have hts := atoms_spec (ws := wsX10_isLetter) B.pre
  have hown : s.vm.findClass RX10 = some m.cls := findClass_of_methodNamed B.named
  have hlocks := B.notSynchronized
  have hK := hKK.1
  have hl := lv_entry ([.int p0]) (n := 1) (Nat.le_of_ble_eq_true rfl)
  rw [lg_entry_eq]
  generalize (lg_sl ([.int p0]) ++ List.replicate (1 - (lg_sl ([.int p0])).length) Slot.unset).toArray = ls at hl ⊢
  have hl : lv_has ls 1 [(0, .int p0)] := hl
  unfold f_X10_isLetter at h
  refine lv_iload_n hx hb dX10_isLetter_0 rfl (lv_at hl 0 rfl) ?_
  refine lv_bipush (v := (96 : Int32)) hx hb dX10_isLetter_1 (by decide) ?_
  refine lv_icmp_le (tgt := 16) hx hb dX10_isLetter_3 (by decide) (fun c_1 => ?_) (fun c_1 => ?_)
  · replace h := if_p c_1 h
    refine lv_iconst (v := (0 : Int32)) hx hb dX10_isLetter_16 (by decide) ?_
    exact pr_z hx hb hr hlocks dX10_isLetter_17 h (by decide)
  · replace h := if_n c_1 h
    refine lv_iload_n hx hb dX10_isLetter_6 rfl (lv_at hl 0 rfl) ?_
    refine lv_bipush (v := (123 : Int32)) hx hb dX10_isLetter_7 (by decide) ?_
    refine lv_icmp_ge (tgt := 16) hx hb dX10_isLetter_9 (by decide) (fun c_2 => ?_) (fun c_2 => ?_)
    · replace h := if_p c_2 h
      refine lv_iconst (v := (0 : Int32)) hx hb dX10_isLetter_16 (by decide) ?_
      exact pr_z hx hb hr hlocks dX10_isLetter_17 h (by decide)
    · replace h := if_n c_2 h
      refine lv_iconst (v := (1 : Int32)) hx hb dX10_isLetter_12 (by decide) ?_
      refine lv_goto (tgt := 17) hx hb dX10_isLetter_13 (by decide) ?_
      exact pr_z hx hb hr hlocks dX10_isLetter_17 h (by decide)

def f_X10_isFigure (p0 : Int32) : Int32 := (if p0 ≤ (47 : Int32) then (0 : Int32) else (if (58 : Int32) ≤ p0 then (0 : Int32) else (1 : Int32)))
set_option maxHeartbeats 8000000 in
set_option maxRecDepth 100000 in
theorem c_X10_isFigure (l : Launch) (D : va_G) (cI cJ cZ cO : ClassId)   (p0 : Int32)  (y0 : Int32) (h : f_X10_isFigure p0 = y0) : Met l yX10_isFigure wsX10_isFigure ({ frames := 0, cells := 0, slots := 0, locals := 0 } : Room) (va_Pc [.int p0] (fun U => va_P D vwCl [] U.heap ∧ KK D cI cJ cZ cO U)) (vp_Si (fun r => r = y0 ∧ zo r)) 0 0 (fun _ => False) := by
  refine Met.ofW (cc := cX10_isFigure) (maxL := 1) (ret := (some .boolean)) (by decide) rfl ?_
  intro p e s m args below meth c s₁ B hml hv
  obtain ⟨rfl, hP, hKK⟩ := hv
  have hx := B.exec
  have hb := B.bytes
  have hr := B.returns
  have hts := atoms_spec (ws := wsX10_isFigure) B.pre
  have hown : s.vm.findClass RX10 = some m.cls := findClass_of_methodNamed B.named
  have hlocks := B.notSynchronized
  have hK := hKK.1
  have hl := lv_entry ([.int p0]) (n := 1) (Nat.le_of_ble_eq_true rfl)
  rw [lg_entry_eq]
  generalize (lg_sl ([.int p0]) ++ List.replicate (1 - (lg_sl ([.int p0])).length) Slot.unset).toArray = ls at hl ⊢
  have hl : lv_has ls 1 [(0, .int p0)] := hl
  unfold f_X10_isFigure at h
  refine lv_iload_n hx hb dX10_isFigure_0 rfl (lv_at hl 0 rfl) ?_
  refine lv_bipush (v := (47 : Int32)) hx hb dX10_isFigure_1 (by decide) ?_
  refine lv_icmp_le (tgt := 16) hx hb dX10_isFigure_3 (by decide) (fun c_1 => ?_) (fun c_1 => ?_)
  · replace h := if_p c_1 h
    refine lv_iconst (v := (0 : Int32)) hx hb dX10_isFigure_16 (by decide) ?_
    exact pr_z hx hb hr hlocks dX10_isFigure_17 h (by decide)
  · replace h := if_n c_1 h
    refine lv_iload_n hx hb dX10_isFigure_6 rfl (lv_at hl 0 rfl) ?_
    refine lv_bipush (v := (58 : Int32)) hx hb dX10_isFigure_7 (by decide) ?_
    refine lv_icmp_ge (tgt := 16) hx hb dX10_isFigure_9 (by decide) (fun c_2 => ?_) (fun c_2 => ?_)
    · replace h := if_p c_2 h
      refine lv_iconst (v := (0 : Int32)) hx hb dX10_isFigure_16 (by decide) ?_
      exact pr_z hx hb hr hlocks dX10_isFigure_17 h (by decide)
    · replace h := if_n c_2 h
      refine lv_iconst (v := (1 : Int32)) hx hb dX10_isFigure_12 (by decide) ?_
      refine lv_goto (tgt := 17) hx hb dX10_isFigure_13 (by decide) ?_
      exact pr_z hx hb hr hlocks dX10_isFigure_17 h (by decide)

def f_X10_next_L330 (M_size : Int32) (M_text : Nat → Int32) (M_at : Int32) (M_begin : Int32) (M_kind : Int32) (M_value : Int64) : Option (Int32 × Int32 × Int32 × Int64) := (if M_kind = (2 : Int32) then (if gIn M_begin 200 = true then (if (M_text M_begin.toNatClampNeg) = (48 : Int32) then (if (M_at - M_begin) ≤ (1 : Int32) then some (M_at, M_begin, M_kind, M_value) else some (M_at, M_begin, (4 : Int32), M_value)) else some (M_at, M_begin, M_kind, M_value)) else none) else some (M_at, M_begin, M_kind, M_value))
def f_X10_next_L314 (M_size : Int32) (M_text : Nat → Int32) (k237 : Int32 → Int32 → Int32 → Int64 → Option (Int32 × Int32 × Int32 × Int64)) (M_at : Int32) (M_begin : Int32) (M_kind : Int32) (M_value : Int64) (t0 : Int64) : Option (Int32 × Int32 × Int32 × Int64) := k237 (M_at + (1 : Int32)) M_begin M_kind t0
def f_X10_next_L237 (M_size : Int32) (M_text : Nat → Int32) : Nat → Int32 → Int32 → Int32 → Int64 → Option (Int32 × Int32 × Int32 × Int64)
  | 0, _, _, _, _ => none
  | n + 1, M_at, M_begin, M_kind, M_value => (if M_kind = (2 : Int32) then (if M_size ≤ M_at then f_X10_next_L330 M_size M_text M_at M_begin M_kind M_value else (if gIn M_at 200 = true then (if (f_X10_isFigure (M_text M_at.toNatClampNeg)) = 0 then f_X10_next_L330 M_size M_text M_at M_begin M_kind M_value else (if (2 : Int32) ≤ (M_at - M_begin) then f_X10_next_L314 M_size M_text (f_X10_next_L237 M_size M_text n) M_at M_begin M_kind M_value (1000 : Int64) else (if gIn M_at 200 = true then f_X10_next_L314 M_size M_text (f_X10_next_L237 M_size M_text n) M_at M_begin M_kind M_value ((((10 : Int64) * M_value) + ((M_text M_at.toNatClampNeg).toInt64)) - (48 : Int64)) else none))) else none)) else f_X10_next_L330 M_size M_text M_at M_begin M_kind M_value)
def f_X10_next_L221 (M_size : Int32) (M_text : Nat → Int32) (k143 : Int32 → Int32 → Int32 → Int64 → Option (Int32 × Int32 × Int32 × Int64)) (M_at : Int32) (M_begin : Int32) (M_kind : Int32) (M_value : Int64) (t0 : Int64) : Option (Int32 × Int32 × Int32 × Int64) := k143 (M_at + (1 : Int32)) M_begin M_kind t0
def f_X10_next_L143 (M_size : Int32) (M_text : Nat → Int32) : Nat → Int32 → Int32 → Int32 → Int64 → Option (Int32 × Int32 × Int32 × Int64)
  | 0, _, _, _, _ => none
  | n + 1, M_at, M_begin, M_kind, M_value => (if M_kind = (1 : Int32) then (if M_size ≤ M_at then f_X10_next_L237 M_size M_text 300 M_at M_begin M_kind M_value else (if gIn M_at 200 = true then (if (f_X10_isLetter (M_text M_at.toNatClampNeg)) = 0 then f_X10_next_L237 M_size M_text 300 M_at M_begin M_kind M_value else (if (7 : Int32) ≤ (M_at - M_begin) then f_X10_next_L221 M_size M_text (f_X10_next_L143 M_size M_text n) M_at M_begin M_kind M_value (-1 : Int64) else (if gIn M_at 200 = true then f_X10_next_L221 M_size M_text (f_X10_next_L143 M_size M_text n) M_at M_begin M_kind M_value ((((32 : Int64) * M_value) + ((M_text M_at.toNatClampNeg).toInt64)) - (96 : Int64)) else none))) else none)) else f_X10_next_L237 M_size M_text 300 M_at M_begin M_kind M_value)
def f_X10_next_L118 (M_size : Int32) (M_text : Nat → Int32) (M_at : Int32) (M_begin : Int32) (M_kind : Int32) (M_value : Int64) (t0 : Int32) : Option (Int32 × Int32 × Int32 × Int64) := (if t0 = (3 : Int32) then f_X10_next_L143 M_size M_text 300 (M_at + (1 : Int32)) M_begin t0 M_value else f_X10_next_L143 M_size M_text 300 (M_at + (0 : Int32)) M_begin t0 M_value)
def f_X10_next_L75 (M_size : Int32) (M_text : Nat → Int32) (M_at : Int32) (M_begin : Int32) (M_kind : Int32) (M_value : Int64) (t0 : Int32) : Option (Int32 × Int32 × Int32 × Int64) := (if 0 ≤ t0 then (if (f_X10_isLetter t0) = 0 then (if (f_X10_isFigure t0) = 0 then (if t0 = (59 : Int32) then f_X10_next_L118 M_size M_text M_at M_begin M_kind M_value (3 : Int32) else f_X10_next_L118 M_size M_text M_at M_begin M_kind M_value (4 : Int32)) else f_X10_next_L118 M_size M_text M_at M_begin M_kind M_value (2 : Int32)) else f_X10_next_L118 M_size M_text M_at M_begin M_kind M_value (1 : Int32)) else f_X10_next_L118 M_size M_text M_at M_begin M_kind M_value (0 : Int32))
def f_X10_next_L38 (M_size : Int32) (M_text : Nat → Int32) (M_at : Int32) (M_begin : Int32) (M_kind : Int32) (M_value : Int64) : Option (Int32 × Int32 × Int32 × Int64) := (if M_size ≤ M_at then f_X10_next_L75 M_size M_text M_at M_at M_kind (0 : Int64) (-1 : Int32) else (if gIn M_at 200 = true then f_X10_next_L75 M_size M_text M_at M_at M_kind (0 : Int64) (M_text M_at.toNatClampNeg) else none))
def f_X10_next_L0 (M_size : Int32) (M_text : Nat → Int32) : Nat → Int32 → Int32 → Int32 → Int64 → Option (Int32 × Int32 × Int32 × Int64)
  | 0, _, _, _, _ => none
  | n + 1, M_at, M_begin, M_kind, M_value => (if M_size ≤ M_at then f_X10_next_L38 M_size M_text M_at M_begin M_kind M_value else (if gIn M_at 200 = true then (if (M_text M_at.toNatClampNeg) = (32 : Int32) then f_X10_next_L0 M_size M_text n (M_at + (1 : Int32)) M_begin M_kind M_value else f_X10_next_L38 M_size M_text M_at M_begin M_kind M_value) else none))
def f_X10_next (M_size : Int32) (M_at : Int32) (M_begin : Int32) (M_kind : Int32) (M_value : Int64) (M_text : Nat → Int32) : Option (Int32 × Int32 × Int32 × Int64) := (if M_size ≤ M_at then f_X10_next_L38 M_size M_text M_at M_begin M_kind M_value else (if gIn M_at 200 = true then (if (M_text M_at.toNatClampNeg) = (32 : Int32) then f_X10_next_L0 M_size M_text 300 (M_at + (1 : Int32)) M_begin M_kind M_value else f_X10_next_L38 M_size M_text M_at M_begin M_kind M_value) else none))
set_option maxHeartbeats 8000000 in
set_option maxRecDepth 100000 in
theorem c_X10_next (l : Launch) (D : va_G) (cI cJ cZ cO : ClassId) (aM : Nat) (aM_text : Nat) (aM_slips : Nat) (aM_lates : Nat) (aM_copies : Nat) (aM_before : Nat) (aM_images : Nat) (aM_kept : Nat) (aM_read : Nat) (M_size : Int32) (M_many : Int32) (M_little : Int32) (M_in : Int32) (M_streak : Int32) (M_lot : Int32) (M_undos : Int32) (M_trace : Int64) (M_at : Int32) (M_begin : Int32) (M_kind : Int32) (M_value : Int64) (M_readMany : Int32) (M_readLittle : Int32) (M_below : Int64) (M_text : Nat → Int32) (sz : Nat)   (y0 : Int32 × Int32 × Int32 × Int64) (h : f_X10_next M_size M_at M_begin M_kind M_value M_text = some y0) : Met l yX10_next wsX10_next ({ frames := 1, cells := 0, slots := 0, locals := 20 } : Room) (va_Pc [.ref aM] (fun U => U.heap.size = sz ∧ va_P D vwCl [(aM, .inr (10, [.ref aM_text, .int M_size, .int M_many, .ref aM_slips, .ref aM_lates, .ref aM_copies, .int M_little, .int M_in, .int M_streak, .int M_lot, .int M_undos, .ref aM_before, .ref aM_images, .ref aM_kept, .long M_trace, .int M_at, .int M_begin, .int M_kind, .long M_value, .int M_readMany, .int M_readLittle, .ref aM_read, .long M_below])), (aM_text, .inl (cI, 200, .inl M_text))] U.heap ∧ KK D cI cJ cZ cO U ∧ va_D (fun _ => True) [(aM, .inr (10, [.ref aM_text, .int M_size, .int M_many, .ref aM_slips, .ref aM_lates, .ref aM_copies, .int M_little, .int M_in, .int M_streak, .int M_lot, .int M_undos, .ref aM_before, .ref aM_images, .ref aM_kept, .long M_trace, .int M_at, .int M_begin, .int M_kind, .long M_value, .int M_readMany, .int M_readLittle, .ref aM_read, .long M_below])), (aM_text, .inl (cI, 200, .inl M_text))])) (va_Qv (fun (_ : Unit) => True) (fun (_ : Unit) t => va_P D vwCl [(aM, .inr (10, [.ref aM_text, .int M_size, .int M_many, .ref aM_slips, .ref aM_lates, .ref aM_copies, .int M_little, .int M_in, .int M_streak, .int M_lot, .int M_undos, .ref aM_before, .ref aM_images, .ref aM_kept, .long M_trace, .int y0.1, .int y0.2.1, .int y0.2.2.1, .long y0.2.2.2, .int M_readMany, .int M_readLittle, .ref aM_read, .long M_below])), (aM_text, .inl (cI, 200, .inl M_text))] t.heap ∧ va_D (va_A [(aM, .inr (10, [.ref aM_text, .int M_size, .int M_many, .ref aM_slips, .ref aM_lates, .ref aM_copies, .int M_little, .int M_in, .int M_streak, .int M_lot, .int M_undos, .ref aM_before, .ref aM_images, .ref aM_kept, .long M_trace, .int M_at, .int M_begin, .int M_kind, .long M_value, .int M_readMany, .int M_readLittle, .ref aM_read, .long M_below])), (aM_text, .inl (cI, 200, .inl M_text))] sz) [(aM, .inr (10, [.ref aM_text, .int M_size, .int M_many, .ref aM_slips, .ref aM_lates, .ref aM_copies, .int M_little, .int M_in, .int M_streak, .int M_lot, .int M_undos, .ref aM_before, .ref aM_images, .ref aM_kept, .long M_trace, .int y0.1, .int y0.2.1, .int y0.2.2.1, .long y0.2.2.2, .int M_readMany, .int M_readLittle, .ref aM_read, .long M_below])), (aM_text, .inl (cI, 200, .inl M_text))]) (va_A [(aM, .inr (10, [.ref aM_text, .int M_size, .int M_many, .ref aM_slips, .ref aM_lates, .ref aM_copies, .int M_little, .int M_in, .int M_streak, .int M_lot, .int M_undos, .ref aM_before, .ref aM_images, .ref aM_kept, .long M_trace, .int M_at, .int M_begin, .int M_kind, .long M_value, .int M_readMany, .int M_readLittle, .ref aM_read, .long M_below])), (aM_text, .inl (cI, 200, .inl M_text))] sz)) 0 0 (va_A [(aM, .inr (10, [.ref aM_text, .int M_size, .int M_many, .ref aM_slips, .ref aM_lates, .ref aM_copies, .int M_little, .int M_in, .int M_streak, .int M_lot, .int M_undos, .ref aM_before, .ref aM_images, .ref aM_kept, .long M_trace, .int M_at, .int M_begin, .int M_kind, .long M_value, .int M_readMany, .int M_readLittle, .ref aM_read, .long M_below])), (aM_text, .inl (cI, 200, .inl M_text))] sz) := by
  refine Met.ofW (cc := cX10_next) (maxL := 2) (ret := none) (by decide) rfl ?_
  intro p e s m args below meth c s₁ B hml hv
  obtain ⟨rfl, hsz, hP, hKK, hD0⟩ := hv
  have hx := B.exec
  have hb := B.bytes
  have hr := B.returns
  have hts := atoms_spec (ws := wsX10_next) B.pre
  have hown : s.vm.findClass RX10 = some m.cls := findClass_of_methodNamed B.named
  have hlocks := B.notSynchronized
  have hK := hKK.1
  have fl_7 := hts (.fieldLink RX10 7 "SimonSaysModel" "text" "[I") (by decide +kernel)
  have fl_50 := hts (.fieldLink RX10 50 "SimonSaysModel" "size" "I") (by decide +kernel)
  have fl_55 := hts (.fieldLink RX10 55 "SimonSaysModel" "at" "I") (by decide +kernel)
  have fl_58 := hts (.fieldLink RX10 58 "SimonSaysModel" "begin" "I") (by decide +kernel)
  have fl_61 := hts (.fieldLink RX10 61 "SimonSaysModel" "value" "J") (by decide +kernel)
  have fl_72 := hts (.fieldLink RX10 72 "SimonSaysModel" "kind" "I") (by decide +kernel)
  have cst_75 := hts (.constantLong RX10 75 (32)) (by decide +kernel)
  have cst_77 := hts (.constantLong RX10 77 (96)) (by decide +kernel)
  have cst_79 := hts (.constantLong RX10 79 (-1)) (by decide +kernel)
  have cst_81 := hts (.constantLong RX10 81 (10)) (by decide +kernel)
  have cst_83 := hts (.constantLong RX10 83 (48)) (by decide +kernel)
  have cst_85 := hts (.constantLong RX10 85 (1000)) (by decide +kernel)
  have inX10 : ∀ w ∈ wsX100, w ∈ wsX10_next := by decide +kernel
  subst hsz
  have hD := hD0.self (sz := s.heap.size)
  generalize hAe : va_A [(aM, .inr (10, [.ref aM_text, .int M_size, .int M_many, .ref aM_slips, .ref aM_lates, .ref aM_copies, .int M_little, .int M_in, .int M_streak, .int M_lot, .int M_undos, .ref aM_before, .ref aM_images, .ref aM_kept, .long M_trace, .int M_at, .int M_begin, .int M_kind, .long M_value, .int M_readMany, .int M_readLittle, .ref aM_read, .long M_below])), (aM_text, .inl (cI, 200, .inl M_text))] s.heap.size = A at hD ⊢
  have hA : ∀ q : Nat, s.heap.size ≤ q → A q := fun q h => by rw [← hAe]; exact Or.inr h
  have hS : va_S A s.heap s.heap [] := va_S.rf
  have hl := lv_entry ([.ref aM]) (n := 2) (Nat.le_of_ble_eq_true rfl)
  rw [lg_entry_eq]
  generalize (lg_sl ([.ref aM]) ++ List.replicate (2 - (lg_sl ([.ref aM])).length) Slot.unset).toArray = ls at hl ⊢
  have hl : lv_has ls 2 [(0, .ref aM)] := hl
  have L330 : ∀ (M_at : Int32) (M_begin : Int32) (M_kind : Int32) (M_value : Int64), ∀ (H : Heap) (locs : List Loc), va_P D vwCl [(aM, .inr (10, [.ref aM_text, .int M_size, .int M_many, .ref aM_slips, .ref aM_lates, .ref aM_copies, .int M_little, .int M_in, .int M_streak, .int M_lot, .int M_undos, .ref aM_before, .ref aM_images, .ref aM_kept, .long M_trace, .int M_at, .int M_begin, .int M_kind, .long M_value, .int M_readMany, .int M_readLittle, .ref aM_read, .long M_below])), (aM_text, .inl (cI, 200, .inl M_text))] H → va_D A [(aM, .inr (10, [.ref aM_text, .int M_size, .int M_many, .ref aM_slips, .ref aM_lates, .ref aM_copies, .int M_little, .int M_in, .int M_streak, .int M_lot, .int M_undos, .ref aM_before, .ref aM_images, .ref aM_kept, .long M_trace, .int M_at, .int M_begin, .int M_kind, .long M_value, .int M_readMany, .int M_readLittle, .ref aM_read, .long M_below])), (aM_text, .inl (cI, 200, .inl M_text))] → va_S A s.heap H locs → ∀ (ls : Array Slot), lv_has ls 2 [(0, .ref aM)] → f_X10_next_L330 M_size M_text M_at M_begin M_kind M_value = some y0 → W p l e (headSpec wsX10_next ({ frames := 1, cells := 0, slots := 0, locals := 20 } : Room)).room s m ([.ref aM] : List Value).toArray below meth c H locs 0 0 (MQ below (va_Qv (fun (_ : Unit) => True) (fun (_ : Unit) t => va_P D vwCl [(aM, .inr (10, [.ref aM_text, .int M_size, .int M_many, .ref aM_slips, .ref aM_lates, .ref aM_copies, .int M_little, .int M_in, .int M_streak, .int M_lot, .int M_undos, .ref aM_before, .ref aM_images, .ref aM_kept, .long M_trace, .int y0.1, .int y0.2.1, .int y0.2.2.1, .long y0.2.2.2, .int M_readMany, .int M_readLittle, .ref aM_read, .long M_below])), (aM_text, .inl (cI, 200, .inl M_text))] t.heap ∧ va_D A [(aM, .inr (10, [.ref aM_text, .int M_size, .int M_many, .ref aM_slips, .ref aM_lates, .ref aM_copies, .int M_little, .int M_in, .int M_streak, .int M_lot, .int M_undos, .ref aM_before, .ref aM_images, .ref aM_kept, .long M_trace, .int y0.1, .int y0.2.1, .int y0.2.2.1, .long y0.2.2.2, .int M_readMany, .int M_readLittle, .ref aM_read, .long M_below])), (aM_text, .inl (cI, 200, .inl M_text))]) A) ([.ref aM] : List Value).toArray s 0 0 A) (F0 m 330 ls []) := by
    intro M_at M_begin M_kind M_value H locs hP hD hS ls hl h
    unfold f_X10_next_L330 at h
    refine lv_aload_n hx hb dX10_next_330 rfl (lv_at hl 0 rfl) ?_
    refine va_get (D := D) (ci := 10) (v := .int M_kind) (C := RX10) (T := TX10) (N := 23) hx hb hts inX10 hown hK hP 0 rfl rfl 17 (by decide) fl_72 (fun _ h9 => h9) rfl dX10_next_331 ?_
    refine lv_iconst (v := (2 : Int32)) hx hb dX10_next_334 (by decide) ?_
    refine lv_icmp_ne (tgt := 370) hx hb dX10_next_335 (by decide) (fun c_27 => ?_) (fun c_27 => ?_)
    · replace h := if_n c_27 h
      have hy := Option.some.inj h
      subst hy
      exact W.vret hx hb hr (fun t ht hW => ⟨⟨(), rfl, trivial, by rw [ht]; exact hP, hD⟩, hS.F ht⟩) hS.2.2 dX10_next_370
    · replace h := if_p c_27 h
      refine lv_aload_n hx hb dX10_next_338 rfl (lv_at hl 0 rfl) ?_
      refine va_get (D := D) (ci := 10) (v := .ref aM_text) (C := RX10) (T := TX10) (N := 23) hx hb hts inX10 hown hK hP 0 rfl rfl 0 (by decide) fl_7 (fun _ h9 => h9) rfl dX10_next_339 ?_
      refine lv_aload_n hx hb dX10_next_342 rfl (lv_at hl 0 rfl) ?_
      refine va_get (D := D) (ci := 10) (v := .int M_begin) (C := RX10) (T := TX10) (N := 23) hx hb hts inX10 hown hK hP 0 rfl rfl 16 (by decide) fl_58 (fun _ h9 => h9) rfl dX10_next_343 ?_
      obtain ⟨hi28, h⟩ := gd_in h
      refine va_iald hx hb hK hP 1 0 rfl rfl hi28 dX10_next_346 ?_
      refine lv_bipush (v := (48 : Int32)) hx hb dX10_next_347 (by decide) ?_
      refine lv_icmp_ne (tgt := 370) hx hb dX10_next_349 (by decide) (fun c_29 => ?_) (fun c_29 => ?_)
      · replace h := if_n c_29 h
        have hy := Option.some.inj h
        subst hy
        exact W.vret hx hb hr (fun t ht hW => ⟨⟨(), rfl, trivial, by rw [ht]; exact hP, hD⟩, hS.F ht⟩) hS.2.2 dX10_next_370
      · replace h := if_p c_29 h
        refine lv_aload_n hx hb dX10_next_352 rfl (lv_at hl 0 rfl) ?_
        refine va_get (D := D) (ci := 10) (v := .int M_at) (C := RX10) (T := TX10) (N := 23) hx hb hts inX10 hown hK hP 0 rfl rfl 15 (by decide) fl_55 (fun _ h9 => h9) rfl dX10_next_353 ?_
        refine lv_aload_n hx hb dX10_next_356 rfl (lv_at hl 0 rfl) ?_
        refine va_get (D := D) (ci := 10) (v := .int M_begin) (C := RX10) (T := TX10) (N := 23) hx hb hts inX10 hown hK hP 0 rfl rfl 16 (by decide) fl_58 (fun _ h9 => h9) rfl dX10_next_357 ?_
        refine lv_isub hx hb dX10_next_360 ?_
        refine lv_iconst (v := (1 : Int32)) hx hb dX10_next_361 (by decide) ?_
        refine lv_icmp_le (tgt := 370) hx hb dX10_next_362 (by decide) (fun c_30 => ?_) (fun c_30 => ?_)
        · replace h := if_p c_30 h
          have hy := Option.some.inj h
          subst hy
          exact W.vret hx hb hr (fun t ht hW => ⟨⟨(), rfl, trivial, by rw [ht]; exact hP, hD⟩, hS.F ht⟩) hS.2.2 dX10_next_370
        · replace h := if_n c_30 h
          refine lv_aload_n hx hb dX10_next_365 rfl (lv_at hl 0 rfl) ?_
          refine lv_iconst (v := (4 : Int32)) hx hb dX10_next_366 (by decide) ?_
          refine va_put (D := D) (ci := 10) (v := .int (4 : Int32)) (ty := .int) (C := RX10) (T := TX10) (N := 23) hx hb hts inX10 tyX10 tyX10_ok nmX10 hown hK hP hD hS 0 rfl rfl 17 (by decide) fl_72 (fun _ h9 => h9) rfl (by decide +kernel) rfl rfl (Nat.le_of_ble_eq_true rfl) dX10_next_367 (fun H locs hP hD hS => ?_)
          have hP : va_P D vwCl [(aM, .inr (10, [.ref aM_text, .int M_size, .int M_many, .ref aM_slips, .ref aM_lates, .ref aM_copies, .int M_little, .int M_in, .int M_streak, .int M_lot, .int M_undos, .ref aM_before, .ref aM_images, .ref aM_kept, .long M_trace, .int M_at, .int M_begin, .int (4 : Int32), .long M_value, .int M_readMany, .int M_readLittle, .ref aM_read, .long M_below])), (aM_text, .inl (cI, 200, .inl M_text))] H := hP
          have hD : va_D A [(aM, .inr (10, [.ref aM_text, .int M_size, .int M_many, .ref aM_slips, .ref aM_lates, .ref aM_copies, .int M_little, .int M_in, .int M_streak, .int M_lot, .int M_undos, .ref aM_before, .ref aM_images, .ref aM_kept, .long M_trace, .int M_at, .int M_begin, .int (4 : Int32), .long M_value, .int M_readMany, .int M_readLittle, .ref aM_read, .long M_below])), (aM_text, .inl (cI, 200, .inl M_text))] := hD
          have hy := Option.some.inj h
          subst hy
          exact W.vret hx hb hr (fun t ht hW => ⟨⟨(), rfl, trivial, by rw [ht]; exact hP, hD⟩, hS.F ht⟩) hS.2.2 dX10_next_370
  have L314 : ∀ (k237 : Int32 → Int32 → Int32 → Int64 → Option (Int32 × Int32 × Int32 × Int64)) (_ : ∀ (M_at : Int32) (M_begin : Int32) (M_kind : Int32) (M_value : Int64), ∀ (H : Heap) (locs : List Loc), va_P D vwCl [(aM, .inr (10, [.ref aM_text, .int M_size, .int M_many, .ref aM_slips, .ref aM_lates, .ref aM_copies, .int M_little, .int M_in, .int M_streak, .int M_lot, .int M_undos, .ref aM_before, .ref aM_images, .ref aM_kept, .long M_trace, .int M_at, .int M_begin, .int M_kind, .long M_value, .int M_readMany, .int M_readLittle, .ref aM_read, .long M_below])), (aM_text, .inl (cI, 200, .inl M_text))] H → va_D A [(aM, .inr (10, [.ref aM_text, .int M_size, .int M_many, .ref aM_slips, .ref aM_lates, .ref aM_copies, .int M_little, .int M_in, .int M_streak, .int M_lot, .int M_undos, .ref aM_before, .ref aM_images, .ref aM_kept, .long M_trace, .int M_at, .int M_begin, .int M_kind, .long M_value, .int M_readMany, .int M_readLittle, .ref aM_read, .long M_below])), (aM_text, .inl (cI, 200, .inl M_text))] → va_S A s.heap H locs → ∀ (ls : Array Slot), lv_has ls 2 [(0, .ref aM)] → k237 M_at M_begin M_kind M_value = some y0 → W p l e (headSpec wsX10_next ({ frames := 1, cells := 0, slots := 0, locals := 20 } : Room)).room s m ([.ref aM] : List Value).toArray below meth c H locs 0 0 (MQ below (va_Qv (fun (_ : Unit) => True) (fun (_ : Unit) t => va_P D vwCl [(aM, .inr (10, [.ref aM_text, .int M_size, .int M_many, .ref aM_slips, .ref aM_lates, .ref aM_copies, .int M_little, .int M_in, .int M_streak, .int M_lot, .int M_undos, .ref aM_before, .ref aM_images, .ref aM_kept, .long M_trace, .int y0.1, .int y0.2.1, .int y0.2.2.1, .long y0.2.2.2, .int M_readMany, .int M_readLittle, .ref aM_read, .long M_below])), (aM_text, .inl (cI, 200, .inl M_text))] t.heap ∧ va_D A [(aM, .inr (10, [.ref aM_text, .int M_size, .int M_many, .ref aM_slips, .ref aM_lates, .ref aM_copies, .int M_little, .int M_in, .int M_streak, .int M_lot, .int M_undos, .ref aM_before, .ref aM_images, .ref aM_kept, .long M_trace, .int y0.1, .int y0.2.1, .int y0.2.2.1, .long y0.2.2.2, .int M_readMany, .int M_readLittle, .ref aM_read, .long M_below])), (aM_text, .inl (cI, 200, .inl M_text))]) A) ([.ref aM] : List Value).toArray s 0 0 A) (F0 m 237 ls [])), ∀ (M_at : Int32) (M_begin : Int32) (M_kind : Int32) (M_value : Int64) (t0 : Int64), ∀ (H : Heap) (locs : List Loc), va_P D vwCl [(aM, .inr (10, [.ref aM_text, .int M_size, .int M_many, .ref aM_slips, .ref aM_lates, .ref aM_copies, .int M_little, .int M_in, .int M_streak, .int M_lot, .int M_undos, .ref aM_before, .ref aM_images, .ref aM_kept, .long M_trace, .int M_at, .int M_begin, .int M_kind, .long M_value, .int M_readMany, .int M_readLittle, .ref aM_read, .long M_below])), (aM_text, .inl (cI, 200, .inl M_text))] H → va_D A [(aM, .inr (10, [.ref aM_text, .int M_size, .int M_many, .ref aM_slips, .ref aM_lates, .ref aM_copies, .int M_little, .int M_in, .int M_streak, .int M_lot, .int M_undos, .ref aM_before, .ref aM_images, .ref aM_kept, .long M_trace, .int M_at, .int M_begin, .int M_kind, .long M_value, .int M_readMany, .int M_readLittle, .ref aM_read, .long M_below])), (aM_text, .inl (cI, 200, .inl M_text))] → va_S A s.heap H locs → ∀ (ls : Array Slot), lv_has ls 2 [(0, .ref aM)] → f_X10_next_L314 M_size M_text k237 M_at M_begin M_kind M_value t0 = some y0 → W p l e (headSpec wsX10_next ({ frames := 1, cells := 0, slots := 0, locals := 20 } : Room)).room s m ([.ref aM] : List Value).toArray below meth c H locs 0 0 (MQ below (va_Qv (fun (_ : Unit) => True) (fun (_ : Unit) t => va_P D vwCl [(aM, .inr (10, [.ref aM_text, .int M_size, .int M_many, .ref aM_slips, .ref aM_lates, .ref aM_copies, .int M_little, .int M_in, .int M_streak, .int M_lot, .int M_undos, .ref aM_before, .ref aM_images, .ref aM_kept, .long M_trace, .int y0.1, .int y0.2.1, .int y0.2.2.1, .long y0.2.2.2, .int M_readMany, .int M_readLittle, .ref aM_read, .long M_below])), (aM_text, .inl (cI, 200, .inl M_text))] t.heap ∧ va_D A [(aM, .inr (10, [.ref aM_text, .int M_size, .int M_many, .ref aM_slips, .ref aM_lates, .ref aM_copies, .int M_little, .int M_in, .int M_streak, .int M_lot, .int M_undos, .ref aM_before, .ref aM_images, .ref aM_kept, .long M_trace, .int y0.1, .int y0.2.1, .int y0.2.2.1, .long y0.2.2.2, .int M_readMany, .int M_readLittle, .ref aM_read, .long M_below])), (aM_text, .inl (cI, 200, .inl M_text))]) A) ([.ref aM] : List Value).toArray s 0 0 A) (F0 m 314 ls [.long t0, .ref aM]) := by
    intro k237 hk237
    intro M_at M_begin M_kind M_value t0 H locs hP hD hS ls hl h
    unfold f_X10_next_L314 at h
    refine va_put (D := D) (ci := 10) (v := .long t0) (ty := .long) (C := RX10) (T := TX10) (N := 23) hx hb hts inX10 tyX10 tyX10_ok nmX10 hown hK hP hD hS 0 rfl rfl 18 (by decide) fl_61 (fun _ h9 => h9) rfl (by decide +kernel) rfl rfl (Nat.le_of_ble_eq_true rfl) dX10_next_314 (fun H locs hP hD hS => ?_)
    have hP : va_P D vwCl [(aM, .inr (10, [.ref aM_text, .int M_size, .int M_many, .ref aM_slips, .ref aM_lates, .ref aM_copies, .int M_little, .int M_in, .int M_streak, .int M_lot, .int M_undos, .ref aM_before, .ref aM_images, .ref aM_kept, .long M_trace, .int M_at, .int M_begin, .int M_kind, .long t0, .int M_readMany, .int M_readLittle, .ref aM_read, .long M_below])), (aM_text, .inl (cI, 200, .inl M_text))] H := hP
    have hD : va_D A [(aM, .inr (10, [.ref aM_text, .int M_size, .int M_many, .ref aM_slips, .ref aM_lates, .ref aM_copies, .int M_little, .int M_in, .int M_streak, .int M_lot, .int M_undos, .ref aM_before, .ref aM_images, .ref aM_kept, .long M_trace, .int M_at, .int M_begin, .int M_kind, .long t0, .int M_readMany, .int M_readLittle, .ref aM_read, .long M_below])), (aM_text, .inl (cI, 200, .inl M_text))] := hD
    refine lv_aload_n hx hb dX10_next_317 rfl (lv_at hl 0 rfl) ?_
    refine lv_dup hx hb dX10_next_318 rfl ?_
    refine va_get (D := D) (ci := 10) (v := .int M_at) (C := RX10) (T := TX10) (N := 23) hx hb hts inX10 hown hK hP 0 rfl rfl 15 (by decide) fl_55 (fun _ h9 => h9) rfl dX10_next_319 ?_
    refine lv_iconst (v := (1 : Int32)) hx hb dX10_next_322 (by decide) ?_
    refine lv_iadd hx hb dX10_next_323 ?_
    refine va_put (D := D) (ci := 10) (v := .int (M_at + (1 : Int32))) (ty := .int) (C := RX10) (T := TX10) (N := 23) hx hb hts inX10 tyX10 tyX10_ok nmX10 hown hK hP hD hS 0 rfl rfl 15 (by decide) fl_55 (fun _ h9 => h9) rfl (by decide +kernel) rfl rfl (Nat.le_of_ble_eq_true rfl) dX10_next_324 (fun H locs hP hD hS => ?_)
    have hP : va_P D vwCl [(aM, .inr (10, [.ref aM_text, .int M_size, .int M_many, .ref aM_slips, .ref aM_lates, .ref aM_copies, .int M_little, .int M_in, .int M_streak, .int M_lot, .int M_undos, .ref aM_before, .ref aM_images, .ref aM_kept, .long M_trace, .int (M_at + (1 : Int32)), .int M_begin, .int M_kind, .long t0, .int M_readMany, .int M_readLittle, .ref aM_read, .long M_below])), (aM_text, .inl (cI, 200, .inl M_text))] H := hP
    have hD : va_D A [(aM, .inr (10, [.ref aM_text, .int M_size, .int M_many, .ref aM_slips, .ref aM_lates, .ref aM_copies, .int M_little, .int M_in, .int M_streak, .int M_lot, .int M_undos, .ref aM_before, .ref aM_images, .ref aM_kept, .long M_trace, .int (M_at + (1 : Int32)), .int M_begin, .int M_kind, .long t0, .int M_readMany, .int M_readLittle, .ref aM_read, .long M_below])), (aM_text, .inl (cI, 200, .inl M_text))] := hD
    refine lv_goto (tgt := 237) hx hb dX10_next_327 (by decide) ?_
    exact hk237 (M_at + (1 : Int32)) M_begin M_kind t0 _ _ hP hD hS ls (lv_sub hl [0] rfl) h
  have L237 : ∀ (n : Nat), ∀ (M_at : Int32) (M_begin : Int32) (M_kind : Int32) (M_value : Int64), ∀ (H : Heap) (locs : List Loc), va_P D vwCl [(aM, .inr (10, [.ref aM_text, .int M_size, .int M_many, .ref aM_slips, .ref aM_lates, .ref aM_copies, .int M_little, .int M_in, .int M_streak, .int M_lot, .int M_undos, .ref aM_before, .ref aM_images, .ref aM_kept, .long M_trace, .int M_at, .int M_begin, .int M_kind, .long M_value, .int M_readMany, .int M_readLittle, .ref aM_read, .long M_below])), (aM_text, .inl (cI, 200, .inl M_text))] H → va_D A [(aM, .inr (10, [.ref aM_text, .int M_size, .int M_many, .ref aM_slips, .ref aM_lates, .ref aM_copies, .int M_little, .int M_in, .int M_streak, .int M_lot, .int M_undos, .ref aM_before, .ref aM_images, .ref aM_kept, .long M_trace, .int M_at, .int M_begin, .int M_kind, .long M_value, .int M_readMany, .int M_readLittle, .ref aM_read, .long M_below])), (aM_text, .inl (cI, 200, .inl M_text))] → va_S A s.heap H locs → ∀ (ls : Array Slot), lv_has ls 2 [(0, .ref aM)] → f_X10_next_L237 M_size M_text n M_at M_begin M_kind M_value = some y0 → W p l e (headSpec wsX10_next ({ frames := 1, cells := 0, slots := 0, locals := 20 } : Room)).room s m ([.ref aM] : List Value).toArray below meth c H locs 0 0 (MQ below (va_Qv (fun (_ : Unit) => True) (fun (_ : Unit) t => va_P D vwCl [(aM, .inr (10, [.ref aM_text, .int M_size, .int M_many, .ref aM_slips, .ref aM_lates, .ref aM_copies, .int M_little, .int M_in, .int M_streak, .int M_lot, .int M_undos, .ref aM_before, .ref aM_images, .ref aM_kept, .long M_trace, .int y0.1, .int y0.2.1, .int y0.2.2.1, .long y0.2.2.2, .int M_readMany, .int M_readLittle, .ref aM_read, .long M_below])), (aM_text, .inl (cI, 200, .inl M_text))] t.heap ∧ va_D A [(aM, .inr (10, [.ref aM_text, .int M_size, .int M_many, .ref aM_slips, .ref aM_lates, .ref aM_copies, .int M_little, .int M_in, .int M_streak, .int M_lot, .int M_undos, .ref aM_before, .ref aM_images, .ref aM_kept, .long M_trace, .int y0.1, .int y0.2.1, .int y0.2.2.1, .long y0.2.2.2, .int M_readMany, .int M_readLittle, .ref aM_read, .long M_below])), (aM_text, .inl (cI, 200, .inl M_text))]) A) ([.ref aM] : List Value).toArray s 0 0 A) (F0 m 237 ls []) := by
    intro n
    induction n with
    | zero =>
      intro M_at M_begin M_kind M_value H locs hP hD hS ls hl h
      exact (ns h).elim
    | succ n ih =>
      intro M_at M_begin M_kind M_value H locs hP hD hS ls hl h
      unfold f_X10_next_L237 at h
      refine lv_aload_n hx hb dX10_next_237 rfl (lv_at hl 0 rfl) ?_
      refine va_get (D := D) (ci := 10) (v := .int M_kind) (C := RX10) (T := TX10) (N := 23) hx hb hts inX10 hown hK hP 0 rfl rfl 17 (by decide) fl_72 (fun _ h9 => h9) rfl dX10_next_238 ?_
      refine lv_iconst (v := (2 : Int32)) hx hb dX10_next_241 (by decide) ?_
      refine lv_icmp_ne (tgt := 330) hx hb dX10_next_242 (by decide) (fun c_20 => ?_) (fun c_20 => ?_)
      · replace h := if_n c_20 h
        exact L330 M_at M_begin M_kind M_value _ _ hP hD hS ls (lv_sub hl [0] rfl) h
      · replace h := if_p c_20 h
        refine lv_aload_n hx hb dX10_next_245 rfl (lv_at hl 0 rfl) ?_
        refine va_get (D := D) (ci := 10) (v := .int M_at) (C := RX10) (T := TX10) (N := 23) hx hb hts inX10 hown hK hP 0 rfl rfl 15 (by decide) fl_55 (fun _ h9 => h9) rfl dX10_next_246 ?_
        refine lv_aload_n hx hb dX10_next_249 rfl (lv_at hl 0 rfl) ?_
        refine va_get (D := D) (ci := 10) (v := .int M_size) (C := RX10) (T := TX10) (N := 23) hx hb hts inX10 hown hK hP 0 rfl rfl 1 (by decide) fl_50 (fun _ h9 => h9) rfl dX10_next_250 ?_
        refine lv_icmp_ge (tgt := 330) hx hb dX10_next_253 (by decide) (fun c_21 => ?_) (fun c_21 => ?_)
        · replace h := if_p c_21 h
          exact L330 M_at M_begin M_kind M_value _ _ hP hD hS ls (lv_sub hl [0] rfl) h
        · replace h := if_n c_21 h
          refine lv_aload_n hx hb dX10_next_256 rfl (lv_at hl 0 rfl) ?_
          refine va_get (D := D) (ci := 10) (v := .ref aM_text) (C := RX10) (T := TX10) (N := 23) hx hb hts inX10 hown hK hP 0 rfl rfl 0 (by decide) fl_7 (fun _ h9 => h9) rfl dX10_next_257 ?_
          refine lv_aload_n hx hb dX10_next_260 rfl (lv_at hl 0 rfl) ?_
          refine va_get (D := D) (ci := 10) (v := .int M_at) (C := RX10) (T := TX10) (N := 23) hx hb hts inX10 hown hK hP 0 rfl rfl 15 (by decide) fl_55 (fun _ h9 => h9) rfl dX10_next_261 ?_
          obtain ⟨hi22, h⟩ := gd_in h
          refine va_iald hx hb hK hP 1 0 rfl rfl hi22 dX10_next_264 ?_
          have hPc : va_P D vwCl [] H := hP.sub [] rfl
          refine vp_callSi (va_Run.run (va_runS (As := [.int (M_text M_at.toNatClampNeg)]) (rest := []) ⟨hx, hb, hml, hown, hts⟩ (c_X10_isFigure l D cI cJ cZ cO (M_text M_at.toNatClampNeg) _ rfl) (cwS 1 hts gX10_next_X10_isFigure rfl rfl rfl (by decide +kernel) ⟨Nat.le_of_ble_eq_true rfl, Nat.le_of_ble_eq_true rfl⟩) ⟨fb_p, fun U hU hW => ⟨rfl, by rw [hU]; exact hPc, KK.warm hW hKK⟩⟩ rfl rfl hl.1 rfl (lv_room (Nat.le_of_ble_eq_true rfl)) dX10_next_265 ⟨Nat.le_of_ble_eq_true rfl, Nat.le_of_ble_eq_true rfl⟩)) (fun r hr => ?_)
          obtain ⟨hr, hz23⟩ := hr
          replace hr := hr.symm
          subst hr
          refine lv_if_eq (tgt := 330) hx hb dX10_next_268 (by decide) (fun c_24 => ?_) (fun c_24 => ?_)
          · replace h := if_p c_24 h
            exact L330 M_at M_begin M_kind M_value _ _ hP hD hS ls (lv_sub hl [0] rfl) h
          · replace h := if_n c_24 h
            refine lv_aload_n hx hb dX10_next_271 rfl (lv_at hl 0 rfl) ?_
            refine lv_aload_n hx hb dX10_next_272 rfl (lv_at hl 0 rfl) ?_
            refine va_get (D := D) (ci := 10) (v := .int M_at) (C := RX10) (T := TX10) (N := 23) hx hb hts inX10 hown hK hP 0 rfl rfl 15 (by decide) fl_55 (fun _ h9 => h9) rfl dX10_next_273 ?_
            refine lv_aload_n hx hb dX10_next_276 rfl (lv_at hl 0 rfl) ?_
            refine va_get (D := D) (ci := 10) (v := .int M_begin) (C := RX10) (T := TX10) (N := 23) hx hb hts inX10 hown hK hP 0 rfl rfl 16 (by decide) fl_58 (fun _ h9 => h9) rfl dX10_next_277 ?_
            refine lv_isub hx hb dX10_next_280 ?_
            refine lv_iconst (v := (2 : Int32)) hx hb dX10_next_281 (by decide) ?_
            refine lv_icmp_ge (tgt := 311) hx hb dX10_next_282 (by decide) (fun c_25 => ?_) (fun c_25 => ?_)
            · replace h := if_p c_25 h
              refine lv_ldc2 (v := (1000 : Int64)) hx hb hown cst_85 dX10_next_311 ?_
              exact L314 (f_X10_next_L237 M_size M_text n) ih M_at M_begin M_kind M_value (1000 : Int64) _ _ hP hD hS ls (lv_sub hl [0] rfl) h
            · replace h := if_n c_25 h
              refine lv_ldc2 (v := (10 : Int64)) hx hb hown cst_81 dX10_next_285 ?_
              refine lv_aload_n hx hb dX10_next_288 rfl (lv_at hl 0 rfl) ?_
              refine va_get (D := D) (ci := 10) (v := .long M_value) (C := RX10) (T := TX10) (N := 23) hx hb hts inX10 hown hK hP 0 rfl rfl 18 (by decide) fl_61 (fun _ h9 => h9) rfl dX10_next_289 ?_
              refine lv_lmul hx hb dX10_next_292 ?_
              refine lv_aload_n hx hb dX10_next_293 rfl (lv_at hl 0 rfl) ?_
              refine va_get (D := D) (ci := 10) (v := .ref aM_text) (C := RX10) (T := TX10) (N := 23) hx hb hts inX10 hown hK hP 0 rfl rfl 0 (by decide) fl_7 (fun _ h9 => h9) rfl dX10_next_294 ?_
              refine lv_aload_n hx hb dX10_next_297 rfl (lv_at hl 0 rfl) ?_
              refine va_get (D := D) (ci := 10) (v := .int M_at) (C := RX10) (T := TX10) (N := 23) hx hb hts inX10 hown hK hP 0 rfl rfl 15 (by decide) fl_55 (fun _ h9 => h9) rfl dX10_next_298 ?_
              obtain ⟨hi26, h⟩ := gd_in h
              refine va_iald hx hb hK hP 1 0 rfl rfl hi26 dX10_next_301 ?_
              refine lv_i2l (v := (M_text M_at.toNatClampNeg).toInt64) hx hb dX10_next_302 rfl ?_
              refine lv_ladd hx hb dX10_next_303 ?_
              refine lv_ldc2 (v := (48 : Int64)) hx hb hown cst_83 dX10_next_304 ?_
              refine lv_lsub hx hb dX10_next_307 ?_
              refine lv_goto (tgt := 314) hx hb dX10_next_308 (by decide) ?_
              exact L314 (f_X10_next_L237 M_size M_text n) ih M_at M_begin M_kind M_value ((((10 : Int64) * M_value) + ((M_text M_at.toNatClampNeg).toInt64)) - (48 : Int64)) _ _ hP hD hS ls (lv_sub hl [0] rfl) h
  have L221 : ∀ (k143 : Int32 → Int32 → Int32 → Int64 → Option (Int32 × Int32 × Int32 × Int64)) (_ : ∀ (M_at : Int32) (M_begin : Int32) (M_kind : Int32) (M_value : Int64), ∀ (H : Heap) (locs : List Loc), va_P D vwCl [(aM, .inr (10, [.ref aM_text, .int M_size, .int M_many, .ref aM_slips, .ref aM_lates, .ref aM_copies, .int M_little, .int M_in, .int M_streak, .int M_lot, .int M_undos, .ref aM_before, .ref aM_images, .ref aM_kept, .long M_trace, .int M_at, .int M_begin, .int M_kind, .long M_value, .int M_readMany, .int M_readLittle, .ref aM_read, .long M_below])), (aM_text, .inl (cI, 200, .inl M_text))] H → va_D A [(aM, .inr (10, [.ref aM_text, .int M_size, .int M_many, .ref aM_slips, .ref aM_lates, .ref aM_copies, .int M_little, .int M_in, .int M_streak, .int M_lot, .int M_undos, .ref aM_before, .ref aM_images, .ref aM_kept, .long M_trace, .int M_at, .int M_begin, .int M_kind, .long M_value, .int M_readMany, .int M_readLittle, .ref aM_read, .long M_below])), (aM_text, .inl (cI, 200, .inl M_text))] → va_S A s.heap H locs → ∀ (ls : Array Slot), lv_has ls 2 [(0, .ref aM)] → k143 M_at M_begin M_kind M_value = some y0 → W p l e (headSpec wsX10_next ({ frames := 1, cells := 0, slots := 0, locals := 20 } : Room)).room s m ([.ref aM] : List Value).toArray below meth c H locs 0 0 (MQ below (va_Qv (fun (_ : Unit) => True) (fun (_ : Unit) t => va_P D vwCl [(aM, .inr (10, [.ref aM_text, .int M_size, .int M_many, .ref aM_slips, .ref aM_lates, .ref aM_copies, .int M_little, .int M_in, .int M_streak, .int M_lot, .int M_undos, .ref aM_before, .ref aM_images, .ref aM_kept, .long M_trace, .int y0.1, .int y0.2.1, .int y0.2.2.1, .long y0.2.2.2, .int M_readMany, .int M_readLittle, .ref aM_read, .long M_below])), (aM_text, .inl (cI, 200, .inl M_text))] t.heap ∧ va_D A [(aM, .inr (10, [.ref aM_text, .int M_size, .int M_many, .ref aM_slips, .ref aM_lates, .ref aM_copies, .int M_little, .int M_in, .int M_streak, .int M_lot, .int M_undos, .ref aM_before, .ref aM_images, .ref aM_kept, .long M_trace, .int y0.1, .int y0.2.1, .int y0.2.2.1, .long y0.2.2.2, .int M_readMany, .int M_readLittle, .ref aM_read, .long M_below])), (aM_text, .inl (cI, 200, .inl M_text))]) A) ([.ref aM] : List Value).toArray s 0 0 A) (F0 m 143 ls [])), ∀ (M_at : Int32) (M_begin : Int32) (M_kind : Int32) (M_value : Int64) (t0 : Int64), ∀ (H : Heap) (locs : List Loc), va_P D vwCl [(aM, .inr (10, [.ref aM_text, .int M_size, .int M_many, .ref aM_slips, .ref aM_lates, .ref aM_copies, .int M_little, .int M_in, .int M_streak, .int M_lot, .int M_undos, .ref aM_before, .ref aM_images, .ref aM_kept, .long M_trace, .int M_at, .int M_begin, .int M_kind, .long M_value, .int M_readMany, .int M_readLittle, .ref aM_read, .long M_below])), (aM_text, .inl (cI, 200, .inl M_text))] H → va_D A [(aM, .inr (10, [.ref aM_text, .int M_size, .int M_many, .ref aM_slips, .ref aM_lates, .ref aM_copies, .int M_little, .int M_in, .int M_streak, .int M_lot, .int M_undos, .ref aM_before, .ref aM_images, .ref aM_kept, .long M_trace, .int M_at, .int M_begin, .int M_kind, .long M_value, .int M_readMany, .int M_readLittle, .ref aM_read, .long M_below])), (aM_text, .inl (cI, 200, .inl M_text))] → va_S A s.heap H locs → ∀ (ls : Array Slot), lv_has ls 2 [(0, .ref aM)] → f_X10_next_L221 M_size M_text k143 M_at M_begin M_kind M_value t0 = some y0 → W p l e (headSpec wsX10_next ({ frames := 1, cells := 0, slots := 0, locals := 20 } : Room)).room s m ([.ref aM] : List Value).toArray below meth c H locs 0 0 (MQ below (va_Qv (fun (_ : Unit) => True) (fun (_ : Unit) t => va_P D vwCl [(aM, .inr (10, [.ref aM_text, .int M_size, .int M_many, .ref aM_slips, .ref aM_lates, .ref aM_copies, .int M_little, .int M_in, .int M_streak, .int M_lot, .int M_undos, .ref aM_before, .ref aM_images, .ref aM_kept, .long M_trace, .int y0.1, .int y0.2.1, .int y0.2.2.1, .long y0.2.2.2, .int M_readMany, .int M_readLittle, .ref aM_read, .long M_below])), (aM_text, .inl (cI, 200, .inl M_text))] t.heap ∧ va_D A [(aM, .inr (10, [.ref aM_text, .int M_size, .int M_many, .ref aM_slips, .ref aM_lates, .ref aM_copies, .int M_little, .int M_in, .int M_streak, .int M_lot, .int M_undos, .ref aM_before, .ref aM_images, .ref aM_kept, .long M_trace, .int y0.1, .int y0.2.1, .int y0.2.2.1, .long y0.2.2.2, .int M_readMany, .int M_readLittle, .ref aM_read, .long M_below])), (aM_text, .inl (cI, 200, .inl M_text))]) A) ([.ref aM] : List Value).toArray s 0 0 A) (F0 m 221 ls [.long t0, .ref aM]) := by
    intro k143 hk143
    intro M_at M_begin M_kind M_value t0 H locs hP hD hS ls hl h
    unfold f_X10_next_L221 at h
    refine va_put (D := D) (ci := 10) (v := .long t0) (ty := .long) (C := RX10) (T := TX10) (N := 23) hx hb hts inX10 tyX10 tyX10_ok nmX10 hown hK hP hD hS 0 rfl rfl 18 (by decide) fl_61 (fun _ h9 => h9) rfl (by decide +kernel) rfl rfl (Nat.le_of_ble_eq_true rfl) dX10_next_221 (fun H locs hP hD hS => ?_)
    have hP : va_P D vwCl [(aM, .inr (10, [.ref aM_text, .int M_size, .int M_many, .ref aM_slips, .ref aM_lates, .ref aM_copies, .int M_little, .int M_in, .int M_streak, .int M_lot, .int M_undos, .ref aM_before, .ref aM_images, .ref aM_kept, .long M_trace, .int M_at, .int M_begin, .int M_kind, .long t0, .int M_readMany, .int M_readLittle, .ref aM_read, .long M_below])), (aM_text, .inl (cI, 200, .inl M_text))] H := hP
    have hD : va_D A [(aM, .inr (10, [.ref aM_text, .int M_size, .int M_many, .ref aM_slips, .ref aM_lates, .ref aM_copies, .int M_little, .int M_in, .int M_streak, .int M_lot, .int M_undos, .ref aM_before, .ref aM_images, .ref aM_kept, .long M_trace, .int M_at, .int M_begin, .int M_kind, .long t0, .int M_readMany, .int M_readLittle, .ref aM_read, .long M_below])), (aM_text, .inl (cI, 200, .inl M_text))] := hD
    refine lv_aload_n hx hb dX10_next_224 rfl (lv_at hl 0 rfl) ?_
    refine lv_dup hx hb dX10_next_225 rfl ?_
    refine va_get (D := D) (ci := 10) (v := .int M_at) (C := RX10) (T := TX10) (N := 23) hx hb hts inX10 hown hK hP 0 rfl rfl 15 (by decide) fl_55 (fun _ h9 => h9) rfl dX10_next_226 ?_
    refine lv_iconst (v := (1 : Int32)) hx hb dX10_next_229 (by decide) ?_
    refine lv_iadd hx hb dX10_next_230 ?_
    refine va_put (D := D) (ci := 10) (v := .int (M_at + (1 : Int32))) (ty := .int) (C := RX10) (T := TX10) (N := 23) hx hb hts inX10 tyX10 tyX10_ok nmX10 hown hK hP hD hS 0 rfl rfl 15 (by decide) fl_55 (fun _ h9 => h9) rfl (by decide +kernel) rfl rfl (Nat.le_of_ble_eq_true rfl) dX10_next_231 (fun H locs hP hD hS => ?_)
    have hP : va_P D vwCl [(aM, .inr (10, [.ref aM_text, .int M_size, .int M_many, .ref aM_slips, .ref aM_lates, .ref aM_copies, .int M_little, .int M_in, .int M_streak, .int M_lot, .int M_undos, .ref aM_before, .ref aM_images, .ref aM_kept, .long M_trace, .int (M_at + (1 : Int32)), .int M_begin, .int M_kind, .long t0, .int M_readMany, .int M_readLittle, .ref aM_read, .long M_below])), (aM_text, .inl (cI, 200, .inl M_text))] H := hP
    have hD : va_D A [(aM, .inr (10, [.ref aM_text, .int M_size, .int M_many, .ref aM_slips, .ref aM_lates, .ref aM_copies, .int M_little, .int M_in, .int M_streak, .int M_lot, .int M_undos, .ref aM_before, .ref aM_images, .ref aM_kept, .long M_trace, .int (M_at + (1 : Int32)), .int M_begin, .int M_kind, .long t0, .int M_readMany, .int M_readLittle, .ref aM_read, .long M_below])), (aM_text, .inl (cI, 200, .inl M_text))] := hD
    refine lv_goto (tgt := 143) hx hb dX10_next_234 (by decide) ?_
    exact hk143 (M_at + (1 : Int32)) M_begin M_kind t0 _ _ hP hD hS ls (lv_sub hl [0] rfl) h
  have L143 : ∀ (n : Nat), ∀ (M_at : Int32) (M_begin : Int32) (M_kind : Int32) (M_value : Int64), ∀ (H : Heap) (locs : List Loc), va_P D vwCl [(aM, .inr (10, [.ref aM_text, .int M_size, .int M_many, .ref aM_slips, .ref aM_lates, .ref aM_copies, .int M_little, .int M_in, .int M_streak, .int M_lot, .int M_undos, .ref aM_before, .ref aM_images, .ref aM_kept, .long M_trace, .int M_at, .int M_begin, .int M_kind, .long M_value, .int M_readMany, .int M_readLittle, .ref aM_read, .long M_below])), (aM_text, .inl (cI, 200, .inl M_text))] H → va_D A [(aM, .inr (10, [.ref aM_text, .int M_size, .int M_many, .ref aM_slips, .ref aM_lates, .ref aM_copies, .int M_little, .int M_in, .int M_streak, .int M_lot, .int M_undos, .ref aM_before, .ref aM_images, .ref aM_kept, .long M_trace, .int M_at, .int M_begin, .int M_kind, .long M_value, .int M_readMany, .int M_readLittle, .ref aM_read, .long M_below])), (aM_text, .inl (cI, 200, .inl M_text))] → va_S A s.heap H locs → ∀ (ls : Array Slot), lv_has ls 2 [(0, .ref aM)] → f_X10_next_L143 M_size M_text n M_at M_begin M_kind M_value = some y0 → W p l e (headSpec wsX10_next ({ frames := 1, cells := 0, slots := 0, locals := 20 } : Room)).room s m ([.ref aM] : List Value).toArray below meth c H locs 0 0 (MQ below (va_Qv (fun (_ : Unit) => True) (fun (_ : Unit) t => va_P D vwCl [(aM, .inr (10, [.ref aM_text, .int M_size, .int M_many, .ref aM_slips, .ref aM_lates, .ref aM_copies, .int M_little, .int M_in, .int M_streak, .int M_lot, .int M_undos, .ref aM_before, .ref aM_images, .ref aM_kept, .long M_trace, .int y0.1, .int y0.2.1, .int y0.2.2.1, .long y0.2.2.2, .int M_readMany, .int M_readLittle, .ref aM_read, .long M_below])), (aM_text, .inl (cI, 200, .inl M_text))] t.heap ∧ va_D A [(aM, .inr (10, [.ref aM_text, .int M_size, .int M_many, .ref aM_slips, .ref aM_lates, .ref aM_copies, .int M_little, .int M_in, .int M_streak, .int M_lot, .int M_undos, .ref aM_before, .ref aM_images, .ref aM_kept, .long M_trace, .int y0.1, .int y0.2.1, .int y0.2.2.1, .long y0.2.2.2, .int M_readMany, .int M_readLittle, .ref aM_read, .long M_below])), (aM_text, .inl (cI, 200, .inl M_text))]) A) ([.ref aM] : List Value).toArray s 0 0 A) (F0 m 143 ls []) := by
    intro n
    induction n with
    | zero =>
      intro M_at M_begin M_kind M_value H locs hP hD hS ls hl h
      exact (ns h).elim
    | succ n ih =>
      intro M_at M_begin M_kind M_value H locs hP hD hS ls hl h
      unfold f_X10_next_L143 at h
      refine lv_aload_n hx hb dX10_next_143 rfl (lv_at hl 0 rfl) ?_
      refine va_get (D := D) (ci := 10) (v := .int M_kind) (C := RX10) (T := TX10) (N := 23) hx hb hts inX10 hown hK hP 0 rfl rfl 17 (by decide) fl_72 (fun _ h9 => h9) rfl dX10_next_144 ?_
      refine lv_iconst (v := (1 : Int32)) hx hb dX10_next_147 (by decide) ?_
      refine lv_icmp_ne (tgt := 237) hx hb dX10_next_148 (by decide) (fun c_13 => ?_) (fun c_13 => ?_)
      · replace h := if_n c_13 h
        exact L237 300 M_at M_begin M_kind M_value _ _ hP hD hS ls (lv_sub hl [0] rfl) h
      · replace h := if_p c_13 h
        refine lv_aload_n hx hb dX10_next_151 rfl (lv_at hl 0 rfl) ?_
        refine va_get (D := D) (ci := 10) (v := .int M_at) (C := RX10) (T := TX10) (N := 23) hx hb hts inX10 hown hK hP 0 rfl rfl 15 (by decide) fl_55 (fun _ h9 => h9) rfl dX10_next_152 ?_
        refine lv_aload_n hx hb dX10_next_155 rfl (lv_at hl 0 rfl) ?_
        refine va_get (D := D) (ci := 10) (v := .int M_size) (C := RX10) (T := TX10) (N := 23) hx hb hts inX10 hown hK hP 0 rfl rfl 1 (by decide) fl_50 (fun _ h9 => h9) rfl dX10_next_156 ?_
        refine lv_icmp_ge (tgt := 237) hx hb dX10_next_159 (by decide) (fun c_14 => ?_) (fun c_14 => ?_)
        · replace h := if_p c_14 h
          exact L237 300 M_at M_begin M_kind M_value _ _ hP hD hS ls (lv_sub hl [0] rfl) h
        · replace h := if_n c_14 h
          refine lv_aload_n hx hb dX10_next_162 rfl (lv_at hl 0 rfl) ?_
          refine va_get (D := D) (ci := 10) (v := .ref aM_text) (C := RX10) (T := TX10) (N := 23) hx hb hts inX10 hown hK hP 0 rfl rfl 0 (by decide) fl_7 (fun _ h9 => h9) rfl dX10_next_163 ?_
          refine lv_aload_n hx hb dX10_next_166 rfl (lv_at hl 0 rfl) ?_
          refine va_get (D := D) (ci := 10) (v := .int M_at) (C := RX10) (T := TX10) (N := 23) hx hb hts inX10 hown hK hP 0 rfl rfl 15 (by decide) fl_55 (fun _ h9 => h9) rfl dX10_next_167 ?_
          obtain ⟨hi15, h⟩ := gd_in h
          refine va_iald hx hb hK hP 1 0 rfl rfl hi15 dX10_next_170 ?_
          have hPc : va_P D vwCl [] H := hP.sub [] rfl
          refine vp_callSi (va_Run.run (va_runS (As := [.int (M_text M_at.toNatClampNeg)]) (rest := []) ⟨hx, hb, hml, hown, hts⟩ (c_X10_isLetter l D cI cJ cZ cO (M_text M_at.toNatClampNeg) _ rfl) (cwS 1 hts gX10_next_X10_isLetter rfl rfl rfl (by decide +kernel) ⟨Nat.le_of_ble_eq_true rfl, Nat.le_of_ble_eq_true rfl⟩) ⟨fb_p, fun U hU hW => ⟨rfl, by rw [hU]; exact hPc, KK.warm hW hKK⟩⟩ rfl rfl hl.1 rfl (lv_room (Nat.le_of_ble_eq_true rfl)) dX10_next_171 ⟨Nat.le_of_ble_eq_true rfl, Nat.le_of_ble_eq_true rfl⟩)) (fun r hr => ?_)
          obtain ⟨hr, hz16⟩ := hr
          replace hr := hr.symm
          subst hr
          refine lv_if_eq (tgt := 237) hx hb dX10_next_174 (by decide) (fun c_17 => ?_) (fun c_17 => ?_)
          · replace h := if_p c_17 h
            exact L237 300 M_at M_begin M_kind M_value _ _ hP hD hS ls (lv_sub hl [0] rfl) h
          · replace h := if_n c_17 h
            refine lv_aload_n hx hb dX10_next_177 rfl (lv_at hl 0 rfl) ?_
            refine lv_aload_n hx hb dX10_next_178 rfl (lv_at hl 0 rfl) ?_
            refine va_get (D := D) (ci := 10) (v := .int M_at) (C := RX10) (T := TX10) (N := 23) hx hb hts inX10 hown hK hP 0 rfl rfl 15 (by decide) fl_55 (fun _ h9 => h9) rfl dX10_next_179 ?_
            refine lv_aload_n hx hb dX10_next_182 rfl (lv_at hl 0 rfl) ?_
            refine va_get (D := D) (ci := 10) (v := .int M_begin) (C := RX10) (T := TX10) (N := 23) hx hb hts inX10 hown hK hP 0 rfl rfl 16 (by decide) fl_58 (fun _ h9 => h9) rfl dX10_next_183 ?_
            refine lv_isub hx hb dX10_next_186 ?_
            refine lv_bipush (v := (7 : Int32)) hx hb dX10_next_187 (by decide) ?_
            refine lv_icmp_ge (tgt := 218) hx hb dX10_next_189 (by decide) (fun c_18 => ?_) (fun c_18 => ?_)
            · replace h := if_p c_18 h
              refine lv_ldc2 (v := (-1 : Int64)) hx hb hown cst_79 dX10_next_218 ?_
              exact L221 (f_X10_next_L143 M_size M_text n) ih M_at M_begin M_kind M_value (-1 : Int64) _ _ hP hD hS ls (lv_sub hl [0] rfl) h
            · replace h := if_n c_18 h
              refine lv_ldc2 (v := (32 : Int64)) hx hb hown cst_75 dX10_next_192 ?_
              refine lv_aload_n hx hb dX10_next_195 rfl (lv_at hl 0 rfl) ?_
              refine va_get (D := D) (ci := 10) (v := .long M_value) (C := RX10) (T := TX10) (N := 23) hx hb hts inX10 hown hK hP 0 rfl rfl 18 (by decide) fl_61 (fun _ h9 => h9) rfl dX10_next_196 ?_
              refine lv_lmul hx hb dX10_next_199 ?_
              refine lv_aload_n hx hb dX10_next_200 rfl (lv_at hl 0 rfl) ?_
              refine va_get (D := D) (ci := 10) (v := .ref aM_text) (C := RX10) (T := TX10) (N := 23) hx hb hts inX10 hown hK hP 0 rfl rfl 0 (by decide) fl_7 (fun _ h9 => h9) rfl dX10_next_201 ?_
              refine lv_aload_n hx hb dX10_next_204 rfl (lv_at hl 0 rfl) ?_
              refine va_get (D := D) (ci := 10) (v := .int M_at) (C := RX10) (T := TX10) (N := 23) hx hb hts inX10 hown hK hP 0 rfl rfl 15 (by decide) fl_55 (fun _ h9 => h9) rfl dX10_next_205 ?_
              obtain ⟨hi19, h⟩ := gd_in h
              refine va_iald hx hb hK hP 1 0 rfl rfl hi19 dX10_next_208 ?_
              refine lv_i2l (v := (M_text M_at.toNatClampNeg).toInt64) hx hb dX10_next_209 rfl ?_
              refine lv_ladd hx hb dX10_next_210 ?_
              refine lv_ldc2 (v := (96 : Int64)) hx hb hown cst_77 dX10_next_211 ?_
              refine lv_lsub hx hb dX10_next_214 ?_
              refine lv_goto (tgt := 221) hx hb dX10_next_215 (by decide) ?_
              exact L221 (f_X10_next_L143 M_size M_text n) ih M_at M_begin M_kind M_value ((((32 : Int64) * M_value) + ((M_text M_at.toNatClampNeg).toInt64)) - (96 : Int64)) _ _ hP hD hS ls (lv_sub hl [0] rfl) h
  have L118 : ∀ (M_at : Int32) (M_begin : Int32) (M_kind : Int32) (M_value : Int64) (t0 : Int32), ∀ (H : Heap) (locs : List Loc), va_P D vwCl [(aM, .inr (10, [.ref aM_text, .int M_size, .int M_many, .ref aM_slips, .ref aM_lates, .ref aM_copies, .int M_little, .int M_in, .int M_streak, .int M_lot, .int M_undos, .ref aM_before, .ref aM_images, .ref aM_kept, .long M_trace, .int M_at, .int M_begin, .int M_kind, .long M_value, .int M_readMany, .int M_readLittle, .ref aM_read, .long M_below])), (aM_text, .inl (cI, 200, .inl M_text))] H → va_D A [(aM, .inr (10, [.ref aM_text, .int M_size, .int M_many, .ref aM_slips, .ref aM_lates, .ref aM_copies, .int M_little, .int M_in, .int M_streak, .int M_lot, .int M_undos, .ref aM_before, .ref aM_images, .ref aM_kept, .long M_trace, .int M_at, .int M_begin, .int M_kind, .long M_value, .int M_readMany, .int M_readLittle, .ref aM_read, .long M_below])), (aM_text, .inl (cI, 200, .inl M_text))] → va_S A s.heap H locs → ∀ (ls : Array Slot), lv_has ls 2 [(0, .ref aM)] → f_X10_next_L118 M_size M_text M_at M_begin M_kind M_value t0 = some y0 → W p l e (headSpec wsX10_next ({ frames := 1, cells := 0, slots := 0, locals := 20 } : Room)).room s m ([.ref aM] : List Value).toArray below meth c H locs 0 0 (MQ below (va_Qv (fun (_ : Unit) => True) (fun (_ : Unit) t => va_P D vwCl [(aM, .inr (10, [.ref aM_text, .int M_size, .int M_many, .ref aM_slips, .ref aM_lates, .ref aM_copies, .int M_little, .int M_in, .int M_streak, .int M_lot, .int M_undos, .ref aM_before, .ref aM_images, .ref aM_kept, .long M_trace, .int y0.1, .int y0.2.1, .int y0.2.2.1, .long y0.2.2.2, .int M_readMany, .int M_readLittle, .ref aM_read, .long M_below])), (aM_text, .inl (cI, 200, .inl M_text))] t.heap ∧ va_D A [(aM, .inr (10, [.ref aM_text, .int M_size, .int M_many, .ref aM_slips, .ref aM_lates, .ref aM_copies, .int M_little, .int M_in, .int M_streak, .int M_lot, .int M_undos, .ref aM_before, .ref aM_images, .ref aM_kept, .long M_trace, .int y0.1, .int y0.2.1, .int y0.2.2.1, .long y0.2.2.2, .int M_readMany, .int M_readLittle, .ref aM_read, .long M_below])), (aM_text, .inl (cI, 200, .inl M_text))]) A) ([.ref aM] : List Value).toArray s 0 0 A) (F0 m 118 ls [.int t0, .ref aM]) := by
    intro M_at M_begin M_kind M_value t0 H locs hP hD hS ls hl h
    unfold f_X10_next_L118 at h
    refine va_put (D := D) (ci := 10) (v := .int t0) (ty := .int) (C := RX10) (T := TX10) (N := 23) hx hb hts inX10 tyX10 tyX10_ok nmX10 hown hK hP hD hS 0 rfl rfl 17 (by decide) fl_72 (fun _ h9 => h9) rfl (by decide +kernel) rfl rfl (Nat.le_of_ble_eq_true rfl) dX10_next_118 (fun H locs hP hD hS => ?_)
    have hP : va_P D vwCl [(aM, .inr (10, [.ref aM_text, .int M_size, .int M_many, .ref aM_slips, .ref aM_lates, .ref aM_copies, .int M_little, .int M_in, .int M_streak, .int M_lot, .int M_undos, .ref aM_before, .ref aM_images, .ref aM_kept, .long M_trace, .int M_at, .int M_begin, .int t0, .long M_value, .int M_readMany, .int M_readLittle, .ref aM_read, .long M_below])), (aM_text, .inl (cI, 200, .inl M_text))] H := hP
    have hD : va_D A [(aM, .inr (10, [.ref aM_text, .int M_size, .int M_many, .ref aM_slips, .ref aM_lates, .ref aM_copies, .int M_little, .int M_in, .int M_streak, .int M_lot, .int M_undos, .ref aM_before, .ref aM_images, .ref aM_kept, .long M_trace, .int M_at, .int M_begin, .int t0, .long M_value, .int M_readMany, .int M_readLittle, .ref aM_read, .long M_below])), (aM_text, .inl (cI, 200, .inl M_text))] := hD
    refine lv_aload_n hx hb dX10_next_121 rfl (lv_at hl 0 rfl) ?_
    refine lv_dup hx hb dX10_next_122 rfl ?_
    refine va_get (D := D) (ci := 10) (v := .int M_at) (C := RX10) (T := TX10) (N := 23) hx hb hts inX10 hown hK hP 0 rfl rfl 15 (by decide) fl_55 (fun _ h9 => h9) rfl dX10_next_123 ?_
    refine lv_aload_n hx hb dX10_next_126 rfl (lv_at hl 0 rfl) ?_
    refine va_get (D := D) (ci := 10) (v := .int t0) (C := RX10) (T := TX10) (N := 23) hx hb hts inX10 hown hK hP 0 rfl rfl 17 (by decide) fl_72 (fun _ h9 => h9) rfl dX10_next_127 ?_
    refine lv_iconst (v := (3 : Int32)) hx hb dX10_next_130 (by decide) ?_
    refine lv_icmp_ne (tgt := 138) hx hb dX10_next_131 (by decide) (fun c_12 => ?_) (fun c_12 => ?_)
    · replace h := if_n c_12 h
      refine lv_iconst (v := (0 : Int32)) hx hb dX10_next_138 (by decide) ?_
      refine lv_iadd hx hb dX10_next_139 ?_
      refine va_put (D := D) (ci := 10) (v := .int (M_at + (0 : Int32))) (ty := .int) (C := RX10) (T := TX10) (N := 23) hx hb hts inX10 tyX10 tyX10_ok nmX10 hown hK hP hD hS 0 rfl rfl 15 (by decide) fl_55 (fun _ h9 => h9) rfl (by decide +kernel) rfl rfl (Nat.le_of_ble_eq_true rfl) dX10_next_140 (fun H locs hP hD hS => ?_)
      have hP : va_P D vwCl [(aM, .inr (10, [.ref aM_text, .int M_size, .int M_many, .ref aM_slips, .ref aM_lates, .ref aM_copies, .int M_little, .int M_in, .int M_streak, .int M_lot, .int M_undos, .ref aM_before, .ref aM_images, .ref aM_kept, .long M_trace, .int (M_at + (0 : Int32)), .int M_begin, .int t0, .long M_value, .int M_readMany, .int M_readLittle, .ref aM_read, .long M_below])), (aM_text, .inl (cI, 200, .inl M_text))] H := hP
      have hD : va_D A [(aM, .inr (10, [.ref aM_text, .int M_size, .int M_many, .ref aM_slips, .ref aM_lates, .ref aM_copies, .int M_little, .int M_in, .int M_streak, .int M_lot, .int M_undos, .ref aM_before, .ref aM_images, .ref aM_kept, .long M_trace, .int (M_at + (0 : Int32)), .int M_begin, .int t0, .long M_value, .int M_readMany, .int M_readLittle, .ref aM_read, .long M_below])), (aM_text, .inl (cI, 200, .inl M_text))] := hD
      exact L143 300 (M_at + (0 : Int32)) M_begin t0 M_value _ _ hP hD hS ls (lv_sub hl [0] rfl) h
    · replace h := if_p c_12 h
      refine lv_iconst (v := (1 : Int32)) hx hb dX10_next_134 (by decide) ?_
      refine lv_goto (tgt := 139) hx hb dX10_next_135 (by decide) ?_
      refine lv_iadd hx hb dX10_next_139 ?_
      refine va_put (D := D) (ci := 10) (v := .int (M_at + (1 : Int32))) (ty := .int) (C := RX10) (T := TX10) (N := 23) hx hb hts inX10 tyX10 tyX10_ok nmX10 hown hK hP hD hS 0 rfl rfl 15 (by decide) fl_55 (fun _ h9 => h9) rfl (by decide +kernel) rfl rfl (Nat.le_of_ble_eq_true rfl) dX10_next_140 (fun H locs hP hD hS => ?_)
      have hP : va_P D vwCl [(aM, .inr (10, [.ref aM_text, .int M_size, .int M_many, .ref aM_slips, .ref aM_lates, .ref aM_copies, .int M_little, .int M_in, .int M_streak, .int M_lot, .int M_undos, .ref aM_before, .ref aM_images, .ref aM_kept, .long M_trace, .int (M_at + (1 : Int32)), .int M_begin, .int t0, .long M_value, .int M_readMany, .int M_readLittle, .ref aM_read, .long M_below])), (aM_text, .inl (cI, 200, .inl M_text))] H := hP
      have hD : va_D A [(aM, .inr (10, [.ref aM_text, .int M_size, .int M_many, .ref aM_slips, .ref aM_lates, .ref aM_copies, .int M_little, .int M_in, .int M_streak, .int M_lot, .int M_undos, .ref aM_before, .ref aM_images, .ref aM_kept, .long M_trace, .int (M_at + (1 : Int32)), .int M_begin, .int t0, .long M_value, .int M_readMany, .int M_readLittle, .ref aM_read, .long M_below])), (aM_text, .inl (cI, 200, .inl M_text))] := hD
      exact L143 300 (M_at + (1 : Int32)) M_begin t0 M_value _ _ hP hD hS ls (lv_sub hl [0] rfl) h
  have L75 : ∀ (M_at : Int32) (M_begin : Int32) (M_kind : Int32) (M_value : Int64) (t0 : Int32), ∀ (H : Heap) (locs : List Loc), va_P D vwCl [(aM, .inr (10, [.ref aM_text, .int M_size, .int M_many, .ref aM_slips, .ref aM_lates, .ref aM_copies, .int M_little, .int M_in, .int M_streak, .int M_lot, .int M_undos, .ref aM_before, .ref aM_images, .ref aM_kept, .long M_trace, .int M_at, .int M_begin, .int M_kind, .long M_value, .int M_readMany, .int M_readLittle, .ref aM_read, .long M_below])), (aM_text, .inl (cI, 200, .inl M_text))] H → va_D A [(aM, .inr (10, [.ref aM_text, .int M_size, .int M_many, .ref aM_slips, .ref aM_lates, .ref aM_copies, .int M_little, .int M_in, .int M_streak, .int M_lot, .int M_undos, .ref aM_before, .ref aM_images, .ref aM_kept, .long M_trace, .int M_at, .int M_begin, .int M_kind, .long M_value, .int M_readMany, .int M_readLittle, .ref aM_read, .long M_below])), (aM_text, .inl (cI, 200, .inl M_text))] → va_S A s.heap H locs → ∀ (ls : Array Slot), lv_has ls 2 [(0, .ref aM)] → f_X10_next_L75 M_size M_text M_at M_begin M_kind M_value t0 = some y0 → W p l e (headSpec wsX10_next ({ frames := 1, cells := 0, slots := 0, locals := 20 } : Room)).room s m ([.ref aM] : List Value).toArray below meth c H locs 0 0 (MQ below (va_Qv (fun (_ : Unit) => True) (fun (_ : Unit) t => va_P D vwCl [(aM, .inr (10, [.ref aM_text, .int M_size, .int M_many, .ref aM_slips, .ref aM_lates, .ref aM_copies, .int M_little, .int M_in, .int M_streak, .int M_lot, .int M_undos, .ref aM_before, .ref aM_images, .ref aM_kept, .long M_trace, .int y0.1, .int y0.2.1, .int y0.2.2.1, .long y0.2.2.2, .int M_readMany, .int M_readLittle, .ref aM_read, .long M_below])), (aM_text, .inl (cI, 200, .inl M_text))] t.heap ∧ va_D A [(aM, .inr (10, [.ref aM_text, .int M_size, .int M_many, .ref aM_slips, .ref aM_lates, .ref aM_copies, .int M_little, .int M_in, .int M_streak, .int M_lot, .int M_undos, .ref aM_before, .ref aM_images, .ref aM_kept, .long M_trace, .int y0.1, .int y0.2.1, .int y0.2.2.1, .long y0.2.2.2, .int M_readMany, .int M_readLittle, .ref aM_read, .long M_below])), (aM_text, .inl (cI, 200, .inl M_text))]) A) ([.ref aM] : List Value).toArray s 0 0 A) (F0 m 75 ls [.int t0]) := by
    intro M_at M_begin M_kind M_value t0 H locs hP hD hS ls hl h
    unfold f_X10_next_L75 at h
    refine lv_istore_n (lv' := [(1, .int t0), (0, .ref aM)]) hx hb dX10_next_75 rfl hl (by decide) rfl (fun ls hl => ?_)
    refine lv_aload_n hx hb dX10_next_76 rfl (lv_at hl 1 rfl) ?_
    refine lv_iload_n hx hb dX10_next_77 rfl (lv_at hl 0 rfl) ?_
    refine lv_if_ge (tgt := 85) hx hb dX10_next_78 (by decide) (fun c_6 => ?_) (fun c_6 => ?_)
    · replace h := if_p c_6 h
      refine lv_iload_n hx hb dX10_next_85 rfl (lv_at hl 0 rfl) ?_
      have hPc : va_P D vwCl [] H := hP.sub [] rfl
      refine vp_callSi (va_Run.run (va_runS (As := [.int t0]) (rest := [.ref aM]) ⟨hx, hb, hml, hown, hts⟩ (c_X10_isLetter l D cI cJ cZ cO t0 _ rfl) (cwS 1 hts gX10_next_X10_isLetter rfl rfl rfl (by decide +kernel) ⟨Nat.le_of_ble_eq_true rfl, Nat.le_of_ble_eq_true rfl⟩) ⟨fb_p, fun U hU hW => ⟨rfl, by rw [hU]; exact hPc, KK.warm hW hKK⟩⟩ rfl rfl hl.1 rfl (lv_room (Nat.le_of_ble_eq_true rfl)) dX10_next_86 ⟨Nat.le_of_ble_eq_true rfl, Nat.le_of_ble_eq_true rfl⟩)) (fun r hr => ?_)
      obtain ⟨hr, hz7⟩ := hr
      replace hr := hr.symm
      subst hr
      refine lv_if_eq (tgt := 96) hx hb dX10_next_89 (by decide) (fun c_8 => ?_) (fun c_8 => ?_)
      · replace h := if_p c_8 h
        refine lv_iload_n hx hb dX10_next_96 rfl (lv_at hl 0 rfl) ?_
        have hPc : va_P D vwCl [] H := hP.sub [] rfl
        refine vp_callSi (va_Run.run (va_runS (As := [.int t0]) (rest := [.ref aM]) ⟨hx, hb, hml, hown, hts⟩ (c_X10_isFigure l D cI cJ cZ cO t0 _ rfl) (cwS 1 hts gX10_next_X10_isFigure rfl rfl rfl (by decide +kernel) ⟨Nat.le_of_ble_eq_true rfl, Nat.le_of_ble_eq_true rfl⟩) ⟨fb_p, fun U hU hW => ⟨rfl, by rw [hU]; exact hPc, KK.warm hW hKK⟩⟩ rfl rfl hl.1 rfl (lv_room (Nat.le_of_ble_eq_true rfl)) dX10_next_97 ⟨Nat.le_of_ble_eq_true rfl, Nat.le_of_ble_eq_true rfl⟩)) (fun r hr => ?_)
        obtain ⟨hr, hz9⟩ := hr
        replace hr := hr.symm
        subst hr
        refine lv_if_eq (tgt := 107) hx hb dX10_next_100 (by decide) (fun c_10 => ?_) (fun c_10 => ?_)
        · replace h := if_p c_10 h
          refine lv_iload_n hx hb dX10_next_107 rfl (lv_at hl 0 rfl) ?_
          refine lv_bipush (v := (59 : Int32)) hx hb dX10_next_108 (by decide) ?_
          refine lv_icmp_ne (tgt := 117) hx hb dX10_next_110 (by decide) (fun c_11 => ?_) (fun c_11 => ?_)
          · replace h := if_n c_11 h
            refine lv_iconst (v := (4 : Int32)) hx hb dX10_next_117 (by decide) ?_
            exact L118 M_at M_begin M_kind M_value (4 : Int32) _ _ hP hD hS ls (lv_sub hl [1] rfl) h
          · replace h := if_p c_11 h
            refine lv_iconst (v := (3 : Int32)) hx hb dX10_next_113 (by decide) ?_
            refine lv_goto (tgt := 118) hx hb dX10_next_114 (by decide) ?_
            exact L118 M_at M_begin M_kind M_value (3 : Int32) _ _ hP hD hS ls (lv_sub hl [1] rfl) h
        · replace h := if_n c_10 h
          refine lv_iconst (v := (2 : Int32)) hx hb dX10_next_103 (by decide) ?_
          refine lv_goto (tgt := 118) hx hb dX10_next_104 (by decide) ?_
          exact L118 M_at M_begin M_kind M_value (2 : Int32) _ _ hP hD hS ls (lv_sub hl [1] rfl) h
      · replace h := if_n c_8 h
        refine lv_iconst (v := (1 : Int32)) hx hb dX10_next_92 (by decide) ?_
        refine lv_goto (tgt := 118) hx hb dX10_next_93 (by decide) ?_
        exact L118 M_at M_begin M_kind M_value (1 : Int32) _ _ hP hD hS ls (lv_sub hl [1] rfl) h
    · replace h := if_n c_6 h
      refine lv_iconst (v := (0 : Int32)) hx hb dX10_next_81 (by decide) ?_
      refine lv_goto (tgt := 118) hx hb dX10_next_82 (by decide) ?_
      exact L118 M_at M_begin M_kind M_value (0 : Int32) _ _ hP hD hS ls (lv_sub hl [1] rfl) h
  have L38 : ∀ (M_at : Int32) (M_begin : Int32) (M_kind : Int32) (M_value : Int64), ∀ (H : Heap) (locs : List Loc), va_P D vwCl [(aM, .inr (10, [.ref aM_text, .int M_size, .int M_many, .ref aM_slips, .ref aM_lates, .ref aM_copies, .int M_little, .int M_in, .int M_streak, .int M_lot, .int M_undos, .ref aM_before, .ref aM_images, .ref aM_kept, .long M_trace, .int M_at, .int M_begin, .int M_kind, .long M_value, .int M_readMany, .int M_readLittle, .ref aM_read, .long M_below])), (aM_text, .inl (cI, 200, .inl M_text))] H → va_D A [(aM, .inr (10, [.ref aM_text, .int M_size, .int M_many, .ref aM_slips, .ref aM_lates, .ref aM_copies, .int M_little, .int M_in, .int M_streak, .int M_lot, .int M_undos, .ref aM_before, .ref aM_images, .ref aM_kept, .long M_trace, .int M_at, .int M_begin, .int M_kind, .long M_value, .int M_readMany, .int M_readLittle, .ref aM_read, .long M_below])), (aM_text, .inl (cI, 200, .inl M_text))] → va_S A s.heap H locs → ∀ (ls : Array Slot), lv_has ls 2 [(0, .ref aM)] → f_X10_next_L38 M_size M_text M_at M_begin M_kind M_value = some y0 → W p l e (headSpec wsX10_next ({ frames := 1, cells := 0, slots := 0, locals := 20 } : Room)).room s m ([.ref aM] : List Value).toArray below meth c H locs 0 0 (MQ below (va_Qv (fun (_ : Unit) => True) (fun (_ : Unit) t => va_P D vwCl [(aM, .inr (10, [.ref aM_text, .int M_size, .int M_many, .ref aM_slips, .ref aM_lates, .ref aM_copies, .int M_little, .int M_in, .int M_streak, .int M_lot, .int M_undos, .ref aM_before, .ref aM_images, .ref aM_kept, .long M_trace, .int y0.1, .int y0.2.1, .int y0.2.2.1, .long y0.2.2.2, .int M_readMany, .int M_readLittle, .ref aM_read, .long M_below])), (aM_text, .inl (cI, 200, .inl M_text))] t.heap ∧ va_D A [(aM, .inr (10, [.ref aM_text, .int M_size, .int M_many, .ref aM_slips, .ref aM_lates, .ref aM_copies, .int M_little, .int M_in, .int M_streak, .int M_lot, .int M_undos, .ref aM_before, .ref aM_images, .ref aM_kept, .long M_trace, .int y0.1, .int y0.2.1, .int y0.2.2.1, .long y0.2.2.2, .int M_readMany, .int M_readLittle, .ref aM_read, .long M_below])), (aM_text, .inl (cI, 200, .inl M_text))]) A) ([.ref aM] : List Value).toArray s 0 0 A) (F0 m 38 ls []) := by
    intro M_at M_begin M_kind M_value H locs hP hD hS ls hl h
    unfold f_X10_next_L38 at h
    refine lv_aload_n hx hb dX10_next_38 rfl (lv_at hl 0 rfl) ?_
    refine lv_aload_n hx hb dX10_next_39 rfl (lv_at hl 0 rfl) ?_
    refine va_get (D := D) (ci := 10) (v := .int M_at) (C := RX10) (T := TX10) (N := 23) hx hb hts inX10 hown hK hP 0 rfl rfl 15 (by decide) fl_55 (fun _ h9 => h9) rfl dX10_next_40 ?_
    refine va_put (D := D) (ci := 10) (v := .int M_at) (ty := .int) (C := RX10) (T := TX10) (N := 23) hx hb hts inX10 tyX10 tyX10_ok nmX10 hown hK hP hD hS 0 rfl rfl 16 (by decide) fl_58 (fun _ h9 => h9) rfl (by decide +kernel) rfl rfl (Nat.le_of_ble_eq_true rfl) dX10_next_43 (fun H locs hP hD hS => ?_)
    have hP : va_P D vwCl [(aM, .inr (10, [.ref aM_text, .int M_size, .int M_many, .ref aM_slips, .ref aM_lates, .ref aM_copies, .int M_little, .int M_in, .int M_streak, .int M_lot, .int M_undos, .ref aM_before, .ref aM_images, .ref aM_kept, .long M_trace, .int M_at, .int M_at, .int M_kind, .long M_value, .int M_readMany, .int M_readLittle, .ref aM_read, .long M_below])), (aM_text, .inl (cI, 200, .inl M_text))] H := hP
    have hD : va_D A [(aM, .inr (10, [.ref aM_text, .int M_size, .int M_many, .ref aM_slips, .ref aM_lates, .ref aM_copies, .int M_little, .int M_in, .int M_streak, .int M_lot, .int M_undos, .ref aM_before, .ref aM_images, .ref aM_kept, .long M_trace, .int M_at, .int M_at, .int M_kind, .long M_value, .int M_readMany, .int M_readLittle, .ref aM_read, .long M_below])), (aM_text, .inl (cI, 200, .inl M_text))] := hD
    refine lv_aload_n hx hb dX10_next_46 rfl (lv_at hl 0 rfl) ?_
    refine lv_lconst (v := (0 : Int64)) hx hb dX10_next_47 (by decide) ?_
    refine va_put (D := D) (ci := 10) (v := .long (0 : Int64)) (ty := .long) (C := RX10) (T := TX10) (N := 23) hx hb hts inX10 tyX10 tyX10_ok nmX10 hown hK hP hD hS 0 rfl rfl 18 (by decide) fl_61 (fun _ h9 => h9) rfl (by decide +kernel) rfl rfl (Nat.le_of_ble_eq_true rfl) dX10_next_48 (fun H locs hP hD hS => ?_)
    have hP : va_P D vwCl [(aM, .inr (10, [.ref aM_text, .int M_size, .int M_many, .ref aM_slips, .ref aM_lates, .ref aM_copies, .int M_little, .int M_in, .int M_streak, .int M_lot, .int M_undos, .ref aM_before, .ref aM_images, .ref aM_kept, .long M_trace, .int M_at, .int M_at, .int M_kind, .long (0 : Int64), .int M_readMany, .int M_readLittle, .ref aM_read, .long M_below])), (aM_text, .inl (cI, 200, .inl M_text))] H := hP
    have hD : va_D A [(aM, .inr (10, [.ref aM_text, .int M_size, .int M_many, .ref aM_slips, .ref aM_lates, .ref aM_copies, .int M_little, .int M_in, .int M_streak, .int M_lot, .int M_undos, .ref aM_before, .ref aM_images, .ref aM_kept, .long M_trace, .int M_at, .int M_at, .int M_kind, .long (0 : Int64), .int M_readMany, .int M_readLittle, .ref aM_read, .long M_below])), (aM_text, .inl (cI, 200, .inl M_text))] := hD
    refine lv_aload_n hx hb dX10_next_51 rfl (lv_at hl 0 rfl) ?_
    refine va_get (D := D) (ci := 10) (v := .int M_at) (C := RX10) (T := TX10) (N := 23) hx hb hts inX10 hown hK hP 0 rfl rfl 15 (by decide) fl_55 (fun _ h9 => h9) rfl dX10_next_52 ?_
    refine lv_aload_n hx hb dX10_next_55 rfl (lv_at hl 0 rfl) ?_
    refine va_get (D := D) (ci := 10) (v := .int M_size) (C := RX10) (T := TX10) (N := 23) hx hb hts inX10 hown hK hP 0 rfl rfl 1 (by decide) fl_50 (fun _ h9 => h9) rfl dX10_next_56 ?_
    refine lv_icmp_ge (tgt := 74) hx hb dX10_next_59 (by decide) (fun c_4 => ?_) (fun c_4 => ?_)
    · replace h := if_p c_4 h
      refine lv_iconst (v := (-1 : Int32)) hx hb dX10_next_74 (by decide) ?_
      exact L75 M_at M_at M_kind (0 : Int64) (-1 : Int32) _ _ hP hD hS ls (lv_sub hl [0] rfl) h
    · replace h := if_n c_4 h
      refine lv_aload_n hx hb dX10_next_62 rfl (lv_at hl 0 rfl) ?_
      refine va_get (D := D) (ci := 10) (v := .ref aM_text) (C := RX10) (T := TX10) (N := 23) hx hb hts inX10 hown hK hP 0 rfl rfl 0 (by decide) fl_7 (fun _ h9 => h9) rfl dX10_next_63 ?_
      refine lv_aload_n hx hb dX10_next_66 rfl (lv_at hl 0 rfl) ?_
      refine va_get (D := D) (ci := 10) (v := .int M_at) (C := RX10) (T := TX10) (N := 23) hx hb hts inX10 hown hK hP 0 rfl rfl 15 (by decide) fl_55 (fun _ h9 => h9) rfl dX10_next_67 ?_
      obtain ⟨hi5, h⟩ := gd_in h
      refine va_iald hx hb hK hP 1 0 rfl rfl hi5 dX10_next_70 ?_
      refine lv_goto (tgt := 75) hx hb dX10_next_71 (by decide) ?_
      exact L75 M_at M_at M_kind (0 : Int64) (M_text M_at.toNatClampNeg) _ _ hP hD hS ls (lv_sub hl [0] rfl) h
  have L0 : ∀ (n : Nat), ∀ (M_at : Int32) (M_begin : Int32) (M_kind : Int32) (M_value : Int64), ∀ (H : Heap) (locs : List Loc), va_P D vwCl [(aM, .inr (10, [.ref aM_text, .int M_size, .int M_many, .ref aM_slips, .ref aM_lates, .ref aM_copies, .int M_little, .int M_in, .int M_streak, .int M_lot, .int M_undos, .ref aM_before, .ref aM_images, .ref aM_kept, .long M_trace, .int M_at, .int M_begin, .int M_kind, .long M_value, .int M_readMany, .int M_readLittle, .ref aM_read, .long M_below])), (aM_text, .inl (cI, 200, .inl M_text))] H → va_D A [(aM, .inr (10, [.ref aM_text, .int M_size, .int M_many, .ref aM_slips, .ref aM_lates, .ref aM_copies, .int M_little, .int M_in, .int M_streak, .int M_lot, .int M_undos, .ref aM_before, .ref aM_images, .ref aM_kept, .long M_trace, .int M_at, .int M_begin, .int M_kind, .long M_value, .int M_readMany, .int M_readLittle, .ref aM_read, .long M_below])), (aM_text, .inl (cI, 200, .inl M_text))] → va_S A s.heap H locs → ∀ (ls : Array Slot), lv_has ls 2 [(0, .ref aM)] → f_X10_next_L0 M_size M_text n M_at M_begin M_kind M_value = some y0 → W p l e (headSpec wsX10_next ({ frames := 1, cells := 0, slots := 0, locals := 20 } : Room)).room s m ([.ref aM] : List Value).toArray below meth c H locs 0 0 (MQ below (va_Qv (fun (_ : Unit) => True) (fun (_ : Unit) t => va_P D vwCl [(aM, .inr (10, [.ref aM_text, .int M_size, .int M_many, .ref aM_slips, .ref aM_lates, .ref aM_copies, .int M_little, .int M_in, .int M_streak, .int M_lot, .int M_undos, .ref aM_before, .ref aM_images, .ref aM_kept, .long M_trace, .int y0.1, .int y0.2.1, .int y0.2.2.1, .long y0.2.2.2, .int M_readMany, .int M_readLittle, .ref aM_read, .long M_below])), (aM_text, .inl (cI, 200, .inl M_text))] t.heap ∧ va_D A [(aM, .inr (10, [.ref aM_text, .int M_size, .int M_many, .ref aM_slips, .ref aM_lates, .ref aM_copies, .int M_little, .int M_in, .int M_streak, .int M_lot, .int M_undos, .ref aM_before, .ref aM_images, .ref aM_kept, .long M_trace, .int y0.1, .int y0.2.1, .int y0.2.2.1, .long y0.2.2.2, .int M_readMany, .int M_readLittle, .ref aM_read, .long M_below])), (aM_text, .inl (cI, 200, .inl M_text))]) A) ([.ref aM] : List Value).toArray s 0 0 A) (F0 m 0 ls []) := by
    intro n
    induction n with
    | zero =>
      intro M_at M_begin M_kind M_value H locs hP hD hS ls hl h
      exact (ns h).elim
    | succ n ih =>
      intro M_at M_begin M_kind M_value H locs hP hD hS ls hl h
      unfold f_X10_next_L0 at h
      refine lv_aload_n hx hb dX10_next_0 rfl (lv_at hl 0 rfl) ?_
      refine va_get (D := D) (ci := 10) (v := .int M_at) (C := RX10) (T := TX10) (N := 23) hx hb hts inX10 hown hK hP 0 rfl rfl 15 (by decide) fl_55 (fun _ h9 => h9) rfl dX10_next_1 ?_
      refine lv_aload_n hx hb dX10_next_4 rfl (lv_at hl 0 rfl) ?_
      refine va_get (D := D) (ci := 10) (v := .int M_size) (C := RX10) (T := TX10) (N := 23) hx hb hts inX10 hown hK hP 0 rfl rfl 1 (by decide) fl_50 (fun _ h9 => h9) rfl dX10_next_5 ?_
      refine lv_icmp_ge (tgt := 38) hx hb dX10_next_8 (by decide) (fun c_31 => ?_) (fun c_31 => ?_)
      · replace h := if_p c_31 h
        exact L38 M_at M_begin M_kind M_value _ _ hP hD hS ls (lv_sub hl [0] rfl) h
      · replace h := if_n c_31 h
        refine lv_aload_n hx hb dX10_next_11 rfl (lv_at hl 0 rfl) ?_
        refine va_get (D := D) (ci := 10) (v := .ref aM_text) (C := RX10) (T := TX10) (N := 23) hx hb hts inX10 hown hK hP 0 rfl rfl 0 (by decide) fl_7 (fun _ h9 => h9) rfl dX10_next_12 ?_
        refine lv_aload_n hx hb dX10_next_15 rfl (lv_at hl 0 rfl) ?_
        refine va_get (D := D) (ci := 10) (v := .int M_at) (C := RX10) (T := TX10) (N := 23) hx hb hts inX10 hown hK hP 0 rfl rfl 15 (by decide) fl_55 (fun _ h9 => h9) rfl dX10_next_16 ?_
        obtain ⟨hi32, h⟩ := gd_in h
        refine va_iald hx hb hK hP 1 0 rfl rfl hi32 dX10_next_19 ?_
        refine lv_bipush (v := (32 : Int32)) hx hb dX10_next_20 (by decide) ?_
        refine lv_icmp_ne (tgt := 38) hx hb dX10_next_22 (by decide) (fun c_33 => ?_) (fun c_33 => ?_)
        · replace h := if_n c_33 h
          exact L38 M_at M_begin M_kind M_value _ _ hP hD hS ls (lv_sub hl [0] rfl) h
        · replace h := if_p c_33 h
          refine lv_aload_n hx hb dX10_next_25 rfl (lv_at hl 0 rfl) ?_
          refine lv_dup hx hb dX10_next_26 rfl ?_
          refine va_get (D := D) (ci := 10) (v := .int M_at) (C := RX10) (T := TX10) (N := 23) hx hb hts inX10 hown hK hP 0 rfl rfl 15 (by decide) fl_55 (fun _ h9 => h9) rfl dX10_next_27 ?_
          refine lv_iconst (v := (1 : Int32)) hx hb dX10_next_30 (by decide) ?_
          refine lv_iadd hx hb dX10_next_31 ?_
          refine va_put (D := D) (ci := 10) (v := .int (M_at + (1 : Int32))) (ty := .int) (C := RX10) (T := TX10) (N := 23) hx hb hts inX10 tyX10 tyX10_ok nmX10 hown hK hP hD hS 0 rfl rfl 15 (by decide) fl_55 (fun _ h9 => h9) rfl (by decide +kernel) rfl rfl (Nat.le_of_ble_eq_true rfl) dX10_next_32 (fun H locs hP hD hS => ?_)
          have hP : va_P D vwCl [(aM, .inr (10, [.ref aM_text, .int M_size, .int M_many, .ref aM_slips, .ref aM_lates, .ref aM_copies, .int M_little, .int M_in, .int M_streak, .int M_lot, .int M_undos, .ref aM_before, .ref aM_images, .ref aM_kept, .long M_trace, .int (M_at + (1 : Int32)), .int M_begin, .int M_kind, .long M_value, .int M_readMany, .int M_readLittle, .ref aM_read, .long M_below])), (aM_text, .inl (cI, 200, .inl M_text))] H := hP
          have hD : va_D A [(aM, .inr (10, [.ref aM_text, .int M_size, .int M_many, .ref aM_slips, .ref aM_lates, .ref aM_copies, .int M_little, .int M_in, .int M_streak, .int M_lot, .int M_undos, .ref aM_before, .ref aM_images, .ref aM_kept, .long M_trace, .int (M_at + (1 : Int32)), .int M_begin, .int M_kind, .long M_value, .int M_readMany, .int M_readLittle, .ref aM_read, .long M_below])), (aM_text, .inl (cI, 200, .inl M_text))] := hD
          refine lv_goto (tgt := 0) hx hb dX10_next_35 (by decide) ?_
          exact ih (M_at + (1 : Int32)) M_begin M_kind M_value _ _ hP hD hS ls (lv_sub hl [0] rfl) h
  unfold f_X10_next at h
  refine lv_aload_n hx hb dX10_next_0 rfl (lv_at hl 0 rfl) ?_
  refine va_get (D := D) (ci := 10) (v := .int M_at) (C := RX10) (T := TX10) (N := 23) hx hb hts inX10 hown hK hP 0 rfl rfl 15 (by decide) fl_55 (fun _ h9 => h9) rfl dX10_next_1 ?_
  refine lv_aload_n hx hb dX10_next_4 rfl (lv_at hl 0 rfl) ?_
  refine va_get (D := D) (ci := 10) (v := .int M_size) (C := RX10) (T := TX10) (N := 23) hx hb hts inX10 hown hK hP 0 rfl rfl 1 (by decide) fl_50 (fun _ h9 => h9) rfl dX10_next_5 ?_
  refine lv_icmp_ge (tgt := 38) hx hb dX10_next_8 (by decide) (fun c_1 => ?_) (fun c_1 => ?_)
  · replace h := if_p c_1 h
    exact L38 M_at M_begin M_kind M_value _ _ hP hD hS ls (lv_sub hl [0] rfl) h
  · replace h := if_n c_1 h
    refine lv_aload_n hx hb dX10_next_11 rfl (lv_at hl 0 rfl) ?_
    refine va_get (D := D) (ci := 10) (v := .ref aM_text) (C := RX10) (T := TX10) (N := 23) hx hb hts inX10 hown hK hP 0 rfl rfl 0 (by decide) fl_7 (fun _ h9 => h9) rfl dX10_next_12 ?_
    refine lv_aload_n hx hb dX10_next_15 rfl (lv_at hl 0 rfl) ?_
    refine va_get (D := D) (ci := 10) (v := .int M_at) (C := RX10) (T := TX10) (N := 23) hx hb hts inX10 hown hK hP 0 rfl rfl 15 (by decide) fl_55 (fun _ h9 => h9) rfl dX10_next_16 ?_
    obtain ⟨hi2, h⟩ := gd_in h
    refine va_iald hx hb hK hP 1 0 rfl rfl hi2 dX10_next_19 ?_
    refine lv_bipush (v := (32 : Int32)) hx hb dX10_next_20 (by decide) ?_
    refine lv_icmp_ne (tgt := 38) hx hb dX10_next_22 (by decide) (fun c_3 => ?_) (fun c_3 => ?_)
    · replace h := if_n c_3 h
      exact L38 M_at M_begin M_kind M_value _ _ hP hD hS ls (lv_sub hl [0] rfl) h
    · replace h := if_p c_3 h
      refine lv_aload_n hx hb dX10_next_25 rfl (lv_at hl 0 rfl) ?_
      refine lv_dup hx hb dX10_next_26 rfl ?_
      refine va_get (D := D) (ci := 10) (v := .int M_at) (C := RX10) (T := TX10) (N := 23) hx hb hts inX10 hown hK hP 0 rfl rfl 15 (by decide) fl_55 (fun _ h9 => h9) rfl dX10_next_27 ?_
      refine lv_iconst (v := (1 : Int32)) hx hb dX10_next_30 (by decide) ?_
      refine lv_iadd hx hb dX10_next_31 ?_
      refine va_put (D := D) (ci := 10) (v := .int (M_at + (1 : Int32))) (ty := .int) (C := RX10) (T := TX10) (N := 23) hx hb hts inX10 tyX10 tyX10_ok nmX10 hown hK hP hD hS 0 rfl rfl 15 (by decide) fl_55 (fun _ h9 => h9) rfl (by decide +kernel) rfl rfl (Nat.le_of_ble_eq_true rfl) dX10_next_32 (fun H locs hP hD hS => ?_)
      have hP : va_P D vwCl [(aM, .inr (10, [.ref aM_text, .int M_size, .int M_many, .ref aM_slips, .ref aM_lates, .ref aM_copies, .int M_little, .int M_in, .int M_streak, .int M_lot, .int M_undos, .ref aM_before, .ref aM_images, .ref aM_kept, .long M_trace, .int (M_at + (1 : Int32)), .int M_begin, .int M_kind, .long M_value, .int M_readMany, .int M_readLittle, .ref aM_read, .long M_below])), (aM_text, .inl (cI, 200, .inl M_text))] H := hP
      have hD : va_D A [(aM, .inr (10, [.ref aM_text, .int M_size, .int M_many, .ref aM_slips, .ref aM_lates, .ref aM_copies, .int M_little, .int M_in, .int M_streak, .int M_lot, .int M_undos, .ref aM_before, .ref aM_images, .ref aM_kept, .long M_trace, .int (M_at + (1 : Int32)), .int M_begin, .int M_kind, .long M_value, .int M_readMany, .int M_readLittle, .ref aM_read, .long M_below])), (aM_text, .inl (cI, 200, .inl M_text))] := hD
      refine lv_goto (tgt := 0) hx hb dX10_next_35 (by decide) ?_
      exact L0 300 (M_at + (1 : Int32)) M_begin M_kind M_value _ _ hP hD hS ls (lv_sub hl [0] rfl) h

def f_X10_takes (M_size : Int32) (M_at : Int32) (M_begin : Int32) (M_kind : Int32) (M_value : Int64) (M_text : Nat → Int32) (p1 : Int32) (p2 : Int32) : Option (Int32 × Int32 × Int32 × Int32 × Int64) := (Option.bind (f_X10_next M_size M_at M_begin M_kind M_value M_text) (fun y1 => (if y1.2.2.1 = (2 : Int32) then (if (f_X10_within y1.2.2.2 p1.toInt64 p2.toInt64) = 0 then some ((0 : Int32), y1.1, y1.2.1, y1.2.2.1, y1.2.2.2) else some ((1 : Int32), y1.1, y1.2.1, y1.2.2.1, y1.2.2.2)) else some ((0 : Int32), y1.1, y1.2.1, y1.2.2.1, y1.2.2.2))))
set_option maxHeartbeats 8000000 in
set_option maxRecDepth 100000 in
theorem c_X10_takes (l : Launch) (D : va_G) (cI cJ cZ cO : ClassId) (aM : Nat) (aM_text : Nat) (aM_slips : Nat) (aM_lates : Nat) (aM_copies : Nat) (aM_before : Nat) (aM_images : Nat) (aM_kept : Nat) (aM_read : Nat) (M_size : Int32) (M_many : Int32) (M_little : Int32) (M_in : Int32) (M_streak : Int32) (M_lot : Int32) (M_undos : Int32) (M_trace : Int64) (M_at : Int32) (M_begin : Int32) (M_kind : Int32) (M_value : Int64) (M_readMany : Int32) (M_readLittle : Int32) (M_below : Int64) (M_text : Nat → Int32) (sz : Nat) (p1 : Int32) (p2 : Int32)  (y0 : Int32 × Int32 × Int32 × Int32 × Int64) (h : f_X10_takes M_size M_at M_begin M_kind M_value M_text p1 p2 = some y0) : Met l yX10_takes wsX10_takes ({ frames := 2, cells := 0, slots := 0, locals := 41 } : Room) (va_Pc [.ref aM, .int p1, .int p2] (fun U => U.heap.size = sz ∧ va_P D vwCl [(aM, .inr (10, [.ref aM_text, .int M_size, .int M_many, .ref aM_slips, .ref aM_lates, .ref aM_copies, .int M_little, .int M_in, .int M_streak, .int M_lot, .int M_undos, .ref aM_before, .ref aM_images, .ref aM_kept, .long M_trace, .int M_at, .int M_begin, .int M_kind, .long M_value, .int M_readMany, .int M_readLittle, .ref aM_read, .long M_below])), (aM_text, .inl (cI, 200, .inl M_text))] U.heap ∧ KK D cI cJ cZ cO U ∧ va_D (fun _ => True) [(aM, .inr (10, [.ref aM_text, .int M_size, .int M_many, .ref aM_slips, .ref aM_lates, .ref aM_copies, .int M_little, .int M_in, .int M_streak, .int M_lot, .int M_undos, .ref aM_before, .ref aM_images, .ref aM_kept, .long M_trace, .int M_at, .int M_begin, .int M_kind, .long M_value, .int M_readMany, .int M_readLittle, .ref aM_read, .long M_below])), (aM_text, .inl (cI, 200, .inl M_text))])) (va_Qi (fun (r : Int32) (_ : Unit) => r = y0.1 ∧ zo r) (fun (_ : Unit) t => va_P D vwCl [(aM, .inr (10, [.ref aM_text, .int M_size, .int M_many, .ref aM_slips, .ref aM_lates, .ref aM_copies, .int M_little, .int M_in, .int M_streak, .int M_lot, .int M_undos, .ref aM_before, .ref aM_images, .ref aM_kept, .long M_trace, .int y0.2.1, .int y0.2.2.1, .int y0.2.2.2.1, .long y0.2.2.2.2, .int M_readMany, .int M_readLittle, .ref aM_read, .long M_below])), (aM_text, .inl (cI, 200, .inl M_text))] t.heap ∧ va_D (va_A [(aM, .inr (10, [.ref aM_text, .int M_size, .int M_many, .ref aM_slips, .ref aM_lates, .ref aM_copies, .int M_little, .int M_in, .int M_streak, .int M_lot, .int M_undos, .ref aM_before, .ref aM_images, .ref aM_kept, .long M_trace, .int M_at, .int M_begin, .int M_kind, .long M_value, .int M_readMany, .int M_readLittle, .ref aM_read, .long M_below])), (aM_text, .inl (cI, 200, .inl M_text))] sz) [(aM, .inr (10, [.ref aM_text, .int M_size, .int M_many, .ref aM_slips, .ref aM_lates, .ref aM_copies, .int M_little, .int M_in, .int M_streak, .int M_lot, .int M_undos, .ref aM_before, .ref aM_images, .ref aM_kept, .long M_trace, .int y0.2.1, .int y0.2.2.1, .int y0.2.2.2.1, .long y0.2.2.2.2, .int M_readMany, .int M_readLittle, .ref aM_read, .long M_below])), (aM_text, .inl (cI, 200, .inl M_text))]) (va_A [(aM, .inr (10, [.ref aM_text, .int M_size, .int M_many, .ref aM_slips, .ref aM_lates, .ref aM_copies, .int M_little, .int M_in, .int M_streak, .int M_lot, .int M_undos, .ref aM_before, .ref aM_images, .ref aM_kept, .long M_trace, .int M_at, .int M_begin, .int M_kind, .long M_value, .int M_readMany, .int M_readLittle, .ref aM_read, .long M_below])), (aM_text, .inl (cI, 200, .inl M_text))] sz)) 0 0 (va_A [(aM, .inr (10, [.ref aM_text, .int M_size, .int M_many, .ref aM_slips, .ref aM_lates, .ref aM_copies, .int M_little, .int M_in, .int M_streak, .int M_lot, .int M_undos, .ref aM_before, .ref aM_images, .ref aM_kept, .long M_trace, .int M_at, .int M_begin, .int M_kind, .long M_value, .int M_readMany, .int M_readLittle, .ref aM_read, .long M_below])), (aM_text, .inl (cI, 200, .inl M_text))] sz) := by
  refine Met.ofW (cc := cX10_takes) (maxL := 3) (ret := (some .boolean)) (by decide) rfl ?_
  intro p e s m args below meth c s₁ B hml hv
  obtain ⟨rfl, hsz, hP, hKK, hD0⟩ := hv
  have hx := B.exec
  have hb := B.bytes
  have hr := B.returns
  have hts := atoms_spec (ws := wsX10_takes) B.pre
  have hown : s.vm.findClass RX10 = some m.cls := findClass_of_methodNamed B.named
  have hlocks := B.notSynchronized
  have hK := hKK.1
  have fl_61 := hts (.fieldLink RX10 61 "SimonSaysModel" "value" "J") (by decide +kernel)
  have fl_72 := hts (.fieldLink RX10 72 "SimonSaysModel" "kind" "I") (by decide +kernel)
  have inX10 : ∀ w ∈ wsX100, w ∈ wsX10_takes := by decide +kernel
  subst hsz
  have hD := hD0.self (sz := s.heap.size)
  generalize hAe : va_A [(aM, .inr (10, [.ref aM_text, .int M_size, .int M_many, .ref aM_slips, .ref aM_lates, .ref aM_copies, .int M_little, .int M_in, .int M_streak, .int M_lot, .int M_undos, .ref aM_before, .ref aM_images, .ref aM_kept, .long M_trace, .int M_at, .int M_begin, .int M_kind, .long M_value, .int M_readMany, .int M_readLittle, .ref aM_read, .long M_below])), (aM_text, .inl (cI, 200, .inl M_text))] s.heap.size = A at hD ⊢
  have hA : ∀ q : Nat, s.heap.size ≤ q → A q := fun q h => by rw [← hAe]; exact Or.inr h
  have hS : va_S A s.heap s.heap [] := va_S.rf
  have hl := lv_entry ([.ref aM, .int p1, .int p2]) (n := 3) (Nat.le_of_ble_eq_true rfl)
  rw [lg_entry_eq]
  generalize (lg_sl ([.ref aM, .int p1, .int p2]) ++ List.replicate (3 - (lg_sl ([.ref aM, .int p1, .int p2])).length) Slot.unset).toArray = ls at hl ⊢
  have hl : lv_has ls 3 [(0, .ref aM), (1, .int p1), (2, .int p2)] := hl
  unfold f_X10_takes at h
  refine lv_aload_n hx hb dX10_takes_0 rfl (lv_at hl 0 rfl) ?_
  obtain ⟨y1, qy1, h⟩ := ob_some h
  have hPc : va_P D vwCl [(aM, .inr (10, [.ref aM_text, .int M_size, .int M_many, .ref aM_slips, .ref aM_lates, .ref aM_copies, .int M_little, .int M_in, .int M_streak, .int M_lot, .int M_undos, .ref aM_before, .ref aM_images, .ref aM_kept, .long M_trace, .int M_at, .int M_begin, .int M_kind, .long M_value, .int M_readMany, .int M_readLittle, .ref aM_read, .long M_below])), (aM_text, .inl (cI, 200, .inl M_text))] s.heap := hP.sub [0, 1] rfl
  have hDc : va_D A [(aM, .inr (10, [.ref aM_text, .int M_size, .int M_many, .ref aM_slips, .ref aM_lates, .ref aM_copies, .int M_little, .int M_in, .int M_streak, .int M_lot, .int M_undos, .ref aM_before, .ref aM_images, .ref aM_kept, .long M_trace, .int M_at, .int M_begin, .int M_kind, .long M_value, .int M_readMany, .int M_readLittle, .ref aM_read, .long M_below])), (aM_text, .inl (cI, 200, .inl M_text))] := hD.sub [0, 1] (by decide) rfl
  have hFc := va_free (wc := [(aM, .inr (10, [.ref aM_text, .int M_size, .int M_many, .ref aM_slips, .ref aM_lates, .ref aM_copies, .int M_little, .int M_in, .int M_streak, .int M_lot, .int M_undos, .ref aM_before, .ref aM_images, .ref aM_kept, .long M_trace, .int M_at, .int M_begin, .int M_kind, .long M_value, .int M_readMany, .int M_readLittle, .ref aM_read, .long M_below])), (aM_text, .inl (cI, 200, .inl M_text))]) hD hS hA [0, 1] rfl
  refine va_callv (va_runV (As := []) (rest := []) ⟨hx, hb, hml, hown, hts⟩ (c_X10_next l D cI cJ cZ cO aM aM_text aM_slips aM_lates aM_copies aM_before aM_images aM_kept aM_read M_size M_many M_little M_in M_streak M_lot M_undos M_trace M_at M_begin M_kind M_value M_readMany M_readLittle M_below M_text s.heap.size y1 qy1) (cwV 0 hts gX10_takes_X10_next rfl rfl rfl (by decide +kernel) ⟨Nat.le_of_ble_eq_true rfl, Nat.le_of_ble_eq_true rfl⟩) ⟨fb_i, va_recv hK hP (ci := 10) (q0 := 0) rfl rfl, fun U hU hW => ⟨rfl, by rw [hU], by rw [hU]; exact hPc, KK.warm hW hKK, hDc.weaken (fun _ _ _ _ => trivial)⟩⟩ rfl rfl hl.1 rfl (lv_room (Nat.le_of_ble_eq_true rfl)) dX10_takes_1 ⟨Nat.le_of_ble_eq_true rfl, Nat.le_of_ble_eq_true rfl⟩) hS (fun q _ h => hFc q h) hFc (fun u t H1 locs ht hvm hw hB hz1 hk1 hS => ?_)
  obtain ⟨hP1, hD1⟩ := hB
  rw [ht] at hP1
  obtain ⟨hP, hD⟩ := va_join (wr := []) (w1 := [(aM, .inr (10, [.ref aM_text, .int M_size, .int M_many, .ref aM_slips, .ref aM_lates, .ref aM_copies, .int M_little, .int M_in, .int M_streak, .int M_lot, .int M_undos, .ref aM_before, .ref aM_images, .ref aM_kept, .long M_trace, .int y1.1, .int y1.2.1, .int y1.2.2.1, .long y1.2.2.2, .int M_readMany, .int M_readLittle, .ref aM_read, .long M_below])), (aM_text, .inl (cI, 200, .inl M_text))]) hP hD [0, 1] [] rfl rfl (by decide) (by decide) hk1 hFc hP1 hD1
  generalize H1 = H at hP hS ⊢
  have hP : va_P D vwCl [(aM, .inr (10, [.ref aM_text, .int M_size, .int M_many, .ref aM_slips, .ref aM_lates, .ref aM_copies, .int M_little, .int M_in, .int M_streak, .int M_lot, .int M_undos, .ref aM_before, .ref aM_images, .ref aM_kept, .long M_trace, .int y1.1, .int y1.2.1, .int y1.2.2.1, .long y1.2.2.2, .int M_readMany, .int M_readLittle, .ref aM_read, .long M_below])), (aM_text, .inl (cI, 200, .inl M_text))] H := hP.sub [0, 1] rfl
  have hD : va_D A [(aM, .inr (10, [.ref aM_text, .int M_size, .int M_many, .ref aM_slips, .ref aM_lates, .ref aM_copies, .int M_little, .int M_in, .int M_streak, .int M_lot, .int M_undos, .ref aM_before, .ref aM_images, .ref aM_kept, .long M_trace, .int y1.1, .int y1.2.1, .int y1.2.2.1, .long y1.2.2.2, .int M_readMany, .int M_readLittle, .ref aM_read, .long M_below])), (aM_text, .inl (cI, 200, .inl M_text))] := hD.sub [0, 1] (by decide) rfl
  refine lv_aload_n hx hb dX10_takes_4 rfl (lv_at hl 0 rfl) ?_
  refine va_get (D := D) (ci := 10) (v := .int y1.2.2.1) (C := RX10) (T := TX10) (N := 23) hx hb hts inX10 hown hK hP 0 rfl rfl 17 (by decide) fl_72 (fun _ h9 => h9) rfl dX10_takes_5 ?_
  refine lv_iconst (v := (2 : Int32)) hx hb dX10_takes_8 (by decide) ?_
  refine lv_icmp_ne (tgt := 30) hx hb dX10_takes_9 (by decide) (fun c_2 => ?_) (fun c_2 => ?_)
  · replace h := if_n c_2 h
    refine lv_iconst (v := (0 : Int32)) hx hb dX10_takes_30 (by decide) ?_
    have hy := Option.some.inj h
    subst hy
    exact W.zret (v := (0 : Int32)) hx hb hr (zo_nar (by decide)) (fun t ht hW => ⟨⟨(0 : Int32), (), rfl, ⟨rfl, (by decide)⟩, by rw [ht]; exact hP, hD⟩, hS.F ht⟩) hS.2.2 dX10_takes_31
  · replace h := if_p c_2 h
    refine lv_aload_n hx hb dX10_takes_12 rfl (lv_at hl 0 rfl) ?_
    refine va_get (D := D) (ci := 10) (v := .long y1.2.2.2) (C := RX10) (T := TX10) (N := 23) hx hb hts inX10 hown hK hP 0 rfl rfl 18 (by decide) fl_61 (fun _ h9 => h9) rfl dX10_takes_13 ?_
    refine lv_iload_n hx hb dX10_takes_16 rfl (lv_at hl 1 rfl) ?_
    refine lv_i2l (v := p1.toInt64) hx hb dX10_takes_17 rfl ?_
    refine lv_iload_n hx hb dX10_takes_18 rfl (lv_at hl 2 rfl) ?_
    refine lv_i2l (v := p2.toInt64) hx hb dX10_takes_19 rfl ?_
    have hPc : va_P D vwCl [] H := hP.sub [] rfl
    refine vp_callSi (va_Run.run (va_runS (As := [.long y1.2.2.2, .long p1.toInt64, .long p2.toInt64]) (rest := []) ⟨hx, hb, hml, hown, hts⟩ (c_X10_within l D cI cJ cZ cO y1.2.2.2 p1.toInt64 p2.toInt64 _ rfl) (cwS 3 hts gX10_takes_X10_within rfl rfl rfl (by decide +kernel) ⟨Nat.le_of_ble_eq_true rfl, Nat.le_of_ble_eq_true rfl⟩) ⟨fb_p, fun U hU hW => ⟨rfl, by rw [hU]; exact hPc, KK.warm hW hKK⟩⟩ rfl rfl hl.1 rfl (lv_room (Nat.le_of_ble_eq_true rfl)) dX10_takes_20 ⟨Nat.le_of_ble_eq_true rfl, Nat.le_of_ble_eq_true rfl⟩)) (fun r hr => ?_)
    obtain ⟨hr, hz3⟩ := hr
    replace hr := hr.symm
    subst hr
    refine lv_if_eq (tgt := 30) hx hb dX10_takes_23 (by decide) (fun c_4 => ?_) (fun c_4 => ?_)
    · replace h := if_p c_4 h
      refine lv_iconst (v := (0 : Int32)) hx hb dX10_takes_30 (by decide) ?_
      have hy := Option.some.inj h
      subst hy
      exact W.zret (v := (0 : Int32)) hx hb hr (zo_nar (by decide)) (fun t ht hW => ⟨⟨(0 : Int32), (), rfl, ⟨rfl, (by decide)⟩, by rw [ht]; exact hP, hD⟩, hS.F ht⟩) hS.2.2 dX10_takes_31
    · replace h := if_n c_4 h
      refine lv_iconst (v := (1 : Int32)) hx hb dX10_takes_26 (by decide) ?_
      refine lv_goto (tgt := 31) hx hb dX10_takes_27 (by decide) ?_
      have hy := Option.some.inj h
      subst hy
      exact W.zret (v := (1 : Int32)) hx hb hr (zo_nar (by decide)) (fun t ht hW => ⟨⟨(1 : Int32), (), rfl, ⟨rfl, (by decide)⟩, by rw [ht]; exact hP, hD⟩, hS.F ht⟩) hS.2.2 dX10_takes_31

def f_X10_stops (M_size : Int32) (M_at : Int32) (M_begin : Int32) (M_kind : Int32) (M_value : Int64) (M_text : Nat → Int32) : Option (Int32 × Int32 × Int32 × Int32 × Int64) := (Option.bind (f_X10_next M_size M_at M_begin M_kind M_value M_text) (fun y1 => (if y1.2.2.1 = (3 : Int32) then some ((1 : Int32), y1.1, y1.2.1, y1.2.2.1, y1.2.2.2) else some ((0 : Int32), y1.1, y1.2.1, y1.2.2.1, y1.2.2.2))))
set_option maxHeartbeats 8000000 in
set_option maxRecDepth 100000 in
theorem c_X10_stops (l : Launch) (D : va_G) (cI cJ cZ cO : ClassId) (aM : Nat) (aM_text : Nat) (aM_slips : Nat) (aM_lates : Nat) (aM_copies : Nat) (aM_before : Nat) (aM_images : Nat) (aM_kept : Nat) (aM_read : Nat) (M_size : Int32) (M_many : Int32) (M_little : Int32) (M_in : Int32) (M_streak : Int32) (M_lot : Int32) (M_undos : Int32) (M_trace : Int64) (M_at : Int32) (M_begin : Int32) (M_kind : Int32) (M_value : Int64) (M_readMany : Int32) (M_readLittle : Int32) (M_below : Int64) (M_text : Nat → Int32) (sz : Nat)   (y0 : Int32 × Int32 × Int32 × Int32 × Int64) (h : f_X10_stops M_size M_at M_begin M_kind M_value M_text = some y0) : Met l yX10_stops wsX10_stops ({ frames := 2, cells := 0, slots := 0, locals := 41 } : Room) (va_Pc [.ref aM] (fun U => U.heap.size = sz ∧ va_P D vwCl [(aM, .inr (10, [.ref aM_text, .int M_size, .int M_many, .ref aM_slips, .ref aM_lates, .ref aM_copies, .int M_little, .int M_in, .int M_streak, .int M_lot, .int M_undos, .ref aM_before, .ref aM_images, .ref aM_kept, .long M_trace, .int M_at, .int M_begin, .int M_kind, .long M_value, .int M_readMany, .int M_readLittle, .ref aM_read, .long M_below])), (aM_text, .inl (cI, 200, .inl M_text))] U.heap ∧ KK D cI cJ cZ cO U ∧ va_D (fun _ => True) [(aM, .inr (10, [.ref aM_text, .int M_size, .int M_many, .ref aM_slips, .ref aM_lates, .ref aM_copies, .int M_little, .int M_in, .int M_streak, .int M_lot, .int M_undos, .ref aM_before, .ref aM_images, .ref aM_kept, .long M_trace, .int M_at, .int M_begin, .int M_kind, .long M_value, .int M_readMany, .int M_readLittle, .ref aM_read, .long M_below])), (aM_text, .inl (cI, 200, .inl M_text))])) (va_Qi (fun (r : Int32) (_ : Unit) => r = y0.1 ∧ zo r) (fun (_ : Unit) t => va_P D vwCl [(aM, .inr (10, [.ref aM_text, .int M_size, .int M_many, .ref aM_slips, .ref aM_lates, .ref aM_copies, .int M_little, .int M_in, .int M_streak, .int M_lot, .int M_undos, .ref aM_before, .ref aM_images, .ref aM_kept, .long M_trace, .int y0.2.1, .int y0.2.2.1, .int y0.2.2.2.1, .long y0.2.2.2.2, .int M_readMany, .int M_readLittle, .ref aM_read, .long M_below])), (aM_text, .inl (cI, 200, .inl M_text))] t.heap ∧ va_D (va_A [(aM, .inr (10, [.ref aM_text, .int M_size, .int M_many, .ref aM_slips, .ref aM_lates, .ref aM_copies, .int M_little, .int M_in, .int M_streak, .int M_lot, .int M_undos, .ref aM_before, .ref aM_images, .ref aM_kept, .long M_trace, .int M_at, .int M_begin, .int M_kind, .long M_value, .int M_readMany, .int M_readLittle, .ref aM_read, .long M_below])), (aM_text, .inl (cI, 200, .inl M_text))] sz) [(aM, .inr (10, [.ref aM_text, .int M_size, .int M_many, .ref aM_slips, .ref aM_lates, .ref aM_copies, .int M_little, .int M_in, .int M_streak, .int M_lot, .int M_undos, .ref aM_before, .ref aM_images, .ref aM_kept, .long M_trace, .int y0.2.1, .int y0.2.2.1, .int y0.2.2.2.1, .long y0.2.2.2.2, .int M_readMany, .int M_readLittle, .ref aM_read, .long M_below])), (aM_text, .inl (cI, 200, .inl M_text))]) (va_A [(aM, .inr (10, [.ref aM_text, .int M_size, .int M_many, .ref aM_slips, .ref aM_lates, .ref aM_copies, .int M_little, .int M_in, .int M_streak, .int M_lot, .int M_undos, .ref aM_before, .ref aM_images, .ref aM_kept, .long M_trace, .int M_at, .int M_begin, .int M_kind, .long M_value, .int M_readMany, .int M_readLittle, .ref aM_read, .long M_below])), (aM_text, .inl (cI, 200, .inl M_text))] sz)) 0 0 (va_A [(aM, .inr (10, [.ref aM_text, .int M_size, .int M_many, .ref aM_slips, .ref aM_lates, .ref aM_copies, .int M_little, .int M_in, .int M_streak, .int M_lot, .int M_undos, .ref aM_before, .ref aM_images, .ref aM_kept, .long M_trace, .int M_at, .int M_begin, .int M_kind, .long M_value, .int M_readMany, .int M_readLittle, .ref aM_read, .long M_below])), (aM_text, .inl (cI, 200, .inl M_text))] sz) := by
  refine Met.ofW (cc := cX10_stops) (maxL := 1) (ret := (some .boolean)) (by decide) rfl ?_
  intro p e s m args below meth c s₁ B hml hv
  obtain ⟨rfl, hsz, hP, hKK, hD0⟩ := hv
  have hx := B.exec
  have hb := B.bytes
  have hr := B.returns
  have hts := atoms_spec (ws := wsX10_stops) B.pre
  have hown : s.vm.findClass RX10 = some m.cls := findClass_of_methodNamed B.named
  have hlocks := B.notSynchronized
  have hK := hKK.1
  have fl_72 := hts (.fieldLink RX10 72 "SimonSaysModel" "kind" "I") (by decide +kernel)
  have inX10 : ∀ w ∈ wsX100, w ∈ wsX10_stops := by decide +kernel
  subst hsz
  have hD := hD0.self (sz := s.heap.size)
  generalize hAe : va_A [(aM, .inr (10, [.ref aM_text, .int M_size, .int M_many, .ref aM_slips, .ref aM_lates, .ref aM_copies, .int M_little, .int M_in, .int M_streak, .int M_lot, .int M_undos, .ref aM_before, .ref aM_images, .ref aM_kept, .long M_trace, .int M_at, .int M_begin, .int M_kind, .long M_value, .int M_readMany, .int M_readLittle, .ref aM_read, .long M_below])), (aM_text, .inl (cI, 200, .inl M_text))] s.heap.size = A at hD ⊢
  have hA : ∀ q : Nat, s.heap.size ≤ q → A q := fun q h => by rw [← hAe]; exact Or.inr h
  have hS : va_S A s.heap s.heap [] := va_S.rf
  have hl := lv_entry ([.ref aM]) (n := 1) (Nat.le_of_ble_eq_true rfl)
  rw [lg_entry_eq]
  generalize (lg_sl ([.ref aM]) ++ List.replicate (1 - (lg_sl ([.ref aM])).length) Slot.unset).toArray = ls at hl ⊢
  have hl : lv_has ls 1 [(0, .ref aM)] := hl
  unfold f_X10_stops at h
  refine lv_aload_n hx hb dX10_stops_0 rfl (lv_at hl 0 rfl) ?_
  obtain ⟨y1, qy1, h⟩ := ob_some h
  have hPc : va_P D vwCl [(aM, .inr (10, [.ref aM_text, .int M_size, .int M_many, .ref aM_slips, .ref aM_lates, .ref aM_copies, .int M_little, .int M_in, .int M_streak, .int M_lot, .int M_undos, .ref aM_before, .ref aM_images, .ref aM_kept, .long M_trace, .int M_at, .int M_begin, .int M_kind, .long M_value, .int M_readMany, .int M_readLittle, .ref aM_read, .long M_below])), (aM_text, .inl (cI, 200, .inl M_text))] s.heap := hP.sub [0, 1] rfl
  have hDc : va_D A [(aM, .inr (10, [.ref aM_text, .int M_size, .int M_many, .ref aM_slips, .ref aM_lates, .ref aM_copies, .int M_little, .int M_in, .int M_streak, .int M_lot, .int M_undos, .ref aM_before, .ref aM_images, .ref aM_kept, .long M_trace, .int M_at, .int M_begin, .int M_kind, .long M_value, .int M_readMany, .int M_readLittle, .ref aM_read, .long M_below])), (aM_text, .inl (cI, 200, .inl M_text))] := hD.sub [0, 1] (by decide) rfl
  have hFc := va_free (wc := [(aM, .inr (10, [.ref aM_text, .int M_size, .int M_many, .ref aM_slips, .ref aM_lates, .ref aM_copies, .int M_little, .int M_in, .int M_streak, .int M_lot, .int M_undos, .ref aM_before, .ref aM_images, .ref aM_kept, .long M_trace, .int M_at, .int M_begin, .int M_kind, .long M_value, .int M_readMany, .int M_readLittle, .ref aM_read, .long M_below])), (aM_text, .inl (cI, 200, .inl M_text))]) hD hS hA [0, 1] rfl
  refine va_callv (va_runV (As := []) (rest := []) ⟨hx, hb, hml, hown, hts⟩ (c_X10_next l D cI cJ cZ cO aM aM_text aM_slips aM_lates aM_copies aM_before aM_images aM_kept aM_read M_size M_many M_little M_in M_streak M_lot M_undos M_trace M_at M_begin M_kind M_value M_readMany M_readLittle M_below M_text s.heap.size y1 qy1) (cwV 0 hts gX10_stops_X10_next rfl rfl rfl (by decide +kernel) ⟨Nat.le_of_ble_eq_true rfl, Nat.le_of_ble_eq_true rfl⟩) ⟨fb_i, va_recv hK hP (ci := 10) (q0 := 0) rfl rfl, fun U hU hW => ⟨rfl, by rw [hU], by rw [hU]; exact hPc, KK.warm hW hKK, hDc.weaken (fun _ _ _ _ => trivial)⟩⟩ rfl rfl hl.1 rfl (lv_room (Nat.le_of_ble_eq_true rfl)) dX10_stops_1 ⟨Nat.le_of_ble_eq_true rfl, Nat.le_of_ble_eq_true rfl⟩) hS (fun q _ h => hFc q h) hFc (fun u t H1 locs ht hvm hw hB hz1 hk1 hS => ?_)
  obtain ⟨hP1, hD1⟩ := hB
  rw [ht] at hP1
  obtain ⟨hP, hD⟩ := va_join (wr := []) (w1 := [(aM, .inr (10, [.ref aM_text, .int M_size, .int M_many, .ref aM_slips, .ref aM_lates, .ref aM_copies, .int M_little, .int M_in, .int M_streak, .int M_lot, .int M_undos, .ref aM_before, .ref aM_images, .ref aM_kept, .long M_trace, .int y1.1, .int y1.2.1, .int y1.2.2.1, .long y1.2.2.2, .int M_readMany, .int M_readLittle, .ref aM_read, .long M_below])), (aM_text, .inl (cI, 200, .inl M_text))]) hP hD [0, 1] [] rfl rfl (by decide) (by decide) hk1 hFc hP1 hD1
  generalize H1 = H at hP hS ⊢
  have hP : va_P D vwCl [(aM, .inr (10, [.ref aM_text, .int M_size, .int M_many, .ref aM_slips, .ref aM_lates, .ref aM_copies, .int M_little, .int M_in, .int M_streak, .int M_lot, .int M_undos, .ref aM_before, .ref aM_images, .ref aM_kept, .long M_trace, .int y1.1, .int y1.2.1, .int y1.2.2.1, .long y1.2.2.2, .int M_readMany, .int M_readLittle, .ref aM_read, .long M_below])), (aM_text, .inl (cI, 200, .inl M_text))] H := hP.sub [0, 1] rfl
  have hD : va_D A [(aM, .inr (10, [.ref aM_text, .int M_size, .int M_many, .ref aM_slips, .ref aM_lates, .ref aM_copies, .int M_little, .int M_in, .int M_streak, .int M_lot, .int M_undos, .ref aM_before, .ref aM_images, .ref aM_kept, .long M_trace, .int y1.1, .int y1.2.1, .int y1.2.2.1, .long y1.2.2.2, .int M_readMany, .int M_readLittle, .ref aM_read, .long M_below])), (aM_text, .inl (cI, 200, .inl M_text))] := hD.sub [0, 1] (by decide) rfl
  refine lv_aload_n hx hb dX10_stops_4 rfl (lv_at hl 0 rfl) ?_
  refine va_get (D := D) (ci := 10) (v := .int y1.2.2.1) (C := RX10) (T := TX10) (N := 23) hx hb hts inX10 hown hK hP 0 rfl rfl 17 (by decide) fl_72 (fun _ h9 => h9) rfl dX10_stops_5 ?_
  refine lv_iconst (v := (3 : Int32)) hx hb dX10_stops_8 (by decide) ?_
  refine lv_icmp_ne (tgt := 16) hx hb dX10_stops_9 (by decide) (fun c_2 => ?_) (fun c_2 => ?_)
  · replace h := if_n c_2 h
    refine lv_iconst (v := (0 : Int32)) hx hb dX10_stops_16 (by decide) ?_
    have hy := Option.some.inj h
    subst hy
    exact W.zret (v := (0 : Int32)) hx hb hr (zo_nar (by decide)) (fun t ht hW => ⟨⟨(0 : Int32), (), rfl, ⟨rfl, (by decide)⟩, by rw [ht]; exact hP, hD⟩, hS.F ht⟩) hS.2.2 dX10_stops_17
  · replace h := if_p c_2 h
    refine lv_iconst (v := (1 : Int32)) hx hb dX10_stops_12 (by decide) ?_
    refine lv_goto (tgt := 17) hx hb dX10_stops_13 (by decide) ?_
    have hy := Option.some.inj h
    subst hy
    exact W.zret (v := (1 : Int32)) hx hb hr (zo_nar (by decide)) (fun t ht hW => ⟨⟨(1 : Int32), (), rfl, ⟨rfl, (by decide)⟩, by rw [ht]; exact hP, hD⟩, hS.F ht⟩) hS.2.2 dX10_stops_17

def f_X10_takesChild_L59 (M_size : Int32) (M_text : Nat → Int32) (k13 : Int32 → Int32 → Int32 → Int64 → Int32 → (Nat → Int32) → Int32 → Option (Int32 × Int32 × Int32 × Int32 × Int64 × Int32 × (Nat → Int32))) (M_at : Int32) (M_begin : Int32) (M_kind : Int32) (M_value : Int64) (M_readMany : Int32) (M_read : Nat → Int32) (x1 : Int32) : Option (Int32 × Int32 × Int32 × Int32 × Int64 × Int32 × (Nat → Int32)) := (if gIn (((3 : Int32) * M_readMany) + x1) 18 = true then k13 M_at M_begin M_kind M_value M_readMany (upd M_read (((3 : Int32) * M_readMany) + x1).toNatClampNeg M_value.toInt32) (x1 + (1 : Int32)) else none)
def f_X10_takesChild_L13 (M_size : Int32) (M_text : Nat → Int32) : Nat → Int32 → Int32 → Int32 → Int64 → Int32 → (Nat → Int32) → Int32 → Option (Int32 × Int32 × Int32 × Int32 × Int64 × Int32 × (Nat → Int32))
  | 0, _, _, _, _, _, _, _ => none
  | n + 1, M_at, M_begin, M_kind, M_value, M_readMany, M_read, x1 => (if (3 : Int32) ≤ x1 then (Option.bind (f_X10_stops M_size M_at M_begin M_kind M_value M_text) (fun y3 => some (y3.1, y3.2.1, y3.2.2.1, y3.2.2.2.1, y3.2.2.2.2, (M_readMany + (1 : Int32)), M_read))) else (Option.bind (f_X10_takes M_size M_at M_begin M_kind M_value M_text (0 : Int32) (9 : Int32)) (fun y5 => (if y5.1 = 0 then some ((0 : Int32), y5.2.1, y5.2.2.1, y5.2.2.2.1, y5.2.2.2.2, M_readMany, M_read) else (if x1 = (2 : Int32) then (if (lg_cmp y5.2.2.2.2 (9 : Int64)) = 0 then f_X10_takesChild_L59 M_size M_text (f_X10_takesChild_L13 M_size M_text n) y5.2.1 y5.2.2.1 y5.2.2.2.1 y5.2.2.2.2 M_readMany M_read x1 else (if (lg_cmp y5.2.2.2.2 M_readMany.toInt64) < 0 then f_X10_takesChild_L59 M_size M_text (f_X10_takesChild_L13 M_size M_text n) y5.2.1 y5.2.2.1 y5.2.2.2.1 y5.2.2.2.2 M_readMany M_read x1 else some ((0 : Int32), y5.2.1, y5.2.2.1, y5.2.2.2.1, y5.2.2.2.2, M_readMany, M_read))) else f_X10_takesChild_L59 M_size M_text (f_X10_takesChild_L13 M_size M_text n) y5.2.1 y5.2.2.1 y5.2.2.2.1 y5.2.2.2.2 M_readMany M_read x1)))))
def f_X10_takesChild (M_size : Int32) (M_at : Int32) (M_begin : Int32) (M_kind : Int32) (M_value : Int64) (M_readMany : Int32) (M_text : Nat → Int32) (M_read : Nat → Int32) : Option (Int32 × Int32 × Int32 × Int32 × Int64 × Int32 × (Nat → Int32)) := (if M_readMany = (6 : Int32) then some ((0 : Int32), M_at, M_begin, M_kind, M_value, M_readMany, M_read) else f_X10_takesChild_L13 M_size M_text 300 M_at M_begin M_kind M_value M_readMany M_read (0 : Int32))
set_option maxHeartbeats 8000000 in
set_option maxRecDepth 100000 in
theorem c_X10_takesChild (l : Launch) (D : va_G) (cI cJ cZ cO : ClassId) (aM : Nat) (aM_text : Nat) (aM_read : Nat) (aM_slips : Nat) (aM_lates : Nat) (aM_copies : Nat) (aM_before : Nat) (aM_images : Nat) (aM_kept : Nat) (M_size : Int32) (M_many : Int32) (M_little : Int32) (M_in : Int32) (M_streak : Int32) (M_lot : Int32) (M_undos : Int32) (M_trace : Int64) (M_at : Int32) (M_begin : Int32) (M_kind : Int32) (M_value : Int64) (M_readMany : Int32) (M_readLittle : Int32) (M_below : Int64) (M_text : Nat → Int32) (M_read : Nat → Int32) (sz : Nat)   (y0 : Int32 × Int32 × Int32 × Int32 × Int64 × Int32 × (Nat → Int32)) (h : f_X10_takesChild M_size M_at M_begin M_kind M_value M_readMany M_text M_read = some y0) : Met l yX10_takesChild wsX10_takesChild ({ frames := 3, cells := 0, slots := 0, locals := 63 } : Room) (va_Pc [.ref aM] (fun U => U.heap.size = sz ∧ va_P D vwCl [(aM, .inr (10, [.ref aM_text, .int M_size, .int M_many, .ref aM_slips, .ref aM_lates, .ref aM_copies, .int M_little, .int M_in, .int M_streak, .int M_lot, .int M_undos, .ref aM_before, .ref aM_images, .ref aM_kept, .long M_trace, .int M_at, .int M_begin, .int M_kind, .long M_value, .int M_readMany, .int M_readLittle, .ref aM_read, .long M_below])), (aM_text, .inl (cI, 200, .inl M_text)), (aM_read, .inl (cI, 18, .inl M_read))] U.heap ∧ KK D cI cJ cZ cO U ∧ va_D (fun _ => True) [(aM, .inr (10, [.ref aM_text, .int M_size, .int M_many, .ref aM_slips, .ref aM_lates, .ref aM_copies, .int M_little, .int M_in, .int M_streak, .int M_lot, .int M_undos, .ref aM_before, .ref aM_images, .ref aM_kept, .long M_trace, .int M_at, .int M_begin, .int M_kind, .long M_value, .int M_readMany, .int M_readLittle, .ref aM_read, .long M_below])), (aM_text, .inl (cI, 200, .inl M_text)), (aM_read, .inl (cI, 18, .inl M_read))])) (va_Qi (fun (r : Int32) (_ : Unit) => r = y0.1 ∧ zo r) (fun (_ : Unit) t => va_P D vwCl [(aM, .inr (10, [.ref aM_text, .int M_size, .int M_many, .ref aM_slips, .ref aM_lates, .ref aM_copies, .int M_little, .int M_in, .int M_streak, .int M_lot, .int M_undos, .ref aM_before, .ref aM_images, .ref aM_kept, .long M_trace, .int y0.2.1, .int y0.2.2.1, .int y0.2.2.2.1, .long y0.2.2.2.2.1, .int y0.2.2.2.2.2.1, .int M_readLittle, .ref aM_read, .long M_below])), (aM_text, .inl (cI, 200, .inl M_text)), (aM_read, .inl (cI, 18, .inl y0.2.2.2.2.2.2))] t.heap ∧ va_D (va_A [(aM, .inr (10, [.ref aM_text, .int M_size, .int M_many, .ref aM_slips, .ref aM_lates, .ref aM_copies, .int M_little, .int M_in, .int M_streak, .int M_lot, .int M_undos, .ref aM_before, .ref aM_images, .ref aM_kept, .long M_trace, .int M_at, .int M_begin, .int M_kind, .long M_value, .int M_readMany, .int M_readLittle, .ref aM_read, .long M_below])), (aM_text, .inl (cI, 200, .inl M_text)), (aM_read, .inl (cI, 18, .inl M_read))] sz) [(aM, .inr (10, [.ref aM_text, .int M_size, .int M_many, .ref aM_slips, .ref aM_lates, .ref aM_copies, .int M_little, .int M_in, .int M_streak, .int M_lot, .int M_undos, .ref aM_before, .ref aM_images, .ref aM_kept, .long M_trace, .int y0.2.1, .int y0.2.2.1, .int y0.2.2.2.1, .long y0.2.2.2.2.1, .int y0.2.2.2.2.2.1, .int M_readLittle, .ref aM_read, .long M_below])), (aM_text, .inl (cI, 200, .inl M_text)), (aM_read, .inl (cI, 18, .inl y0.2.2.2.2.2.2))]) (va_A [(aM, .inr (10, [.ref aM_text, .int M_size, .int M_many, .ref aM_slips, .ref aM_lates, .ref aM_copies, .int M_little, .int M_in, .int M_streak, .int M_lot, .int M_undos, .ref aM_before, .ref aM_images, .ref aM_kept, .long M_trace, .int M_at, .int M_begin, .int M_kind, .long M_value, .int M_readMany, .int M_readLittle, .ref aM_read, .long M_below])), (aM_text, .inl (cI, 200, .inl M_text)), (aM_read, .inl (cI, 18, .inl M_read))] sz)) 0 0 (va_A [(aM, .inr (10, [.ref aM_text, .int M_size, .int M_many, .ref aM_slips, .ref aM_lates, .ref aM_copies, .int M_little, .int M_in, .int M_streak, .int M_lot, .int M_undos, .ref aM_before, .ref aM_images, .ref aM_kept, .long M_trace, .int M_at, .int M_begin, .int M_kind, .long M_value, .int M_readMany, .int M_readLittle, .ref aM_read, .long M_below])), (aM_text, .inl (cI, 200, .inl M_text)), (aM_read, .inl (cI, 18, .inl M_read))] sz) := by
  refine Met.ofW (cc := cX10_takesChild) (maxL := 2) (ret := (some .boolean)) (by decide) rfl ?_
  intro p e s m args below meth c s₁ B hml hv
  obtain ⟨rfl, hsz, hP, hKK, hD0⟩ := hv
  have hx := B.exec
  have hb := B.bytes
  have hr := B.returns
  have hts := atoms_spec (ws := wsX10_takesChild) B.pre
  have hown : s.vm.findClass RX10 = some m.cls := findClass_of_methodNamed B.named
  have hlocks := B.notSynchronized
  have hK := hKK.1
  have fl_36 := hts (.fieldLink RX10 36 "SimonSaysModel" "read" "[I") (by decide +kernel)
  have fl_61 := hts (.fieldLink RX10 61 "SimonSaysModel" "value" "J") (by decide +kernel)
  have fl_90 := hts (.fieldLink RX10 90 "SimonSaysModel" "readMany" "I") (by decide +kernel)
  have cst_97 := hts (.constantLong RX10 97 (9)) (by decide +kernel)
  have inX10 : ∀ w ∈ wsX100, w ∈ wsX10_takesChild := by decide +kernel
  subst hsz
  have hD := hD0.self (sz := s.heap.size)
  generalize hAe : va_A [(aM, .inr (10, [.ref aM_text, .int M_size, .int M_many, .ref aM_slips, .ref aM_lates, .ref aM_copies, .int M_little, .int M_in, .int M_streak, .int M_lot, .int M_undos, .ref aM_before, .ref aM_images, .ref aM_kept, .long M_trace, .int M_at, .int M_begin, .int M_kind, .long M_value, .int M_readMany, .int M_readLittle, .ref aM_read, .long M_below])), (aM_text, .inl (cI, 200, .inl M_text)), (aM_read, .inl (cI, 18, .inl M_read))] s.heap.size = A at hD ⊢
  have hA : ∀ q : Nat, s.heap.size ≤ q → A q := fun q h => by rw [← hAe]; exact Or.inr h
  have hS : va_S A s.heap s.heap [] := va_S.rf
  have hl := lv_entry ([.ref aM]) (n := 2) (Nat.le_of_ble_eq_true rfl)
  rw [lg_entry_eq]
  generalize (lg_sl ([.ref aM]) ++ List.replicate (2 - (lg_sl ([.ref aM])).length) Slot.unset).toArray = ls at hl ⊢
  have hl : lv_has ls 2 [(0, .ref aM)] := hl
  have L59 : ∀ (k13 : Int32 → Int32 → Int32 → Int64 → Int32 → (Nat → Int32) → Int32 → Option (Int32 × Int32 × Int32 × Int32 × Int64 × Int32 × (Nat → Int32))) (_ : ∀ (M_at : Int32) (M_begin : Int32) (M_kind : Int32) (M_value : Int64) (M_readMany : Int32) (M_read : Nat → Int32) (x1 : Int32), ∀ (H : Heap) (locs : List Loc), va_P D vwCl [(aM, .inr (10, [.ref aM_text, .int M_size, .int M_many, .ref aM_slips, .ref aM_lates, .ref aM_copies, .int M_little, .int M_in, .int M_streak, .int M_lot, .int M_undos, .ref aM_before, .ref aM_images, .ref aM_kept, .long M_trace, .int M_at, .int M_begin, .int M_kind, .long M_value, .int M_readMany, .int M_readLittle, .ref aM_read, .long M_below])), (aM_text, .inl (cI, 200, .inl M_text)), (aM_read, .inl (cI, 18, .inl M_read))] H → va_D A [(aM, .inr (10, [.ref aM_text, .int M_size, .int M_many, .ref aM_slips, .ref aM_lates, .ref aM_copies, .int M_little, .int M_in, .int M_streak, .int M_lot, .int M_undos, .ref aM_before, .ref aM_images, .ref aM_kept, .long M_trace, .int M_at, .int M_begin, .int M_kind, .long M_value, .int M_readMany, .int M_readLittle, .ref aM_read, .long M_below])), (aM_text, .inl (cI, 200, .inl M_text)), (aM_read, .inl (cI, 18, .inl M_read))] → va_S A s.heap H locs → ∀ (ls : Array Slot), lv_has ls 2 [(0, .ref aM), (1, .int x1)] → k13 M_at M_begin M_kind M_value M_readMany M_read x1 = some y0 → W p l e (headSpec wsX10_takesChild ({ frames := 3, cells := 0, slots := 0, locals := 63 } : Room)).room s m ([.ref aM] : List Value).toArray below meth c H locs 0 0 (MQ below (va_Qi (fun (r : Int32) (_ : Unit) => r = y0.1 ∧ zo r) (fun (_ : Unit) t => va_P D vwCl [(aM, .inr (10, [.ref aM_text, .int M_size, .int M_many, .ref aM_slips, .ref aM_lates, .ref aM_copies, .int M_little, .int M_in, .int M_streak, .int M_lot, .int M_undos, .ref aM_before, .ref aM_images, .ref aM_kept, .long M_trace, .int y0.2.1, .int y0.2.2.1, .int y0.2.2.2.1, .long y0.2.2.2.2.1, .int y0.2.2.2.2.2.1, .int M_readLittle, .ref aM_read, .long M_below])), (aM_text, .inl (cI, 200, .inl M_text)), (aM_read, .inl (cI, 18, .inl y0.2.2.2.2.2.2))] t.heap ∧ va_D A [(aM, .inr (10, [.ref aM_text, .int M_size, .int M_many, .ref aM_slips, .ref aM_lates, .ref aM_copies, .int M_little, .int M_in, .int M_streak, .int M_lot, .int M_undos, .ref aM_before, .ref aM_images, .ref aM_kept, .long M_trace, .int y0.2.1, .int y0.2.2.1, .int y0.2.2.2.1, .long y0.2.2.2.2.1, .int y0.2.2.2.2.2.1, .int M_readLittle, .ref aM_read, .long M_below])), (aM_text, .inl (cI, 200, .inl M_text)), (aM_read, .inl (cI, 18, .inl y0.2.2.2.2.2.2))]) A) ([.ref aM] : List Value).toArray s 0 0 A) (F0 m 13 ls [])), ∀ (M_at : Int32) (M_begin : Int32) (M_kind : Int32) (M_value : Int64) (M_readMany : Int32) (M_read : Nat → Int32) (x1 : Int32), ∀ (H : Heap) (locs : List Loc), va_P D vwCl [(aM, .inr (10, [.ref aM_text, .int M_size, .int M_many, .ref aM_slips, .ref aM_lates, .ref aM_copies, .int M_little, .int M_in, .int M_streak, .int M_lot, .int M_undos, .ref aM_before, .ref aM_images, .ref aM_kept, .long M_trace, .int M_at, .int M_begin, .int M_kind, .long M_value, .int M_readMany, .int M_readLittle, .ref aM_read, .long M_below])), (aM_text, .inl (cI, 200, .inl M_text)), (aM_read, .inl (cI, 18, .inl M_read))] H → va_D A [(aM, .inr (10, [.ref aM_text, .int M_size, .int M_many, .ref aM_slips, .ref aM_lates, .ref aM_copies, .int M_little, .int M_in, .int M_streak, .int M_lot, .int M_undos, .ref aM_before, .ref aM_images, .ref aM_kept, .long M_trace, .int M_at, .int M_begin, .int M_kind, .long M_value, .int M_readMany, .int M_readLittle, .ref aM_read, .long M_below])), (aM_text, .inl (cI, 200, .inl M_text)), (aM_read, .inl (cI, 18, .inl M_read))] → va_S A s.heap H locs → ∀ (ls : Array Slot), lv_has ls 2 [(0, .ref aM), (1, .int x1)] → f_X10_takesChild_L59 M_size M_text k13 M_at M_begin M_kind M_value M_readMany M_read x1 = some y0 → W p l e (headSpec wsX10_takesChild ({ frames := 3, cells := 0, slots := 0, locals := 63 } : Room)).room s m ([.ref aM] : List Value).toArray below meth c H locs 0 0 (MQ below (va_Qi (fun (r : Int32) (_ : Unit) => r = y0.1 ∧ zo r) (fun (_ : Unit) t => va_P D vwCl [(aM, .inr (10, [.ref aM_text, .int M_size, .int M_many, .ref aM_slips, .ref aM_lates, .ref aM_copies, .int M_little, .int M_in, .int M_streak, .int M_lot, .int M_undos, .ref aM_before, .ref aM_images, .ref aM_kept, .long M_trace, .int y0.2.1, .int y0.2.2.1, .int y0.2.2.2.1, .long y0.2.2.2.2.1, .int y0.2.2.2.2.2.1, .int M_readLittle, .ref aM_read, .long M_below])), (aM_text, .inl (cI, 200, .inl M_text)), (aM_read, .inl (cI, 18, .inl y0.2.2.2.2.2.2))] t.heap ∧ va_D A [(aM, .inr (10, [.ref aM_text, .int M_size, .int M_many, .ref aM_slips, .ref aM_lates, .ref aM_copies, .int M_little, .int M_in, .int M_streak, .int M_lot, .int M_undos, .ref aM_before, .ref aM_images, .ref aM_kept, .long M_trace, .int y0.2.1, .int y0.2.2.1, .int y0.2.2.2.1, .long y0.2.2.2.2.1, .int y0.2.2.2.2.2.1, .int M_readLittle, .ref aM_read, .long M_below])), (aM_text, .inl (cI, 200, .inl M_text)), (aM_read, .inl (cI, 18, .inl y0.2.2.2.2.2.2))]) A) ([.ref aM] : List Value).toArray s 0 0 A) (F0 m 59 ls []) := by
    intro k13 hk13
    intro M_at M_begin M_kind M_value M_readMany M_read x1 H locs hP hD hS ls hl h
    unfold f_X10_takesChild_L59 at h
    refine lv_aload_n hx hb dX10_takesChild_59 rfl (lv_at hl 0 rfl) ?_
    refine va_get (D := D) (ci := 10) (v := .ref aM_read) (C := RX10) (T := TX10) (N := 23) hx hb hts inX10 hown hK hP 0 rfl rfl 21 (by decide) fl_36 (fun _ h9 => h9) rfl dX10_takesChild_60 ?_
    refine lv_iconst (v := (3 : Int32)) hx hb dX10_takesChild_63 (by decide) ?_
    refine lv_aload_n hx hb dX10_takesChild_64 rfl (lv_at hl 0 rfl) ?_
    refine va_get (D := D) (ci := 10) (v := .int M_readMany) (C := RX10) (T := TX10) (N := 23) hx hb hts inX10 hown hK hP 0 rfl rfl 19 (by decide) fl_90 (fun _ h9 => h9) rfl dX10_takesChild_65 ?_
    refine lv_imul hx hb dX10_takesChild_68 ?_
    refine lv_iload_n hx hb dX10_takesChild_69 rfl (lv_at hl 1 rfl) ?_
    refine lv_iadd hx hb dX10_takesChild_70 ?_
    refine lv_aload_n hx hb dX10_takesChild_71 rfl (lv_at hl 0 rfl) ?_
    refine va_get (D := D) (ci := 10) (v := .long M_value) (C := RX10) (T := TX10) (N := 23) hx hb hts inX10 hown hK hP 0 rfl rfl 18 (by decide) fl_61 (fun _ h9 => h9) rfl dX10_takesChild_72 ?_
    refine lv_l2i (v := M_value.toInt32) hx hb dX10_takesChild_75 rfl ?_
    obtain ⟨hi11, h⟩ := gd_in h
    refine va_iast hx hb hK hP hD hS 2 0 rfl rfl hi11 dX10_takesChild_76 (fun H locs hP hD hS => ?_)
    have hP : va_P D vwCl [(aM, .inr (10, [.ref aM_text, .int M_size, .int M_many, .ref aM_slips, .ref aM_lates, .ref aM_copies, .int M_little, .int M_in, .int M_streak, .int M_lot, .int M_undos, .ref aM_before, .ref aM_images, .ref aM_kept, .long M_trace, .int M_at, .int M_begin, .int M_kind, .long M_value, .int M_readMany, .int M_readLittle, .ref aM_read, .long M_below])), (aM_text, .inl (cI, 200, .inl M_text)), (aM_read, .inl (cI, 18, .inl (upd M_read (((3 : Int32) * M_readMany) + x1).toNatClampNeg M_value.toInt32)))] H := hP
    have hD : va_D A [(aM, .inr (10, [.ref aM_text, .int M_size, .int M_many, .ref aM_slips, .ref aM_lates, .ref aM_copies, .int M_little, .int M_in, .int M_streak, .int M_lot, .int M_undos, .ref aM_before, .ref aM_images, .ref aM_kept, .long M_trace, .int M_at, .int M_begin, .int M_kind, .long M_value, .int M_readMany, .int M_readLittle, .ref aM_read, .long M_below])), (aM_text, .inl (cI, 200, .inl M_text)), (aM_read, .inl (cI, 18, .inl (upd M_read (((3 : Int32) * M_readMany) + x1).toNatClampNeg M_value.toInt32)))] := hD
    refine lv_iinc (v := (x1 + (1 : Int32))) (lv' := [(1, .int (x1 + (1 : Int32))), (0, .ref aM)]) hx hb dX10_takesChild_77 hl (k := 1) rfl rfl (by decide) rfl (fun ls hl => ?_)
    refine lv_goto (tgt := 13) hx hb dX10_takesChild_80 (by decide) ?_
    exact hk13 M_at M_begin M_kind M_value M_readMany (upd M_read (((3 : Int32) * M_readMany) + x1).toNatClampNeg M_value.toInt32) (x1 + (1 : Int32)) _ _ hP hD hS ls (lv_sub hl [1, 0] rfl) h
  have L13 : ∀ (n : Nat), ∀ (M_at : Int32) (M_begin : Int32) (M_kind : Int32) (M_value : Int64) (M_readMany : Int32) (M_read : Nat → Int32) (x1 : Int32), ∀ (H : Heap) (locs : List Loc), va_P D vwCl [(aM, .inr (10, [.ref aM_text, .int M_size, .int M_many, .ref aM_slips, .ref aM_lates, .ref aM_copies, .int M_little, .int M_in, .int M_streak, .int M_lot, .int M_undos, .ref aM_before, .ref aM_images, .ref aM_kept, .long M_trace, .int M_at, .int M_begin, .int M_kind, .long M_value, .int M_readMany, .int M_readLittle, .ref aM_read, .long M_below])), (aM_text, .inl (cI, 200, .inl M_text)), (aM_read, .inl (cI, 18, .inl M_read))] H → va_D A [(aM, .inr (10, [.ref aM_text, .int M_size, .int M_many, .ref aM_slips, .ref aM_lates, .ref aM_copies, .int M_little, .int M_in, .int M_streak, .int M_lot, .int M_undos, .ref aM_before, .ref aM_images, .ref aM_kept, .long M_trace, .int M_at, .int M_begin, .int M_kind, .long M_value, .int M_readMany, .int M_readLittle, .ref aM_read, .long M_below])), (aM_text, .inl (cI, 200, .inl M_text)), (aM_read, .inl (cI, 18, .inl M_read))] → va_S A s.heap H locs → ∀ (ls : Array Slot), lv_has ls 2 [(0, .ref aM), (1, .int x1)] → f_X10_takesChild_L13 M_size M_text n M_at M_begin M_kind M_value M_readMany M_read x1 = some y0 → W p l e (headSpec wsX10_takesChild ({ frames := 3, cells := 0, slots := 0, locals := 63 } : Room)).room s m ([.ref aM] : List Value).toArray below meth c H locs 0 0 (MQ below (va_Qi (fun (r : Int32) (_ : Unit) => r = y0.1 ∧ zo r) (fun (_ : Unit) t => va_P D vwCl [(aM, .inr (10, [.ref aM_text, .int M_size, .int M_many, .ref aM_slips, .ref aM_lates, .ref aM_copies, .int M_little, .int M_in, .int M_streak, .int M_lot, .int M_undos, .ref aM_before, .ref aM_images, .ref aM_kept, .long M_trace, .int y0.2.1, .int y0.2.2.1, .int y0.2.2.2.1, .long y0.2.2.2.2.1, .int y0.2.2.2.2.2.1, .int M_readLittle, .ref aM_read, .long M_below])), (aM_text, .inl (cI, 200, .inl M_text)), (aM_read, .inl (cI, 18, .inl y0.2.2.2.2.2.2))] t.heap ∧ va_D A [(aM, .inr (10, [.ref aM_text, .int M_size, .int M_many, .ref aM_slips, .ref aM_lates, .ref aM_copies, .int M_little, .int M_in, .int M_streak, .int M_lot, .int M_undos, .ref aM_before, .ref aM_images, .ref aM_kept, .long M_trace, .int y0.2.1, .int y0.2.2.1, .int y0.2.2.2.1, .long y0.2.2.2.2.1, .int y0.2.2.2.2.2.1, .int M_readLittle, .ref aM_read, .long M_below])), (aM_text, .inl (cI, 200, .inl M_text)), (aM_read, .inl (cI, 18, .inl y0.2.2.2.2.2.2))]) A) ([.ref aM] : List Value).toArray s 0 0 A) (F0 m 13 ls []) := by
    intro n
    induction n with
    | zero =>
      intro M_at M_begin M_kind M_value M_readMany M_read x1 H locs hP hD hS ls hl h
      exact (ns h).elim
    | succ n ih =>
      intro M_at M_begin M_kind M_value M_readMany M_read x1 H locs hP hD hS ls hl h
      unfold f_X10_takesChild_L13 at h
      refine lv_iload_n hx hb dX10_takesChild_13 rfl (lv_at hl 1 rfl) ?_
      refine lv_iconst (v := (3 : Int32)) hx hb dX10_takesChild_14 (by decide) ?_
      refine lv_icmp_ge (tgt := 83) hx hb dX10_takesChild_15 (by decide) (fun c_2 => ?_) (fun c_2 => ?_)
      · replace h := if_p c_2 h
        refine lv_aload_n hx hb dX10_takesChild_83 rfl (lv_at hl 0 rfl) ?_
        refine lv_dup hx hb dX10_takesChild_84 rfl ?_
        refine va_get (D := D) (ci := 10) (v := .int M_readMany) (C := RX10) (T := TX10) (N := 23) hx hb hts inX10 hown hK hP 0 rfl rfl 19 (by decide) fl_90 (fun _ h9 => h9) rfl dX10_takesChild_85 ?_
        refine lv_iconst (v := (1 : Int32)) hx hb dX10_takesChild_88 (by decide) ?_
        refine lv_iadd hx hb dX10_takesChild_89 ?_
        refine va_put (D := D) (ci := 10) (v := .int (M_readMany + (1 : Int32))) (ty := .int) (C := RX10) (T := TX10) (N := 23) hx hb hts inX10 tyX10 tyX10_ok nmX10 hown hK hP hD hS 0 rfl rfl 19 (by decide) fl_90 (fun _ h9 => h9) rfl (by decide +kernel) rfl rfl (Nat.le_of_ble_eq_true rfl) dX10_takesChild_90 (fun H locs hP hD hS => ?_)
        have hP : va_P D vwCl [(aM, .inr (10, [.ref aM_text, .int M_size, .int M_many, .ref aM_slips, .ref aM_lates, .ref aM_copies, .int M_little, .int M_in, .int M_streak, .int M_lot, .int M_undos, .ref aM_before, .ref aM_images, .ref aM_kept, .long M_trace, .int M_at, .int M_begin, .int M_kind, .long M_value, .int (M_readMany + (1 : Int32)), .int M_readLittle, .ref aM_read, .long M_below])), (aM_text, .inl (cI, 200, .inl M_text)), (aM_read, .inl (cI, 18, .inl M_read))] H := hP
        have hD : va_D A [(aM, .inr (10, [.ref aM_text, .int M_size, .int M_many, .ref aM_slips, .ref aM_lates, .ref aM_copies, .int M_little, .int M_in, .int M_streak, .int M_lot, .int M_undos, .ref aM_before, .ref aM_images, .ref aM_kept, .long M_trace, .int M_at, .int M_begin, .int M_kind, .long M_value, .int (M_readMany + (1 : Int32)), .int M_readLittle, .ref aM_read, .long M_below])), (aM_text, .inl (cI, 200, .inl M_text)), (aM_read, .inl (cI, 18, .inl M_read))] := hD
        refine lv_aload_n hx hb dX10_takesChild_93 rfl (lv_at hl 0 rfl) ?_
        obtain ⟨y3, qy3, h⟩ := ob_some h
        have hPc : va_P D vwCl [(aM, .inr (10, [.ref aM_text, .int M_size, .int M_many, .ref aM_slips, .ref aM_lates, .ref aM_copies, .int M_little, .int M_in, .int M_streak, .int M_lot, .int M_undos, .ref aM_before, .ref aM_images, .ref aM_kept, .long M_trace, .int M_at, .int M_begin, .int M_kind, .long M_value, .int (M_readMany + (1 : Int32)), .int M_readLittle, .ref aM_read, .long M_below])), (aM_text, .inl (cI, 200, .inl M_text))] H := hP.sub [0, 1] rfl
        have hDc : va_D A [(aM, .inr (10, [.ref aM_text, .int M_size, .int M_many, .ref aM_slips, .ref aM_lates, .ref aM_copies, .int M_little, .int M_in, .int M_streak, .int M_lot, .int M_undos, .ref aM_before, .ref aM_images, .ref aM_kept, .long M_trace, .int M_at, .int M_begin, .int M_kind, .long M_value, .int (M_readMany + (1 : Int32)), .int M_readLittle, .ref aM_read, .long M_below])), (aM_text, .inl (cI, 200, .inl M_text))] := hD.sub [0, 1] (by decide) rfl
        have hFc := va_free (wc := [(aM, .inr (10, [.ref aM_text, .int M_size, .int M_many, .ref aM_slips, .ref aM_lates, .ref aM_copies, .int M_little, .int M_in, .int M_streak, .int M_lot, .int M_undos, .ref aM_before, .ref aM_images, .ref aM_kept, .long M_trace, .int M_at, .int M_begin, .int M_kind, .long M_value, .int (M_readMany + (1 : Int32)), .int M_readLittle, .ref aM_read, .long M_below])), (aM_text, .inl (cI, 200, .inl M_text))]) hD hS hA [0, 1] rfl
        refine va_calli (va_runV (As := []) (rest := []) ⟨hx, hb, hml, hown, hts⟩ (c_X10_stops l D cI cJ cZ cO aM aM_text aM_slips aM_lates aM_copies aM_before aM_images aM_kept aM_read M_size M_many M_little M_in M_streak M_lot M_undos M_trace M_at M_begin M_kind M_value (M_readMany + (1 : Int32)) M_readLittle M_below M_text H.size y3 qy3) (cwV 0 hts gX10_takesChild_X10_stops rfl rfl rfl (by decide +kernel) ⟨Nat.le_of_ble_eq_true rfl, Nat.le_of_ble_eq_true rfl⟩) ⟨fb_i, va_recv hK hP (ci := 10) (q0 := 0) rfl rfl, fun U hU hW => ⟨rfl, by rw [hU], by rw [hU]; exact hPc, KK.warm hW hKK, hDc.weaken (fun _ _ _ _ => trivial)⟩⟩ rfl rfl hl.1 rfl (lv_room (Nat.le_of_ble_eq_true rfl)) dX10_takesChild_94 ⟨Nat.le_of_ble_eq_true rfl, Nat.le_of_ble_eq_true rfl⟩) hS (fun q _ h => hFc q h) hFc (fun r u t H1 locs ht hvm hw hB hz1 hk1 hS => ?_)
        obtain ⟨hP1, hD1⟩ := hB
        rw [ht] at hP1
        obtain ⟨hw, hz4⟩ := hw
        replace hw := hw.symm
        subst hw
        obtain ⟨hP, hD⟩ := va_join (wr := [(aM_read, .inl (cI, 18, .inl M_read))]) (w1 := [(aM, .inr (10, [.ref aM_text, .int M_size, .int M_many, .ref aM_slips, .ref aM_lates, .ref aM_copies, .int M_little, .int M_in, .int M_streak, .int M_lot, .int M_undos, .ref aM_before, .ref aM_images, .ref aM_kept, .long M_trace, .int y3.2.1, .int y3.2.2.1, .int y3.2.2.2.1, .long y3.2.2.2.2, .int (M_readMany + (1 : Int32)), .int M_readLittle, .ref aM_read, .long M_below])), (aM_text, .inl (cI, 200, .inl M_text))]) hP hD [0, 1] [2] rfl rfl (by decide) (by decide) hk1 hFc hP1 hD1
        generalize H1 = H at hP hS ⊢
        have hP : va_P D vwCl [(aM, .inr (10, [.ref aM_text, .int M_size, .int M_many, .ref aM_slips, .ref aM_lates, .ref aM_copies, .int M_little, .int M_in, .int M_streak, .int M_lot, .int M_undos, .ref aM_before, .ref aM_images, .ref aM_kept, .long M_trace, .int y3.2.1, .int y3.2.2.1, .int y3.2.2.2.1, .long y3.2.2.2.2, .int (M_readMany + (1 : Int32)), .int M_readLittle, .ref aM_read, .long M_below])), (aM_text, .inl (cI, 200, .inl M_text)), (aM_read, .inl (cI, 18, .inl M_read))] H := hP.sub [1, 2, 0] rfl
        have hD : va_D A [(aM, .inr (10, [.ref aM_text, .int M_size, .int M_many, .ref aM_slips, .ref aM_lates, .ref aM_copies, .int M_little, .int M_in, .int M_streak, .int M_lot, .int M_undos, .ref aM_before, .ref aM_images, .ref aM_kept, .long M_trace, .int y3.2.1, .int y3.2.2.1, .int y3.2.2.2.1, .long y3.2.2.2.2, .int (M_readMany + (1 : Int32)), .int M_readLittle, .ref aM_read, .long M_below])), (aM_text, .inl (cI, 200, .inl M_text)), (aM_read, .inl (cI, 18, .inl M_read))] := hD.sub [1, 2, 0] (by decide) rfl
        have hy := Option.some.inj h
        subst hy
        exact W.zret (v := y3.1) hx hb hr (zo_nar hz4) (fun t ht hW => ⟨⟨y3.1, (), rfl, ⟨rfl, hz4⟩, by rw [ht]; exact hP, hD⟩, hS.F ht⟩) hS.2.2 dX10_takesChild_97
      · replace h := if_n c_2 h
        refine lv_aload_n hx hb dX10_takesChild_18 rfl (lv_at hl 0 rfl) ?_
        refine lv_iconst (v := (0 : Int32)) hx hb dX10_takesChild_19 (by decide) ?_
        refine lv_bipush (v := (9 : Int32)) hx hb dX10_takesChild_20 (by decide) ?_
        obtain ⟨y5, qy5, h⟩ := ob_some h
        have hPc : va_P D vwCl [(aM, .inr (10, [.ref aM_text, .int M_size, .int M_many, .ref aM_slips, .ref aM_lates, .ref aM_copies, .int M_little, .int M_in, .int M_streak, .int M_lot, .int M_undos, .ref aM_before, .ref aM_images, .ref aM_kept, .long M_trace, .int M_at, .int M_begin, .int M_kind, .long M_value, .int M_readMany, .int M_readLittle, .ref aM_read, .long M_below])), (aM_text, .inl (cI, 200, .inl M_text))] H := hP.sub [0, 1] rfl
        have hDc : va_D A [(aM, .inr (10, [.ref aM_text, .int M_size, .int M_many, .ref aM_slips, .ref aM_lates, .ref aM_copies, .int M_little, .int M_in, .int M_streak, .int M_lot, .int M_undos, .ref aM_before, .ref aM_images, .ref aM_kept, .long M_trace, .int M_at, .int M_begin, .int M_kind, .long M_value, .int M_readMany, .int M_readLittle, .ref aM_read, .long M_below])), (aM_text, .inl (cI, 200, .inl M_text))] := hD.sub [0, 1] (by decide) rfl
        have hFc := va_free (wc := [(aM, .inr (10, [.ref aM_text, .int M_size, .int M_many, .ref aM_slips, .ref aM_lates, .ref aM_copies, .int M_little, .int M_in, .int M_streak, .int M_lot, .int M_undos, .ref aM_before, .ref aM_images, .ref aM_kept, .long M_trace, .int M_at, .int M_begin, .int M_kind, .long M_value, .int M_readMany, .int M_readLittle, .ref aM_read, .long M_below])), (aM_text, .inl (cI, 200, .inl M_text))]) hD hS hA [0, 1] rfl
        refine va_calli (va_runV (As := [.int (0 : Int32), .int (9 : Int32)]) (rest := []) ⟨hx, hb, hml, hown, hts⟩ (c_X10_takes l D cI cJ cZ cO aM aM_text aM_slips aM_lates aM_copies aM_before aM_images aM_kept aM_read M_size M_many M_little M_in M_streak M_lot M_undos M_trace M_at M_begin M_kind M_value M_readMany M_readLittle M_below M_text H.size (0 : Int32) (9 : Int32) y5 qy5) (cwV 2 hts gX10_takesChild_X10_takes rfl rfl rfl (by decide +kernel) ⟨Nat.le_of_ble_eq_true rfl, Nat.le_of_ble_eq_true rfl⟩) ⟨fb_i, va_recv hK hP (ci := 10) (q0 := 0) rfl rfl, fun U hU hW => ⟨rfl, by rw [hU], by rw [hU]; exact hPc, KK.warm hW hKK, hDc.weaken (fun _ _ _ _ => trivial)⟩⟩ rfl rfl hl.1 rfl (lv_room (Nat.le_of_ble_eq_true rfl)) dX10_takesChild_22 ⟨Nat.le_of_ble_eq_true rfl, Nat.le_of_ble_eq_true rfl⟩) hS (fun q _ h => hFc q h) hFc (fun r u t H1 locs ht hvm hw hB hz1 hk1 hS => ?_)
        obtain ⟨hP1, hD1⟩ := hB
        rw [ht] at hP1
        obtain ⟨hw, hz6⟩ := hw
        replace hw := hw.symm
        subst hw
        obtain ⟨hP, hD⟩ := va_join (wr := [(aM_read, .inl (cI, 18, .inl M_read))]) (w1 := [(aM, .inr (10, [.ref aM_text, .int M_size, .int M_many, .ref aM_slips, .ref aM_lates, .ref aM_copies, .int M_little, .int M_in, .int M_streak, .int M_lot, .int M_undos, .ref aM_before, .ref aM_images, .ref aM_kept, .long M_trace, .int y5.2.1, .int y5.2.2.1, .int y5.2.2.2.1, .long y5.2.2.2.2, .int M_readMany, .int M_readLittle, .ref aM_read, .long M_below])), (aM_text, .inl (cI, 200, .inl M_text))]) hP hD [0, 1] [2] rfl rfl (by decide) (by decide) hk1 hFc hP1 hD1
        generalize H1 = H at hP hS ⊢
        have hP : va_P D vwCl [(aM, .inr (10, [.ref aM_text, .int M_size, .int M_many, .ref aM_slips, .ref aM_lates, .ref aM_copies, .int M_little, .int M_in, .int M_streak, .int M_lot, .int M_undos, .ref aM_before, .ref aM_images, .ref aM_kept, .long M_trace, .int y5.2.1, .int y5.2.2.1, .int y5.2.2.2.1, .long y5.2.2.2.2, .int M_readMany, .int M_readLittle, .ref aM_read, .long M_below])), (aM_text, .inl (cI, 200, .inl M_text)), (aM_read, .inl (cI, 18, .inl M_read))] H := hP.sub [1, 2, 0] rfl
        have hD : va_D A [(aM, .inr (10, [.ref aM_text, .int M_size, .int M_many, .ref aM_slips, .ref aM_lates, .ref aM_copies, .int M_little, .int M_in, .int M_streak, .int M_lot, .int M_undos, .ref aM_before, .ref aM_images, .ref aM_kept, .long M_trace, .int y5.2.1, .int y5.2.2.1, .int y5.2.2.2.1, .long y5.2.2.2.2, .int M_readMany, .int M_readLittle, .ref aM_read, .long M_below])), (aM_text, .inl (cI, 200, .inl M_text)), (aM_read, .inl (cI, 18, .inl M_read))] := hD.sub [1, 2, 0] (by decide) rfl
        refine lv_if_eq (tgt := 57) hx hb dX10_takesChild_25 (by decide) (fun c_7 => ?_) (fun c_7 => ?_)
        · replace h := if_p c_7 h
          refine lv_iconst (v := (0 : Int32)) hx hb dX10_takesChild_57 (by decide) ?_
          have hy := Option.some.inj h
          subst hy
          exact W.zret (v := (0 : Int32)) hx hb hr (zo_nar (by decide)) (fun t ht hW => ⟨⟨(0 : Int32), (), rfl, ⟨rfl, (by decide)⟩, by rw [ht]; exact hP, hD⟩, hS.F ht⟩) hS.2.2 dX10_takesChild_58
        · replace h := if_n c_7 h
          refine lv_iload_n hx hb dX10_takesChild_28 rfl (lv_at hl 1 rfl) ?_
          refine lv_iconst (v := (2 : Int32)) hx hb dX10_takesChild_29 (by decide) ?_
          refine lv_icmp_ne (tgt := 59) hx hb dX10_takesChild_30 (by decide) (fun c_8 => ?_) (fun c_8 => ?_)
          · replace h := if_n c_8 h
            exact L59 (f_X10_takesChild_L13 M_size M_text n) ih y5.2.1 y5.2.2.1 y5.2.2.2.1 y5.2.2.2.2 M_readMany M_read x1 _ _ hP hD hS ls (lv_sub hl [0, 1] rfl) h
          · replace h := if_p c_8 h
            refine lv_aload_n hx hb dX10_takesChild_33 rfl (lv_at hl 0 rfl) ?_
            refine va_get (D := D) (ci := 10) (v := .long y5.2.2.2.2) (C := RX10) (T := TX10) (N := 23) hx hb hts inX10 hown hK hP 0 rfl rfl 18 (by decide) fl_61 (fun _ h9 => h9) rfl dX10_takesChild_34 ?_
            refine lv_ldc2 (v := (9 : Int64)) hx hb hown cst_97 dX10_takesChild_37 ?_
            refine W.lcmp hx hb dX10_takesChild_40 ?_
            refine lv_if_eq (tgt := 59) hx hb dX10_takesChild_41 (by decide) (fun c_9 => ?_) (fun c_9 => ?_)
            · replace h := if_p c_9 h
              exact L59 (f_X10_takesChild_L13 M_size M_text n) ih y5.2.1 y5.2.2.1 y5.2.2.2.1 y5.2.2.2.2 M_readMany M_read x1 _ _ hP hD hS ls (lv_sub hl [0, 1] rfl) h
            · replace h := if_n c_9 h
              refine lv_aload_n hx hb dX10_takesChild_44 rfl (lv_at hl 0 rfl) ?_
              refine va_get (D := D) (ci := 10) (v := .long y5.2.2.2.2) (C := RX10) (T := TX10) (N := 23) hx hb hts inX10 hown hK hP 0 rfl rfl 18 (by decide) fl_61 (fun _ h9 => h9) rfl dX10_takesChild_45 ?_
              refine lv_aload_n hx hb dX10_takesChild_48 rfl (lv_at hl 0 rfl) ?_
              refine va_get (D := D) (ci := 10) (v := .int M_readMany) (C := RX10) (T := TX10) (N := 23) hx hb hts inX10 hown hK hP 0 rfl rfl 19 (by decide) fl_90 (fun _ h9 => h9) rfl dX10_takesChild_49 ?_
              refine lv_i2l (v := M_readMany.toInt64) hx hb dX10_takesChild_52 rfl ?_
              refine W.lcmp hx hb dX10_takesChild_53 ?_
              refine lv_if_lt (tgt := 59) hx hb dX10_takesChild_54 (by decide) (fun c_10 => ?_) (fun c_10 => ?_)
              · replace h := if_p c_10 h
                exact L59 (f_X10_takesChild_L13 M_size M_text n) ih y5.2.1 y5.2.2.1 y5.2.2.2.1 y5.2.2.2.2 M_readMany M_read x1 _ _ hP hD hS ls (lv_sub hl [0, 1] rfl) h
              · replace h := if_n c_10 h
                refine lv_iconst (v := (0 : Int32)) hx hb dX10_takesChild_57 (by decide) ?_
                have hy := Option.some.inj h
                subst hy
                exact W.zret (v := (0 : Int32)) hx hb hr (zo_nar (by decide)) (fun t ht hW => ⟨⟨(0 : Int32), (), rfl, ⟨rfl, (by decide)⟩, by rw [ht]; exact hP, hD⟩, hS.F ht⟩) hS.2.2 dX10_takesChild_58
  unfold f_X10_takesChild at h
  refine lv_aload_n hx hb dX10_takesChild_0 rfl (lv_at hl 0 rfl) ?_
  refine va_get (D := D) (ci := 10) (v := .int M_readMany) (C := RX10) (T := TX10) (N := 23) hx hb hts inX10 hown hK hP 0 rfl rfl 19 (by decide) fl_90 (fun _ h9 => h9) rfl dX10_takesChild_1 ?_
  refine lv_bipush (v := (6 : Int32)) hx hb dX10_takesChild_4 (by decide) ?_
  refine lv_icmp_ne (tgt := 11) hx hb dX10_takesChild_6 (by decide) (fun c_1 => ?_) (fun c_1 => ?_)
  · replace h := if_n c_1 h
    refine lv_iconst (v := (0 : Int32)) hx hb dX10_takesChild_11 (by decide) ?_
    refine lv_istore_n (lv' := [(1, .int (0 : Int32)), (0, .ref aM)]) hx hb dX10_takesChild_12 rfl hl (by decide) rfl (fun ls hl => ?_)
    exact L13 300 M_at M_begin M_kind M_value M_readMany M_read (0 : Int32) _ _ hP hD hS ls (lv_sub hl [1, 0] rfl) h
  · replace h := if_p c_1 h
    refine lv_iconst (v := (0 : Int32)) hx hb dX10_takesChild_9 (by decide) ?_
    have hy := Option.some.inj h
    subst hy
    exact W.zret (v := (0 : Int32)) hx hb hr (zo_nar (by decide)) (fun t ht hW => ⟨⟨(0 : Int32), (), rfl, ⟨rfl, (by decide)⟩, by rw [ht]; exact hP, hD⟩, hS.F ht⟩) hS.2.2 dX10_takesChild_10

def f_X10_takesLittle (M_size : Int32) (M_at : Int32) (M_begin : Int32) (M_kind : Int32) (M_value : Int64) (M_readMany : Int32) (M_readLittle : Int32) (M_text : Nat → Int32) : Option (Int32 × Int32 × Int32 × Int32 × Int64 × Int32) := (Option.bind (f_X10_takes M_size M_at M_begin M_kind M_value M_text (0 : Int32) (M_readMany - (1 : Int32))) (fun y1 => (if y1.1 = 0 then some ((0 : Int32), y1.2.1, y1.2.2.1, y1.2.2.2.1, y1.2.2.2.2, M_readLittle) else (Option.bind (f_X10_stops M_size y1.2.1 y1.2.2.1 y1.2.2.2.1 y1.2.2.2.2 M_text) (fun y4 => some (y4.1, y4.2.1, y4.2.2.1, y4.2.2.2.1, y4.2.2.2.2, (M_readLittle ||| ((1 : Int32) <<< (y1.2.2.2.2.toInt32 &&& 31)))))))))
set_option maxHeartbeats 8000000 in
set_option maxRecDepth 100000 in
theorem c_X10_takesLittle (l : Launch) (D : va_G) (cI cJ cZ cO : ClassId) (aM : Nat) (aM_text : Nat) (aM_slips : Nat) (aM_lates : Nat) (aM_copies : Nat) (aM_before : Nat) (aM_images : Nat) (aM_kept : Nat) (aM_read : Nat) (M_size : Int32) (M_many : Int32) (M_little : Int32) (M_in : Int32) (M_streak : Int32) (M_lot : Int32) (M_undos : Int32) (M_trace : Int64) (M_at : Int32) (M_begin : Int32) (M_kind : Int32) (M_value : Int64) (M_readMany : Int32) (M_readLittle : Int32) (M_below : Int64) (M_text : Nat → Int32) (sz : Nat)   (y0 : Int32 × Int32 × Int32 × Int32 × Int64 × Int32) (h : f_X10_takesLittle M_size M_at M_begin M_kind M_value M_readMany M_readLittle M_text = some y0) : Met l yX10_takesLittle wsX10_takesLittle ({ frames := 3, cells := 0, slots := 0, locals := 63 } : Room) (va_Pc [.ref aM] (fun U => U.heap.size = sz ∧ va_P D vwCl [(aM, .inr (10, [.ref aM_text, .int M_size, .int M_many, .ref aM_slips, .ref aM_lates, .ref aM_copies, .int M_little, .int M_in, .int M_streak, .int M_lot, .int M_undos, .ref aM_before, .ref aM_images, .ref aM_kept, .long M_trace, .int M_at, .int M_begin, .int M_kind, .long M_value, .int M_readMany, .int M_readLittle, .ref aM_read, .long M_below])), (aM_text, .inl (cI, 200, .inl M_text))] U.heap ∧ KK D cI cJ cZ cO U ∧ va_D (fun _ => True) [(aM, .inr (10, [.ref aM_text, .int M_size, .int M_many, .ref aM_slips, .ref aM_lates, .ref aM_copies, .int M_little, .int M_in, .int M_streak, .int M_lot, .int M_undos, .ref aM_before, .ref aM_images, .ref aM_kept, .long M_trace, .int M_at, .int M_begin, .int M_kind, .long M_value, .int M_readMany, .int M_readLittle, .ref aM_read, .long M_below])), (aM_text, .inl (cI, 200, .inl M_text))])) (va_Qi (fun (r : Int32) (_ : Unit) => r = y0.1 ∧ zo r) (fun (_ : Unit) t => va_P D vwCl [(aM, .inr (10, [.ref aM_text, .int M_size, .int M_many, .ref aM_slips, .ref aM_lates, .ref aM_copies, .int M_little, .int M_in, .int M_streak, .int M_lot, .int M_undos, .ref aM_before, .ref aM_images, .ref aM_kept, .long M_trace, .int y0.2.1, .int y0.2.2.1, .int y0.2.2.2.1, .long y0.2.2.2.2.1, .int M_readMany, .int y0.2.2.2.2.2, .ref aM_read, .long M_below])), (aM_text, .inl (cI, 200, .inl M_text))] t.heap ∧ va_D (va_A [(aM, .inr (10, [.ref aM_text, .int M_size, .int M_many, .ref aM_slips, .ref aM_lates, .ref aM_copies, .int M_little, .int M_in, .int M_streak, .int M_lot, .int M_undos, .ref aM_before, .ref aM_images, .ref aM_kept, .long M_trace, .int M_at, .int M_begin, .int M_kind, .long M_value, .int M_readMany, .int M_readLittle, .ref aM_read, .long M_below])), (aM_text, .inl (cI, 200, .inl M_text))] sz) [(aM, .inr (10, [.ref aM_text, .int M_size, .int M_many, .ref aM_slips, .ref aM_lates, .ref aM_copies, .int M_little, .int M_in, .int M_streak, .int M_lot, .int M_undos, .ref aM_before, .ref aM_images, .ref aM_kept, .long M_trace, .int y0.2.1, .int y0.2.2.1, .int y0.2.2.2.1, .long y0.2.2.2.2.1, .int M_readMany, .int y0.2.2.2.2.2, .ref aM_read, .long M_below])), (aM_text, .inl (cI, 200, .inl M_text))]) (va_A [(aM, .inr (10, [.ref aM_text, .int M_size, .int M_many, .ref aM_slips, .ref aM_lates, .ref aM_copies, .int M_little, .int M_in, .int M_streak, .int M_lot, .int M_undos, .ref aM_before, .ref aM_images, .ref aM_kept, .long M_trace, .int M_at, .int M_begin, .int M_kind, .long M_value, .int M_readMany, .int M_readLittle, .ref aM_read, .long M_below])), (aM_text, .inl (cI, 200, .inl M_text))] sz)) 0 0 (va_A [(aM, .inr (10, [.ref aM_text, .int M_size, .int M_many, .ref aM_slips, .ref aM_lates, .ref aM_copies, .int M_little, .int M_in, .int M_streak, .int M_lot, .int M_undos, .ref aM_before, .ref aM_images, .ref aM_kept, .long M_trace, .int M_at, .int M_begin, .int M_kind, .long M_value, .int M_readMany, .int M_readLittle, .ref aM_read, .long M_below])), (aM_text, .inl (cI, 200, .inl M_text))] sz) := by
  refine Met.ofW (cc := cX10_takesLittle) (maxL := 1) (ret := (some .boolean)) (by decide) rfl ?_
  intro p e s m args below meth c s₁ B hml hv
  obtain ⟨rfl, hsz, hP, hKK, hD0⟩ := hv
  have hx := B.exec
  have hb := B.bytes
  have hr := B.returns
  have hts := atoms_spec (ws := wsX10_takesLittle) B.pre
  have hown : s.vm.findClass RX10 = some m.cls := findClass_of_methodNamed B.named
  have hlocks := B.notSynchronized
  have hK := hKK.1
  have fl_61 := hts (.fieldLink RX10 61 "SimonSaysModel" "value" "J") (by decide +kernel)
  have fl_90 := hts (.fieldLink RX10 90 "SimonSaysModel" "readMany" "I") (by decide +kernel)
  have fl_103 := hts (.fieldLink RX10 103 "SimonSaysModel" "readLittle" "I") (by decide +kernel)
  have inX10 : ∀ w ∈ wsX100, w ∈ wsX10_takesLittle := by decide +kernel
  subst hsz
  have hD := hD0.self (sz := s.heap.size)
  generalize hAe : va_A [(aM, .inr (10, [.ref aM_text, .int M_size, .int M_many, .ref aM_slips, .ref aM_lates, .ref aM_copies, .int M_little, .int M_in, .int M_streak, .int M_lot, .int M_undos, .ref aM_before, .ref aM_images, .ref aM_kept, .long M_trace, .int M_at, .int M_begin, .int M_kind, .long M_value, .int M_readMany, .int M_readLittle, .ref aM_read, .long M_below])), (aM_text, .inl (cI, 200, .inl M_text))] s.heap.size = A at hD ⊢
  have hA : ∀ q : Nat, s.heap.size ≤ q → A q := fun q h => by rw [← hAe]; exact Or.inr h
  have hS : va_S A s.heap s.heap [] := va_S.rf
  have hl := lv_entry ([.ref aM]) (n := 1) (Nat.le_of_ble_eq_true rfl)
  rw [lg_entry_eq]
  generalize (lg_sl ([.ref aM]) ++ List.replicate (1 - (lg_sl ([.ref aM])).length) Slot.unset).toArray = ls at hl ⊢
  have hl : lv_has ls 1 [(0, .ref aM)] := hl
  unfold f_X10_takesLittle at h
  refine lv_aload_n hx hb dX10_takesLittle_0 rfl (lv_at hl 0 rfl) ?_
  refine lv_iconst (v := (0 : Int32)) hx hb dX10_takesLittle_1 (by decide) ?_
  refine lv_aload_n hx hb dX10_takesLittle_2 rfl (lv_at hl 0 rfl) ?_
  refine va_get (D := D) (ci := 10) (v := .int M_readMany) (C := RX10) (T := TX10) (N := 23) hx hb hts inX10 hown hK hP 0 rfl rfl 19 (by decide) fl_90 (fun _ h9 => h9) rfl dX10_takesLittle_3 ?_
  refine lv_iconst (v := (1 : Int32)) hx hb dX10_takesLittle_6 (by decide) ?_
  refine lv_isub hx hb dX10_takesLittle_7 ?_
  obtain ⟨y1, qy1, h⟩ := ob_some h
  have hPc : va_P D vwCl [(aM, .inr (10, [.ref aM_text, .int M_size, .int M_many, .ref aM_slips, .ref aM_lates, .ref aM_copies, .int M_little, .int M_in, .int M_streak, .int M_lot, .int M_undos, .ref aM_before, .ref aM_images, .ref aM_kept, .long M_trace, .int M_at, .int M_begin, .int M_kind, .long M_value, .int M_readMany, .int M_readLittle, .ref aM_read, .long M_below])), (aM_text, .inl (cI, 200, .inl M_text))] s.heap := hP.sub [0, 1] rfl
  have hDc : va_D A [(aM, .inr (10, [.ref aM_text, .int M_size, .int M_many, .ref aM_slips, .ref aM_lates, .ref aM_copies, .int M_little, .int M_in, .int M_streak, .int M_lot, .int M_undos, .ref aM_before, .ref aM_images, .ref aM_kept, .long M_trace, .int M_at, .int M_begin, .int M_kind, .long M_value, .int M_readMany, .int M_readLittle, .ref aM_read, .long M_below])), (aM_text, .inl (cI, 200, .inl M_text))] := hD.sub [0, 1] (by decide) rfl
  have hFc := va_free (wc := [(aM, .inr (10, [.ref aM_text, .int M_size, .int M_many, .ref aM_slips, .ref aM_lates, .ref aM_copies, .int M_little, .int M_in, .int M_streak, .int M_lot, .int M_undos, .ref aM_before, .ref aM_images, .ref aM_kept, .long M_trace, .int M_at, .int M_begin, .int M_kind, .long M_value, .int M_readMany, .int M_readLittle, .ref aM_read, .long M_below])), (aM_text, .inl (cI, 200, .inl M_text))]) hD hS hA [0, 1] rfl
  refine va_calli (va_runV (As := [.int (0 : Int32), .int (M_readMany - (1 : Int32))]) (rest := []) ⟨hx, hb, hml, hown, hts⟩ (c_X10_takes l D cI cJ cZ cO aM aM_text aM_slips aM_lates aM_copies aM_before aM_images aM_kept aM_read M_size M_many M_little M_in M_streak M_lot M_undos M_trace M_at M_begin M_kind M_value M_readMany M_readLittle M_below M_text s.heap.size (0 : Int32) (M_readMany - (1 : Int32)) y1 qy1) (cwV 2 hts gX10_takesLittle_X10_takes rfl rfl rfl (by decide +kernel) ⟨Nat.le_of_ble_eq_true rfl, Nat.le_of_ble_eq_true rfl⟩) ⟨fb_i, va_recv hK hP (ci := 10) (q0 := 0) rfl rfl, fun U hU hW => ⟨rfl, by rw [hU], by rw [hU]; exact hPc, KK.warm hW hKK, hDc.weaken (fun _ _ _ _ => trivial)⟩⟩ rfl rfl hl.1 rfl (lv_room (Nat.le_of_ble_eq_true rfl)) dX10_takesLittle_8 ⟨Nat.le_of_ble_eq_true rfl, Nat.le_of_ble_eq_true rfl⟩) hS (fun q _ h => hFc q h) hFc (fun r u t H1 locs ht hvm hw hB hz1 hk1 hS => ?_)
  obtain ⟨hP1, hD1⟩ := hB
  rw [ht] at hP1
  obtain ⟨hw, hz2⟩ := hw
  replace hw := hw.symm
  subst hw
  obtain ⟨hP, hD⟩ := va_join (wr := []) (w1 := [(aM, .inr (10, [.ref aM_text, .int M_size, .int M_many, .ref aM_slips, .ref aM_lates, .ref aM_copies, .int M_little, .int M_in, .int M_streak, .int M_lot, .int M_undos, .ref aM_before, .ref aM_images, .ref aM_kept, .long M_trace, .int y1.2.1, .int y1.2.2.1, .int y1.2.2.2.1, .long y1.2.2.2.2, .int M_readMany, .int M_readLittle, .ref aM_read, .long M_below])), (aM_text, .inl (cI, 200, .inl M_text))]) hP hD [0, 1] [] rfl rfl (by decide) (by decide) hk1 hFc hP1 hD1
  generalize H1 = H at hP hS ⊢
  have hP : va_P D vwCl [(aM, .inr (10, [.ref aM_text, .int M_size, .int M_many, .ref aM_slips, .ref aM_lates, .ref aM_copies, .int M_little, .int M_in, .int M_streak, .int M_lot, .int M_undos, .ref aM_before, .ref aM_images, .ref aM_kept, .long M_trace, .int y1.2.1, .int y1.2.2.1, .int y1.2.2.2.1, .long y1.2.2.2.2, .int M_readMany, .int M_readLittle, .ref aM_read, .long M_below])), (aM_text, .inl (cI, 200, .inl M_text))] H := hP.sub [0, 1] rfl
  have hD : va_D A [(aM, .inr (10, [.ref aM_text, .int M_size, .int M_many, .ref aM_slips, .ref aM_lates, .ref aM_copies, .int M_little, .int M_in, .int M_streak, .int M_lot, .int M_undos, .ref aM_before, .ref aM_images, .ref aM_kept, .long M_trace, .int y1.2.1, .int y1.2.2.1, .int y1.2.2.2.1, .long y1.2.2.2.2, .int M_readMany, .int M_readLittle, .ref aM_read, .long M_below])), (aM_text, .inl (cI, 200, .inl M_text))] := hD.sub [0, 1] (by decide) rfl
  refine lv_if_ne (tgt := 16) hx hb dX10_takesLittle_11 (by decide) (fun c_3 => ?_) (fun c_3 => ?_)
  · replace h := if_n c_3 h
    refine lv_aload_n hx hb dX10_takesLittle_16 rfl (lv_at hl 0 rfl) ?_
    refine lv_dup hx hb dX10_takesLittle_17 rfl ?_
    refine va_get (D := D) (ci := 10) (v := .int M_readLittle) (C := RX10) (T := TX10) (N := 23) hx hb hts inX10 hown hK hP 0 rfl rfl 20 (by decide) fl_103 (fun _ h9 => h9) rfl dX10_takesLittle_18 ?_
    refine lv_iconst (v := (1 : Int32)) hx hb dX10_takesLittle_21 (by decide) ?_
    refine lv_aload_n hx hb dX10_takesLittle_22 rfl (lv_at hl 0 rfl) ?_
    refine va_get (D := D) (ci := 10) (v := .long y1.2.2.2.2) (C := RX10) (T := TX10) (N := 23) hx hb hts inX10 hown hK hP 0 rfl rfl 18 (by decide) fl_61 (fun _ h9 => h9) rfl dX10_takesLittle_23 ?_
    refine lv_l2i (v := y1.2.2.2.2.toInt32) hx hb dX10_takesLittle_26 rfl ?_
    refine lv_ishl hx hb dX10_takesLittle_27 ?_
    refine lv_ior hx hb dX10_takesLittle_28 ?_
    refine va_put (D := D) (ci := 10) (v := .int (M_readLittle ||| ((1 : Int32) <<< (y1.2.2.2.2.toInt32 &&& 31)))) (ty := .int) (C := RX10) (T := TX10) (N := 23) hx hb hts inX10 tyX10 tyX10_ok nmX10 hown hK hP hD hS 0 rfl rfl 20 (by decide) fl_103 (fun _ h9 => h9) rfl (by decide +kernel) rfl rfl (Nat.le_of_ble_eq_true rfl) dX10_takesLittle_29 (fun H locs hP hD hS => ?_)
    have hP : va_P D vwCl [(aM, .inr (10, [.ref aM_text, .int M_size, .int M_many, .ref aM_slips, .ref aM_lates, .ref aM_copies, .int M_little, .int M_in, .int M_streak, .int M_lot, .int M_undos, .ref aM_before, .ref aM_images, .ref aM_kept, .long M_trace, .int y1.2.1, .int y1.2.2.1, .int y1.2.2.2.1, .long y1.2.2.2.2, .int M_readMany, .int (M_readLittle ||| ((1 : Int32) <<< (y1.2.2.2.2.toInt32 &&& 31))), .ref aM_read, .long M_below])), (aM_text, .inl (cI, 200, .inl M_text))] H := hP
    have hD : va_D A [(aM, .inr (10, [.ref aM_text, .int M_size, .int M_many, .ref aM_slips, .ref aM_lates, .ref aM_copies, .int M_little, .int M_in, .int M_streak, .int M_lot, .int M_undos, .ref aM_before, .ref aM_images, .ref aM_kept, .long M_trace, .int y1.2.1, .int y1.2.2.1, .int y1.2.2.2.1, .long y1.2.2.2.2, .int M_readMany, .int (M_readLittle ||| ((1 : Int32) <<< (y1.2.2.2.2.toInt32 &&& 31))), .ref aM_read, .long M_below])), (aM_text, .inl (cI, 200, .inl M_text))] := hD
    refine lv_aload_n hx hb dX10_takesLittle_32 rfl (lv_at hl 0 rfl) ?_
    obtain ⟨y4, qy4, h⟩ := ob_some h
    have hPc : va_P D vwCl [(aM, .inr (10, [.ref aM_text, .int M_size, .int M_many, .ref aM_slips, .ref aM_lates, .ref aM_copies, .int M_little, .int M_in, .int M_streak, .int M_lot, .int M_undos, .ref aM_before, .ref aM_images, .ref aM_kept, .long M_trace, .int y1.2.1, .int y1.2.2.1, .int y1.2.2.2.1, .long y1.2.2.2.2, .int M_readMany, .int (M_readLittle ||| ((1 : Int32) <<< (y1.2.2.2.2.toInt32 &&& 31))), .ref aM_read, .long M_below])), (aM_text, .inl (cI, 200, .inl M_text))] H := hP.sub [0, 1] rfl
    have hDc : va_D A [(aM, .inr (10, [.ref aM_text, .int M_size, .int M_many, .ref aM_slips, .ref aM_lates, .ref aM_copies, .int M_little, .int M_in, .int M_streak, .int M_lot, .int M_undos, .ref aM_before, .ref aM_images, .ref aM_kept, .long M_trace, .int y1.2.1, .int y1.2.2.1, .int y1.2.2.2.1, .long y1.2.2.2.2, .int M_readMany, .int (M_readLittle ||| ((1 : Int32) <<< (y1.2.2.2.2.toInt32 &&& 31))), .ref aM_read, .long M_below])), (aM_text, .inl (cI, 200, .inl M_text))] := hD.sub [0, 1] (by decide) rfl
    have hFc := va_free (wc := [(aM, .inr (10, [.ref aM_text, .int M_size, .int M_many, .ref aM_slips, .ref aM_lates, .ref aM_copies, .int M_little, .int M_in, .int M_streak, .int M_lot, .int M_undos, .ref aM_before, .ref aM_images, .ref aM_kept, .long M_trace, .int y1.2.1, .int y1.2.2.1, .int y1.2.2.2.1, .long y1.2.2.2.2, .int M_readMany, .int (M_readLittle ||| ((1 : Int32) <<< (y1.2.2.2.2.toInt32 &&& 31))), .ref aM_read, .long M_below])), (aM_text, .inl (cI, 200, .inl M_text))]) hD hS hA [0, 1] rfl
    refine va_calli (va_runV (As := []) (rest := []) ⟨hx, hb, hml, hown, hts⟩ (c_X10_stops l D cI cJ cZ cO aM aM_text aM_slips aM_lates aM_copies aM_before aM_images aM_kept aM_read M_size M_many M_little M_in M_streak M_lot M_undos M_trace y1.2.1 y1.2.2.1 y1.2.2.2.1 y1.2.2.2.2 M_readMany (M_readLittle ||| ((1 : Int32) <<< (y1.2.2.2.2.toInt32 &&& 31))) M_below M_text H.size y4 qy4) (cwV 0 hts gX10_takesLittle_X10_stops rfl rfl rfl (by decide +kernel) ⟨Nat.le_of_ble_eq_true rfl, Nat.le_of_ble_eq_true rfl⟩) ⟨fb_i, va_recv hK hP (ci := 10) (q0 := 0) rfl rfl, fun U hU hW => ⟨rfl, by rw [hU], by rw [hU]; exact hPc, KK.warm hW hKK, hDc.weaken (fun _ _ _ _ => trivial)⟩⟩ rfl rfl hl.1 rfl (lv_room (Nat.le_of_ble_eq_true rfl)) dX10_takesLittle_33 ⟨Nat.le_of_ble_eq_true rfl, Nat.le_of_ble_eq_true rfl⟩) hS (fun q _ h => hFc q h) hFc (fun r u t H1 locs ht hvm hw hB hz1 hk1 hS => ?_)
    obtain ⟨hP1, hD1⟩ := hB
    rw [ht] at hP1
    obtain ⟨hw, hz5⟩ := hw
    replace hw := hw.symm
    subst hw
    obtain ⟨hP, hD⟩ := va_join (wr := []) (w1 := [(aM, .inr (10, [.ref aM_text, .int M_size, .int M_many, .ref aM_slips, .ref aM_lates, .ref aM_copies, .int M_little, .int M_in, .int M_streak, .int M_lot, .int M_undos, .ref aM_before, .ref aM_images, .ref aM_kept, .long M_trace, .int y4.2.1, .int y4.2.2.1, .int y4.2.2.2.1, .long y4.2.2.2.2, .int M_readMany, .int (M_readLittle ||| ((1 : Int32) <<< (y1.2.2.2.2.toInt32 &&& 31))), .ref aM_read, .long M_below])), (aM_text, .inl (cI, 200, .inl M_text))]) hP hD [0, 1] [] rfl rfl (by decide) (by decide) hk1 hFc hP1 hD1
    generalize H1 = H at hP hS ⊢
    have hP : va_P D vwCl [(aM, .inr (10, [.ref aM_text, .int M_size, .int M_many, .ref aM_slips, .ref aM_lates, .ref aM_copies, .int M_little, .int M_in, .int M_streak, .int M_lot, .int M_undos, .ref aM_before, .ref aM_images, .ref aM_kept, .long M_trace, .int y4.2.1, .int y4.2.2.1, .int y4.2.2.2.1, .long y4.2.2.2.2, .int M_readMany, .int (M_readLittle ||| ((1 : Int32) <<< (y1.2.2.2.2.toInt32 &&& 31))), .ref aM_read, .long M_below])), (aM_text, .inl (cI, 200, .inl M_text))] H := hP.sub [0, 1] rfl
    have hD : va_D A [(aM, .inr (10, [.ref aM_text, .int M_size, .int M_many, .ref aM_slips, .ref aM_lates, .ref aM_copies, .int M_little, .int M_in, .int M_streak, .int M_lot, .int M_undos, .ref aM_before, .ref aM_images, .ref aM_kept, .long M_trace, .int y4.2.1, .int y4.2.2.1, .int y4.2.2.2.1, .long y4.2.2.2.2, .int M_readMany, .int (M_readLittle ||| ((1 : Int32) <<< (y1.2.2.2.2.toInt32 &&& 31))), .ref aM_read, .long M_below])), (aM_text, .inl (cI, 200, .inl M_text))] := hD.sub [0, 1] (by decide) rfl
    have hy := Option.some.inj h
    subst hy
    exact W.zret (v := y4.1) hx hb hr (zo_nar hz5) (fun t ht hW => ⟨⟨y4.1, (), rfl, ⟨rfl, hz5⟩, by rw [ht]; exact hP, hD⟩, hS.F ht⟩) hS.2.2 dX10_takesLittle_36
  · replace h := if_p c_3 h
    refine lv_iconst (v := (0 : Int32)) hx hb dX10_takesLittle_14 (by decide) ?_
    have hy := Option.some.inj h
    subst hy
    exact W.zret (v := (0 : Int32)) hx hb hr (zo_nar (by decide)) (fun t ht hW => ⟨⟨(0 : Int32), (), rfl, ⟨rfl, (by decide)⟩, by rw [ht]; exact hP, hD⟩, hS.F ht⟩) hS.2.2 dX10_takesLittle_15

def f_X10_children_L113 (M_text : Nat → Int32) : Nat → Int32 → Int32 → Int32 → Int32 → Int32 → Int32 → Int32 → Int32 → Int32 → Int64 → Int32 → Int32 → (Nat → Int32) → (Nat → Int32) → (Nat → Int32) → (Nat → Int32) → (Nat → Int32) → Int32 → Int32 → Option (Int32 × Int32 × Int32 × Int32 × Int32 × Int32 × Int32 × Int32 × Int32 × Int32 × Int64 × Int32 × Int32 × (Nat → Int32) × (Nat → Int32) × (Nat → Int32) × (Nat → Int32) × (Nat → Int32))
  | 0, _, _, _, _, _, _, _, _, _, _, _, _, _, _, _, _, _, _, _ => none
  | n + 1, M_size, M_many, M_little, M_in, M_streak, M_undos, M_at, M_begin, M_kind, M_value, M_readMany, M_readLittle, M_slips, M_lates, M_copies, M_kept, M_read, x1, x2 => (if M_many ≤ x2 then (if gIn (0 : Int32) 2 = true then (if gIn (1 : Int32) 2 = true then some (x1, (0 : Int32), M_many, M_readLittle, (((1 : Int32) <<< (M_many &&& 31)) - (1 : Int32)), (0 : Int32), (0 : Int32), M_at, M_begin, M_kind, M_value, M_readMany, M_readLittle, M_slips, M_lates, M_copies, (upd (upd M_kept (0 : Int32).toNatClampNeg (vp_nar .boolean (0 : Int32))) (1 : Int32).toNatClampNeg (vp_nar .boolean (0 : Int32))), M_read) else none) else none) else (if gIn ((3 : Int32) * x2) 18 = true then (if gIn x2 6 = true then (if gIn (((3 : Int32) * x2) + (1 : Int32)) 18 = true then (if gIn x2 6 = true then (if gIn (((3 : Int32) * x2) + (2 : Int32)) 18 = true then (if gIn x2 6 = true then f_X10_children_L113 M_text n M_size M_many M_little M_in M_streak M_undos M_at M_begin M_kind M_value M_readMany M_readLittle (upd M_slips x2.toNatClampNeg (M_read ((3 : Int32) * x2).toNatClampNeg)) (upd M_lates x2.toNatClampNeg (M_read (((3 : Int32) * x2) + (1 : Int32)).toNatClampNeg)) (upd M_copies x2.toNatClampNeg (M_read (((3 : Int32) * x2) + (2 : Int32)).toNatClampNeg)) M_kept M_read x1 (x2 + (1 : Int32)) else none) else none) else none) else none) else none) else none))
def f_X10_children_L80 (M_text : Nat → Int32) (k21 : Int32 → Int32 → Int32 → Int32 → Int32 → Int32 → Int32 → Int32 → Int32 → Int64 → Int32 → Int32 → (Nat → Int32) → (Nat → Int32) → (Nat → Int32) → (Nat → Int32) → (Nat → Int32) → Int32 → Option (Int32 × Int32 × Int32 × Int32 × Int32 × Int32 × Int32 × Int32 × Int32 × Int32 × Int64 × Int32 × Int32 × (Nat → Int32) × (Nat → Int32) × (Nat → Int32) × (Nat → Int32) × (Nat → Int32))) (M_size : Int32) (M_many : Int32) (M_little : Int32) (M_in : Int32) (M_streak : Int32) (M_undos : Int32) (M_at : Int32) (M_begin : Int32) (M_kind : Int32) (M_value : Int64) (M_readMany : Int32) (M_readLittle : Int32) (M_slips : Nat → Int32) (M_lates : Nat → Int32) (M_copies : Nat → Int32) (M_kept : Nat → Int32) (M_read : Nat → Int32) (t0 : Int32) (x1 : Int32) : Option (Int32 × Int32 × Int32 × Int32 × Int32 × Int32 × Int32 × Int32 × Int32 × Int32 × Int64 × Int32 × Int32 × (Nat → Int32) × (Nat → Int32) × (Nat → Int32) × (Nat → Int32) × (Nat → Int32)) := (if t0 = 0 then some (((-10 : Int32) - M_begin), M_size, M_many, M_little, M_in, M_streak, M_undos, M_at, M_begin, M_kind, M_value, M_readMany, M_readLittle, M_slips, M_lates, M_copies, M_kept, M_read) else (Option.bind (f_X10_next M_size M_at M_begin M_kind M_value M_text) (fun y22 => k21 M_size M_many M_little M_in M_streak M_undos y22.1 y22.2.1 y22.2.2.1 y22.2.2.2 M_readMany M_readLittle M_slips M_lates M_copies M_kept M_read (x1 + (1 : Int32)))))
def f_X10_children_L79 (M_text : Nat → Int32) (k21 : Int32 → Int32 → Int32 → Int32 → Int32 → Int32 → Int32 → Int32 → Int32 → Int64 → Int32 → Int32 → (Nat → Int32) → (Nat → Int32) → (Nat → Int32) → (Nat → Int32) → (Nat → Int32) → Int32 → Option (Int32 × Int32 × Int32 × Int32 × Int32 × Int32 × Int32 × Int32 × Int32 × Int32 × Int64 × Int32 × Int32 × (Nat → Int32) × (Nat → Int32) × (Nat → Int32) × (Nat → Int32) × (Nat → Int32))) (M_size : Int32) (M_many : Int32) (M_little : Int32) (M_in : Int32) (M_streak : Int32) (M_undos : Int32) (M_at : Int32) (M_begin : Int32) (M_kind : Int32) (M_value : Int64) (M_readMany : Int32) (M_readLittle : Int32) (M_slips : Nat → Int32) (M_lates : Nat → Int32) (M_copies : Nat → Int32) (M_kept : Nat → Int32) (M_read : Nat → Int32) (x1 : Int32) : Option (Int32 × Int32 × Int32 × Int32 × Int32 × Int32 × Int32 × Int32 × Int32 × Int32 × Int64 × Int32 × Int32 × (Nat → Int32) × (Nat → Int32) × (Nat → Int32) × (Nat → Int32) × (Nat → Int32)) := f_X10_children_L80 M_text k21 M_size M_many M_little M_in M_streak M_undos M_at M_begin M_kind M_value M_readMany M_readLittle M_slips M_lates M_copies M_kept M_read (0 : Int32) x1
def f_X10_children_L75 (M_text : Nat → Int32) (k21 : Int32 → Int32 → Int32 → Int32 → Int32 → Int32 → Int32 → Int32 → Int32 → Int64 → Int32 → Int32 → (Nat → Int32) → (Nat → Int32) → (Nat → Int32) → (Nat → Int32) → (Nat → Int32) → Int32 → Option (Int32 × Int32 × Int32 × Int32 × Int32 × Int32 × Int32 × Int32 × Int32 × Int32 × Int64 × Int32 × Int32 × (Nat → Int32) × (Nat → Int32) × (Nat → Int32) × (Nat → Int32) × (Nat → Int32))) (M_size : Int32) (M_many : Int32) (M_little : Int32) (M_in : Int32) (M_streak : Int32) (M_undos : Int32) (M_at : Int32) (M_begin : Int32) (M_kind : Int32) (M_value : Int64) (M_readMany : Int32) (M_readLittle : Int32) (M_slips : Nat → Int32) (M_lates : Nat → Int32) (M_copies : Nat → Int32) (M_kept : Nat → Int32) (M_read : Nat → Int32) (x1 : Int32) : Option (Int32 × Int32 × Int32 × Int32 × Int32 × Int32 × Int32 × Int32 × Int32 × Int32 × Int64 × Int32 × Int32 × (Nat → Int32) × (Nat → Int32) × (Nat → Int32) × (Nat → Int32) × (Nat → Int32)) := f_X10_children_L80 M_text k21 M_size M_many M_little M_in M_streak M_undos M_at M_begin M_kind M_value M_readMany M_readLittle M_slips M_lates M_copies M_kept M_read (1 : Int32) x1
def f_X10_children_L21 (M_text : Nat → Int32) : Nat → Int32 → Int32 → Int32 → Int32 → Int32 → Int32 → Int32 → Int32 → Int32 → Int64 → Int32 → Int32 → (Nat → Int32) → (Nat → Int32) → (Nat → Int32) → (Nat → Int32) → (Nat → Int32) → Int32 → Option (Int32 × Int32 × Int32 × Int32 × Int32 × Int32 × Int32 × Int32 × Int32 × Int32 × Int64 × Int32 × Int32 × (Nat → Int32) × (Nat → Int32) × (Nat → Int32) × (Nat → Int32) × (Nat → Int32))
  | 0, _, _, _, _, _, _, _, _, _, _, _, _, _, _, _, _, _, _ => none
  | n + 1, M_size, M_many, M_little, M_in, M_streak, M_undos, M_at, M_begin, M_kind, M_value, M_readMany, M_readLittle, M_slips, M_lates, M_copies, M_kept, M_read, x1 => (if M_kind = 0 then f_X10_children_L113 M_text 300 M_size M_readMany M_little M_in M_streak M_undos M_at M_begin M_kind M_value M_readMany M_readLittle M_slips M_lates M_copies M_kept M_read x1 (0 : Int32) else (if M_kind = (1 : Int32) then (if (lg_cmp M_value (3417476 : Int64)) = 0 then (Option.bind (f_X10_takesChild M_size M_at M_begin M_kind M_value M_readMany M_text M_read) (fun y9 => (if y9.1 = 0 then f_X10_children_L79 M_text (f_X10_children_L21 M_text n) M_size M_many M_little M_in M_streak M_undos y9.2.1 y9.2.2.1 y9.2.2.2.1 y9.2.2.2.2.1 y9.2.2.2.2.2.1 M_readLittle M_slips M_lates M_copies M_kept y9.2.2.2.2.2.2 x1 else f_X10_children_L75 M_text (f_X10_children_L21 M_text n) M_size M_many M_little M_in M_streak M_undos y9.2.1 y9.2.2.1 y9.2.2.2.1 y9.2.2.2.2.1 y9.2.2.2.2.2.1 M_readLittle M_slips M_lates M_copies M_kept y9.2.2.2.2.2.2 x1))) else (if (lg_cmp M_value (412766597 : Int64)) = 0 then (Option.bind (f_X10_takesLittle M_size M_at M_begin M_kind M_value M_readMany M_readLittle M_text) (fun y6 => (if y6.1 = 0 then f_X10_children_L79 M_text (f_X10_children_L21 M_text n) M_size M_many M_little M_in M_streak M_undos y6.2.1 y6.2.2.1 y6.2.2.2.1 y6.2.2.2.2.1 M_readMany y6.2.2.2.2.2 M_slips M_lates M_copies M_kept M_read x1 else f_X10_children_L75 M_text (f_X10_children_L21 M_text n) M_size M_many M_little M_in M_streak M_undos y6.2.1 y6.2.2.1 y6.2.2.2.1 y6.2.2.2.2.1 M_readMany y6.2.2.2.2.2 M_slips M_lates M_copies M_kept M_read x1))) else f_X10_children_L79 M_text (f_X10_children_L21 M_text n) M_size M_many M_little M_in M_streak M_undos M_at M_begin M_kind M_value M_readMany M_readLittle M_slips M_lates M_copies M_kept M_read x1)) else f_X10_children_L79 M_text (f_X10_children_L21 M_text n) M_size M_many M_little M_in M_streak M_undos M_at M_begin M_kind M_value M_readMany M_readLittle M_slips M_lates M_copies M_kept M_read x1))
def f_X10_children (M_size : Int32) (M_many : Int32) (M_little : Int32) (M_in : Int32) (M_streak : Int32) (M_undos : Int32) (M_at : Int32) (M_begin : Int32) (M_kind : Int32) (M_value : Int64) (M_readMany : Int32) (M_readLittle : Int32) (M_text : Nat → Int32) (M_slips : Nat → Int32) (M_lates : Nat → Int32) (M_copies : Nat → Int32) (M_kept : Nat → Int32) (M_read : Nat → Int32) : Option (Int32 × Int32 × Int32 × Int32 × Int32 × Int32 × Int32 × Int32 × Int32 × Int32 × Int64 × Int32 × Int32 × (Nat → Int32) × (Nat → Int32) × (Nat → Int32) × (Nat → Int32) × (Nat → Int32)) := (Option.bind (f_X10_next M_size (0 : Int32) M_begin M_kind M_value M_text) (fun y1 => f_X10_children_L21 M_text 300 M_size M_many M_little M_in M_streak M_undos y1.1 y1.2.1 y1.2.2.1 y1.2.2.2 (0 : Int32) (0 : Int32) M_slips M_lates M_copies M_kept M_read (0 : Int32)))
set_option maxHeartbeats 8000000 in
set_option maxRecDepth 100000 in
theorem c_X10_children (l : Launch) (D : va_G) (cI cJ cZ cO : ClassId) (aM : Nat) (aM_text : Nat) (aM_slips : Nat) (aM_lates : Nat) (aM_copies : Nat) (aM_kept : Nat) (aM_read : Nat) (aM_before : Nat) (aM_images : Nat) (M_size : Int32) (M_many : Int32) (M_little : Int32) (M_in : Int32) (M_streak : Int32) (M_lot : Int32) (M_undos : Int32) (M_trace : Int64) (M_at : Int32) (M_begin : Int32) (M_kind : Int32) (M_value : Int64) (M_readMany : Int32) (M_readLittle : Int32) (M_below : Int64) (M_text : Nat → Int32) (M_slips : Nat → Int32) (M_lates : Nat → Int32) (M_copies : Nat → Int32) (M_kept : Nat → Int32) (M_read : Nat → Int32) (sz : Nat)   (y0 : Int32 × Int32 × Int32 × Int32 × Int32 × Int32 × Int32 × Int32 × Int32 × Int32 × Int64 × Int32 × Int32 × (Nat → Int32) × (Nat → Int32) × (Nat → Int32) × (Nat → Int32) × (Nat → Int32)) (h : f_X10_children M_size M_many M_little M_in M_streak M_undos M_at M_begin M_kind M_value M_readMany M_readLittle M_text M_slips M_lates M_copies M_kept M_read = some y0) : Met l yX10_children wsX10_children ({ frames := 4, cells := 0, slots := 0, locals := 84 } : Room) (va_Pc [.ref aM] (fun U => U.heap.size = sz ∧ va_P D vwCl [(aM, .inr (10, [.ref aM_text, .int M_size, .int M_many, .ref aM_slips, .ref aM_lates, .ref aM_copies, .int M_little, .int M_in, .int M_streak, .int M_lot, .int M_undos, .ref aM_before, .ref aM_images, .ref aM_kept, .long M_trace, .int M_at, .int M_begin, .int M_kind, .long M_value, .int M_readMany, .int M_readLittle, .ref aM_read, .long M_below])), (aM_text, .inl (cI, 200, .inl M_text)), (aM_slips, .inl (cI, 6, .inl M_slips)), (aM_lates, .inl (cI, 6, .inl M_lates)), (aM_copies, .inl (cI, 6, .inl M_copies)), (aM_kept, .inl (cZ, 2, .inl M_kept)), (aM_read, .inl (cI, 18, .inl M_read))] U.heap ∧ KK D cI cJ cZ cO U ∧ va_D (fun _ => True) [(aM, .inr (10, [.ref aM_text, .int M_size, .int M_many, .ref aM_slips, .ref aM_lates, .ref aM_copies, .int M_little, .int M_in, .int M_streak, .int M_lot, .int M_undos, .ref aM_before, .ref aM_images, .ref aM_kept, .long M_trace, .int M_at, .int M_begin, .int M_kind, .long M_value, .int M_readMany, .int M_readLittle, .ref aM_read, .long M_below])), (aM_text, .inl (cI, 200, .inl M_text)), (aM_slips, .inl (cI, 6, .inl M_slips)), (aM_lates, .inl (cI, 6, .inl M_lates)), (aM_copies, .inl (cI, 6, .inl M_copies)), (aM_kept, .inl (cZ, 2, .inl M_kept)), (aM_read, .inl (cI, 18, .inl M_read))])) (va_Qi (fun (r : Int32) (_ : Unit) => r = y0.1) (fun (_ : Unit) t => va_P D vwCl [(aM, .inr (10, [.ref aM_text, .int y0.2.1, .int y0.2.2.1, .ref aM_slips, .ref aM_lates, .ref aM_copies, .int y0.2.2.2.1, .int y0.2.2.2.2.1, .int y0.2.2.2.2.2.1, .int M_lot, .int y0.2.2.2.2.2.2.1, .ref aM_before, .ref aM_images, .ref aM_kept, .long M_trace, .int y0.2.2.2.2.2.2.2.1, .int y0.2.2.2.2.2.2.2.2.1, .int y0.2.2.2.2.2.2.2.2.2.1, .long y0.2.2.2.2.2.2.2.2.2.2.1, .int y0.2.2.2.2.2.2.2.2.2.2.2.1, .int y0.2.2.2.2.2.2.2.2.2.2.2.2.1, .ref aM_read, .long M_below])), (aM_text, .inl (cI, 200, .inl M_text)), (aM_slips, .inl (cI, 6, .inl y0.2.2.2.2.2.2.2.2.2.2.2.2.2.1)), (aM_lates, .inl (cI, 6, .inl y0.2.2.2.2.2.2.2.2.2.2.2.2.2.2.1)), (aM_copies, .inl (cI, 6, .inl y0.2.2.2.2.2.2.2.2.2.2.2.2.2.2.2.1)), (aM_kept, .inl (cZ, 2, .inl y0.2.2.2.2.2.2.2.2.2.2.2.2.2.2.2.2.1)), (aM_read, .inl (cI, 18, .inl y0.2.2.2.2.2.2.2.2.2.2.2.2.2.2.2.2.2))] t.heap ∧ va_D (va_A [(aM, .inr (10, [.ref aM_text, .int M_size, .int M_many, .ref aM_slips, .ref aM_lates, .ref aM_copies, .int M_little, .int M_in, .int M_streak, .int M_lot, .int M_undos, .ref aM_before, .ref aM_images, .ref aM_kept, .long M_trace, .int M_at, .int M_begin, .int M_kind, .long M_value, .int M_readMany, .int M_readLittle, .ref aM_read, .long M_below])), (aM_text, .inl (cI, 200, .inl M_text)), (aM_slips, .inl (cI, 6, .inl M_slips)), (aM_lates, .inl (cI, 6, .inl M_lates)), (aM_copies, .inl (cI, 6, .inl M_copies)), (aM_kept, .inl (cZ, 2, .inl M_kept)), (aM_read, .inl (cI, 18, .inl M_read))] sz) [(aM, .inr (10, [.ref aM_text, .int y0.2.1, .int y0.2.2.1, .ref aM_slips, .ref aM_lates, .ref aM_copies, .int y0.2.2.2.1, .int y0.2.2.2.2.1, .int y0.2.2.2.2.2.1, .int M_lot, .int y0.2.2.2.2.2.2.1, .ref aM_before, .ref aM_images, .ref aM_kept, .long M_trace, .int y0.2.2.2.2.2.2.2.1, .int y0.2.2.2.2.2.2.2.2.1, .int y0.2.2.2.2.2.2.2.2.2.1, .long y0.2.2.2.2.2.2.2.2.2.2.1, .int y0.2.2.2.2.2.2.2.2.2.2.2.1, .int y0.2.2.2.2.2.2.2.2.2.2.2.2.1, .ref aM_read, .long M_below])), (aM_text, .inl (cI, 200, .inl M_text)), (aM_slips, .inl (cI, 6, .inl y0.2.2.2.2.2.2.2.2.2.2.2.2.2.1)), (aM_lates, .inl (cI, 6, .inl y0.2.2.2.2.2.2.2.2.2.2.2.2.2.2.1)), (aM_copies, .inl (cI, 6, .inl y0.2.2.2.2.2.2.2.2.2.2.2.2.2.2.2.1)), (aM_kept, .inl (cZ, 2, .inl y0.2.2.2.2.2.2.2.2.2.2.2.2.2.2.2.2.1)), (aM_read, .inl (cI, 18, .inl y0.2.2.2.2.2.2.2.2.2.2.2.2.2.2.2.2.2))]) (va_A [(aM, .inr (10, [.ref aM_text, .int M_size, .int M_many, .ref aM_slips, .ref aM_lates, .ref aM_copies, .int M_little, .int M_in, .int M_streak, .int M_lot, .int M_undos, .ref aM_before, .ref aM_images, .ref aM_kept, .long M_trace, .int M_at, .int M_begin, .int M_kind, .long M_value, .int M_readMany, .int M_readLittle, .ref aM_read, .long M_below])), (aM_text, .inl (cI, 200, .inl M_text)), (aM_slips, .inl (cI, 6, .inl M_slips)), (aM_lates, .inl (cI, 6, .inl M_lates)), (aM_copies, .inl (cI, 6, .inl M_copies)), (aM_kept, .inl (cZ, 2, .inl M_kept)), (aM_read, .inl (cI, 18, .inl M_read))] sz)) 0 0 (va_A [(aM, .inr (10, [.ref aM_text, .int M_size, .int M_many, .ref aM_slips, .ref aM_lates, .ref aM_copies, .int M_little, .int M_in, .int M_streak, .int M_lot, .int M_undos, .ref aM_before, .ref aM_images, .ref aM_kept, .long M_trace, .int M_at, .int M_begin, .int M_kind, .long M_value, .int M_readMany, .int M_readLittle, .ref aM_read, .long M_below])), (aM_text, .inl (cI, 200, .inl M_text)), (aM_slips, .inl (cI, 6, .inl M_slips)), (aM_lates, .inl (cI, 6, .inl M_lates)), (aM_copies, .inl (cI, 6, .inl M_copies)), (aM_kept, .inl (cZ, 2, .inl M_kept)), (aM_read, .inl (cI, 18, .inl M_read))] sz) := by
  refine Met.ofW (cc := cX10_children) (maxL := 3) (ret := (some .int)) (by decide) rfl ?_
  intro p e s m args below meth c s₁ B hml hv
  obtain ⟨rfl, hsz, hP, hKK, hD0⟩ := hv
  have hx := B.exec
  have hb := B.bytes
  have hr := B.returns
  have hts := atoms_spec (ws := wsX10_children) B.pre
  have hown : s.vm.findClass RX10 = some m.cls := findClass_of_methodNamed B.named
  have hlocks := B.notSynchronized
  have hK := hKK.1
  have fl_13 := hts (.fieldLink RX10 13 "SimonSaysModel" "slips" "[I") (by decide +kernel)
  have fl_16 := hts (.fieldLink RX10 16 "SimonSaysModel" "lates" "[I") (by decide +kernel)
  have fl_19 := hts (.fieldLink RX10 19 "SimonSaysModel" "copies" "[I") (by decide +kernel)
  have fl_32 := hts (.fieldLink RX10 32 "SimonSaysModel" "kept" "[Z") (by decide +kernel)
  have fl_36 := hts (.fieldLink RX10 36 "SimonSaysModel" "read" "[I") (by decide +kernel)
  have fl_39 := hts (.fieldLink RX10 39 "SimonSaysModel" "many" "I") (by decide +kernel)
  have fl_50 := hts (.fieldLink RX10 50 "SimonSaysModel" "size" "I") (by decide +kernel)
  have fl_55 := hts (.fieldLink RX10 55 "SimonSaysModel" "at" "I") (by decide +kernel)
  have fl_58 := hts (.fieldLink RX10 58 "SimonSaysModel" "begin" "I") (by decide +kernel)
  have fl_61 := hts (.fieldLink RX10 61 "SimonSaysModel" "value" "J") (by decide +kernel)
  have fl_72 := hts (.fieldLink RX10 72 "SimonSaysModel" "kind" "I") (by decide +kernel)
  have fl_90 := hts (.fieldLink RX10 90 "SimonSaysModel" "readMany" "I") (by decide +kernel)
  have fl_103 := hts (.fieldLink RX10 103 "SimonSaysModel" "readLittle" "I") (by decide +kernel)
  have fl_116 := hts (.fieldLink RX10 116 "SimonSaysModel" "little" "I") (by decide +kernel)
  have fl_119 := hts (.fieldLink RX10 119 "SimonSaysModel" "in" "I") (by decide +kernel)
  have fl_122 := hts (.fieldLink RX10 122 "SimonSaysModel" "streak" "I") (by decide +kernel)
  have fl_125 := hts (.fieldLink RX10 125 "SimonSaysModel" "undos" "I") (by decide +kernel)
  have cst_106 := hts (.constantLong RX10 106 (3417476)) (by decide +kernel)
  have cst_111 := hts (.constantLong RX10 111 (412766597)) (by decide +kernel)
  have inX10 : ∀ w ∈ wsX100, w ∈ wsX10_children := by decide +kernel
  subst hsz
  have hD := hD0.self (sz := s.heap.size)
  generalize hAe : va_A [(aM, .inr (10, [.ref aM_text, .int M_size, .int M_many, .ref aM_slips, .ref aM_lates, .ref aM_copies, .int M_little, .int M_in, .int M_streak, .int M_lot, .int M_undos, .ref aM_before, .ref aM_images, .ref aM_kept, .long M_trace, .int M_at, .int M_begin, .int M_kind, .long M_value, .int M_readMany, .int M_readLittle, .ref aM_read, .long M_below])), (aM_text, .inl (cI, 200, .inl M_text)), (aM_slips, .inl (cI, 6, .inl M_slips)), (aM_lates, .inl (cI, 6, .inl M_lates)), (aM_copies, .inl (cI, 6, .inl M_copies)), (aM_kept, .inl (cZ, 2, .inl M_kept)), (aM_read, .inl (cI, 18, .inl M_read))] s.heap.size = A at hD ⊢
  have hA : ∀ q : Nat, s.heap.size ≤ q → A q := fun q h => by rw [← hAe]; exact Or.inr h
  have hS : va_S A s.heap s.heap [] := va_S.rf
  have hl := lv_entry ([.ref aM]) (n := 3) (Nat.le_of_ble_eq_true rfl)
  rw [lg_entry_eq]
  generalize (lg_sl ([.ref aM]) ++ List.replicate (3 - (lg_sl ([.ref aM])).length) Slot.unset).toArray = ls at hl ⊢
  have hl : lv_has ls 3 [(0, .ref aM)] := hl
  have L113 : ∀ (n : Nat), ∀ (M_size : Int32) (M_many : Int32) (M_little : Int32) (M_in : Int32) (M_streak : Int32) (M_undos : Int32) (M_at : Int32) (M_begin : Int32) (M_kind : Int32) (M_value : Int64) (M_readMany : Int32) (M_readLittle : Int32) (M_slips : Nat → Int32) (M_lates : Nat → Int32) (M_copies : Nat → Int32) (M_kept : Nat → Int32) (M_read : Nat → Int32) (x1 : Int32) (x2 : Int32), ∀ (H : Heap) (locs : List Loc), va_P D vwCl [(aM, .inr (10, [.ref aM_text, .int M_size, .int M_many, .ref aM_slips, .ref aM_lates, .ref aM_copies, .int M_little, .int M_in, .int M_streak, .int M_lot, .int M_undos, .ref aM_before, .ref aM_images, .ref aM_kept, .long M_trace, .int M_at, .int M_begin, .int M_kind, .long M_value, .int M_readMany, .int M_readLittle, .ref aM_read, .long M_below])), (aM_text, .inl (cI, 200, .inl M_text)), (aM_slips, .inl (cI, 6, .inl M_slips)), (aM_lates, .inl (cI, 6, .inl M_lates)), (aM_copies, .inl (cI, 6, .inl M_copies)), (aM_kept, .inl (cZ, 2, .inl M_kept)), (aM_read, .inl (cI, 18, .inl M_read))] H → va_D A [(aM, .inr (10, [.ref aM_text, .int M_size, .int M_many, .ref aM_slips, .ref aM_lates, .ref aM_copies, .int M_little, .int M_in, .int M_streak, .int M_lot, .int M_undos, .ref aM_before, .ref aM_images, .ref aM_kept, .long M_trace, .int M_at, .int M_begin, .int M_kind, .long M_value, .int M_readMany, .int M_readLittle, .ref aM_read, .long M_below])), (aM_text, .inl (cI, 200, .inl M_text)), (aM_slips, .inl (cI, 6, .inl M_slips)), (aM_lates, .inl (cI, 6, .inl M_lates)), (aM_copies, .inl (cI, 6, .inl M_copies)), (aM_kept, .inl (cZ, 2, .inl M_kept)), (aM_read, .inl (cI, 18, .inl M_read))] → va_S A s.heap H locs → ∀ (ls : Array Slot), lv_has ls 3 [(0, .ref aM), (1, .int x1), (2, .int x2)] → f_X10_children_L113 M_text n M_size M_many M_little M_in M_streak M_undos M_at M_begin M_kind M_value M_readMany M_readLittle M_slips M_lates M_copies M_kept M_read x1 x2 = some y0 → W p l e (headSpec wsX10_children ({ frames := 4, cells := 0, slots := 0, locals := 84 } : Room)).room s m ([.ref aM] : List Value).toArray below meth c H locs 0 0 (MQ below (va_Qi (fun (r : Int32) (_ : Unit) => r = y0.1) (fun (_ : Unit) t => va_P D vwCl [(aM, .inr (10, [.ref aM_text, .int y0.2.1, .int y0.2.2.1, .ref aM_slips, .ref aM_lates, .ref aM_copies, .int y0.2.2.2.1, .int y0.2.2.2.2.1, .int y0.2.2.2.2.2.1, .int M_lot, .int y0.2.2.2.2.2.2.1, .ref aM_before, .ref aM_images, .ref aM_kept, .long M_trace, .int y0.2.2.2.2.2.2.2.1, .int y0.2.2.2.2.2.2.2.2.1, .int y0.2.2.2.2.2.2.2.2.2.1, .long y0.2.2.2.2.2.2.2.2.2.2.1, .int y0.2.2.2.2.2.2.2.2.2.2.2.1, .int y0.2.2.2.2.2.2.2.2.2.2.2.2.1, .ref aM_read, .long M_below])), (aM_text, .inl (cI, 200, .inl M_text)), (aM_slips, .inl (cI, 6, .inl y0.2.2.2.2.2.2.2.2.2.2.2.2.2.1)), (aM_lates, .inl (cI, 6, .inl y0.2.2.2.2.2.2.2.2.2.2.2.2.2.2.1)), (aM_copies, .inl (cI, 6, .inl y0.2.2.2.2.2.2.2.2.2.2.2.2.2.2.2.1)), (aM_kept, .inl (cZ, 2, .inl y0.2.2.2.2.2.2.2.2.2.2.2.2.2.2.2.2.1)), (aM_read, .inl (cI, 18, .inl y0.2.2.2.2.2.2.2.2.2.2.2.2.2.2.2.2.2))] t.heap ∧ va_D A [(aM, .inr (10, [.ref aM_text, .int y0.2.1, .int y0.2.2.1, .ref aM_slips, .ref aM_lates, .ref aM_copies, .int y0.2.2.2.1, .int y0.2.2.2.2.1, .int y0.2.2.2.2.2.1, .int M_lot, .int y0.2.2.2.2.2.2.1, .ref aM_before, .ref aM_images, .ref aM_kept, .long M_trace, .int y0.2.2.2.2.2.2.2.1, .int y0.2.2.2.2.2.2.2.2.1, .int y0.2.2.2.2.2.2.2.2.2.1, .long y0.2.2.2.2.2.2.2.2.2.2.1, .int y0.2.2.2.2.2.2.2.2.2.2.2.1, .int y0.2.2.2.2.2.2.2.2.2.2.2.2.1, .ref aM_read, .long M_below])), (aM_text, .inl (cI, 200, .inl M_text)), (aM_slips, .inl (cI, 6, .inl y0.2.2.2.2.2.2.2.2.2.2.2.2.2.1)), (aM_lates, .inl (cI, 6, .inl y0.2.2.2.2.2.2.2.2.2.2.2.2.2.2.1)), (aM_copies, .inl (cI, 6, .inl y0.2.2.2.2.2.2.2.2.2.2.2.2.2.2.2.1)), (aM_kept, .inl (cZ, 2, .inl y0.2.2.2.2.2.2.2.2.2.2.2.2.2.2.2.2.1)), (aM_read, .inl (cI, 18, .inl y0.2.2.2.2.2.2.2.2.2.2.2.2.2.2.2.2.2))]) A) ([.ref aM] : List Value).toArray s 0 0 A) (F0 m 113 ls []) := by
    intro n
    induction n with
    | zero =>
      intro M_size M_many M_little M_in M_streak M_undos M_at M_begin M_kind M_value M_readMany M_readLittle M_slips M_lates M_copies M_kept M_read x1 x2 H locs hP hD hS ls hl h
      exact (ns h).elim
    | succ n ih =>
      intro M_size M_many M_little M_in M_streak M_undos M_at M_begin M_kind M_value M_readMany M_readLittle M_slips M_lates M_copies M_kept M_read x1 x2 H locs hP hD hS ls hl h
      unfold f_X10_children_L113 at h
      refine lv_iload_n hx hb dX10_children_113 rfl (lv_at hl 2 rfl) ?_
      refine lv_aload_n hx hb dX10_children_114 rfl (lv_at hl 0 rfl) ?_
      refine va_get (D := D) (ci := 10) (v := .int M_many) (C := RX10) (T := TX10) (N := 23) hx hb hts inX10 hown hK hP 0 rfl rfl 2 (by decide) fl_39 (fun _ h9 => h9) rfl dX10_children_115 ?_
      refine lv_icmp_ge (tgt := 173) hx hb dX10_children_118 (by decide) (fun c_12 => ?_) (fun c_12 => ?_)
      · replace h := if_p c_12 h
        refine lv_aload_n hx hb dX10_children_173 rfl (lv_at hl 0 rfl) ?_
        refine lv_aload_n hx hb dX10_children_174 rfl (lv_at hl 0 rfl) ?_
        refine va_get (D := D) (ci := 10) (v := .int M_readLittle) (C := RX10) (T := TX10) (N := 23) hx hb hts inX10 hown hK hP 0 rfl rfl 20 (by decide) fl_103 (fun _ h9 => h9) rfl dX10_children_175 ?_
        refine va_put (D := D) (ci := 10) (v := .int M_readLittle) (ty := .int) (C := RX10) (T := TX10) (N := 23) hx hb hts inX10 tyX10 tyX10_ok nmX10 hown hK hP hD hS 0 rfl rfl 6 (by decide) fl_116 (fun _ h9 => h9) rfl (by decide +kernel) rfl rfl (Nat.le_of_ble_eq_true rfl) dX10_children_178 (fun H locs hP hD hS => ?_)
        have hP : va_P D vwCl [(aM, .inr (10, [.ref aM_text, .int M_size, .int M_many, .ref aM_slips, .ref aM_lates, .ref aM_copies, .int M_readLittle, .int M_in, .int M_streak, .int M_lot, .int M_undos, .ref aM_before, .ref aM_images, .ref aM_kept, .long M_trace, .int M_at, .int M_begin, .int M_kind, .long M_value, .int M_readMany, .int M_readLittle, .ref aM_read, .long M_below])), (aM_text, .inl (cI, 200, .inl M_text)), (aM_slips, .inl (cI, 6, .inl M_slips)), (aM_lates, .inl (cI, 6, .inl M_lates)), (aM_copies, .inl (cI, 6, .inl M_copies)), (aM_kept, .inl (cZ, 2, .inl M_kept)), (aM_read, .inl (cI, 18, .inl M_read))] H := hP
        have hD : va_D A [(aM, .inr (10, [.ref aM_text, .int M_size, .int M_many, .ref aM_slips, .ref aM_lates, .ref aM_copies, .int M_readLittle, .int M_in, .int M_streak, .int M_lot, .int M_undos, .ref aM_before, .ref aM_images, .ref aM_kept, .long M_trace, .int M_at, .int M_begin, .int M_kind, .long M_value, .int M_readMany, .int M_readLittle, .ref aM_read, .long M_below])), (aM_text, .inl (cI, 200, .inl M_text)), (aM_slips, .inl (cI, 6, .inl M_slips)), (aM_lates, .inl (cI, 6, .inl M_lates)), (aM_copies, .inl (cI, 6, .inl M_copies)), (aM_kept, .inl (cZ, 2, .inl M_kept)), (aM_read, .inl (cI, 18, .inl M_read))] := hD
        refine lv_aload_n hx hb dX10_children_181 rfl (lv_at hl 0 rfl) ?_
        refine lv_iconst (v := (1 : Int32)) hx hb dX10_children_182 (by decide) ?_
        refine lv_aload_n hx hb dX10_children_183 rfl (lv_at hl 0 rfl) ?_
        refine va_get (D := D) (ci := 10) (v := .int M_many) (C := RX10) (T := TX10) (N := 23) hx hb hts inX10 hown hK hP 0 rfl rfl 2 (by decide) fl_39 (fun _ h9 => h9) rfl dX10_children_184 ?_
        refine lv_ishl hx hb dX10_children_187 ?_
        refine lv_iconst (v := (1 : Int32)) hx hb dX10_children_188 (by decide) ?_
        refine lv_isub hx hb dX10_children_189 ?_
        refine va_put (D := D) (ci := 10) (v := .int (((1 : Int32) <<< (M_many &&& 31)) - (1 : Int32))) (ty := .int) (C := RX10) (T := TX10) (N := 23) hx hb hts inX10 tyX10 tyX10_ok nmX10 hown hK hP hD hS 0 rfl rfl 7 (by decide) fl_119 (fun _ h9 => h9) rfl (by decide +kernel) rfl rfl (Nat.le_of_ble_eq_true rfl) dX10_children_190 (fun H locs hP hD hS => ?_)
        have hP : va_P D vwCl [(aM, .inr (10, [.ref aM_text, .int M_size, .int M_many, .ref aM_slips, .ref aM_lates, .ref aM_copies, .int M_readLittle, .int (((1 : Int32) <<< (M_many &&& 31)) - (1 : Int32)), .int M_streak, .int M_lot, .int M_undos, .ref aM_before, .ref aM_images, .ref aM_kept, .long M_trace, .int M_at, .int M_begin, .int M_kind, .long M_value, .int M_readMany, .int M_readLittle, .ref aM_read, .long M_below])), (aM_text, .inl (cI, 200, .inl M_text)), (aM_slips, .inl (cI, 6, .inl M_slips)), (aM_lates, .inl (cI, 6, .inl M_lates)), (aM_copies, .inl (cI, 6, .inl M_copies)), (aM_kept, .inl (cZ, 2, .inl M_kept)), (aM_read, .inl (cI, 18, .inl M_read))] H := hP
        have hD : va_D A [(aM, .inr (10, [.ref aM_text, .int M_size, .int M_many, .ref aM_slips, .ref aM_lates, .ref aM_copies, .int M_readLittle, .int (((1 : Int32) <<< (M_many &&& 31)) - (1 : Int32)), .int M_streak, .int M_lot, .int M_undos, .ref aM_before, .ref aM_images, .ref aM_kept, .long M_trace, .int M_at, .int M_begin, .int M_kind, .long M_value, .int M_readMany, .int M_readLittle, .ref aM_read, .long M_below])), (aM_text, .inl (cI, 200, .inl M_text)), (aM_slips, .inl (cI, 6, .inl M_slips)), (aM_lates, .inl (cI, 6, .inl M_lates)), (aM_copies, .inl (cI, 6, .inl M_copies)), (aM_kept, .inl (cZ, 2, .inl M_kept)), (aM_read, .inl (cI, 18, .inl M_read))] := hD
        refine lv_aload_n hx hb dX10_children_193 rfl (lv_at hl 0 rfl) ?_
        refine lv_iconst (v := (0 : Int32)) hx hb dX10_children_194 (by decide) ?_
        refine va_put (D := D) (ci := 10) (v := .int (0 : Int32)) (ty := .int) (C := RX10) (T := TX10) (N := 23) hx hb hts inX10 tyX10 tyX10_ok nmX10 hown hK hP hD hS 0 rfl rfl 8 (by decide) fl_122 (fun _ h9 => h9) rfl (by decide +kernel) rfl rfl (Nat.le_of_ble_eq_true rfl) dX10_children_195 (fun H locs hP hD hS => ?_)
        have hP : va_P D vwCl [(aM, .inr (10, [.ref aM_text, .int M_size, .int M_many, .ref aM_slips, .ref aM_lates, .ref aM_copies, .int M_readLittle, .int (((1 : Int32) <<< (M_many &&& 31)) - (1 : Int32)), .int (0 : Int32), .int M_lot, .int M_undos, .ref aM_before, .ref aM_images, .ref aM_kept, .long M_trace, .int M_at, .int M_begin, .int M_kind, .long M_value, .int M_readMany, .int M_readLittle, .ref aM_read, .long M_below])), (aM_text, .inl (cI, 200, .inl M_text)), (aM_slips, .inl (cI, 6, .inl M_slips)), (aM_lates, .inl (cI, 6, .inl M_lates)), (aM_copies, .inl (cI, 6, .inl M_copies)), (aM_kept, .inl (cZ, 2, .inl M_kept)), (aM_read, .inl (cI, 18, .inl M_read))] H := hP
        have hD : va_D A [(aM, .inr (10, [.ref aM_text, .int M_size, .int M_many, .ref aM_slips, .ref aM_lates, .ref aM_copies, .int M_readLittle, .int (((1 : Int32) <<< (M_many &&& 31)) - (1 : Int32)), .int (0 : Int32), .int M_lot, .int M_undos, .ref aM_before, .ref aM_images, .ref aM_kept, .long M_trace, .int M_at, .int M_begin, .int M_kind, .long M_value, .int M_readMany, .int M_readLittle, .ref aM_read, .long M_below])), (aM_text, .inl (cI, 200, .inl M_text)), (aM_slips, .inl (cI, 6, .inl M_slips)), (aM_lates, .inl (cI, 6, .inl M_lates)), (aM_copies, .inl (cI, 6, .inl M_copies)), (aM_kept, .inl (cZ, 2, .inl M_kept)), (aM_read, .inl (cI, 18, .inl M_read))] := hD
        refine lv_aload_n hx hb dX10_children_198 rfl (lv_at hl 0 rfl) ?_
        refine lv_iconst (v := (0 : Int32)) hx hb dX10_children_199 (by decide) ?_
        refine va_put (D := D) (ci := 10) (v := .int (0 : Int32)) (ty := .int) (C := RX10) (T := TX10) (N := 23) hx hb hts inX10 tyX10 tyX10_ok nmX10 hown hK hP hD hS 0 rfl rfl 10 (by decide) fl_125 (fun _ h9 => h9) rfl (by decide +kernel) rfl rfl (Nat.le_of_ble_eq_true rfl) dX10_children_200 (fun H locs hP hD hS => ?_)
        have hP : va_P D vwCl [(aM, .inr (10, [.ref aM_text, .int M_size, .int M_many, .ref aM_slips, .ref aM_lates, .ref aM_copies, .int M_readLittle, .int (((1 : Int32) <<< (M_many &&& 31)) - (1 : Int32)), .int (0 : Int32), .int M_lot, .int (0 : Int32), .ref aM_before, .ref aM_images, .ref aM_kept, .long M_trace, .int M_at, .int M_begin, .int M_kind, .long M_value, .int M_readMany, .int M_readLittle, .ref aM_read, .long M_below])), (aM_text, .inl (cI, 200, .inl M_text)), (aM_slips, .inl (cI, 6, .inl M_slips)), (aM_lates, .inl (cI, 6, .inl M_lates)), (aM_copies, .inl (cI, 6, .inl M_copies)), (aM_kept, .inl (cZ, 2, .inl M_kept)), (aM_read, .inl (cI, 18, .inl M_read))] H := hP
        have hD : va_D A [(aM, .inr (10, [.ref aM_text, .int M_size, .int M_many, .ref aM_slips, .ref aM_lates, .ref aM_copies, .int M_readLittle, .int (((1 : Int32) <<< (M_many &&& 31)) - (1 : Int32)), .int (0 : Int32), .int M_lot, .int (0 : Int32), .ref aM_before, .ref aM_images, .ref aM_kept, .long M_trace, .int M_at, .int M_begin, .int M_kind, .long M_value, .int M_readMany, .int M_readLittle, .ref aM_read, .long M_below])), (aM_text, .inl (cI, 200, .inl M_text)), (aM_slips, .inl (cI, 6, .inl M_slips)), (aM_lates, .inl (cI, 6, .inl M_lates)), (aM_copies, .inl (cI, 6, .inl M_copies)), (aM_kept, .inl (cZ, 2, .inl M_kept)), (aM_read, .inl (cI, 18, .inl M_read))] := hD
        refine lv_aload_n hx hb dX10_children_203 rfl (lv_at hl 0 rfl) ?_
        refine va_get (D := D) (ci := 10) (v := .ref aM_kept) (C := RX10) (T := TX10) (N := 23) hx hb hts inX10 hown hK hP 0 rfl rfl 13 (by decide) fl_32 (fun _ h9 => h9) rfl dX10_children_204 ?_
        refine lv_iconst (v := (0 : Int32)) hx hb dX10_children_207 (by decide) ?_
        refine lv_iconst (v := (0 : Int32)) hx hb dX10_children_208 (by decide) ?_
        obtain ⟨hi13, h⟩ := gd_in h
        refine va_zast hx hb hK hP hD hS 5 2 rfl rfl hi13 dX10_children_209 (fun H locs hP hD hS => ?_)
        have hP : va_P D vwCl [(aM, .inr (10, [.ref aM_text, .int M_size, .int M_many, .ref aM_slips, .ref aM_lates, .ref aM_copies, .int M_readLittle, .int (((1 : Int32) <<< (M_many &&& 31)) - (1 : Int32)), .int (0 : Int32), .int M_lot, .int (0 : Int32), .ref aM_before, .ref aM_images, .ref aM_kept, .long M_trace, .int M_at, .int M_begin, .int M_kind, .long M_value, .int M_readMany, .int M_readLittle, .ref aM_read, .long M_below])), (aM_text, .inl (cI, 200, .inl M_text)), (aM_slips, .inl (cI, 6, .inl M_slips)), (aM_lates, .inl (cI, 6, .inl M_lates)), (aM_copies, .inl (cI, 6, .inl M_copies)), (aM_kept, .inl (cZ, 2, .inl (upd M_kept (0 : Int32).toNatClampNeg (vp_nar .boolean (0 : Int32))))), (aM_read, .inl (cI, 18, .inl M_read))] H := hP
        have hD : va_D A [(aM, .inr (10, [.ref aM_text, .int M_size, .int M_many, .ref aM_slips, .ref aM_lates, .ref aM_copies, .int M_readLittle, .int (((1 : Int32) <<< (M_many &&& 31)) - (1 : Int32)), .int (0 : Int32), .int M_lot, .int (0 : Int32), .ref aM_before, .ref aM_images, .ref aM_kept, .long M_trace, .int M_at, .int M_begin, .int M_kind, .long M_value, .int M_readMany, .int M_readLittle, .ref aM_read, .long M_below])), (aM_text, .inl (cI, 200, .inl M_text)), (aM_slips, .inl (cI, 6, .inl M_slips)), (aM_lates, .inl (cI, 6, .inl M_lates)), (aM_copies, .inl (cI, 6, .inl M_copies)), (aM_kept, .inl (cZ, 2, .inl (upd M_kept (0 : Int32).toNatClampNeg (vp_nar .boolean (0 : Int32))))), (aM_read, .inl (cI, 18, .inl M_read))] := hD
        refine lv_aload_n hx hb dX10_children_210 rfl (lv_at hl 0 rfl) ?_
        refine va_get (D := D) (ci := 10) (v := .ref aM_kept) (C := RX10) (T := TX10) (N := 23) hx hb hts inX10 hown hK hP 0 rfl rfl 13 (by decide) fl_32 (fun _ h9 => h9) rfl dX10_children_211 ?_
        refine lv_iconst (v := (1 : Int32)) hx hb dX10_children_214 (by decide) ?_
        refine lv_iconst (v := (0 : Int32)) hx hb dX10_children_215 (by decide) ?_
        obtain ⟨hi14, h⟩ := gd_in h
        refine va_zast hx hb hK hP hD hS 5 2 rfl rfl hi14 dX10_children_216 (fun H locs hP hD hS => ?_)
        have hP : va_P D vwCl [(aM, .inr (10, [.ref aM_text, .int M_size, .int M_many, .ref aM_slips, .ref aM_lates, .ref aM_copies, .int M_readLittle, .int (((1 : Int32) <<< (M_many &&& 31)) - (1 : Int32)), .int (0 : Int32), .int M_lot, .int (0 : Int32), .ref aM_before, .ref aM_images, .ref aM_kept, .long M_trace, .int M_at, .int M_begin, .int M_kind, .long M_value, .int M_readMany, .int M_readLittle, .ref aM_read, .long M_below])), (aM_text, .inl (cI, 200, .inl M_text)), (aM_slips, .inl (cI, 6, .inl M_slips)), (aM_lates, .inl (cI, 6, .inl M_lates)), (aM_copies, .inl (cI, 6, .inl M_copies)), (aM_kept, .inl (cZ, 2, .inl (upd (upd M_kept (0 : Int32).toNatClampNeg (vp_nar .boolean (0 : Int32))) (1 : Int32).toNatClampNeg (vp_nar .boolean (0 : Int32))))), (aM_read, .inl (cI, 18, .inl M_read))] H := hP
        have hD : va_D A [(aM, .inr (10, [.ref aM_text, .int M_size, .int M_many, .ref aM_slips, .ref aM_lates, .ref aM_copies, .int M_readLittle, .int (((1 : Int32) <<< (M_many &&& 31)) - (1 : Int32)), .int (0 : Int32), .int M_lot, .int (0 : Int32), .ref aM_before, .ref aM_images, .ref aM_kept, .long M_trace, .int M_at, .int M_begin, .int M_kind, .long M_value, .int M_readMany, .int M_readLittle, .ref aM_read, .long M_below])), (aM_text, .inl (cI, 200, .inl M_text)), (aM_slips, .inl (cI, 6, .inl M_slips)), (aM_lates, .inl (cI, 6, .inl M_lates)), (aM_copies, .inl (cI, 6, .inl M_copies)), (aM_kept, .inl (cZ, 2, .inl (upd (upd M_kept (0 : Int32).toNatClampNeg (vp_nar .boolean (0 : Int32))) (1 : Int32).toNatClampNeg (vp_nar .boolean (0 : Int32))))), (aM_read, .inl (cI, 18, .inl M_read))] := hD
        refine lv_aload_n hx hb dX10_children_217 rfl (lv_at hl 0 rfl) ?_
        refine lv_iconst (v := (0 : Int32)) hx hb dX10_children_218 (by decide) ?_
        refine va_put (D := D) (ci := 10) (v := .int (0 : Int32)) (ty := .int) (C := RX10) (T := TX10) (N := 23) hx hb hts inX10 tyX10 tyX10_ok nmX10 hown hK hP hD hS 0 rfl rfl 1 (by decide) fl_50 (fun _ h9 => h9) rfl (by decide +kernel) rfl rfl (Nat.le_of_ble_eq_true rfl) dX10_children_219 (fun H locs hP hD hS => ?_)
        have hP : va_P D vwCl [(aM, .inr (10, [.ref aM_text, .int (0 : Int32), .int M_many, .ref aM_slips, .ref aM_lates, .ref aM_copies, .int M_readLittle, .int (((1 : Int32) <<< (M_many &&& 31)) - (1 : Int32)), .int (0 : Int32), .int M_lot, .int (0 : Int32), .ref aM_before, .ref aM_images, .ref aM_kept, .long M_trace, .int M_at, .int M_begin, .int M_kind, .long M_value, .int M_readMany, .int M_readLittle, .ref aM_read, .long M_below])), (aM_text, .inl (cI, 200, .inl M_text)), (aM_slips, .inl (cI, 6, .inl M_slips)), (aM_lates, .inl (cI, 6, .inl M_lates)), (aM_copies, .inl (cI, 6, .inl M_copies)), (aM_kept, .inl (cZ, 2, .inl (upd (upd M_kept (0 : Int32).toNatClampNeg (vp_nar .boolean (0 : Int32))) (1 : Int32).toNatClampNeg (vp_nar .boolean (0 : Int32))))), (aM_read, .inl (cI, 18, .inl M_read))] H := hP
        have hD : va_D A [(aM, .inr (10, [.ref aM_text, .int (0 : Int32), .int M_many, .ref aM_slips, .ref aM_lates, .ref aM_copies, .int M_readLittle, .int (((1 : Int32) <<< (M_many &&& 31)) - (1 : Int32)), .int (0 : Int32), .int M_lot, .int (0 : Int32), .ref aM_before, .ref aM_images, .ref aM_kept, .long M_trace, .int M_at, .int M_begin, .int M_kind, .long M_value, .int M_readMany, .int M_readLittle, .ref aM_read, .long M_below])), (aM_text, .inl (cI, 200, .inl M_text)), (aM_slips, .inl (cI, 6, .inl M_slips)), (aM_lates, .inl (cI, 6, .inl M_lates)), (aM_copies, .inl (cI, 6, .inl M_copies)), (aM_kept, .inl (cZ, 2, .inl (upd (upd M_kept (0 : Int32).toNatClampNeg (vp_nar .boolean (0 : Int32))) (1 : Int32).toNatClampNeg (vp_nar .boolean (0 : Int32))))), (aM_read, .inl (cI, 18, .inl M_read))] := hD
        refine lv_iload_n hx hb dX10_children_222 rfl (lv_at hl 1 rfl) ?_
        have hy := Option.some.inj h
        subst hy
        exact W.iret (v := x1) hx hb hr (fun t ht hW => ⟨⟨x1, (), rfl, rfl, by rw [ht]; exact hP, hD⟩, hS.F ht⟩) hS.2.2 dX10_children_223
      · replace h := if_n c_12 h
        refine lv_aload_n hx hb dX10_children_121 rfl (lv_at hl 0 rfl) ?_
        refine va_get (D := D) (ci := 10) (v := .ref aM_slips) (C := RX10) (T := TX10) (N := 23) hx hb hts inX10 hown hK hP 0 rfl rfl 3 (by decide) fl_13 (fun _ h9 => h9) rfl dX10_children_122 ?_
        refine lv_iload_n hx hb dX10_children_125 rfl (lv_at hl 2 rfl) ?_
        refine lv_aload_n hx hb dX10_children_126 rfl (lv_at hl 0 rfl) ?_
        refine va_get (D := D) (ci := 10) (v := .ref aM_read) (C := RX10) (T := TX10) (N := 23) hx hb hts inX10 hown hK hP 0 rfl rfl 21 (by decide) fl_36 (fun _ h9 => h9) rfl dX10_children_127 ?_
        refine lv_iconst (v := (3 : Int32)) hx hb dX10_children_130 (by decide) ?_
        refine lv_iload_n hx hb dX10_children_131 rfl (lv_at hl 2 rfl) ?_
        refine lv_imul hx hb dX10_children_132 ?_
        obtain ⟨hi15, h⟩ := gd_in h
        refine va_iald hx hb hK hP 6 0 rfl rfl hi15 dX10_children_133 ?_
        obtain ⟨hi16, h⟩ := gd_in h
        refine va_iast hx hb hK hP hD hS 2 0 rfl rfl hi16 dX10_children_134 (fun H locs hP hD hS => ?_)
        have hP : va_P D vwCl [(aM, .inr (10, [.ref aM_text, .int M_size, .int M_many, .ref aM_slips, .ref aM_lates, .ref aM_copies, .int M_little, .int M_in, .int M_streak, .int M_lot, .int M_undos, .ref aM_before, .ref aM_images, .ref aM_kept, .long M_trace, .int M_at, .int M_begin, .int M_kind, .long M_value, .int M_readMany, .int M_readLittle, .ref aM_read, .long M_below])), (aM_text, .inl (cI, 200, .inl M_text)), (aM_slips, .inl (cI, 6, .inl (upd M_slips x2.toNatClampNeg (M_read ((3 : Int32) * x2).toNatClampNeg)))), (aM_lates, .inl (cI, 6, .inl M_lates)), (aM_copies, .inl (cI, 6, .inl M_copies)), (aM_kept, .inl (cZ, 2, .inl M_kept)), (aM_read, .inl (cI, 18, .inl M_read))] H := hP
        have hD : va_D A [(aM, .inr (10, [.ref aM_text, .int M_size, .int M_many, .ref aM_slips, .ref aM_lates, .ref aM_copies, .int M_little, .int M_in, .int M_streak, .int M_lot, .int M_undos, .ref aM_before, .ref aM_images, .ref aM_kept, .long M_trace, .int M_at, .int M_begin, .int M_kind, .long M_value, .int M_readMany, .int M_readLittle, .ref aM_read, .long M_below])), (aM_text, .inl (cI, 200, .inl M_text)), (aM_slips, .inl (cI, 6, .inl (upd M_slips x2.toNatClampNeg (M_read ((3 : Int32) * x2).toNatClampNeg)))), (aM_lates, .inl (cI, 6, .inl M_lates)), (aM_copies, .inl (cI, 6, .inl M_copies)), (aM_kept, .inl (cZ, 2, .inl M_kept)), (aM_read, .inl (cI, 18, .inl M_read))] := hD
        refine lv_aload_n hx hb dX10_children_135 rfl (lv_at hl 0 rfl) ?_
        refine va_get (D := D) (ci := 10) (v := .ref aM_lates) (C := RX10) (T := TX10) (N := 23) hx hb hts inX10 hown hK hP 0 rfl rfl 4 (by decide) fl_16 (fun _ h9 => h9) rfl dX10_children_136 ?_
        refine lv_iload_n hx hb dX10_children_139 rfl (lv_at hl 2 rfl) ?_
        refine lv_aload_n hx hb dX10_children_140 rfl (lv_at hl 0 rfl) ?_
        refine va_get (D := D) (ci := 10) (v := .ref aM_read) (C := RX10) (T := TX10) (N := 23) hx hb hts inX10 hown hK hP 0 rfl rfl 21 (by decide) fl_36 (fun _ h9 => h9) rfl dX10_children_141 ?_
        refine lv_iconst (v := (3 : Int32)) hx hb dX10_children_144 (by decide) ?_
        refine lv_iload_n hx hb dX10_children_145 rfl (lv_at hl 2 rfl) ?_
        refine lv_imul hx hb dX10_children_146 ?_
        refine lv_iconst (v := (1 : Int32)) hx hb dX10_children_147 (by decide) ?_
        refine lv_iadd hx hb dX10_children_148 ?_
        obtain ⟨hi17, h⟩ := gd_in h
        refine va_iald hx hb hK hP 6 0 rfl rfl hi17 dX10_children_149 ?_
        obtain ⟨hi18, h⟩ := gd_in h
        refine va_iast hx hb hK hP hD hS 3 0 rfl rfl hi18 dX10_children_150 (fun H locs hP hD hS => ?_)
        have hP : va_P D vwCl [(aM, .inr (10, [.ref aM_text, .int M_size, .int M_many, .ref aM_slips, .ref aM_lates, .ref aM_copies, .int M_little, .int M_in, .int M_streak, .int M_lot, .int M_undos, .ref aM_before, .ref aM_images, .ref aM_kept, .long M_trace, .int M_at, .int M_begin, .int M_kind, .long M_value, .int M_readMany, .int M_readLittle, .ref aM_read, .long M_below])), (aM_text, .inl (cI, 200, .inl M_text)), (aM_slips, .inl (cI, 6, .inl (upd M_slips x2.toNatClampNeg (M_read ((3 : Int32) * x2).toNatClampNeg)))), (aM_lates, .inl (cI, 6, .inl (upd M_lates x2.toNatClampNeg (M_read (((3 : Int32) * x2) + (1 : Int32)).toNatClampNeg)))), (aM_copies, .inl (cI, 6, .inl M_copies)), (aM_kept, .inl (cZ, 2, .inl M_kept)), (aM_read, .inl (cI, 18, .inl M_read))] H := hP
        have hD : va_D A [(aM, .inr (10, [.ref aM_text, .int M_size, .int M_many, .ref aM_slips, .ref aM_lates, .ref aM_copies, .int M_little, .int M_in, .int M_streak, .int M_lot, .int M_undos, .ref aM_before, .ref aM_images, .ref aM_kept, .long M_trace, .int M_at, .int M_begin, .int M_kind, .long M_value, .int M_readMany, .int M_readLittle, .ref aM_read, .long M_below])), (aM_text, .inl (cI, 200, .inl M_text)), (aM_slips, .inl (cI, 6, .inl (upd M_slips x2.toNatClampNeg (M_read ((3 : Int32) * x2).toNatClampNeg)))), (aM_lates, .inl (cI, 6, .inl (upd M_lates x2.toNatClampNeg (M_read (((3 : Int32) * x2) + (1 : Int32)).toNatClampNeg)))), (aM_copies, .inl (cI, 6, .inl M_copies)), (aM_kept, .inl (cZ, 2, .inl M_kept)), (aM_read, .inl (cI, 18, .inl M_read))] := hD
        refine lv_aload_n hx hb dX10_children_151 rfl (lv_at hl 0 rfl) ?_
        refine va_get (D := D) (ci := 10) (v := .ref aM_copies) (C := RX10) (T := TX10) (N := 23) hx hb hts inX10 hown hK hP 0 rfl rfl 5 (by decide) fl_19 (fun _ h9 => h9) rfl dX10_children_152 ?_
        refine lv_iload_n hx hb dX10_children_155 rfl (lv_at hl 2 rfl) ?_
        refine lv_aload_n hx hb dX10_children_156 rfl (lv_at hl 0 rfl) ?_
        refine va_get (D := D) (ci := 10) (v := .ref aM_read) (C := RX10) (T := TX10) (N := 23) hx hb hts inX10 hown hK hP 0 rfl rfl 21 (by decide) fl_36 (fun _ h9 => h9) rfl dX10_children_157 ?_
        refine lv_iconst (v := (3 : Int32)) hx hb dX10_children_160 (by decide) ?_
        refine lv_iload_n hx hb dX10_children_161 rfl (lv_at hl 2 rfl) ?_
        refine lv_imul hx hb dX10_children_162 ?_
        refine lv_iconst (v := (2 : Int32)) hx hb dX10_children_163 (by decide) ?_
        refine lv_iadd hx hb dX10_children_164 ?_
        obtain ⟨hi19, h⟩ := gd_in h
        refine va_iald hx hb hK hP 6 0 rfl rfl hi19 dX10_children_165 ?_
        obtain ⟨hi20, h⟩ := gd_in h
        refine va_iast hx hb hK hP hD hS 4 0 rfl rfl hi20 dX10_children_166 (fun H locs hP hD hS => ?_)
        have hP : va_P D vwCl [(aM, .inr (10, [.ref aM_text, .int M_size, .int M_many, .ref aM_slips, .ref aM_lates, .ref aM_copies, .int M_little, .int M_in, .int M_streak, .int M_lot, .int M_undos, .ref aM_before, .ref aM_images, .ref aM_kept, .long M_trace, .int M_at, .int M_begin, .int M_kind, .long M_value, .int M_readMany, .int M_readLittle, .ref aM_read, .long M_below])), (aM_text, .inl (cI, 200, .inl M_text)), (aM_slips, .inl (cI, 6, .inl (upd M_slips x2.toNatClampNeg (M_read ((3 : Int32) * x2).toNatClampNeg)))), (aM_lates, .inl (cI, 6, .inl (upd M_lates x2.toNatClampNeg (M_read (((3 : Int32) * x2) + (1 : Int32)).toNatClampNeg)))), (aM_copies, .inl (cI, 6, .inl (upd M_copies x2.toNatClampNeg (M_read (((3 : Int32) * x2) + (2 : Int32)).toNatClampNeg)))), (aM_kept, .inl (cZ, 2, .inl M_kept)), (aM_read, .inl (cI, 18, .inl M_read))] H := hP
        have hD : va_D A [(aM, .inr (10, [.ref aM_text, .int M_size, .int M_many, .ref aM_slips, .ref aM_lates, .ref aM_copies, .int M_little, .int M_in, .int M_streak, .int M_lot, .int M_undos, .ref aM_before, .ref aM_images, .ref aM_kept, .long M_trace, .int M_at, .int M_begin, .int M_kind, .long M_value, .int M_readMany, .int M_readLittle, .ref aM_read, .long M_below])), (aM_text, .inl (cI, 200, .inl M_text)), (aM_slips, .inl (cI, 6, .inl (upd M_slips x2.toNatClampNeg (M_read ((3 : Int32) * x2).toNatClampNeg)))), (aM_lates, .inl (cI, 6, .inl (upd M_lates x2.toNatClampNeg (M_read (((3 : Int32) * x2) + (1 : Int32)).toNatClampNeg)))), (aM_copies, .inl (cI, 6, .inl (upd M_copies x2.toNatClampNeg (M_read (((3 : Int32) * x2) + (2 : Int32)).toNatClampNeg)))), (aM_kept, .inl (cZ, 2, .inl M_kept)), (aM_read, .inl (cI, 18, .inl M_read))] := hD
        refine lv_iinc (v := (x2 + (1 : Int32))) (lv' := [(2, .int (x2 + (1 : Int32))), (0, .ref aM), (1, .int x1)]) hx hb dX10_children_167 hl (k := 2) rfl rfl (by decide) rfl (fun ls hl => ?_)
        refine lv_goto (tgt := 113) hx hb dX10_children_170 (by decide) ?_
        exact ih M_size M_many M_little M_in M_streak M_undos M_at M_begin M_kind M_value M_readMany M_readLittle (upd M_slips x2.toNatClampNeg (M_read ((3 : Int32) * x2).toNatClampNeg)) (upd M_lates x2.toNatClampNeg (M_read (((3 : Int32) * x2) + (1 : Int32)).toNatClampNeg)) (upd M_copies x2.toNatClampNeg (M_read (((3 : Int32) * x2) + (2 : Int32)).toNatClampNeg)) M_kept M_read x1 (x2 + (1 : Int32)) _ _ hP hD hS ls (lv_sub hl [1, 2, 0] rfl) h
  have L80 : ∀ (k21 : Int32 → Int32 → Int32 → Int32 → Int32 → Int32 → Int32 → Int32 → Int32 → Int64 → Int32 → Int32 → (Nat → Int32) → (Nat → Int32) → (Nat → Int32) → (Nat → Int32) → (Nat → Int32) → Int32 → Option (Int32 × Int32 × Int32 × Int32 × Int32 × Int32 × Int32 × Int32 × Int32 × Int32 × Int64 × Int32 × Int32 × (Nat → Int32) × (Nat → Int32) × (Nat → Int32) × (Nat → Int32) × (Nat → Int32))) (_ : ∀ (M_size : Int32) (M_many : Int32) (M_little : Int32) (M_in : Int32) (M_streak : Int32) (M_undos : Int32) (M_at : Int32) (M_begin : Int32) (M_kind : Int32) (M_value : Int64) (M_readMany : Int32) (M_readLittle : Int32) (M_slips : Nat → Int32) (M_lates : Nat → Int32) (M_copies : Nat → Int32) (M_kept : Nat → Int32) (M_read : Nat → Int32) (x1 : Int32), ∀ (H : Heap) (locs : List Loc), va_P D vwCl [(aM, .inr (10, [.ref aM_text, .int M_size, .int M_many, .ref aM_slips, .ref aM_lates, .ref aM_copies, .int M_little, .int M_in, .int M_streak, .int M_lot, .int M_undos, .ref aM_before, .ref aM_images, .ref aM_kept, .long M_trace, .int M_at, .int M_begin, .int M_kind, .long M_value, .int M_readMany, .int M_readLittle, .ref aM_read, .long M_below])), (aM_text, .inl (cI, 200, .inl M_text)), (aM_slips, .inl (cI, 6, .inl M_slips)), (aM_lates, .inl (cI, 6, .inl M_lates)), (aM_copies, .inl (cI, 6, .inl M_copies)), (aM_kept, .inl (cZ, 2, .inl M_kept)), (aM_read, .inl (cI, 18, .inl M_read))] H → va_D A [(aM, .inr (10, [.ref aM_text, .int M_size, .int M_many, .ref aM_slips, .ref aM_lates, .ref aM_copies, .int M_little, .int M_in, .int M_streak, .int M_lot, .int M_undos, .ref aM_before, .ref aM_images, .ref aM_kept, .long M_trace, .int M_at, .int M_begin, .int M_kind, .long M_value, .int M_readMany, .int M_readLittle, .ref aM_read, .long M_below])), (aM_text, .inl (cI, 200, .inl M_text)), (aM_slips, .inl (cI, 6, .inl M_slips)), (aM_lates, .inl (cI, 6, .inl M_lates)), (aM_copies, .inl (cI, 6, .inl M_copies)), (aM_kept, .inl (cZ, 2, .inl M_kept)), (aM_read, .inl (cI, 18, .inl M_read))] → va_S A s.heap H locs → ∀ (ls : Array Slot), lv_has ls 3 [(0, .ref aM), (1, .int x1)] → k21 M_size M_many M_little M_in M_streak M_undos M_at M_begin M_kind M_value M_readMany M_readLittle M_slips M_lates M_copies M_kept M_read x1 = some y0 → W p l e (headSpec wsX10_children ({ frames := 4, cells := 0, slots := 0, locals := 84 } : Room)).room s m ([.ref aM] : List Value).toArray below meth c H locs 0 0 (MQ below (va_Qi (fun (r : Int32) (_ : Unit) => r = y0.1) (fun (_ : Unit) t => va_P D vwCl [(aM, .inr (10, [.ref aM_text, .int y0.2.1, .int y0.2.2.1, .ref aM_slips, .ref aM_lates, .ref aM_copies, .int y0.2.2.2.1, .int y0.2.2.2.2.1, .int y0.2.2.2.2.2.1, .int M_lot, .int y0.2.2.2.2.2.2.1, .ref aM_before, .ref aM_images, .ref aM_kept, .long M_trace, .int y0.2.2.2.2.2.2.2.1, .int y0.2.2.2.2.2.2.2.2.1, .int y0.2.2.2.2.2.2.2.2.2.1, .long y0.2.2.2.2.2.2.2.2.2.2.1, .int y0.2.2.2.2.2.2.2.2.2.2.2.1, .int y0.2.2.2.2.2.2.2.2.2.2.2.2.1, .ref aM_read, .long M_below])), (aM_text, .inl (cI, 200, .inl M_text)), (aM_slips, .inl (cI, 6, .inl y0.2.2.2.2.2.2.2.2.2.2.2.2.2.1)), (aM_lates, .inl (cI, 6, .inl y0.2.2.2.2.2.2.2.2.2.2.2.2.2.2.1)), (aM_copies, .inl (cI, 6, .inl y0.2.2.2.2.2.2.2.2.2.2.2.2.2.2.2.1)), (aM_kept, .inl (cZ, 2, .inl y0.2.2.2.2.2.2.2.2.2.2.2.2.2.2.2.2.1)), (aM_read, .inl (cI, 18, .inl y0.2.2.2.2.2.2.2.2.2.2.2.2.2.2.2.2.2))] t.heap ∧ va_D A [(aM, .inr (10, [.ref aM_text, .int y0.2.1, .int y0.2.2.1, .ref aM_slips, .ref aM_lates, .ref aM_copies, .int y0.2.2.2.1, .int y0.2.2.2.2.1, .int y0.2.2.2.2.2.1, .int M_lot, .int y0.2.2.2.2.2.2.1, .ref aM_before, .ref aM_images, .ref aM_kept, .long M_trace, .int y0.2.2.2.2.2.2.2.1, .int y0.2.2.2.2.2.2.2.2.1, .int y0.2.2.2.2.2.2.2.2.2.1, .long y0.2.2.2.2.2.2.2.2.2.2.1, .int y0.2.2.2.2.2.2.2.2.2.2.2.1, .int y0.2.2.2.2.2.2.2.2.2.2.2.2.1, .ref aM_read, .long M_below])), (aM_text, .inl (cI, 200, .inl M_text)), (aM_slips, .inl (cI, 6, .inl y0.2.2.2.2.2.2.2.2.2.2.2.2.2.1)), (aM_lates, .inl (cI, 6, .inl y0.2.2.2.2.2.2.2.2.2.2.2.2.2.2.1)), (aM_copies, .inl (cI, 6, .inl y0.2.2.2.2.2.2.2.2.2.2.2.2.2.2.2.1)), (aM_kept, .inl (cZ, 2, .inl y0.2.2.2.2.2.2.2.2.2.2.2.2.2.2.2.2.1)), (aM_read, .inl (cI, 18, .inl y0.2.2.2.2.2.2.2.2.2.2.2.2.2.2.2.2.2))]) A) ([.ref aM] : List Value).toArray s 0 0 A) (F0 m 21 ls [])), ∀ (M_size : Int32) (M_many : Int32) (M_little : Int32) (M_in : Int32) (M_streak : Int32) (M_undos : Int32) (M_at : Int32) (M_begin : Int32) (M_kind : Int32) (M_value : Int64) (M_readMany : Int32) (M_readLittle : Int32) (M_slips : Nat → Int32) (M_lates : Nat → Int32) (M_copies : Nat → Int32) (M_kept : Nat → Int32) (M_read : Nat → Int32) (t0 : Int32) (x1 : Int32), ∀ (H : Heap) (locs : List Loc), va_P D vwCl [(aM, .inr (10, [.ref aM_text, .int M_size, .int M_many, .ref aM_slips, .ref aM_lates, .ref aM_copies, .int M_little, .int M_in, .int M_streak, .int M_lot, .int M_undos, .ref aM_before, .ref aM_images, .ref aM_kept, .long M_trace, .int M_at, .int M_begin, .int M_kind, .long M_value, .int M_readMany, .int M_readLittle, .ref aM_read, .long M_below])), (aM_text, .inl (cI, 200, .inl M_text)), (aM_slips, .inl (cI, 6, .inl M_slips)), (aM_lates, .inl (cI, 6, .inl M_lates)), (aM_copies, .inl (cI, 6, .inl M_copies)), (aM_kept, .inl (cZ, 2, .inl M_kept)), (aM_read, .inl (cI, 18, .inl M_read))] H → va_D A [(aM, .inr (10, [.ref aM_text, .int M_size, .int M_many, .ref aM_slips, .ref aM_lates, .ref aM_copies, .int M_little, .int M_in, .int M_streak, .int M_lot, .int M_undos, .ref aM_before, .ref aM_images, .ref aM_kept, .long M_trace, .int M_at, .int M_begin, .int M_kind, .long M_value, .int M_readMany, .int M_readLittle, .ref aM_read, .long M_below])), (aM_text, .inl (cI, 200, .inl M_text)), (aM_slips, .inl (cI, 6, .inl M_slips)), (aM_lates, .inl (cI, 6, .inl M_lates)), (aM_copies, .inl (cI, 6, .inl M_copies)), (aM_kept, .inl (cZ, 2, .inl M_kept)), (aM_read, .inl (cI, 18, .inl M_read))] → va_S A s.heap H locs → ∀ (ls : Array Slot), lv_has ls 3 [(0, .ref aM), (1, .int x1)] → f_X10_children_L80 M_text k21 M_size M_many M_little M_in M_streak M_undos M_at M_begin M_kind M_value M_readMany M_readLittle M_slips M_lates M_copies M_kept M_read t0 x1 = some y0 → W p l e (headSpec wsX10_children ({ frames := 4, cells := 0, slots := 0, locals := 84 } : Room)).room s m ([.ref aM] : List Value).toArray below meth c H locs 0 0 (MQ below (va_Qi (fun (r : Int32) (_ : Unit) => r = y0.1) (fun (_ : Unit) t => va_P D vwCl [(aM, .inr (10, [.ref aM_text, .int y0.2.1, .int y0.2.2.1, .ref aM_slips, .ref aM_lates, .ref aM_copies, .int y0.2.2.2.1, .int y0.2.2.2.2.1, .int y0.2.2.2.2.2.1, .int M_lot, .int y0.2.2.2.2.2.2.1, .ref aM_before, .ref aM_images, .ref aM_kept, .long M_trace, .int y0.2.2.2.2.2.2.2.1, .int y0.2.2.2.2.2.2.2.2.1, .int y0.2.2.2.2.2.2.2.2.2.1, .long y0.2.2.2.2.2.2.2.2.2.2.1, .int y0.2.2.2.2.2.2.2.2.2.2.2.1, .int y0.2.2.2.2.2.2.2.2.2.2.2.2.1, .ref aM_read, .long M_below])), (aM_text, .inl (cI, 200, .inl M_text)), (aM_slips, .inl (cI, 6, .inl y0.2.2.2.2.2.2.2.2.2.2.2.2.2.1)), (aM_lates, .inl (cI, 6, .inl y0.2.2.2.2.2.2.2.2.2.2.2.2.2.2.1)), (aM_copies, .inl (cI, 6, .inl y0.2.2.2.2.2.2.2.2.2.2.2.2.2.2.2.1)), (aM_kept, .inl (cZ, 2, .inl y0.2.2.2.2.2.2.2.2.2.2.2.2.2.2.2.2.1)), (aM_read, .inl (cI, 18, .inl y0.2.2.2.2.2.2.2.2.2.2.2.2.2.2.2.2.2))] t.heap ∧ va_D A [(aM, .inr (10, [.ref aM_text, .int y0.2.1, .int y0.2.2.1, .ref aM_slips, .ref aM_lates, .ref aM_copies, .int y0.2.2.2.1, .int y0.2.2.2.2.1, .int y0.2.2.2.2.2.1, .int M_lot, .int y0.2.2.2.2.2.2.1, .ref aM_before, .ref aM_images, .ref aM_kept, .long M_trace, .int y0.2.2.2.2.2.2.2.1, .int y0.2.2.2.2.2.2.2.2.1, .int y0.2.2.2.2.2.2.2.2.2.1, .long y0.2.2.2.2.2.2.2.2.2.2.1, .int y0.2.2.2.2.2.2.2.2.2.2.2.1, .int y0.2.2.2.2.2.2.2.2.2.2.2.2.1, .ref aM_read, .long M_below])), (aM_text, .inl (cI, 200, .inl M_text)), (aM_slips, .inl (cI, 6, .inl y0.2.2.2.2.2.2.2.2.2.2.2.2.2.1)), (aM_lates, .inl (cI, 6, .inl y0.2.2.2.2.2.2.2.2.2.2.2.2.2.2.1)), (aM_copies, .inl (cI, 6, .inl y0.2.2.2.2.2.2.2.2.2.2.2.2.2.2.2.1)), (aM_kept, .inl (cZ, 2, .inl y0.2.2.2.2.2.2.2.2.2.2.2.2.2.2.2.2.1)), (aM_read, .inl (cI, 18, .inl y0.2.2.2.2.2.2.2.2.2.2.2.2.2.2.2.2.2))]) A) ([.ref aM] : List Value).toArray s 0 0 A) (F0 m 80 ls [.int t0]) := by
    intro k21 hk21
    intro M_size M_many M_little M_in M_streak M_undos M_at M_begin M_kind M_value M_readMany M_readLittle M_slips M_lates M_copies M_kept M_read t0 x1 H locs hP hD hS ls hl h
    unfold f_X10_children_L80 at h
    refine lv_istore_n (lv' := [(2, .int t0), (0, .ref aM), (1, .int x1)]) hx hb dX10_children_80 rfl hl (by decide) rfl (fun ls hl => ?_)
    refine lv_iload_n hx hb dX10_children_81 rfl (lv_at hl 0 rfl) ?_
    refine lv_if_ne (tgt := 93) hx hb dX10_children_82 (by decide) (fun c_21 => ?_) (fun c_21 => ?_)
    · replace h := if_n c_21 h
      refine lv_iinc (v := (x1 + (1 : Int32))) (lv' := [(1, .int (x1 + (1 : Int32))), (2, .int t0), (0, .ref aM)]) hx hb dX10_children_93 hl (k := 2) rfl rfl (by decide) rfl (fun ls hl => ?_)
      refine lv_aload_n hx hb dX10_children_96 rfl (lv_at hl 2 rfl) ?_
      obtain ⟨y22, qy22, h⟩ := ob_some h
      have hPc : va_P D vwCl [(aM, .inr (10, [.ref aM_text, .int M_size, .int M_many, .ref aM_slips, .ref aM_lates, .ref aM_copies, .int M_little, .int M_in, .int M_streak, .int M_lot, .int M_undos, .ref aM_before, .ref aM_images, .ref aM_kept, .long M_trace, .int M_at, .int M_begin, .int M_kind, .long M_value, .int M_readMany, .int M_readLittle, .ref aM_read, .long M_below])), (aM_text, .inl (cI, 200, .inl M_text))] H := hP.sub [0, 1] rfl
      have hDc : va_D A [(aM, .inr (10, [.ref aM_text, .int M_size, .int M_many, .ref aM_slips, .ref aM_lates, .ref aM_copies, .int M_little, .int M_in, .int M_streak, .int M_lot, .int M_undos, .ref aM_before, .ref aM_images, .ref aM_kept, .long M_trace, .int M_at, .int M_begin, .int M_kind, .long M_value, .int M_readMany, .int M_readLittle, .ref aM_read, .long M_below])), (aM_text, .inl (cI, 200, .inl M_text))] := hD.sub [0, 1] (by decide) rfl
      have hFc := va_free (wc := [(aM, .inr (10, [.ref aM_text, .int M_size, .int M_many, .ref aM_slips, .ref aM_lates, .ref aM_copies, .int M_little, .int M_in, .int M_streak, .int M_lot, .int M_undos, .ref aM_before, .ref aM_images, .ref aM_kept, .long M_trace, .int M_at, .int M_begin, .int M_kind, .long M_value, .int M_readMany, .int M_readLittle, .ref aM_read, .long M_below])), (aM_text, .inl (cI, 200, .inl M_text))]) hD hS hA [0, 1] rfl
      refine va_callv (va_runV (As := []) (rest := []) ⟨hx, hb, hml, hown, hts⟩ (c_X10_next l D cI cJ cZ cO aM aM_text aM_slips aM_lates aM_copies aM_before aM_images aM_kept aM_read M_size M_many M_little M_in M_streak M_lot M_undos M_trace M_at M_begin M_kind M_value M_readMany M_readLittle M_below M_text H.size y22 qy22) (cwV 0 hts gX10_children_X10_next rfl rfl rfl (by decide +kernel) ⟨Nat.le_of_ble_eq_true rfl, Nat.le_of_ble_eq_true rfl⟩) ⟨fb_i, va_recv hK hP (ci := 10) (q0 := 0) rfl rfl, fun U hU hW => ⟨rfl, by rw [hU], by rw [hU]; exact hPc, KK.warm hW hKK, hDc.weaken (fun _ _ _ _ => trivial)⟩⟩ rfl rfl hl.1 rfl (lv_room (Nat.le_of_ble_eq_true rfl)) dX10_children_97 ⟨Nat.le_of_ble_eq_true rfl, Nat.le_of_ble_eq_true rfl⟩) hS (fun q _ h => hFc q h) hFc (fun u t H1 locs ht hvm hw hB hz1 hk1 hS => ?_)
      obtain ⟨hP1, hD1⟩ := hB
      rw [ht] at hP1
      obtain ⟨hP, hD⟩ := va_join (wr := [(aM_slips, .inl (cI, 6, .inl M_slips)), (aM_lates, .inl (cI, 6, .inl M_lates)), (aM_copies, .inl (cI, 6, .inl M_copies)), (aM_kept, .inl (cZ, 2, .inl M_kept)), (aM_read, .inl (cI, 18, .inl M_read))]) (w1 := [(aM, .inr (10, [.ref aM_text, .int M_size, .int M_many, .ref aM_slips, .ref aM_lates, .ref aM_copies, .int M_little, .int M_in, .int M_streak, .int M_lot, .int M_undos, .ref aM_before, .ref aM_images, .ref aM_kept, .long M_trace, .int y22.1, .int y22.2.1, .int y22.2.2.1, .long y22.2.2.2, .int M_readMany, .int M_readLittle, .ref aM_read, .long M_below])), (aM_text, .inl (cI, 200, .inl M_text))]) hP hD [0, 1] [2, 3, 4, 5, 6] rfl rfl (by decide) (by decide) hk1 hFc hP1 hD1
      generalize H1 = H at hP hS ⊢
      have hP : va_P D vwCl [(aM, .inr (10, [.ref aM_text, .int M_size, .int M_many, .ref aM_slips, .ref aM_lates, .ref aM_copies, .int M_little, .int M_in, .int M_streak, .int M_lot, .int M_undos, .ref aM_before, .ref aM_images, .ref aM_kept, .long M_trace, .int y22.1, .int y22.2.1, .int y22.2.2.1, .long y22.2.2.2, .int M_readMany, .int M_readLittle, .ref aM_read, .long M_below])), (aM_text, .inl (cI, 200, .inl M_text)), (aM_slips, .inl (cI, 6, .inl M_slips)), (aM_lates, .inl (cI, 6, .inl M_lates)), (aM_copies, .inl (cI, 6, .inl M_copies)), (aM_kept, .inl (cZ, 2, .inl M_kept)), (aM_read, .inl (cI, 18, .inl M_read))] H := hP.sub [5, 6, 0, 1, 2, 3, 4] rfl
      have hD : va_D A [(aM, .inr (10, [.ref aM_text, .int M_size, .int M_many, .ref aM_slips, .ref aM_lates, .ref aM_copies, .int M_little, .int M_in, .int M_streak, .int M_lot, .int M_undos, .ref aM_before, .ref aM_images, .ref aM_kept, .long M_trace, .int y22.1, .int y22.2.1, .int y22.2.2.1, .long y22.2.2.2, .int M_readMany, .int M_readLittle, .ref aM_read, .long M_below])), (aM_text, .inl (cI, 200, .inl M_text)), (aM_slips, .inl (cI, 6, .inl M_slips)), (aM_lates, .inl (cI, 6, .inl M_lates)), (aM_copies, .inl (cI, 6, .inl M_copies)), (aM_kept, .inl (cZ, 2, .inl M_kept)), (aM_read, .inl (cI, 18, .inl M_read))] := hD.sub [5, 6, 0, 1, 2, 3, 4] (by decide) rfl
      refine lv_goto (tgt := 21) hx hb dX10_children_100 (by decide) ?_
      exact hk21 M_size M_many M_little M_in M_streak M_undos y22.1 y22.2.1 y22.2.2.1 y22.2.2.2 M_readMany M_readLittle M_slips M_lates M_copies M_kept M_read (x1 + (1 : Int32)) _ _ hP hD hS ls (lv_sub hl [2, 0] rfl) h
    · replace h := if_p c_21 h
      refine lv_bipush (v := (-10 : Int32)) hx hb dX10_children_85 (by decide) ?_
      refine lv_aload_n hx hb dX10_children_87 rfl (lv_at hl 1 rfl) ?_
      refine va_get (D := D) (ci := 10) (v := .int M_begin) (C := RX10) (T := TX10) (N := 23) hx hb hts inX10 hown hK hP 0 rfl rfl 16 (by decide) fl_58 (fun _ h9 => h9) rfl dX10_children_88 ?_
      refine lv_isub hx hb dX10_children_91 ?_
      have hy := Option.some.inj h
      subst hy
      exact W.iret (v := ((-10 : Int32) - M_begin)) hx hb hr (fun t ht hW => ⟨⟨((-10 : Int32) - M_begin), (), rfl, rfl, by rw [ht]; exact hP, hD⟩, hS.F ht⟩) hS.2.2 dX10_children_92
  have L79 : ∀ (k21 : Int32 → Int32 → Int32 → Int32 → Int32 → Int32 → Int32 → Int32 → Int32 → Int64 → Int32 → Int32 → (Nat → Int32) → (Nat → Int32) → (Nat → Int32) → (Nat → Int32) → (Nat → Int32) → Int32 → Option (Int32 × Int32 × Int32 × Int32 × Int32 × Int32 × Int32 × Int32 × Int32 × Int32 × Int64 × Int32 × Int32 × (Nat → Int32) × (Nat → Int32) × (Nat → Int32) × (Nat → Int32) × (Nat → Int32))) (_ : ∀ (M_size : Int32) (M_many : Int32) (M_little : Int32) (M_in : Int32) (M_streak : Int32) (M_undos : Int32) (M_at : Int32) (M_begin : Int32) (M_kind : Int32) (M_value : Int64) (M_readMany : Int32) (M_readLittle : Int32) (M_slips : Nat → Int32) (M_lates : Nat → Int32) (M_copies : Nat → Int32) (M_kept : Nat → Int32) (M_read : Nat → Int32) (x1 : Int32), ∀ (H : Heap) (locs : List Loc), va_P D vwCl [(aM, .inr (10, [.ref aM_text, .int M_size, .int M_many, .ref aM_slips, .ref aM_lates, .ref aM_copies, .int M_little, .int M_in, .int M_streak, .int M_lot, .int M_undos, .ref aM_before, .ref aM_images, .ref aM_kept, .long M_trace, .int M_at, .int M_begin, .int M_kind, .long M_value, .int M_readMany, .int M_readLittle, .ref aM_read, .long M_below])), (aM_text, .inl (cI, 200, .inl M_text)), (aM_slips, .inl (cI, 6, .inl M_slips)), (aM_lates, .inl (cI, 6, .inl M_lates)), (aM_copies, .inl (cI, 6, .inl M_copies)), (aM_kept, .inl (cZ, 2, .inl M_kept)), (aM_read, .inl (cI, 18, .inl M_read))] H → va_D A [(aM, .inr (10, [.ref aM_text, .int M_size, .int M_many, .ref aM_slips, .ref aM_lates, .ref aM_copies, .int M_little, .int M_in, .int M_streak, .int M_lot, .int M_undos, .ref aM_before, .ref aM_images, .ref aM_kept, .long M_trace, .int M_at, .int M_begin, .int M_kind, .long M_value, .int M_readMany, .int M_readLittle, .ref aM_read, .long M_below])), (aM_text, .inl (cI, 200, .inl M_text)), (aM_slips, .inl (cI, 6, .inl M_slips)), (aM_lates, .inl (cI, 6, .inl M_lates)), (aM_copies, .inl (cI, 6, .inl M_copies)), (aM_kept, .inl (cZ, 2, .inl M_kept)), (aM_read, .inl (cI, 18, .inl M_read))] → va_S A s.heap H locs → ∀ (ls : Array Slot), lv_has ls 3 [(0, .ref aM), (1, .int x1)] → k21 M_size M_many M_little M_in M_streak M_undos M_at M_begin M_kind M_value M_readMany M_readLittle M_slips M_lates M_copies M_kept M_read x1 = some y0 → W p l e (headSpec wsX10_children ({ frames := 4, cells := 0, slots := 0, locals := 84 } : Room)).room s m ([.ref aM] : List Value).toArray below meth c H locs 0 0 (MQ below (va_Qi (fun (r : Int32) (_ : Unit) => r = y0.1) (fun (_ : Unit) t => va_P D vwCl [(aM, .inr (10, [.ref aM_text, .int y0.2.1, .int y0.2.2.1, .ref aM_slips, .ref aM_lates, .ref aM_copies, .int y0.2.2.2.1, .int y0.2.2.2.2.1, .int y0.2.2.2.2.2.1, .int M_lot, .int y0.2.2.2.2.2.2.1, .ref aM_before, .ref aM_images, .ref aM_kept, .long M_trace, .int y0.2.2.2.2.2.2.2.1, .int y0.2.2.2.2.2.2.2.2.1, .int y0.2.2.2.2.2.2.2.2.2.1, .long y0.2.2.2.2.2.2.2.2.2.2.1, .int y0.2.2.2.2.2.2.2.2.2.2.2.1, .int y0.2.2.2.2.2.2.2.2.2.2.2.2.1, .ref aM_read, .long M_below])), (aM_text, .inl (cI, 200, .inl M_text)), (aM_slips, .inl (cI, 6, .inl y0.2.2.2.2.2.2.2.2.2.2.2.2.2.1)), (aM_lates, .inl (cI, 6, .inl y0.2.2.2.2.2.2.2.2.2.2.2.2.2.2.1)), (aM_copies, .inl (cI, 6, .inl y0.2.2.2.2.2.2.2.2.2.2.2.2.2.2.2.1)), (aM_kept, .inl (cZ, 2, .inl y0.2.2.2.2.2.2.2.2.2.2.2.2.2.2.2.2.1)), (aM_read, .inl (cI, 18, .inl y0.2.2.2.2.2.2.2.2.2.2.2.2.2.2.2.2.2))] t.heap ∧ va_D A [(aM, .inr (10, [.ref aM_text, .int y0.2.1, .int y0.2.2.1, .ref aM_slips, .ref aM_lates, .ref aM_copies, .int y0.2.2.2.1, .int y0.2.2.2.2.1, .int y0.2.2.2.2.2.1, .int M_lot, .int y0.2.2.2.2.2.2.1, .ref aM_before, .ref aM_images, .ref aM_kept, .long M_trace, .int y0.2.2.2.2.2.2.2.1, .int y0.2.2.2.2.2.2.2.2.1, .int y0.2.2.2.2.2.2.2.2.2.1, .long y0.2.2.2.2.2.2.2.2.2.2.1, .int y0.2.2.2.2.2.2.2.2.2.2.2.1, .int y0.2.2.2.2.2.2.2.2.2.2.2.2.1, .ref aM_read, .long M_below])), (aM_text, .inl (cI, 200, .inl M_text)), (aM_slips, .inl (cI, 6, .inl y0.2.2.2.2.2.2.2.2.2.2.2.2.2.1)), (aM_lates, .inl (cI, 6, .inl y0.2.2.2.2.2.2.2.2.2.2.2.2.2.2.1)), (aM_copies, .inl (cI, 6, .inl y0.2.2.2.2.2.2.2.2.2.2.2.2.2.2.2.1)), (aM_kept, .inl (cZ, 2, .inl y0.2.2.2.2.2.2.2.2.2.2.2.2.2.2.2.2.1)), (aM_read, .inl (cI, 18, .inl y0.2.2.2.2.2.2.2.2.2.2.2.2.2.2.2.2.2))]) A) ([.ref aM] : List Value).toArray s 0 0 A) (F0 m 21 ls [])), ∀ (M_size : Int32) (M_many : Int32) (M_little : Int32) (M_in : Int32) (M_streak : Int32) (M_undos : Int32) (M_at : Int32) (M_begin : Int32) (M_kind : Int32) (M_value : Int64) (M_readMany : Int32) (M_readLittle : Int32) (M_slips : Nat → Int32) (M_lates : Nat → Int32) (M_copies : Nat → Int32) (M_kept : Nat → Int32) (M_read : Nat → Int32) (x1 : Int32), ∀ (H : Heap) (locs : List Loc), va_P D vwCl [(aM, .inr (10, [.ref aM_text, .int M_size, .int M_many, .ref aM_slips, .ref aM_lates, .ref aM_copies, .int M_little, .int M_in, .int M_streak, .int M_lot, .int M_undos, .ref aM_before, .ref aM_images, .ref aM_kept, .long M_trace, .int M_at, .int M_begin, .int M_kind, .long M_value, .int M_readMany, .int M_readLittle, .ref aM_read, .long M_below])), (aM_text, .inl (cI, 200, .inl M_text)), (aM_slips, .inl (cI, 6, .inl M_slips)), (aM_lates, .inl (cI, 6, .inl M_lates)), (aM_copies, .inl (cI, 6, .inl M_copies)), (aM_kept, .inl (cZ, 2, .inl M_kept)), (aM_read, .inl (cI, 18, .inl M_read))] H → va_D A [(aM, .inr (10, [.ref aM_text, .int M_size, .int M_many, .ref aM_slips, .ref aM_lates, .ref aM_copies, .int M_little, .int M_in, .int M_streak, .int M_lot, .int M_undos, .ref aM_before, .ref aM_images, .ref aM_kept, .long M_trace, .int M_at, .int M_begin, .int M_kind, .long M_value, .int M_readMany, .int M_readLittle, .ref aM_read, .long M_below])), (aM_text, .inl (cI, 200, .inl M_text)), (aM_slips, .inl (cI, 6, .inl M_slips)), (aM_lates, .inl (cI, 6, .inl M_lates)), (aM_copies, .inl (cI, 6, .inl M_copies)), (aM_kept, .inl (cZ, 2, .inl M_kept)), (aM_read, .inl (cI, 18, .inl M_read))] → va_S A s.heap H locs → ∀ (ls : Array Slot), lv_has ls 3 [(0, .ref aM), (1, .int x1)] → f_X10_children_L79 M_text k21 M_size M_many M_little M_in M_streak M_undos M_at M_begin M_kind M_value M_readMany M_readLittle M_slips M_lates M_copies M_kept M_read x1 = some y0 → W p l e (headSpec wsX10_children ({ frames := 4, cells := 0, slots := 0, locals := 84 } : Room)).room s m ([.ref aM] : List Value).toArray below meth c H locs 0 0 (MQ below (va_Qi (fun (r : Int32) (_ : Unit) => r = y0.1) (fun (_ : Unit) t => va_P D vwCl [(aM, .inr (10, [.ref aM_text, .int y0.2.1, .int y0.2.2.1, .ref aM_slips, .ref aM_lates, .ref aM_copies, .int y0.2.2.2.1, .int y0.2.2.2.2.1, .int y0.2.2.2.2.2.1, .int M_lot, .int y0.2.2.2.2.2.2.1, .ref aM_before, .ref aM_images, .ref aM_kept, .long M_trace, .int y0.2.2.2.2.2.2.2.1, .int y0.2.2.2.2.2.2.2.2.1, .int y0.2.2.2.2.2.2.2.2.2.1, .long y0.2.2.2.2.2.2.2.2.2.2.1, .int y0.2.2.2.2.2.2.2.2.2.2.2.1, .int y0.2.2.2.2.2.2.2.2.2.2.2.2.1, .ref aM_read, .long M_below])), (aM_text, .inl (cI, 200, .inl M_text)), (aM_slips, .inl (cI, 6, .inl y0.2.2.2.2.2.2.2.2.2.2.2.2.2.1)), (aM_lates, .inl (cI, 6, .inl y0.2.2.2.2.2.2.2.2.2.2.2.2.2.2.1)), (aM_copies, .inl (cI, 6, .inl y0.2.2.2.2.2.2.2.2.2.2.2.2.2.2.2.1)), (aM_kept, .inl (cZ, 2, .inl y0.2.2.2.2.2.2.2.2.2.2.2.2.2.2.2.2.1)), (aM_read, .inl (cI, 18, .inl y0.2.2.2.2.2.2.2.2.2.2.2.2.2.2.2.2.2))] t.heap ∧ va_D A [(aM, .inr (10, [.ref aM_text, .int y0.2.1, .int y0.2.2.1, .ref aM_slips, .ref aM_lates, .ref aM_copies, .int y0.2.2.2.1, .int y0.2.2.2.2.1, .int y0.2.2.2.2.2.1, .int M_lot, .int y0.2.2.2.2.2.2.1, .ref aM_before, .ref aM_images, .ref aM_kept, .long M_trace, .int y0.2.2.2.2.2.2.2.1, .int y0.2.2.2.2.2.2.2.2.1, .int y0.2.2.2.2.2.2.2.2.2.1, .long y0.2.2.2.2.2.2.2.2.2.2.1, .int y0.2.2.2.2.2.2.2.2.2.2.2.1, .int y0.2.2.2.2.2.2.2.2.2.2.2.2.1, .ref aM_read, .long M_below])), (aM_text, .inl (cI, 200, .inl M_text)), (aM_slips, .inl (cI, 6, .inl y0.2.2.2.2.2.2.2.2.2.2.2.2.2.1)), (aM_lates, .inl (cI, 6, .inl y0.2.2.2.2.2.2.2.2.2.2.2.2.2.2.1)), (aM_copies, .inl (cI, 6, .inl y0.2.2.2.2.2.2.2.2.2.2.2.2.2.2.2.1)), (aM_kept, .inl (cZ, 2, .inl y0.2.2.2.2.2.2.2.2.2.2.2.2.2.2.2.2.1)), (aM_read, .inl (cI, 18, .inl y0.2.2.2.2.2.2.2.2.2.2.2.2.2.2.2.2.2))]) A) ([.ref aM] : List Value).toArray s 0 0 A) (F0 m 79 ls []) := by
    intro k21 hk21
    intro M_size M_many M_little M_in M_streak M_undos M_at M_begin M_kind M_value M_readMany M_readLittle M_slips M_lates M_copies M_kept M_read x1 H locs hP hD hS ls hl h
    unfold f_X10_children_L79 at h
    refine lv_iconst (v := (0 : Int32)) hx hb dX10_children_79 (by decide) ?_
    exact L80 k21 hk21 M_size M_many M_little M_in M_streak M_undos M_at M_begin M_kind M_value M_readMany M_readLittle M_slips M_lates M_copies M_kept M_read (0 : Int32) x1 _ _ hP hD hS ls (lv_sub hl [0, 1] rfl) h
  have L75 : ∀ (k21 : Int32 → Int32 → Int32 → Int32 → Int32 → Int32 → Int32 → Int32 → Int32 → Int64 → Int32 → Int32 → (Nat → Int32) → (Nat → Int32) → (Nat → Int32) → (Nat → Int32) → (Nat → Int32) → Int32 → Option (Int32 × Int32 × Int32 × Int32 × Int32 × Int32 × Int32 × Int32 × Int32 × Int32 × Int64 × Int32 × Int32 × (Nat → Int32) × (Nat → Int32) × (Nat → Int32) × (Nat → Int32) × (Nat → Int32))) (_ : ∀ (M_size : Int32) (M_many : Int32) (M_little : Int32) (M_in : Int32) (M_streak : Int32) (M_undos : Int32) (M_at : Int32) (M_begin : Int32) (M_kind : Int32) (M_value : Int64) (M_readMany : Int32) (M_readLittle : Int32) (M_slips : Nat → Int32) (M_lates : Nat → Int32) (M_copies : Nat → Int32) (M_kept : Nat → Int32) (M_read : Nat → Int32) (x1 : Int32), ∀ (H : Heap) (locs : List Loc), va_P D vwCl [(aM, .inr (10, [.ref aM_text, .int M_size, .int M_many, .ref aM_slips, .ref aM_lates, .ref aM_copies, .int M_little, .int M_in, .int M_streak, .int M_lot, .int M_undos, .ref aM_before, .ref aM_images, .ref aM_kept, .long M_trace, .int M_at, .int M_begin, .int M_kind, .long M_value, .int M_readMany, .int M_readLittle, .ref aM_read, .long M_below])), (aM_text, .inl (cI, 200, .inl M_text)), (aM_slips, .inl (cI, 6, .inl M_slips)), (aM_lates, .inl (cI, 6, .inl M_lates)), (aM_copies, .inl (cI, 6, .inl M_copies)), (aM_kept, .inl (cZ, 2, .inl M_kept)), (aM_read, .inl (cI, 18, .inl M_read))] H → va_D A [(aM, .inr (10, [.ref aM_text, .int M_size, .int M_many, .ref aM_slips, .ref aM_lates, .ref aM_copies, .int M_little, .int M_in, .int M_streak, .int M_lot, .int M_undos, .ref aM_before, .ref aM_images, .ref aM_kept, .long M_trace, .int M_at, .int M_begin, .int M_kind, .long M_value, .int M_readMany, .int M_readLittle, .ref aM_read, .long M_below])), (aM_text, .inl (cI, 200, .inl M_text)), (aM_slips, .inl (cI, 6, .inl M_slips)), (aM_lates, .inl (cI, 6, .inl M_lates)), (aM_copies, .inl (cI, 6, .inl M_copies)), (aM_kept, .inl (cZ, 2, .inl M_kept)), (aM_read, .inl (cI, 18, .inl M_read))] → va_S A s.heap H locs → ∀ (ls : Array Slot), lv_has ls 3 [(0, .ref aM), (1, .int x1)] → k21 M_size M_many M_little M_in M_streak M_undos M_at M_begin M_kind M_value M_readMany M_readLittle M_slips M_lates M_copies M_kept M_read x1 = some y0 → W p l e (headSpec wsX10_children ({ frames := 4, cells := 0, slots := 0, locals := 84 } : Room)).room s m ([.ref aM] : List Value).toArray below meth c H locs 0 0 (MQ below (va_Qi (fun (r : Int32) (_ : Unit) => r = y0.1) (fun (_ : Unit) t => va_P D vwCl [(aM, .inr (10, [.ref aM_text, .int y0.2.1, .int y0.2.2.1, .ref aM_slips, .ref aM_lates, .ref aM_copies, .int y0.2.2.2.1, .int y0.2.2.2.2.1, .int y0.2.2.2.2.2.1, .int M_lot, .int y0.2.2.2.2.2.2.1, .ref aM_before, .ref aM_images, .ref aM_kept, .long M_trace, .int y0.2.2.2.2.2.2.2.1, .int y0.2.2.2.2.2.2.2.2.1, .int y0.2.2.2.2.2.2.2.2.2.1, .long y0.2.2.2.2.2.2.2.2.2.2.1, .int y0.2.2.2.2.2.2.2.2.2.2.2.1, .int y0.2.2.2.2.2.2.2.2.2.2.2.2.1, .ref aM_read, .long M_below])), (aM_text, .inl (cI, 200, .inl M_text)), (aM_slips, .inl (cI, 6, .inl y0.2.2.2.2.2.2.2.2.2.2.2.2.2.1)), (aM_lates, .inl (cI, 6, .inl y0.2.2.2.2.2.2.2.2.2.2.2.2.2.2.1)), (aM_copies, .inl (cI, 6, .inl y0.2.2.2.2.2.2.2.2.2.2.2.2.2.2.2.1)), (aM_kept, .inl (cZ, 2, .inl y0.2.2.2.2.2.2.2.2.2.2.2.2.2.2.2.2.1)), (aM_read, .inl (cI, 18, .inl y0.2.2.2.2.2.2.2.2.2.2.2.2.2.2.2.2.2))] t.heap ∧ va_D A [(aM, .inr (10, [.ref aM_text, .int y0.2.1, .int y0.2.2.1, .ref aM_slips, .ref aM_lates, .ref aM_copies, .int y0.2.2.2.1, .int y0.2.2.2.2.1, .int y0.2.2.2.2.2.1, .int M_lot, .int y0.2.2.2.2.2.2.1, .ref aM_before, .ref aM_images, .ref aM_kept, .long M_trace, .int y0.2.2.2.2.2.2.2.1, .int y0.2.2.2.2.2.2.2.2.1, .int y0.2.2.2.2.2.2.2.2.2.1, .long y0.2.2.2.2.2.2.2.2.2.2.1, .int y0.2.2.2.2.2.2.2.2.2.2.2.1, .int y0.2.2.2.2.2.2.2.2.2.2.2.2.1, .ref aM_read, .long M_below])), (aM_text, .inl (cI, 200, .inl M_text)), (aM_slips, .inl (cI, 6, .inl y0.2.2.2.2.2.2.2.2.2.2.2.2.2.1)), (aM_lates, .inl (cI, 6, .inl y0.2.2.2.2.2.2.2.2.2.2.2.2.2.2.1)), (aM_copies, .inl (cI, 6, .inl y0.2.2.2.2.2.2.2.2.2.2.2.2.2.2.2.1)), (aM_kept, .inl (cZ, 2, .inl y0.2.2.2.2.2.2.2.2.2.2.2.2.2.2.2.2.1)), (aM_read, .inl (cI, 18, .inl y0.2.2.2.2.2.2.2.2.2.2.2.2.2.2.2.2.2))]) A) ([.ref aM] : List Value).toArray s 0 0 A) (F0 m 21 ls [])), ∀ (M_size : Int32) (M_many : Int32) (M_little : Int32) (M_in : Int32) (M_streak : Int32) (M_undos : Int32) (M_at : Int32) (M_begin : Int32) (M_kind : Int32) (M_value : Int64) (M_readMany : Int32) (M_readLittle : Int32) (M_slips : Nat → Int32) (M_lates : Nat → Int32) (M_copies : Nat → Int32) (M_kept : Nat → Int32) (M_read : Nat → Int32) (x1 : Int32), ∀ (H : Heap) (locs : List Loc), va_P D vwCl [(aM, .inr (10, [.ref aM_text, .int M_size, .int M_many, .ref aM_slips, .ref aM_lates, .ref aM_copies, .int M_little, .int M_in, .int M_streak, .int M_lot, .int M_undos, .ref aM_before, .ref aM_images, .ref aM_kept, .long M_trace, .int M_at, .int M_begin, .int M_kind, .long M_value, .int M_readMany, .int M_readLittle, .ref aM_read, .long M_below])), (aM_text, .inl (cI, 200, .inl M_text)), (aM_slips, .inl (cI, 6, .inl M_slips)), (aM_lates, .inl (cI, 6, .inl M_lates)), (aM_copies, .inl (cI, 6, .inl M_copies)), (aM_kept, .inl (cZ, 2, .inl M_kept)), (aM_read, .inl (cI, 18, .inl M_read))] H → va_D A [(aM, .inr (10, [.ref aM_text, .int M_size, .int M_many, .ref aM_slips, .ref aM_lates, .ref aM_copies, .int M_little, .int M_in, .int M_streak, .int M_lot, .int M_undos, .ref aM_before, .ref aM_images, .ref aM_kept, .long M_trace, .int M_at, .int M_begin, .int M_kind, .long M_value, .int M_readMany, .int M_readLittle, .ref aM_read, .long M_below])), (aM_text, .inl (cI, 200, .inl M_text)), (aM_slips, .inl (cI, 6, .inl M_slips)), (aM_lates, .inl (cI, 6, .inl M_lates)), (aM_copies, .inl (cI, 6, .inl M_copies)), (aM_kept, .inl (cZ, 2, .inl M_kept)), (aM_read, .inl (cI, 18, .inl M_read))] → va_S A s.heap H locs → ∀ (ls : Array Slot), lv_has ls 3 [(0, .ref aM), (1, .int x1)] → f_X10_children_L75 M_text k21 M_size M_many M_little M_in M_streak M_undos M_at M_begin M_kind M_value M_readMany M_readLittle M_slips M_lates M_copies M_kept M_read x1 = some y0 → W p l e (headSpec wsX10_children ({ frames := 4, cells := 0, slots := 0, locals := 84 } : Room)).room s m ([.ref aM] : List Value).toArray below meth c H locs 0 0 (MQ below (va_Qi (fun (r : Int32) (_ : Unit) => r = y0.1) (fun (_ : Unit) t => va_P D vwCl [(aM, .inr (10, [.ref aM_text, .int y0.2.1, .int y0.2.2.1, .ref aM_slips, .ref aM_lates, .ref aM_copies, .int y0.2.2.2.1, .int y0.2.2.2.2.1, .int y0.2.2.2.2.2.1, .int M_lot, .int y0.2.2.2.2.2.2.1, .ref aM_before, .ref aM_images, .ref aM_kept, .long M_trace, .int y0.2.2.2.2.2.2.2.1, .int y0.2.2.2.2.2.2.2.2.1, .int y0.2.2.2.2.2.2.2.2.2.1, .long y0.2.2.2.2.2.2.2.2.2.2.1, .int y0.2.2.2.2.2.2.2.2.2.2.2.1, .int y0.2.2.2.2.2.2.2.2.2.2.2.2.1, .ref aM_read, .long M_below])), (aM_text, .inl (cI, 200, .inl M_text)), (aM_slips, .inl (cI, 6, .inl y0.2.2.2.2.2.2.2.2.2.2.2.2.2.1)), (aM_lates, .inl (cI, 6, .inl y0.2.2.2.2.2.2.2.2.2.2.2.2.2.2.1)), (aM_copies, .inl (cI, 6, .inl y0.2.2.2.2.2.2.2.2.2.2.2.2.2.2.2.1)), (aM_kept, .inl (cZ, 2, .inl y0.2.2.2.2.2.2.2.2.2.2.2.2.2.2.2.2.1)), (aM_read, .inl (cI, 18, .inl y0.2.2.2.2.2.2.2.2.2.2.2.2.2.2.2.2.2))] t.heap ∧ va_D A [(aM, .inr (10, [.ref aM_text, .int y0.2.1, .int y0.2.2.1, .ref aM_slips, .ref aM_lates, .ref aM_copies, .int y0.2.2.2.1, .int y0.2.2.2.2.1, .int y0.2.2.2.2.2.1, .int M_lot, .int y0.2.2.2.2.2.2.1, .ref aM_before, .ref aM_images, .ref aM_kept, .long M_trace, .int y0.2.2.2.2.2.2.2.1, .int y0.2.2.2.2.2.2.2.2.1, .int y0.2.2.2.2.2.2.2.2.2.1, .long y0.2.2.2.2.2.2.2.2.2.2.1, .int y0.2.2.2.2.2.2.2.2.2.2.2.1, .int y0.2.2.2.2.2.2.2.2.2.2.2.2.1, .ref aM_read, .long M_below])), (aM_text, .inl (cI, 200, .inl M_text)), (aM_slips, .inl (cI, 6, .inl y0.2.2.2.2.2.2.2.2.2.2.2.2.2.1)), (aM_lates, .inl (cI, 6, .inl y0.2.2.2.2.2.2.2.2.2.2.2.2.2.2.1)), (aM_copies, .inl (cI, 6, .inl y0.2.2.2.2.2.2.2.2.2.2.2.2.2.2.2.1)), (aM_kept, .inl (cZ, 2, .inl y0.2.2.2.2.2.2.2.2.2.2.2.2.2.2.2.2.1)), (aM_read, .inl (cI, 18, .inl y0.2.2.2.2.2.2.2.2.2.2.2.2.2.2.2.2.2))]) A) ([.ref aM] : List Value).toArray s 0 0 A) (F0 m 75 ls []) := by
    intro k21 hk21
    intro M_size M_many M_little M_in M_streak M_undos M_at M_begin M_kind M_value M_readMany M_readLittle M_slips M_lates M_copies M_kept M_read x1 H locs hP hD hS ls hl h
    unfold f_X10_children_L75 at h
    refine lv_iconst (v := (1 : Int32)) hx hb dX10_children_75 (by decide) ?_
    refine lv_goto (tgt := 80) hx hb dX10_children_76 (by decide) ?_
    exact L80 k21 hk21 M_size M_many M_little M_in M_streak M_undos M_at M_begin M_kind M_value M_readMany M_readLittle M_slips M_lates M_copies M_kept M_read (1 : Int32) x1 _ _ hP hD hS ls (lv_sub hl [0, 1] rfl) h
  have L21 : ∀ (n : Nat), ∀ (M_size : Int32) (M_many : Int32) (M_little : Int32) (M_in : Int32) (M_streak : Int32) (M_undos : Int32) (M_at : Int32) (M_begin : Int32) (M_kind : Int32) (M_value : Int64) (M_readMany : Int32) (M_readLittle : Int32) (M_slips : Nat → Int32) (M_lates : Nat → Int32) (M_copies : Nat → Int32) (M_kept : Nat → Int32) (M_read : Nat → Int32) (x1 : Int32), ∀ (H : Heap) (locs : List Loc), va_P D vwCl [(aM, .inr (10, [.ref aM_text, .int M_size, .int M_many, .ref aM_slips, .ref aM_lates, .ref aM_copies, .int M_little, .int M_in, .int M_streak, .int M_lot, .int M_undos, .ref aM_before, .ref aM_images, .ref aM_kept, .long M_trace, .int M_at, .int M_begin, .int M_kind, .long M_value, .int M_readMany, .int M_readLittle, .ref aM_read, .long M_below])), (aM_text, .inl (cI, 200, .inl M_text)), (aM_slips, .inl (cI, 6, .inl M_slips)), (aM_lates, .inl (cI, 6, .inl M_lates)), (aM_copies, .inl (cI, 6, .inl M_copies)), (aM_kept, .inl (cZ, 2, .inl M_kept)), (aM_read, .inl (cI, 18, .inl M_read))] H → va_D A [(aM, .inr (10, [.ref aM_text, .int M_size, .int M_many, .ref aM_slips, .ref aM_lates, .ref aM_copies, .int M_little, .int M_in, .int M_streak, .int M_lot, .int M_undos, .ref aM_before, .ref aM_images, .ref aM_kept, .long M_trace, .int M_at, .int M_begin, .int M_kind, .long M_value, .int M_readMany, .int M_readLittle, .ref aM_read, .long M_below])), (aM_text, .inl (cI, 200, .inl M_text)), (aM_slips, .inl (cI, 6, .inl M_slips)), (aM_lates, .inl (cI, 6, .inl M_lates)), (aM_copies, .inl (cI, 6, .inl M_copies)), (aM_kept, .inl (cZ, 2, .inl M_kept)), (aM_read, .inl (cI, 18, .inl M_read))] → va_S A s.heap H locs → ∀ (ls : Array Slot), lv_has ls 3 [(0, .ref aM), (1, .int x1)] → f_X10_children_L21 M_text n M_size M_many M_little M_in M_streak M_undos M_at M_begin M_kind M_value M_readMany M_readLittle M_slips M_lates M_copies M_kept M_read x1 = some y0 → W p l e (headSpec wsX10_children ({ frames := 4, cells := 0, slots := 0, locals := 84 } : Room)).room s m ([.ref aM] : List Value).toArray below meth c H locs 0 0 (MQ below (va_Qi (fun (r : Int32) (_ : Unit) => r = y0.1) (fun (_ : Unit) t => va_P D vwCl [(aM, .inr (10, [.ref aM_text, .int y0.2.1, .int y0.2.2.1, .ref aM_slips, .ref aM_lates, .ref aM_copies, .int y0.2.2.2.1, .int y0.2.2.2.2.1, .int y0.2.2.2.2.2.1, .int M_lot, .int y0.2.2.2.2.2.2.1, .ref aM_before, .ref aM_images, .ref aM_kept, .long M_trace, .int y0.2.2.2.2.2.2.2.1, .int y0.2.2.2.2.2.2.2.2.1, .int y0.2.2.2.2.2.2.2.2.2.1, .long y0.2.2.2.2.2.2.2.2.2.2.1, .int y0.2.2.2.2.2.2.2.2.2.2.2.1, .int y0.2.2.2.2.2.2.2.2.2.2.2.2.1, .ref aM_read, .long M_below])), (aM_text, .inl (cI, 200, .inl M_text)), (aM_slips, .inl (cI, 6, .inl y0.2.2.2.2.2.2.2.2.2.2.2.2.2.1)), (aM_lates, .inl (cI, 6, .inl y0.2.2.2.2.2.2.2.2.2.2.2.2.2.2.1)), (aM_copies, .inl (cI, 6, .inl y0.2.2.2.2.2.2.2.2.2.2.2.2.2.2.2.1)), (aM_kept, .inl (cZ, 2, .inl y0.2.2.2.2.2.2.2.2.2.2.2.2.2.2.2.2.1)), (aM_read, .inl (cI, 18, .inl y0.2.2.2.2.2.2.2.2.2.2.2.2.2.2.2.2.2))] t.heap ∧ va_D A [(aM, .inr (10, [.ref aM_text, .int y0.2.1, .int y0.2.2.1, .ref aM_slips, .ref aM_lates, .ref aM_copies, .int y0.2.2.2.1, .int y0.2.2.2.2.1, .int y0.2.2.2.2.2.1, .int M_lot, .int y0.2.2.2.2.2.2.1, .ref aM_before, .ref aM_images, .ref aM_kept, .long M_trace, .int y0.2.2.2.2.2.2.2.1, .int y0.2.2.2.2.2.2.2.2.1, .int y0.2.2.2.2.2.2.2.2.2.1, .long y0.2.2.2.2.2.2.2.2.2.2.1, .int y0.2.2.2.2.2.2.2.2.2.2.2.1, .int y0.2.2.2.2.2.2.2.2.2.2.2.2.1, .ref aM_read, .long M_below])), (aM_text, .inl (cI, 200, .inl M_text)), (aM_slips, .inl (cI, 6, .inl y0.2.2.2.2.2.2.2.2.2.2.2.2.2.1)), (aM_lates, .inl (cI, 6, .inl y0.2.2.2.2.2.2.2.2.2.2.2.2.2.2.1)), (aM_copies, .inl (cI, 6, .inl y0.2.2.2.2.2.2.2.2.2.2.2.2.2.2.2.1)), (aM_kept, .inl (cZ, 2, .inl y0.2.2.2.2.2.2.2.2.2.2.2.2.2.2.2.2.1)), (aM_read, .inl (cI, 18, .inl y0.2.2.2.2.2.2.2.2.2.2.2.2.2.2.2.2.2))]) A) ([.ref aM] : List Value).toArray s 0 0 A) (F0 m 21 ls []) := by
    intro n
    induction n with
    | zero =>
      intro M_size M_many M_little M_in M_streak M_undos M_at M_begin M_kind M_value M_readMany M_readLittle M_slips M_lates M_copies M_kept M_read x1 H locs hP hD hS ls hl h
      exact (ns h).elim
    | succ n ih =>
      intro M_size M_many M_little M_in M_streak M_undos M_at M_begin M_kind M_value M_readMany M_readLittle M_slips M_lates M_copies M_kept M_read x1 H locs hP hD hS ls hl h
      unfold f_X10_children_L21 at h
      refine lv_aload_n hx hb dX10_children_21 rfl (lv_at hl 0 rfl) ?_
      refine va_get (D := D) (ci := 10) (v := .int M_kind) (C := RX10) (T := TX10) (N := 23) hx hb hts inX10 hown hK hP 0 rfl rfl 17 (by decide) fl_72 (fun _ h9 => h9) rfl dX10_children_22 ?_
      refine lv_if_eq (tgt := 103) hx hb dX10_children_25 (by decide) (fun c_2 => ?_) (fun c_2 => ?_)
      · replace h := if_p c_2 h
        refine lv_aload_n hx hb dX10_children_103 rfl (lv_at hl 0 rfl) ?_
        refine lv_aload_n hx hb dX10_children_104 rfl (lv_at hl 0 rfl) ?_
        refine va_get (D := D) (ci := 10) (v := .int M_readMany) (C := RX10) (T := TX10) (N := 23) hx hb hts inX10 hown hK hP 0 rfl rfl 19 (by decide) fl_90 (fun _ h9 => h9) rfl dX10_children_105 ?_
        refine va_put (D := D) (ci := 10) (v := .int M_readMany) (ty := .int) (C := RX10) (T := TX10) (N := 23) hx hb hts inX10 tyX10 tyX10_ok nmX10 hown hK hP hD hS 0 rfl rfl 2 (by decide) fl_39 (fun _ h9 => h9) rfl (by decide +kernel) rfl rfl (Nat.le_of_ble_eq_true rfl) dX10_children_108 (fun H locs hP hD hS => ?_)
        have hP : va_P D vwCl [(aM, .inr (10, [.ref aM_text, .int M_size, .int M_readMany, .ref aM_slips, .ref aM_lates, .ref aM_copies, .int M_little, .int M_in, .int M_streak, .int M_lot, .int M_undos, .ref aM_before, .ref aM_images, .ref aM_kept, .long M_trace, .int M_at, .int M_begin, .int M_kind, .long M_value, .int M_readMany, .int M_readLittle, .ref aM_read, .long M_below])), (aM_text, .inl (cI, 200, .inl M_text)), (aM_slips, .inl (cI, 6, .inl M_slips)), (aM_lates, .inl (cI, 6, .inl M_lates)), (aM_copies, .inl (cI, 6, .inl M_copies)), (aM_kept, .inl (cZ, 2, .inl M_kept)), (aM_read, .inl (cI, 18, .inl M_read))] H := hP
        have hD : va_D A [(aM, .inr (10, [.ref aM_text, .int M_size, .int M_readMany, .ref aM_slips, .ref aM_lates, .ref aM_copies, .int M_little, .int M_in, .int M_streak, .int M_lot, .int M_undos, .ref aM_before, .ref aM_images, .ref aM_kept, .long M_trace, .int M_at, .int M_begin, .int M_kind, .long M_value, .int M_readMany, .int M_readLittle, .ref aM_read, .long M_below])), (aM_text, .inl (cI, 200, .inl M_text)), (aM_slips, .inl (cI, 6, .inl M_slips)), (aM_lates, .inl (cI, 6, .inl M_lates)), (aM_copies, .inl (cI, 6, .inl M_copies)), (aM_kept, .inl (cZ, 2, .inl M_kept)), (aM_read, .inl (cI, 18, .inl M_read))] := hD
        refine lv_iconst (v := (0 : Int32)) hx hb dX10_children_111 (by decide) ?_
        refine lv_istore_n (lv' := [(2, .int (0 : Int32)), (0, .ref aM), (1, .int x1)]) hx hb dX10_children_112 rfl hl (by decide) rfl (fun ls hl => ?_)
        exact L113 300 M_size M_readMany M_little M_in M_streak M_undos M_at M_begin M_kind M_value M_readMany M_readLittle M_slips M_lates M_copies M_kept M_read x1 (0 : Int32) _ _ hP hD hS ls (lv_sub hl [1, 2, 0] rfl) h
      · replace h := if_n c_2 h
        refine lv_aload_n hx hb dX10_children_28 rfl (lv_at hl 0 rfl) ?_
        refine va_get (D := D) (ci := 10) (v := .int M_kind) (C := RX10) (T := TX10) (N := 23) hx hb hts inX10 hown hK hP 0 rfl rfl 17 (by decide) fl_72 (fun _ h9 => h9) rfl dX10_children_29 ?_
        refine lv_iconst (v := (1 : Int32)) hx hb dX10_children_32 (by decide) ?_
        refine lv_icmp_ne (tgt := 79) hx hb dX10_children_33 (by decide) (fun c_3 => ?_) (fun c_3 => ?_)
        · replace h := if_n c_3 h
          exact L79 (f_X10_children_L21 M_text n) ih M_size M_many M_little M_in M_streak M_undos M_at M_begin M_kind M_value M_readMany M_readLittle M_slips M_lates M_copies M_kept M_read x1 _ _ hP hD hS ls (lv_sub hl [0, 1] rfl) h
        · replace h := if_p c_3 h
          refine lv_aload_n hx hb dX10_children_36 rfl (lv_at hl 0 rfl) ?_
          refine va_get (D := D) (ci := 10) (v := .long M_value) (C := RX10) (T := TX10) (N := 23) hx hb hts inX10 hown hK hP 0 rfl rfl 18 (by decide) fl_61 (fun _ h9 => h9) rfl dX10_children_37 ?_
          refine lv_ldc2 (v := (3417476 : Int64)) hx hb hown cst_106 dX10_children_40 ?_
          refine W.lcmp hx hb dX10_children_43 ?_
          refine lv_if_ne (tgt := 57) hx hb dX10_children_44 (by decide) (fun c_4 => ?_) (fun c_4 => ?_)
          · replace h := if_n c_4 h
            refine lv_aload_n hx hb dX10_children_57 rfl (lv_at hl 0 rfl) ?_
            refine va_get (D := D) (ci := 10) (v := .long M_value) (C := RX10) (T := TX10) (N := 23) hx hb hts inX10 hown hK hP 0 rfl rfl 18 (by decide) fl_61 (fun _ h9 => h9) rfl dX10_children_58 ?_
            refine lv_ldc2 (v := (412766597 : Int64)) hx hb hown cst_111 dX10_children_61 ?_
            refine W.lcmp hx hb dX10_children_64 ?_
            refine lv_if_ne (tgt := 79) hx hb dX10_children_65 (by decide) (fun c_5 => ?_) (fun c_5 => ?_)
            · replace h := if_n c_5 h
              exact L79 (f_X10_children_L21 M_text n) ih M_size M_many M_little M_in M_streak M_undos M_at M_begin M_kind M_value M_readMany M_readLittle M_slips M_lates M_copies M_kept M_read x1 _ _ hP hD hS ls (lv_sub hl [0, 1] rfl) h
            · replace h := if_p c_5 h
              refine lv_aload_n hx hb dX10_children_68 rfl (lv_at hl 0 rfl) ?_
              obtain ⟨y6, qy6, h⟩ := ob_some h
              have hPc : va_P D vwCl [(aM, .inr (10, [.ref aM_text, .int M_size, .int M_many, .ref aM_slips, .ref aM_lates, .ref aM_copies, .int M_little, .int M_in, .int M_streak, .int M_lot, .int M_undos, .ref aM_before, .ref aM_images, .ref aM_kept, .long M_trace, .int M_at, .int M_begin, .int M_kind, .long M_value, .int M_readMany, .int M_readLittle, .ref aM_read, .long M_below])), (aM_text, .inl (cI, 200, .inl M_text))] H := hP.sub [0, 1] rfl
              have hDc : va_D A [(aM, .inr (10, [.ref aM_text, .int M_size, .int M_many, .ref aM_slips, .ref aM_lates, .ref aM_copies, .int M_little, .int M_in, .int M_streak, .int M_lot, .int M_undos, .ref aM_before, .ref aM_images, .ref aM_kept, .long M_trace, .int M_at, .int M_begin, .int M_kind, .long M_value, .int M_readMany, .int M_readLittle, .ref aM_read, .long M_below])), (aM_text, .inl (cI, 200, .inl M_text))] := hD.sub [0, 1] (by decide) rfl
              have hFc := va_free (wc := [(aM, .inr (10, [.ref aM_text, .int M_size, .int M_many, .ref aM_slips, .ref aM_lates, .ref aM_copies, .int M_little, .int M_in, .int M_streak, .int M_lot, .int M_undos, .ref aM_before, .ref aM_images, .ref aM_kept, .long M_trace, .int M_at, .int M_begin, .int M_kind, .long M_value, .int M_readMany, .int M_readLittle, .ref aM_read, .long M_below])), (aM_text, .inl (cI, 200, .inl M_text))]) hD hS hA [0, 1] rfl
              refine va_calli (va_runV (As := []) (rest := []) ⟨hx, hb, hml, hown, hts⟩ (c_X10_takesLittle l D cI cJ cZ cO aM aM_text aM_slips aM_lates aM_copies aM_before aM_images aM_kept aM_read M_size M_many M_little M_in M_streak M_lot M_undos M_trace M_at M_begin M_kind M_value M_readMany M_readLittle M_below M_text H.size y6 qy6) (cwV 0 hts gX10_children_X10_takesLittle rfl rfl rfl (by decide +kernel) ⟨Nat.le_of_ble_eq_true rfl, Nat.le_of_ble_eq_true rfl⟩) ⟨fb_i, va_recv hK hP (ci := 10) (q0 := 0) rfl rfl, fun U hU hW => ⟨rfl, by rw [hU], by rw [hU]; exact hPc, KK.warm hW hKK, hDc.weaken (fun _ _ _ _ => trivial)⟩⟩ rfl rfl hl.1 rfl (lv_room (Nat.le_of_ble_eq_true rfl)) dX10_children_69 ⟨Nat.le_of_ble_eq_true rfl, Nat.le_of_ble_eq_true rfl⟩) hS (fun q _ h => hFc q h) hFc (fun r u t H1 locs ht hvm hw hB hz1 hk1 hS => ?_)
              obtain ⟨hP1, hD1⟩ := hB
              rw [ht] at hP1
              obtain ⟨hw, hz7⟩ := hw
              replace hw := hw.symm
              subst hw
              obtain ⟨hP, hD⟩ := va_join (wr := [(aM_slips, .inl (cI, 6, .inl M_slips)), (aM_lates, .inl (cI, 6, .inl M_lates)), (aM_copies, .inl (cI, 6, .inl M_copies)), (aM_kept, .inl (cZ, 2, .inl M_kept)), (aM_read, .inl (cI, 18, .inl M_read))]) (w1 := [(aM, .inr (10, [.ref aM_text, .int M_size, .int M_many, .ref aM_slips, .ref aM_lates, .ref aM_copies, .int M_little, .int M_in, .int M_streak, .int M_lot, .int M_undos, .ref aM_before, .ref aM_images, .ref aM_kept, .long M_trace, .int y6.2.1, .int y6.2.2.1, .int y6.2.2.2.1, .long y6.2.2.2.2.1, .int M_readMany, .int y6.2.2.2.2.2, .ref aM_read, .long M_below])), (aM_text, .inl (cI, 200, .inl M_text))]) hP hD [0, 1] [2, 3, 4, 5, 6] rfl rfl (by decide) (by decide) hk1 hFc hP1 hD1
              generalize H1 = H at hP hS ⊢
              have hP : va_P D vwCl [(aM, .inr (10, [.ref aM_text, .int M_size, .int M_many, .ref aM_slips, .ref aM_lates, .ref aM_copies, .int M_little, .int M_in, .int M_streak, .int M_lot, .int M_undos, .ref aM_before, .ref aM_images, .ref aM_kept, .long M_trace, .int y6.2.1, .int y6.2.2.1, .int y6.2.2.2.1, .long y6.2.2.2.2.1, .int M_readMany, .int y6.2.2.2.2.2, .ref aM_read, .long M_below])), (aM_text, .inl (cI, 200, .inl M_text)), (aM_slips, .inl (cI, 6, .inl M_slips)), (aM_lates, .inl (cI, 6, .inl M_lates)), (aM_copies, .inl (cI, 6, .inl M_copies)), (aM_kept, .inl (cZ, 2, .inl M_kept)), (aM_read, .inl (cI, 18, .inl M_read))] H := hP.sub [5, 6, 0, 1, 2, 3, 4] rfl
              have hD : va_D A [(aM, .inr (10, [.ref aM_text, .int M_size, .int M_many, .ref aM_slips, .ref aM_lates, .ref aM_copies, .int M_little, .int M_in, .int M_streak, .int M_lot, .int M_undos, .ref aM_before, .ref aM_images, .ref aM_kept, .long M_trace, .int y6.2.1, .int y6.2.2.1, .int y6.2.2.2.1, .long y6.2.2.2.2.1, .int M_readMany, .int y6.2.2.2.2.2, .ref aM_read, .long M_below])), (aM_text, .inl (cI, 200, .inl M_text)), (aM_slips, .inl (cI, 6, .inl M_slips)), (aM_lates, .inl (cI, 6, .inl M_lates)), (aM_copies, .inl (cI, 6, .inl M_copies)), (aM_kept, .inl (cZ, 2, .inl M_kept)), (aM_read, .inl (cI, 18, .inl M_read))] := hD.sub [5, 6, 0, 1, 2, 3, 4] (by decide) rfl
              refine lv_if_eq (tgt := 79) hx hb dX10_children_72 (by decide) (fun c_8 => ?_) (fun c_8 => ?_)
              · replace h := if_p c_8 h
                exact L79 (f_X10_children_L21 M_text n) ih M_size M_many M_little M_in M_streak M_undos y6.2.1 y6.2.2.1 y6.2.2.2.1 y6.2.2.2.2.1 M_readMany y6.2.2.2.2.2 M_slips M_lates M_copies M_kept M_read x1 _ _ hP hD hS ls (lv_sub hl [0, 1] rfl) h
              · replace h := if_n c_8 h
                exact L75 (f_X10_children_L21 M_text n) ih M_size M_many M_little M_in M_streak M_undos y6.2.1 y6.2.2.1 y6.2.2.2.1 y6.2.2.2.2.1 M_readMany y6.2.2.2.2.2 M_slips M_lates M_copies M_kept M_read x1 _ _ hP hD hS ls (lv_sub hl [0, 1] rfl) h
          · replace h := if_p c_4 h
            refine lv_aload_n hx hb dX10_children_47 rfl (lv_at hl 0 rfl) ?_
            obtain ⟨y9, qy9, h⟩ := ob_some h
            have hPc : va_P D vwCl [(aM, .inr (10, [.ref aM_text, .int M_size, .int M_many, .ref aM_slips, .ref aM_lates, .ref aM_copies, .int M_little, .int M_in, .int M_streak, .int M_lot, .int M_undos, .ref aM_before, .ref aM_images, .ref aM_kept, .long M_trace, .int M_at, .int M_begin, .int M_kind, .long M_value, .int M_readMany, .int M_readLittle, .ref aM_read, .long M_below])), (aM_text, .inl (cI, 200, .inl M_text)), (aM_read, .inl (cI, 18, .inl M_read))] H := hP.sub [0, 1, 6] rfl
            have hDc : va_D A [(aM, .inr (10, [.ref aM_text, .int M_size, .int M_many, .ref aM_slips, .ref aM_lates, .ref aM_copies, .int M_little, .int M_in, .int M_streak, .int M_lot, .int M_undos, .ref aM_before, .ref aM_images, .ref aM_kept, .long M_trace, .int M_at, .int M_begin, .int M_kind, .long M_value, .int M_readMany, .int M_readLittle, .ref aM_read, .long M_below])), (aM_text, .inl (cI, 200, .inl M_text)), (aM_read, .inl (cI, 18, .inl M_read))] := hD.sub [0, 1, 6] (by decide) rfl
            have hFc := va_free (wc := [(aM, .inr (10, [.ref aM_text, .int M_size, .int M_many, .ref aM_slips, .ref aM_lates, .ref aM_copies, .int M_little, .int M_in, .int M_streak, .int M_lot, .int M_undos, .ref aM_before, .ref aM_images, .ref aM_kept, .long M_trace, .int M_at, .int M_begin, .int M_kind, .long M_value, .int M_readMany, .int M_readLittle, .ref aM_read, .long M_below])), (aM_text, .inl (cI, 200, .inl M_text)), (aM_read, .inl (cI, 18, .inl M_read))]) hD hS hA [0, 1, 6] rfl
            refine va_calli (va_runV (As := []) (rest := []) ⟨hx, hb, hml, hown, hts⟩ (c_X10_takesChild l D cI cJ cZ cO aM aM_text aM_read aM_slips aM_lates aM_copies aM_before aM_images aM_kept M_size M_many M_little M_in M_streak M_lot M_undos M_trace M_at M_begin M_kind M_value M_readMany M_readLittle M_below M_text M_read H.size y9 qy9) (cwV 0 hts gX10_children_X10_takesChild rfl rfl rfl (by decide +kernel) ⟨Nat.le_of_ble_eq_true rfl, Nat.le_of_ble_eq_true rfl⟩) ⟨fb_i, va_recv hK hP (ci := 10) (q0 := 0) rfl rfl, fun U hU hW => ⟨rfl, by rw [hU], by rw [hU]; exact hPc, KK.warm hW hKK, hDc.weaken (fun _ _ _ _ => trivial)⟩⟩ rfl rfl hl.1 rfl (lv_room (Nat.le_of_ble_eq_true rfl)) dX10_children_48 ⟨Nat.le_of_ble_eq_true rfl, Nat.le_of_ble_eq_true rfl⟩) hS (fun q _ h => hFc q h) hFc (fun r u t H1 locs ht hvm hw hB hz1 hk1 hS => ?_)
            obtain ⟨hP1, hD1⟩ := hB
            rw [ht] at hP1
            obtain ⟨hw, hz10⟩ := hw
            replace hw := hw.symm
            subst hw
            obtain ⟨hP, hD⟩ := va_join (wr := [(aM_slips, .inl (cI, 6, .inl M_slips)), (aM_lates, .inl (cI, 6, .inl M_lates)), (aM_copies, .inl (cI, 6, .inl M_copies)), (aM_kept, .inl (cZ, 2, .inl M_kept))]) (w1 := [(aM, .inr (10, [.ref aM_text, .int M_size, .int M_many, .ref aM_slips, .ref aM_lates, .ref aM_copies, .int M_little, .int M_in, .int M_streak, .int M_lot, .int M_undos, .ref aM_before, .ref aM_images, .ref aM_kept, .long M_trace, .int y9.2.1, .int y9.2.2.1, .int y9.2.2.2.1, .long y9.2.2.2.2.1, .int y9.2.2.2.2.2.1, .int M_readLittle, .ref aM_read, .long M_below])), (aM_text, .inl (cI, 200, .inl M_text)), (aM_read, .inl (cI, 18, .inl y9.2.2.2.2.2.2))]) hP hD [0, 1, 6] [2, 3, 4, 5] rfl rfl (by decide) (by decide) hk1 hFc hP1 hD1
            generalize H1 = H at hP hS ⊢
            have hP : va_P D vwCl [(aM, .inr (10, [.ref aM_text, .int M_size, .int M_many, .ref aM_slips, .ref aM_lates, .ref aM_copies, .int M_little, .int M_in, .int M_streak, .int M_lot, .int M_undos, .ref aM_before, .ref aM_images, .ref aM_kept, .long M_trace, .int y9.2.1, .int y9.2.2.1, .int y9.2.2.2.1, .long y9.2.2.2.2.1, .int y9.2.2.2.2.2.1, .int M_readLittle, .ref aM_read, .long M_below])), (aM_text, .inl (cI, 200, .inl M_text)), (aM_slips, .inl (cI, 6, .inl M_slips)), (aM_lates, .inl (cI, 6, .inl M_lates)), (aM_copies, .inl (cI, 6, .inl M_copies)), (aM_kept, .inl (cZ, 2, .inl M_kept)), (aM_read, .inl (cI, 18, .inl y9.2.2.2.2.2.2))] H := hP.sub [4, 5, 0, 1, 2, 3, 6] rfl
            have hD : va_D A [(aM, .inr (10, [.ref aM_text, .int M_size, .int M_many, .ref aM_slips, .ref aM_lates, .ref aM_copies, .int M_little, .int M_in, .int M_streak, .int M_lot, .int M_undos, .ref aM_before, .ref aM_images, .ref aM_kept, .long M_trace, .int y9.2.1, .int y9.2.2.1, .int y9.2.2.2.1, .long y9.2.2.2.2.1, .int y9.2.2.2.2.2.1, .int M_readLittle, .ref aM_read, .long M_below])), (aM_text, .inl (cI, 200, .inl M_text)), (aM_slips, .inl (cI, 6, .inl M_slips)), (aM_lates, .inl (cI, 6, .inl M_lates)), (aM_copies, .inl (cI, 6, .inl M_copies)), (aM_kept, .inl (cZ, 2, .inl M_kept)), (aM_read, .inl (cI, 18, .inl y9.2.2.2.2.2.2))] := hD.sub [4, 5, 0, 1, 2, 3, 6] (by decide) rfl
            refine lv_if_eq (tgt := 79) hx hb dX10_children_51 (by decide) (fun c_11 => ?_) (fun c_11 => ?_)
            · replace h := if_p c_11 h
              exact L79 (f_X10_children_L21 M_text n) ih M_size M_many M_little M_in M_streak M_undos y9.2.1 y9.2.2.1 y9.2.2.2.1 y9.2.2.2.2.1 y9.2.2.2.2.2.1 M_readLittle M_slips M_lates M_copies M_kept y9.2.2.2.2.2.2 x1 _ _ hP hD hS ls (lv_sub hl [0, 1] rfl) h
            · replace h := if_n c_11 h
              refine lv_goto (tgt := 75) hx hb dX10_children_54 (by decide) ?_
              exact L75 (f_X10_children_L21 M_text n) ih M_size M_many M_little M_in M_streak M_undos y9.2.1 y9.2.2.1 y9.2.2.2.1 y9.2.2.2.2.1 y9.2.2.2.2.2.1 M_readLittle M_slips M_lates M_copies M_kept y9.2.2.2.2.2.2 x1 _ _ hP hD hS ls (lv_sub hl [0, 1] rfl) h
  unfold f_X10_children at h
  refine lv_aload_n hx hb dX10_children_0 rfl (lv_at hl 0 rfl) ?_
  refine lv_iconst (v := (0 : Int32)) hx hb dX10_children_1 (by decide) ?_
  refine va_put (D := D) (ci := 10) (v := .int (0 : Int32)) (ty := .int) (C := RX10) (T := TX10) (N := 23) hx hb hts inX10 tyX10 tyX10_ok nmX10 hown hK hP hD hS 0 rfl rfl 15 (by decide) fl_55 (fun _ h9 => h9) rfl (by decide +kernel) rfl rfl (Nat.le_of_ble_eq_true rfl) dX10_children_2 (fun H locs hP hD hS => ?_)
  have hP : va_P D vwCl [(aM, .inr (10, [.ref aM_text, .int M_size, .int M_many, .ref aM_slips, .ref aM_lates, .ref aM_copies, .int M_little, .int M_in, .int M_streak, .int M_lot, .int M_undos, .ref aM_before, .ref aM_images, .ref aM_kept, .long M_trace, .int (0 : Int32), .int M_begin, .int M_kind, .long M_value, .int M_readMany, .int M_readLittle, .ref aM_read, .long M_below])), (aM_text, .inl (cI, 200, .inl M_text)), (aM_slips, .inl (cI, 6, .inl M_slips)), (aM_lates, .inl (cI, 6, .inl M_lates)), (aM_copies, .inl (cI, 6, .inl M_copies)), (aM_kept, .inl (cZ, 2, .inl M_kept)), (aM_read, .inl (cI, 18, .inl M_read))] H := hP
  have hD : va_D A [(aM, .inr (10, [.ref aM_text, .int M_size, .int M_many, .ref aM_slips, .ref aM_lates, .ref aM_copies, .int M_little, .int M_in, .int M_streak, .int M_lot, .int M_undos, .ref aM_before, .ref aM_images, .ref aM_kept, .long M_trace, .int (0 : Int32), .int M_begin, .int M_kind, .long M_value, .int M_readMany, .int M_readLittle, .ref aM_read, .long M_below])), (aM_text, .inl (cI, 200, .inl M_text)), (aM_slips, .inl (cI, 6, .inl M_slips)), (aM_lates, .inl (cI, 6, .inl M_lates)), (aM_copies, .inl (cI, 6, .inl M_copies)), (aM_kept, .inl (cZ, 2, .inl M_kept)), (aM_read, .inl (cI, 18, .inl M_read))] := hD
  refine lv_aload_n hx hb dX10_children_5 rfl (lv_at hl 0 rfl) ?_
  refine lv_iconst (v := (0 : Int32)) hx hb dX10_children_6 (by decide) ?_
  refine va_put (D := D) (ci := 10) (v := .int (0 : Int32)) (ty := .int) (C := RX10) (T := TX10) (N := 23) hx hb hts inX10 tyX10 tyX10_ok nmX10 hown hK hP hD hS 0 rfl rfl 19 (by decide) fl_90 (fun _ h9 => h9) rfl (by decide +kernel) rfl rfl (Nat.le_of_ble_eq_true rfl) dX10_children_7 (fun H locs hP hD hS => ?_)
  have hP : va_P D vwCl [(aM, .inr (10, [.ref aM_text, .int M_size, .int M_many, .ref aM_slips, .ref aM_lates, .ref aM_copies, .int M_little, .int M_in, .int M_streak, .int M_lot, .int M_undos, .ref aM_before, .ref aM_images, .ref aM_kept, .long M_trace, .int (0 : Int32), .int M_begin, .int M_kind, .long M_value, .int (0 : Int32), .int M_readLittle, .ref aM_read, .long M_below])), (aM_text, .inl (cI, 200, .inl M_text)), (aM_slips, .inl (cI, 6, .inl M_slips)), (aM_lates, .inl (cI, 6, .inl M_lates)), (aM_copies, .inl (cI, 6, .inl M_copies)), (aM_kept, .inl (cZ, 2, .inl M_kept)), (aM_read, .inl (cI, 18, .inl M_read))] H := hP
  have hD : va_D A [(aM, .inr (10, [.ref aM_text, .int M_size, .int M_many, .ref aM_slips, .ref aM_lates, .ref aM_copies, .int M_little, .int M_in, .int M_streak, .int M_lot, .int M_undos, .ref aM_before, .ref aM_images, .ref aM_kept, .long M_trace, .int (0 : Int32), .int M_begin, .int M_kind, .long M_value, .int (0 : Int32), .int M_readLittle, .ref aM_read, .long M_below])), (aM_text, .inl (cI, 200, .inl M_text)), (aM_slips, .inl (cI, 6, .inl M_slips)), (aM_lates, .inl (cI, 6, .inl M_lates)), (aM_copies, .inl (cI, 6, .inl M_copies)), (aM_kept, .inl (cZ, 2, .inl M_kept)), (aM_read, .inl (cI, 18, .inl M_read))] := hD
  refine lv_aload_n hx hb dX10_children_10 rfl (lv_at hl 0 rfl) ?_
  refine lv_iconst (v := (0 : Int32)) hx hb dX10_children_11 (by decide) ?_
  refine va_put (D := D) (ci := 10) (v := .int (0 : Int32)) (ty := .int) (C := RX10) (T := TX10) (N := 23) hx hb hts inX10 tyX10 tyX10_ok nmX10 hown hK hP hD hS 0 rfl rfl 20 (by decide) fl_103 (fun _ h9 => h9) rfl (by decide +kernel) rfl rfl (Nat.le_of_ble_eq_true rfl) dX10_children_12 (fun H locs hP hD hS => ?_)
  have hP : va_P D vwCl [(aM, .inr (10, [.ref aM_text, .int M_size, .int M_many, .ref aM_slips, .ref aM_lates, .ref aM_copies, .int M_little, .int M_in, .int M_streak, .int M_lot, .int M_undos, .ref aM_before, .ref aM_images, .ref aM_kept, .long M_trace, .int (0 : Int32), .int M_begin, .int M_kind, .long M_value, .int (0 : Int32), .int (0 : Int32), .ref aM_read, .long M_below])), (aM_text, .inl (cI, 200, .inl M_text)), (aM_slips, .inl (cI, 6, .inl M_slips)), (aM_lates, .inl (cI, 6, .inl M_lates)), (aM_copies, .inl (cI, 6, .inl M_copies)), (aM_kept, .inl (cZ, 2, .inl M_kept)), (aM_read, .inl (cI, 18, .inl M_read))] H := hP
  have hD : va_D A [(aM, .inr (10, [.ref aM_text, .int M_size, .int M_many, .ref aM_slips, .ref aM_lates, .ref aM_copies, .int M_little, .int M_in, .int M_streak, .int M_lot, .int M_undos, .ref aM_before, .ref aM_images, .ref aM_kept, .long M_trace, .int (0 : Int32), .int M_begin, .int M_kind, .long M_value, .int (0 : Int32), .int (0 : Int32), .ref aM_read, .long M_below])), (aM_text, .inl (cI, 200, .inl M_text)), (aM_slips, .inl (cI, 6, .inl M_slips)), (aM_lates, .inl (cI, 6, .inl M_lates)), (aM_copies, .inl (cI, 6, .inl M_copies)), (aM_kept, .inl (cZ, 2, .inl M_kept)), (aM_read, .inl (cI, 18, .inl M_read))] := hD
  refine lv_iconst (v := (0 : Int32)) hx hb dX10_children_15 (by decide) ?_
  refine lv_istore_n (lv' := [(1, .int (0 : Int32)), (0, .ref aM)]) hx hb dX10_children_16 rfl hl (by decide) rfl (fun ls hl => ?_)
  refine lv_aload_n hx hb dX10_children_17 rfl (lv_at hl 1 rfl) ?_
  obtain ⟨y1, qy1, h⟩ := ob_some h
  have hPc : va_P D vwCl [(aM, .inr (10, [.ref aM_text, .int M_size, .int M_many, .ref aM_slips, .ref aM_lates, .ref aM_copies, .int M_little, .int M_in, .int M_streak, .int M_lot, .int M_undos, .ref aM_before, .ref aM_images, .ref aM_kept, .long M_trace, .int (0 : Int32), .int M_begin, .int M_kind, .long M_value, .int (0 : Int32), .int (0 : Int32), .ref aM_read, .long M_below])), (aM_text, .inl (cI, 200, .inl M_text))] H := hP.sub [0, 1] rfl
  have hDc : va_D A [(aM, .inr (10, [.ref aM_text, .int M_size, .int M_many, .ref aM_slips, .ref aM_lates, .ref aM_copies, .int M_little, .int M_in, .int M_streak, .int M_lot, .int M_undos, .ref aM_before, .ref aM_images, .ref aM_kept, .long M_trace, .int (0 : Int32), .int M_begin, .int M_kind, .long M_value, .int (0 : Int32), .int (0 : Int32), .ref aM_read, .long M_below])), (aM_text, .inl (cI, 200, .inl M_text))] := hD.sub [0, 1] (by decide) rfl
  have hFc := va_free (wc := [(aM, .inr (10, [.ref aM_text, .int M_size, .int M_many, .ref aM_slips, .ref aM_lates, .ref aM_copies, .int M_little, .int M_in, .int M_streak, .int M_lot, .int M_undos, .ref aM_before, .ref aM_images, .ref aM_kept, .long M_trace, .int (0 : Int32), .int M_begin, .int M_kind, .long M_value, .int (0 : Int32), .int (0 : Int32), .ref aM_read, .long M_below])), (aM_text, .inl (cI, 200, .inl M_text))]) hD hS hA [0, 1] rfl
  refine va_callv (va_runV (As := []) (rest := []) ⟨hx, hb, hml, hown, hts⟩ (c_X10_next l D cI cJ cZ cO aM aM_text aM_slips aM_lates aM_copies aM_before aM_images aM_kept aM_read M_size M_many M_little M_in M_streak M_lot M_undos M_trace (0 : Int32) M_begin M_kind M_value (0 : Int32) (0 : Int32) M_below M_text H.size y1 qy1) (cwV 0 hts gX10_children_X10_next rfl rfl rfl (by decide +kernel) ⟨Nat.le_of_ble_eq_true rfl, Nat.le_of_ble_eq_true rfl⟩) ⟨fb_i, va_recv hK hP (ci := 10) (q0 := 0) rfl rfl, fun U hU hW => ⟨rfl, by rw [hU], by rw [hU]; exact hPc, KK.warm hW hKK, hDc.weaken (fun _ _ _ _ => trivial)⟩⟩ rfl rfl hl.1 rfl (lv_room (Nat.le_of_ble_eq_true rfl)) dX10_children_18 ⟨Nat.le_of_ble_eq_true rfl, Nat.le_of_ble_eq_true rfl⟩) hS (fun q _ h => hFc q h) hFc (fun u t H1 locs ht hvm hw hB hz1 hk1 hS => ?_)
  obtain ⟨hP1, hD1⟩ := hB
  rw [ht] at hP1
  obtain ⟨hP, hD⟩ := va_join (wr := [(aM_slips, .inl (cI, 6, .inl M_slips)), (aM_lates, .inl (cI, 6, .inl M_lates)), (aM_copies, .inl (cI, 6, .inl M_copies)), (aM_kept, .inl (cZ, 2, .inl M_kept)), (aM_read, .inl (cI, 18, .inl M_read))]) (w1 := [(aM, .inr (10, [.ref aM_text, .int M_size, .int M_many, .ref aM_slips, .ref aM_lates, .ref aM_copies, .int M_little, .int M_in, .int M_streak, .int M_lot, .int M_undos, .ref aM_before, .ref aM_images, .ref aM_kept, .long M_trace, .int y1.1, .int y1.2.1, .int y1.2.2.1, .long y1.2.2.2, .int (0 : Int32), .int (0 : Int32), .ref aM_read, .long M_below])), (aM_text, .inl (cI, 200, .inl M_text))]) hP hD [0, 1] [2, 3, 4, 5, 6] rfl rfl (by decide) (by decide) hk1 hFc hP1 hD1
  generalize H1 = H at hP hS ⊢
  have hP : va_P D vwCl [(aM, .inr (10, [.ref aM_text, .int M_size, .int M_many, .ref aM_slips, .ref aM_lates, .ref aM_copies, .int M_little, .int M_in, .int M_streak, .int M_lot, .int M_undos, .ref aM_before, .ref aM_images, .ref aM_kept, .long M_trace, .int y1.1, .int y1.2.1, .int y1.2.2.1, .long y1.2.2.2, .int (0 : Int32), .int (0 : Int32), .ref aM_read, .long M_below])), (aM_text, .inl (cI, 200, .inl M_text)), (aM_slips, .inl (cI, 6, .inl M_slips)), (aM_lates, .inl (cI, 6, .inl M_lates)), (aM_copies, .inl (cI, 6, .inl M_copies)), (aM_kept, .inl (cZ, 2, .inl M_kept)), (aM_read, .inl (cI, 18, .inl M_read))] H := hP.sub [5, 6, 0, 1, 2, 3, 4] rfl
  have hD : va_D A [(aM, .inr (10, [.ref aM_text, .int M_size, .int M_many, .ref aM_slips, .ref aM_lates, .ref aM_copies, .int M_little, .int M_in, .int M_streak, .int M_lot, .int M_undos, .ref aM_before, .ref aM_images, .ref aM_kept, .long M_trace, .int y1.1, .int y1.2.1, .int y1.2.2.1, .long y1.2.2.2, .int (0 : Int32), .int (0 : Int32), .ref aM_read, .long M_below])), (aM_text, .inl (cI, 200, .inl M_text)), (aM_slips, .inl (cI, 6, .inl M_slips)), (aM_lates, .inl (cI, 6, .inl M_lates)), (aM_copies, .inl (cI, 6, .inl M_copies)), (aM_kept, .inl (cZ, 2, .inl M_kept)), (aM_read, .inl (cI, 18, .inl M_read))] := hD.sub [5, 6, 0, 1, 2, 3, 4] (by decide) rfl
  exact L21 300 M_size M_many M_little M_in M_streak M_undos y1.1 y1.2.1 y1.2.2.1 y1.2.2.2 (0 : Int32) (0 : Int32) M_slips M_lates M_copies M_kept M_read (0 : Int32) _ _ hP hD hS ls (lv_sub hl [1, 0] rfl) h
