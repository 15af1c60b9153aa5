def f_X10_leaderOf_L2 (M_in : Int32) (M_copies : Nat → Int32) : Nat → Int32 → Option (Int32)
  | 0, _ => none
  | n + 1, x2 => (if gIn x2 6 = true then (if (M_copies x2.toNatClampNeg) = (9 : Int32) then some x2 else (if gIn x2 6 = true then (if (f_X10_has M_in (M_copies x2.toNatClampNeg)) = 0 then some x2 else (if gIn x2 6 = true then f_X10_leaderOf_L2 M_in M_copies n (M_copies x2.toNatClampNeg) else none)) else none)) else none)
def f_X10_leaderOf (M_in : Int32) (M_copies : Nat → Int32) (p1 : Int32) : Option (Int32) := f_X10_leaderOf_L2 M_in M_copies 300 p1
set_option maxHeartbeats 8000000 in
set_option maxRecDepth 100000 in
theorem c_X10_leaderOf (l : Launch) (D : va_G) (cI cJ cZ cO : ClassId) (aM : Nat) (aM_copies : Nat) (aM_text : Nat) (aM_slips : Nat) (aM_lates : Nat) (aM_before : Nat) (aM_images : Nat) (aM_kept : Nat) (aM_read : Nat) (M_size : Int32) (M_many : Int32) (M_little : Int32) (M_in : Int32) (M_streak : Int32) (M_lot : Int32) (M_undos : Int32) (M_trace : Int64) (M_at : Int32) (M_begin : Int32) (M_kind : Int32) (M_value : Int64) (M_readMany : Int32) (M_readLittle : Int32) (M_below : Int64) (M_copies : Nat → Int32)  (p1 : Int32)  (y0 : Int32) (h : f_X10_leaderOf M_in M_copies p1 = some y0) : Met l yX10_leaderOf wsX10_leaderOf ({ frames := 1, cells := 0, slots := 0, locals := 21 } : Room) (va_Pc [.ref aM, .int p1] (fun U => va_P D vwCl [(aM, .inr (10, [.ref aM_text, .int M_size, .int M_many, .ref aM_slips, .ref aM_lates, .ref aM_copies, .int M_little, .int M_in, .int M_streak, .int M_lot, .int M_undos, .ref aM_before, .ref aM_images, .ref aM_kept, .long M_trace, .int M_at, .int M_begin, .int M_kind, .long M_value, .int M_readMany, .int M_readLittle, .ref aM_read, .long M_below])), (aM_copies, .inl (cI, 6, .inl M_copies))] U.heap ∧ KK D cI cJ cZ cO U)) (vp_Si (fun r => r = y0)) 0 0 (fun _ => False) := by
  refine Met.ofW (cc := cX10_leaderOf) (maxL := 3) (ret := (some .int)) (by decide) rfl ?_
  intro p e s m args below meth c s₁ B hml hv
  obtain ⟨rfl, hP, hKK⟩ := hv
  have hx := B.exec
  have hb := B.bytes
  have hr := B.returns
  have hts := atoms_spec (ws := wsX10_leaderOf) B.pre
  have hown : s.vm.findClass RX10 = some m.cls := findClass_of_methodNamed B.named
  have hlocks := B.notSynchronized
  have hK := hKK.1
  have fl_19 := hts (.fieldLink RX10 19 "SimonSaysModel" "copies" "[I") (by decide +kernel)
  have fl_119 := hts (.fieldLink RX10 119 "SimonSaysModel" "in" "I") (by decide +kernel)
  have inX10 : ∀ w ∈ wsX100, w ∈ wsX10_leaderOf := by decide +kernel
  have hl := lv_entry ([.ref aM, .int p1]) (n := 3) (Nat.le_of_ble_eq_true rfl)
  rw [lg_entry_eq]
  generalize (lg_sl ([.ref aM, .int p1]) ++ List.replicate (3 - (lg_sl ([.ref aM, .int p1])).length) Slot.unset).toArray = ls at hl ⊢
  have hl : lv_has ls 3 [(0, .ref aM), (1, .int p1)] := hl
  have L2 : ∀ (n : Nat), ∀ (x2 : Int32), ∀ (ls : Array Slot), lv_has ls 3 [(0, .ref aM), (2, .int x2)] → f_X10_leaderOf_L2 M_in M_copies n x2 = some y0 → W p l e (headSpec wsX10_leaderOf ({ frames := 1, cells := 0, slots := 0, locals := 21 } : Room)).room s m ([.ref aM, .int p1] : List Value).toArray below meth c s.heap [] 0 0 (MQ below (vp_Si (fun r => r = y0)) ([.ref aM, .int p1] : List Value).toArray s 0 0 (fun _ => False)) (F0 m 2 ls []) := by
    intro n
    induction n with
    | zero =>
      intro x2 ls hl h
      exact (ns h).elim
    | succ n ih =>
      intro x2 ls hl h
      unfold f_X10_leaderOf_L2 at h
      refine lv_aload_n hx hb dX10_leaderOf_2 rfl (lv_at hl 0 rfl) ?_
      refine va_get (D := D) (ci := 10) (v := .ref aM_copies) (C := RX10) (T := TX10) (N := 23) hx hb hts inX10 hown hK hP 0 rfl rfl 5 (by decide) fl_19 (fun _ h9 => h9) rfl dX10_leaderOf_3 ?_
      refine lv_iload_n hx hb dX10_leaderOf_6 rfl (lv_at hl 1 rfl) ?_
      obtain ⟨hi1, h⟩ := gd_in h
      refine va_iald hx hb hK hP 1 0 rfl rfl hi1 dX10_leaderOf_7 ?_
      refine lv_bipush (v := (9 : Int32)) hx hb dX10_leaderOf_8 (by decide) ?_
      refine lv_icmp_eq (tgt := 39) hx hb dX10_leaderOf_10 (by decide) (fun c_2 => ?_) (fun c_2 => ?_)
      · replace h := if_p c_2 h
        refine lv_iload_n hx hb dX10_leaderOf_39 rfl (lv_at hl 1 rfl) ?_
        exact pr_i hx hb hr hlocks dX10_leaderOf_40 (Option.some.inj h)
      · replace h := if_n c_2 h
        refine lv_aload_n hx hb dX10_leaderOf_13 rfl (lv_at hl 0 rfl) ?_
        refine va_get (D := D) (ci := 10) (v := .int M_in) (C := RX10) (T := TX10) (N := 23) hx hb hts inX10 hown hK hP 0 rfl rfl 7 (by decide) fl_119 (fun _ h9 => h9) rfl dX10_leaderOf_14 ?_
        refine lv_aload_n hx hb dX10_leaderOf_17 rfl (lv_at hl 0 rfl) ?_
        refine va_get (D := D) (ci := 10) (v := .ref aM_copies) (C := RX10) (T := TX10) (N := 23) hx hb hts inX10 hown hK hP 0 rfl rfl 5 (by decide) fl_19 (fun _ h9 => h9) rfl dX10_leaderOf_18 ?_
        refine lv_iload_n hx hb dX10_leaderOf_21 rfl (lv_at hl 1 rfl) ?_
        obtain ⟨hi3, h⟩ := gd_in h
        refine va_iald hx hb hK hP 1 0 rfl rfl hi3 dX10_leaderOf_22 ?_
        have hPc : va_P D vwCl [] s.heap := hP.sub [] rfl
        refine vp_callSi (va_Run.run (va_runS (As := [.int M_in, .int (M_copies x2.toNatClampNeg)]) (rest := []) ⟨hx, hb, hml, hown, hts⟩ (c_X10_has l D cI cJ cZ cO M_in (M_copies x2.toNatClampNeg) _ rfl) (cwS 2 hts gX10_leaderOf_X10_has rfl rfl rfl (by decide +kernel) ⟨Nat.le_of_ble_eq_true rfl, Nat.le_of_ble_eq_true rfl⟩) ⟨fb_p, fun U hU hW => ⟨rfl, by rw [hU]; exact hPc, KK.warm hW hKK⟩⟩ rfl rfl hl.1 rfl (lv_room (Nat.le_of_ble_eq_true rfl)) dX10_leaderOf_23 ⟨Nat.le_of_ble_eq_true rfl, Nat.le_of_ble_eq_true rfl⟩)) (fun r hr => ?_)
        obtain ⟨hr, hz4⟩ := hr
        replace hr := hr.symm
        subst hr
        refine lv_if_eq (tgt := 39) hx hb dX10_leaderOf_26 (by decide) (fun c_5 => ?_) (fun c_5 => ?_)
        · replace h := if_p c_5 h
          refine lv_iload_n hx hb dX10_leaderOf_39 rfl (lv_at hl 1 rfl) ?_
          exact pr_i hx hb hr hlocks dX10_leaderOf_40 (Option.some.inj h)
        · replace h := if_n c_5 h
          refine lv_aload_n hx hb dX10_leaderOf_29 rfl (lv_at hl 0 rfl) ?_
          refine va_get (D := D) (ci := 10) (v := .ref aM_copies) (C := RX10) (T := TX10) (N := 23) hx hb hts inX10 hown hK hP 0 rfl rfl 5 (by decide) fl_19 (fun _ h9 => h9) rfl dX10_leaderOf_30 ?_
          refine lv_iload_n hx hb dX10_leaderOf_33 rfl (lv_at hl 1 rfl) ?_
          obtain ⟨hi6, h⟩ := gd_in h
          refine va_iald hx hb hK hP 1 0 rfl rfl hi6 dX10_leaderOf_34 ?_
          refine lv_istore_n (lv' := [(2, .int (M_copies x2.toNatClampNeg)), (0, .ref aM)]) hx hb dX10_leaderOf_35 rfl hl (by decide) rfl (fun ls hl => ?_)
          refine lv_goto (tgt := 2) hx hb dX10_leaderOf_36 (by decide) ?_
          exact ih (M_copies x2.toNatClampNeg) ls (lv_sub hl [1, 0] rfl) h
  unfold f_X10_leaderOf at h
  refine lv_iload_n hx hb dX10_leaderOf_0 rfl (lv_at hl 1 rfl) ?_
  refine lv_istore_n (lv' := [(2, .int p1), (0, .ref aM), (1, .int p1)]) hx hb dX10_leaderOf_1 rfl hl (by decide) rfl (fun ls hl => ?_)
  exact L2 300 p1 ls (lv_sub hl [1, 0] rfl) h

def f_X10_ledBy_L4 (M_many : Int32) (M_in : Int32) (M_copies : Nat → Int32) : Nat → Int32 → Int32 → Int32 → Option (Int32)
  | 0, _, _, _ => none
  | n + 1, x1, x2, x3 => (if M_many ≤ x3 then some x2 else (if (f_X10_has M_in x3) = 0 then f_X10_ledBy_L4 M_many M_in M_copies n x1 (x2 ||| (0 : Int32)) (x3 + (1 : Int32)) else (Option.bind (f_X10_leaderOf M_in M_copies x3) (fun y4 => (if y4 = x1 then f_X10_ledBy_L4 M_many M_in M_copies n x1 (x2 ||| ((1 : Int32) <<< (x3 &&& 31))) (x3 + (1 : Int32)) else f_X10_ledBy_L4 M_many M_in M_copies n x1 (x2 ||| (0 : Int32)) (x3 + (1 : Int32)))))))
def f_X10_ledBy (M_many : Int32) (M_in : Int32) (M_copies : Nat → Int32) (p1 : Int32) : Option (Int32) := f_X10_ledBy_L4 M_many M_in M_copies 300 p1 (0 : Int32) (0 : Int32)
set_option maxHeartbeats 8000000 in
set_option maxRecDepth 100000 in
theorem c_X10_ledBy (l : Launch) (D : va_G) (cI cJ cZ cO : ClassId) (aM : Nat) (aM_copies : Nat) (aM_text : Nat) (aM_slips : Nat) (aM_lates : Nat) (aM_before : Nat) (aM_images : Nat) (aM_kept : Nat) (aM_read : Nat) (M_size : Int32) (M_many : Int32) (M_little : Int32) (M_in : Int32) (M_streak : Int32) (M_lot : Int32) (M_undos : Int32) (M_trace : Int64) (M_at : Int32) (M_begin : Int32) (M_kind : Int32) (M_value : Int64) (M_readMany : Int32) (M_readLittle : Int32) (M_below : Int64) (M_copies : Nat → Int32)  (p1 : Int32)  (y0 : Int32) (h : f_X10_ledBy M_many M_in M_copies p1 = some y0) : Met l yX10_ledBy wsX10_ledBy ({ frames := 2, cells := 0, slots := 0, locals := 43 } : Room) (va_Pc [.ref aM, .int p1] (fun U => va_P D vwCl [(aM, .inr (10, [.ref aM_text, .int M_size, .int M_many, .ref aM_slips, .ref aM_lates, .ref aM_copies, .int M_little, .int M_in, .int M_streak, .int M_lot, .int M_undos, .ref aM_before, .ref aM_images, .ref aM_kept, .long M_trace, .int M_at, .int M_begin, .int M_kind, .long M_value, .int M_readMany, .int M_readLittle, .ref aM_read, .long M_below])), (aM_copies, .inl (cI, 6, .inl M_copies))] U.heap ∧ KK D cI cJ cZ cO U)) (vp_Si (fun r => r = y0)) 0 0 (fun _ => False) := by
  refine Met.ofW (cc := cX10_ledBy) (maxL := 4) (ret := (some .int)) (by decide) rfl ?_
  intro p e s m args below meth c s₁ B hml hv
  obtain ⟨rfl, hP, hKK⟩ := hv
  have hx := B.exec
  have hb := B.bytes
  have hr := B.returns
  have hts := atoms_spec (ws := wsX10_ledBy) B.pre
  have hown : s.vm.findClass RX10 = some m.cls := findClass_of_methodNamed B.named
  have hlocks := B.notSynchronized
  have hK := hKK.1
  have fl_39 := hts (.fieldLink RX10 39 "SimonSaysModel" "many" "I") (by decide +kernel)
  have fl_119 := hts (.fieldLink RX10 119 "SimonSaysModel" "in" "I") (by decide +kernel)
  have inX10 : ∀ w ∈ wsX100, w ∈ wsX10_ledBy := by decide +kernel
  have hl := lv_entry ([.ref aM, .int p1]) (n := 4) (Nat.le_of_ble_eq_true rfl)
  rw [lg_entry_eq]
  generalize (lg_sl ([.ref aM, .int p1]) ++ List.replicate (4 - (lg_sl ([.ref aM, .int p1])).length) Slot.unset).toArray = ls at hl ⊢
  have hl : lv_has ls 4 [(0, .ref aM), (1, .int p1)] := hl
  have L4 : ∀ (n : Nat), ∀ (x1 : Int32) (x2 : Int32) (x3 : Int32), ∀ (ls : Array Slot), lv_has ls 4 [(0, .ref aM), (1, .int x1), (2, .int x2), (3, .int x3)] → f_X10_ledBy_L4 M_many M_in M_copies n x1 x2 x3 = some y0 → W p l e (headSpec wsX10_ledBy ({ frames := 2, cells := 0, slots := 0, locals := 43 } : Room)).room s m ([.ref aM, .int p1] : List Value).toArray below meth c s.heap [] 0 0 (MQ below (vp_Si (fun r => r = y0)) ([.ref aM, .int p1] : List Value).toArray s 0 0 (fun _ => False)) (F0 m 4 ls []) := by
    intro n
    induction n with
    | zero =>
      intro x1 x2 x3 ls hl h
      exact (ns h).elim
    | succ n ih =>
      intro x1 x2 x3 ls hl h
      unfold f_X10_ledBy_L4 at h
      refine lv_iload_n hx hb dX10_ledBy_4 rfl (lv_at hl 3 rfl) ?_
      refine lv_aload_n hx hb dX10_ledBy_5 rfl (lv_at hl 0 rfl) ?_
      refine va_get (D := D) (ci := 10) (v := .int M_many) (C := RX10) (T := TX10) (N := 23) hx hb hts inX10 hown hK hP 0 rfl rfl 2 (by decide) fl_39 (fun _ h9 => h9) rfl dX10_ledBy_6 ?_
      refine lv_icmp_ge (tgt := 48) hx hb dX10_ledBy_9 (by decide) (fun c_1 => ?_) (fun c_1 => ?_)
      · replace h := if_p c_1 h
        refine lv_iload_n hx hb dX10_ledBy_48 rfl (lv_at hl 2 rfl) ?_
        exact pr_i hx hb hr hlocks dX10_ledBy_49 (Option.some.inj h)
      · replace h := if_n c_1 h
        refine lv_iload_n hx hb dX10_ledBy_12 rfl (lv_at hl 2 rfl) ?_
        refine lv_aload_n hx hb dX10_ledBy_13 rfl (lv_at hl 0 rfl) ?_
        refine va_get (D := D) (ci := 10) (v := .int M_in) (C := RX10) (T := TX10) (N := 23) hx hb hts inX10 hown hK hP 0 rfl rfl 7 (by decide) fl_119 (fun _ h9 => h9) rfl dX10_ledBy_14 ?_
        refine lv_iload_n hx hb dX10_ledBy_17 rfl (lv_at hl 3 rfl) ?_
        have hPc : va_P D vwCl [] s.heap := hP.sub [] rfl
        refine vp_callSi (va_Run.run (va_runS (As := [.int M_in, .int x3]) (rest := [.int x2]) ⟨hx, hb, hml, hown, hts⟩ (c_X10_has l D cI cJ cZ cO M_in x3 _ rfl) (cwS 2 hts gX10_ledBy_X10_has rfl rfl rfl (by decide +kernel) ⟨Nat.le_of_ble_eq_true rfl, Nat.le_of_ble_eq_true rfl⟩) ⟨fb_p, fun U hU hW => ⟨rfl, by rw [hU]; exact hPc, KK.warm hW hKK⟩⟩ rfl rfl hl.1 rfl (lv_room (Nat.le_of_ble_eq_true rfl)) dX10_ledBy_18 ⟨Nat.le_of_ble_eq_true rfl, Nat.le_of_ble_eq_true rfl⟩)) (fun r hr => ?_)
        obtain ⟨hr, hz2⟩ := hr
        replace hr := hr.symm
        subst hr
        refine lv_if_eq (tgt := 39) hx hb dX10_ledBy_21 (by decide) (fun c_3 => ?_) (fun c_3 => ?_)
        · replace h := if_p c_3 h
          refine lv_iconst (v := (0 : Int32)) hx hb dX10_ledBy_39 (by decide) ?_
          refine lv_ior hx hb dX10_ledBy_40 ?_
          refine lv_istore_n (lv' := [(2, .int (x2 ||| (0 : Int32))), (0, .ref aM), (1, .int x1), (3, .int x3)]) hx hb dX10_ledBy_41 rfl hl (by decide) rfl (fun ls hl => ?_)
          refine lv_iinc (v := (x3 + (1 : Int32))) (lv' := [(3, .int (x3 + (1 : Int32))), (2, .int (x2 ||| (0 : Int32))), (0, .ref aM), (1, .int x1)]) hx hb dX10_ledBy_42 hl (k := 3) rfl rfl (by decide) rfl (fun ls hl => ?_)
          refine lv_goto (tgt := 4) hx hb dX10_ledBy_45 (by decide) ?_
          exact ih x1 (x2 ||| (0 : Int32)) (x3 + (1 : Int32)) ls (lv_sub hl [2, 3, 1, 0] rfl) h
        · replace h := if_n c_3 h
          refine lv_aload_n hx hb dX10_ledBy_24 rfl (lv_at hl 0 rfl) ?_
          refine lv_iload_n hx hb dX10_ledBy_25 rfl (lv_at hl 3 rfl) ?_
          obtain ⟨y4, qy4, h⟩ := ob_some h
          have hPc : va_P D vwCl [(aM, .inr (10, [.ref aM_text, .int M_size, .int M_many, .ref aM_slips, .ref aM_lates, .ref aM_copies, .int M_little, .int M_in, .int M_streak, .int M_lot, .int M_undos, .ref aM_before, .ref aM_images, .ref aM_kept, .long M_trace, .int M_at, .int M_begin, .int M_kind, .long M_value, .int M_readMany, .int M_readLittle, .ref aM_read, .long M_below])), (aM_copies, .inl (cI, 6, .inl M_copies))] s.heap := hP.sub [0, 1] rfl
          refine vp_callSi (va_Run.run (va_runV (As := [.int x3]) (rest := [.int x2]) ⟨hx, hb, hml, hown, hts⟩ (c_X10_leaderOf l D cI cJ cZ cO aM aM_copies aM_text aM_slips aM_lates aM_before aM_images aM_kept aM_read M_size M_many M_little M_in M_streak M_lot M_undos M_trace M_at M_begin M_kind M_value M_readMany M_readLittle M_below M_copies x3 y4 qy4) (cwV 1 hts gX10_ledBy_X10_leaderOf rfl rfl rfl (by decide +kernel) ⟨Nat.le_of_ble_eq_true rfl, Nat.le_of_ble_eq_true rfl⟩) ⟨fb_p, va_recv hK hP (ci := 10) (q0 := 0) rfl rfl, fun U hU hW => ⟨rfl, by rw [hU]; exact hPc, KK.warm hW hKK⟩⟩ rfl rfl hl.1 rfl (lv_room (Nat.le_of_ble_eq_true rfl)) dX10_ledBy_26 ⟨Nat.le_of_ble_eq_true rfl, Nat.le_of_ble_eq_true rfl⟩)) (fun r hr => ?_)
          replace hr := hr.symm
          subst hr
          refine lv_iload_n hx hb dX10_ledBy_29 rfl (lv_at hl 1 rfl) ?_
          refine lv_icmp_ne (tgt := 39) hx hb dX10_ledBy_30 (by decide) (fun c_5 => ?_) (fun c_5 => ?_)
          · replace h := if_n c_5 h
            refine lv_iconst (v := (0 : Int32)) hx hb dX10_ledBy_39 (by decide) ?_
            refine lv_ior hx hb dX10_ledBy_40 ?_
            refine lv_istore_n (lv' := [(2, .int (x2 ||| (0 : Int32))), (0, .ref aM), (1, .int x1), (3, .int x3)]) hx hb dX10_ledBy_41 rfl hl (by decide) rfl (fun ls hl => ?_)
            refine lv_iinc (v := (x3 + (1 : Int32))) (lv' := [(3, .int (x3 + (1 : Int32))), (2, .int (x2 ||| (0 : Int32))), (0, .ref aM), (1, .int x1)]) hx hb dX10_ledBy_42 hl (k := 3) rfl rfl (by decide) rfl (fun ls hl => ?_)
            refine lv_goto (tgt := 4) hx hb dX10_ledBy_45 (by decide) ?_
            exact ih x1 (x2 ||| (0 : Int32)) (x3 + (1 : Int32)) ls (lv_sub hl [2, 3, 1, 0] rfl) h
          · replace h := if_p c_5 h
            refine lv_iconst (v := (1 : Int32)) hx hb dX10_ledBy_33 (by decide) ?_
            refine lv_iload_n hx hb dX10_ledBy_34 rfl (lv_at hl 3 rfl) ?_
            refine lv_ishl hx hb dX10_ledBy_35 ?_
            refine lv_goto (tgt := 40) hx hb dX10_ledBy_36 (by decide) ?_
            refine lv_ior hx hb dX10_ledBy_40 ?_
            refine lv_istore_n (lv' := [(2, .int (x2 ||| ((1 : Int32) <<< (x3 &&& 31)))), (0, .ref aM), (1, .int x1), (3, .int x3)]) hx hb dX10_ledBy_41 rfl hl (by decide) rfl (fun ls hl => ?_)
            refine lv_iinc (v := (x3 + (1 : Int32))) (lv' := [(3, .int (x3 + (1 : Int32))), (2, .int (x2 ||| ((1 : Int32) <<< (x3 &&& 31)))), (0, .ref aM), (1, .int x1)]) hx hb dX10_ledBy_42 hl (k := 3) rfl rfl (by decide) rfl (fun ls hl => ?_)
            refine lv_goto (tgt := 4) hx hb dX10_ledBy_45 (by decide) ?_
            exact ih x1 (x2 ||| ((1 : Int32) <<< (x3 &&& 31))) (x3 + (1 : Int32)) ls (lv_sub hl [2, 3, 1, 0] rfl) h
  unfold f_X10_ledBy at h
  refine lv_iconst (v := (0 : Int32)) hx hb dX10_ledBy_0 (by decide) ?_
  refine lv_istore_n (lv' := [(2, .int (0 : Int32)), (0, .ref aM), (1, .int p1)]) hx hb dX10_ledBy_1 rfl hl (by decide) rfl (fun ls hl => ?_)
  refine lv_iconst (v := (0 : Int32)) hx hb dX10_ledBy_2 (by decide) ?_
  refine lv_istore_n (lv' := [(3, .int (0 : Int32)), (2, .int (0 : Int32)), (0, .ref aM), (1, .int p1)]) hx hb dX10_ledBy_3 rfl hl (by decide) rfl (fun ls hl => ?_)
  exact L4 300 p1 (0 : Int32) (0 : Int32) ls (lv_sub hl [2, 3, 1, 0] rfl) h

def f_X10_errsOf_L49 (M_slips : Nat → Int32) (M_lates : Nat → Int32) (t0 : Int32) : Option (Int32) := (if (10 : Int32) ≤ t0 then some (10 : Int32) else some t0)
def f_X10_errsOf (M_slips : Nat → Int32) (M_lates : Nat → Int32) (p1 : Int32) (p2 : Int32) (p3 : Int32) : Option (Int32) := (if p2 = (1 : Int32) then f_X10_errsOf_L49 M_slips M_lates (0 : Int32) else (if p2 = (2 : Int32) then (if gIn p1 6 = true then f_X10_errsOf_L49 M_slips M_lates ((M_slips p1.toNatClampNeg) + p3) else none) else (if p2 = (3 : Int32) then (if gIn p1 6 = true then f_X10_errsOf_L49 M_slips M_lates (((M_slips p1.toNatClampNeg) + p3) + (2 : Int32)) else none) else (if gIn p1 6 = true then f_X10_errsOf_L49 M_slips M_lates (M_lates p1.toNatClampNeg) else none))))
set_option maxHeartbeats 8000000 in
set_option maxRecDepth 100000 in
theorem c_X10_errsOf (l : Launch) (D : va_G) (cI cJ cZ cO : ClassId) (aM : Nat) (aM_slips : Nat) (aM_lates : Nat) (aM_text : Nat) (aM_copies : Nat) (aM_before : Nat) (aM_images : Nat) (aM_kept : Nat) (aM_read : Nat) (M_size : Int32) (M_many : Int32) (M_little : Int32) (M_in : Int32) (M_streak : Int32) (M_lot : Int32) (M_undos : Int32) (M_trace : Int64) (M_at : Int32) (M_begin : Int32) (M_kind : Int32) (M_value : Int64) (M_readMany : Int32) (M_readLittle : Int32) (M_below : Int64) (M_slips : Nat → Int32) (M_lates : Nat → Int32)  (p1 : Int32) (p2 : Int32) (p3 : Int32)  (y0 : Int32) (h : f_X10_errsOf M_slips M_lates p1 p2 p3 = some y0) : Met l yX10_errsOf wsX10_errsOf ({ frames := 0, cells := 0, slots := 0, locals := 0 } : Room) (va_Pc [.ref aM, .int p1, .int p2, .int p3] (fun U => va_P D vwCl [(aM, .inr (10, [.ref aM_text, .int M_size, .int M_many, .ref aM_slips, .ref aM_lates, .ref aM_copies, .int M_little, .int M_in, .int M_streak, .int M_lot, .int M_undos, .ref aM_before, .ref aM_images, .ref aM_kept, .long M_trace, .int M_at, .int M_begin, .int M_kind, .long M_value, .int M_readMany, .int M_readLittle, .ref aM_read, .long M_below])), (aM_slips, .inl (cI, 6, .inl M_slips)), (aM_lates, .inl (cI, 6, .inl M_lates))] U.heap ∧ KK D cI cJ cZ cO U)) (vp_Si (fun r => r = y0)) 0 0 (fun _ => False) := by
  refine Met.ofW (cc := cX10_errsOf) (maxL := 5) (ret := (some .int)) (by decide) rfl ?_
  intro p e s m args below meth c s₁ B hml hv
  obtain ⟨rfl, hP, hKK⟩ := hv
  have hx := B.exec
  have hb := B.bytes
  have hr := B.returns
  have hts := atoms_spec (ws := wsX10_errsOf) B.pre
  have hown : s.vm.findClass RX10 = some m.cls := findClass_of_methodNamed B.named
  have hlocks := B.notSynchronized
  have hK := hKK.1
  have fl_13 := hts (.fieldLink RX10 13 "SimonSaysModel" "slips" "[I") (by decide +kernel)
  have fl_16 := hts (.fieldLink RX10 16 "SimonSaysModel" "lates" "[I") (by decide +kernel)
  have inX10 : ∀ w ∈ wsX100, w ∈ wsX10_errsOf := by decide +kernel
  have hl := lv_entry ([.ref aM, .int p1, .int p2, .int p3]) (n := 5) (Nat.le_of_ble_eq_true rfl)
  rw [lg_entry_eq]
  generalize (lg_sl ([.ref aM, .int p1, .int p2, .int p3]) ++ List.replicate (5 - (lg_sl ([.ref aM, .int p1, .int p2, .int p3])).length) Slot.unset).toArray = ls at hl ⊢
  have hl : lv_has ls 5 [(0, .ref aM), (1, .int p1), (2, .int p2), (3, .int p3)] := hl
  have L49 : ∀ (t0 : Int32), ∀ (ls : Array Slot), lv_has ls 5 [(0, .ref aM)] → f_X10_errsOf_L49 M_slips M_lates t0 = some y0 → W p l e (headSpec wsX10_errsOf ({ frames := 0, cells := 0, slots := 0, locals := 0 } : Room)).room s m ([.ref aM, .int p1, .int p2, .int p3] : List Value).toArray below meth c s.heap [] 0 0 (MQ below (vp_Si (fun r => r = y0)) ([.ref aM, .int p1, .int p2, .int p3] : List Value).toArray s 0 0 (fun _ => False)) (F0 m 49 ls [.int t0]) := by
    intro t0 ls hl h
    unfold f_X10_errsOf_L49 at h
    refine lv_istore (lv' := [(4, .int t0), (0, .ref aM)]) hx hb dX10_errsOf_49 hl (by decide) rfl (fun ls hl => ?_)
    refine lv_iload hx hb dX10_errsOf_51 (lv_at hl 0 rfl) ?_
    refine lv_bipush (v := (10 : Int32)) hx hb dX10_errsOf_53 (by decide) ?_
    refine lv_icmp_ge (tgt := 63) hx hb dX10_errsOf_55 (by decide) (fun c_7 => ?_) (fun c_7 => ?_)
    · replace h := if_p c_7 h
      refine lv_bipush (v := (10 : Int32)) hx hb dX10_errsOf_63 (by decide) ?_
      exact pr_i hx hb hr hlocks dX10_errsOf_65 (Option.some.inj h)
    · replace h := if_n c_7 h
      refine lv_iload hx hb dX10_errsOf_58 (lv_at hl 0 rfl) ?_
      refine lv_goto (tgt := 65) hx hb dX10_errsOf_60 (by decide) ?_
      exact pr_i hx hb hr hlocks dX10_errsOf_65 (Option.some.inj h)
  unfold f_X10_errsOf at h
  refine lv_iload_n hx hb dX10_errsOf_0 rfl (lv_at hl 2 rfl) ?_
  refine lv_iconst (v := (1 : Int32)) hx hb dX10_errsOf_1 (by decide) ?_
  refine lv_icmp_ne (tgt := 9) hx hb dX10_errsOf_2 (by decide) (fun c_1 => ?_) (fun c_1 => ?_)
  · replace h := if_n c_1 h
    refine lv_iload_n hx hb dX10_errsOf_9 rfl (lv_at hl 2 rfl) ?_
    refine lv_iconst (v := (2 : Int32)) hx hb dX10_errsOf_10 (by decide) ?_
    refine lv_icmp_ne (tgt := 25) hx hb dX10_errsOf_11 (by decide) (fun c_2 => ?_) (fun c_2 => ?_)
    · replace h := if_n c_2 h
      refine lv_iload_n hx hb dX10_errsOf_25 rfl (lv_at hl 2 rfl) ?_
      refine lv_iconst (v := (3 : Int32)) hx hb dX10_errsOf_26 (by decide) ?_
      refine lv_icmp_ne (tgt := 43) hx hb dX10_errsOf_27 (by decide) (fun c_3 => ?_) (fun c_3 => ?_)
      · replace h := if_n c_3 h
        refine lv_aload_n hx hb dX10_errsOf_43 rfl (lv_at hl 0 rfl) ?_
        refine va_get (D := D) (ci := 10) (v := .ref aM_lates) (C := RX10) (T := TX10) (N := 23) hx hb hts inX10 hown hK hP 0 rfl rfl 4 (by decide) fl_16 (fun _ h9 => h9) rfl dX10_errsOf_44 ?_
        refine lv_iload_n hx hb dX10_errsOf_47 rfl (lv_at hl 1 rfl) ?_
        obtain ⟨hi4, h⟩ := gd_in h
        refine va_iald hx hb hK hP 2 0 rfl rfl hi4 dX10_errsOf_48 ?_
        exact L49 (M_lates p1.toNatClampNeg) ls (lv_sub hl [0] rfl) h
      · replace h := if_p c_3 h
        refine lv_aload_n hx hb dX10_errsOf_30 rfl (lv_at hl 0 rfl) ?_
        refine va_get (D := D) (ci := 10) (v := .ref aM_slips) (C := RX10) (T := TX10) (N := 23) hx hb hts inX10 hown hK hP 0 rfl rfl 3 (by decide) fl_13 (fun _ h9 => h9) rfl dX10_errsOf_31 ?_
        refine lv_iload_n hx hb dX10_errsOf_34 rfl (lv_at hl 1 rfl) ?_
        obtain ⟨hi5, h⟩ := gd_in h
        refine va_iald hx hb hK hP 1 0 rfl rfl hi5 dX10_errsOf_35 ?_
        refine lv_iload_n hx hb dX10_errsOf_36 rfl (lv_at hl 3 rfl) ?_
        refine lv_iadd hx hb dX10_errsOf_37 ?_
        refine lv_iconst (v := (2 : Int32)) hx hb dX10_errsOf_38 (by decide) ?_
        refine lv_iadd hx hb dX10_errsOf_39 ?_
        refine lv_goto (tgt := 49) hx hb dX10_errsOf_40 (by decide) ?_
        exact L49 (((M_slips p1.toNatClampNeg) + p3) + (2 : Int32)) ls (lv_sub hl [0] rfl) h
    · replace h := if_p c_2 h
      refine lv_aload_n hx hb dX10_errsOf_14 rfl (lv_at hl 0 rfl) ?_
      refine va_get (D := D) (ci := 10) (v := .ref aM_slips) (C := RX10) (T := TX10) (N := 23) hx hb hts inX10 hown hK hP 0 rfl rfl 3 (by decide) fl_13 (fun _ h9 => h9) rfl dX10_errsOf_15 ?_
      refine lv_iload_n hx hb dX10_errsOf_18 rfl (lv_at hl 1 rfl) ?_
      obtain ⟨hi6, h⟩ := gd_in h
      refine va_iald hx hb hK hP 1 0 rfl rfl hi6 dX10_errsOf_19 ?_
      refine lv_iload_n hx hb dX10_errsOf_20 rfl (lv_at hl 3 rfl) ?_
      refine lv_iadd hx hb dX10_errsOf_21 ?_
      refine lv_goto (tgt := 49) hx hb dX10_errsOf_22 (by decide) ?_
      exact L49 ((M_slips p1.toNatClampNeg) + p3) ls (lv_sub hl [0] rfl) h
  · replace h := if_p c_1 h
    refine lv_iconst (v := (0 : Int32)) hx hb dX10_errsOf_5 (by decide) ?_
    refine lv_goto (tgt := 49) hx hb dX10_errsOf_6 (by decide) ?_
    exact L49 (0 : Int32) ls (lv_sub hl [0] rfl) h

def f_X10_streakBehind (p0 : Int32) (p1 : Int32) : Int32 := (if p1 = (2 : Int32) then (0 : Int32) else (if p1 = (3 : Int32) then (0 : Int32) else (if (9 : Int32) ≤ p0 then (9 : Int32) else (p0 + (1 : Int32)))))
set_option maxHeartbeats 8000000 in
set_option maxRecDepth 100000 in
theorem c_X10_streakBehind (l : Launch) (D : va_G) (cI cJ cZ cO : ClassId)   (p0 : Int32) (p1 : Int32)  (y0 : Int32) (h : f_X10_streakBehind p0 p1 = y0) : Met l yX10_streakBehind wsX10_streakBehind ({ frames := 0, cells := 0, slots := 0, locals := 0 } : Room) (va_Pc [.int p0, .int p1] (fun U => va_P D vwCl [] U.heap ∧ KK D cI cJ cZ cO U)) (vp_Si (fun r => r = y0)) 0 0 (fun _ => False) := by
  refine Met.ofW (cc := cX10_streakBehind) (maxL := 2) (ret := (some .int)) (by decide) rfl ?_
  intro p e s m args below meth c s₁ B hml hv
  obtain ⟨rfl, hP, hKK⟩ := hv
  have hx := B.exec
  have hb := B.bytes
  have hr := B.returns
  have hts := atoms_spec (ws := wsX10_streakBehind) B.pre
  have hown : s.vm.findClass RX10 = some m.cls := findClass_of_methodNamed B.named
  have hlocks := B.notSynchronized
  have hK := hKK.1
  have hl := lv_entry ([.int p0, .int p1]) (n := 2) (Nat.le_of_ble_eq_true rfl)
  rw [lg_entry_eq]
  generalize (lg_sl ([.int p0, .int p1]) ++ List.replicate (2 - (lg_sl ([.int p0, .int p1])).length) Slot.unset).toArray = ls at hl ⊢
  have hl : lv_has ls 2 [(0, .int p0), (1, .int p1)] := hl
  unfold f_X10_streakBehind at h
  refine lv_iload_n hx hb dX10_streakBehind_0 rfl (lv_at hl 1 rfl) ?_
  refine lv_iconst (v := (2 : Int32)) hx hb dX10_streakBehind_1 (by decide) ?_
  refine lv_icmp_eq (tgt := 10) hx hb dX10_streakBehind_2 (by decide) (fun c_1 => ?_) (fun c_1 => ?_)
  · replace h := if_p c_1 h
    refine lv_iconst (v := (0 : Int32)) hx hb dX10_streakBehind_10 (by decide) ?_
    refine lv_goto (tgt := 28) hx hb dX10_streakBehind_11 (by decide) ?_
    exact pr_i hx hb hr hlocks dX10_streakBehind_28 h
  · replace h := if_n c_1 h
    refine lv_iload_n hx hb dX10_streakBehind_5 rfl (lv_at hl 1 rfl) ?_
    refine lv_iconst (v := (3 : Int32)) hx hb dX10_streakBehind_6 (by decide) ?_
    refine lv_icmp_ne (tgt := 14) hx hb dX10_streakBehind_7 (by decide) (fun c_2 => ?_) (fun c_2 => ?_)
    · replace h := if_n c_2 h
      refine lv_iload_n hx hb dX10_streakBehind_14 rfl (lv_at hl 0 rfl) ?_
      refine lv_bipush (v := (9 : Int32)) hx hb dX10_streakBehind_15 (by decide) ?_
      refine lv_icmp_ge (tgt := 26) hx hb dX10_streakBehind_17 (by decide) (fun c_3 => ?_) (fun c_3 => ?_)
      · replace h := if_p c_3 h
        refine lv_bipush (v := (9 : Int32)) hx hb dX10_streakBehind_26 (by decide) ?_
        exact pr_i hx hb hr hlocks dX10_streakBehind_28 h
      · replace h := if_n c_3 h
        refine lv_iload_n hx hb dX10_streakBehind_20 rfl (lv_at hl 0 rfl) ?_
        refine lv_iconst (v := (1 : Int32)) hx hb dX10_streakBehind_21 (by decide) ?_
        refine lv_iadd hx hb dX10_streakBehind_22 ?_
        refine lv_goto (tgt := 28) hx hb dX10_streakBehind_23 (by decide) ?_
        exact pr_i hx hb hr hlocks dX10_streakBehind_28 h
    · replace h := if_p c_2 h
      refine lv_iconst (v := (0 : Int32)) hx hb dX10_streakBehind_10 (by decide) ?_
      refine lv_goto (tgt := 28) hx hb dX10_streakBehind_11 (by decide) ?_
      exact pr_i hx hb hr hlocks dX10_streakBehind_28 h

def f_X10_fair (M_many : Int32) (M_little : Int32) (M_in : Int32) : Int32 := (if (M_little &&& (M_in ^^^ (-1 : Int32))) = 0 then (1 : Int32) else (if ((M_in &&& (((1 : Int32) <<< (M_many &&& 31)) - (1 : Int32))) &&& (M_little ^^^ (-1 : Int32))) = 0 then (1 : Int32) else (0 : Int32)))
set_option maxHeartbeats 8000000 in
set_option maxRecDepth 100000 in
theorem c_X10_fair (l : Launch) (D : va_G) (cI cJ cZ cO : ClassId) (aM : Nat) (aM_text : Nat) (aM_slips : Nat) (aM_lates : Nat) (aM_copies : Nat) (aM_before : Nat) (aM_images : Nat) (aM_kept : Nat) (aM_read : Nat) (M_size : Int32) (M_many : Int32) (M_little : Int32) (M_in : Int32) (M_streak : Int32) (M_lot : Int32) (M_undos : Int32) (M_trace : Int64) (M_at : Int32) (M_begin : Int32) (M_kind : Int32) (M_value : Int64) (M_readMany : Int32) (M_readLittle : Int32) (M_below : Int64)    (y0 : Int32) (h : f_X10_fair M_many M_little M_in = y0) : Met l yX10_fair wsX10_fair ({ frames := 0, cells := 0, slots := 0, locals := 0 } : Room) (va_Pc [.ref aM] (fun U => va_P D vwCl [(aM, .inr (10, [.ref aM_text, .int M_size, .int M_many, .ref aM_slips, .ref aM_lates, .ref aM_copies, .int M_little, .int M_in, .int M_streak, .int M_lot, .int M_undos, .ref aM_before, .ref aM_images, .ref aM_kept, .long M_trace, .int M_at, .int M_begin, .int M_kind, .long M_value, .int M_readMany, .int M_readLittle, .ref aM_read, .long M_below]))] U.heap ∧ KK D cI cJ cZ cO U)) (vp_Si (fun r => r = y0)) 0 0 (fun _ => False) := by
  refine Met.ofW (cc := cX10_fair) (maxL := 2) (ret := (some .int)) (by decide) rfl ?_
  intro p e s m args below meth c s₁ B hml hv
  obtain ⟨rfl, hP, hKK⟩ := hv
  have hx := B.exec
  have hb := B.bytes
  have hr := B.returns
  have hts := atoms_spec (ws := wsX10_fair) B.pre
  have hown : s.vm.findClass RX10 = some m.cls := findClass_of_methodNamed B.named
  have hlocks := B.notSynchronized
  have hK := hKK.1
  have fl_39 := hts (.fieldLink RX10 39 "SimonSaysModel" "many" "I") (by decide +kernel)
  have fl_116 := hts (.fieldLink RX10 116 "SimonSaysModel" "little" "I") (by decide +kernel)
  have fl_119 := hts (.fieldLink RX10 119 "SimonSaysModel" "in" "I") (by decide +kernel)
  have inX10 : ∀ w ∈ wsX100, w ∈ wsX10_fair := by decide +kernel
  have hl := lv_entry ([.ref aM]) (n := 2) (Nat.le_of_ble_eq_true rfl)
  rw [lg_entry_eq]
  generalize (lg_sl ([.ref aM]) ++ List.replicate (2 - (lg_sl ([.ref aM])).length) Slot.unset).toArray = ls at hl ⊢
  have hl : lv_has ls 2 [(0, .ref aM)] := hl
  unfold f_X10_fair at h
  refine lv_iconst (v := (1 : Int32)) hx hb dX10_fair_0 (by decide) ?_
  refine lv_aload_n hx hb dX10_fair_1 rfl (lv_at hl 0 rfl) ?_
  refine va_get (D := D) (ci := 10) (v := .int M_many) (C := RX10) (T := TX10) (N := 23) hx hb hts inX10 hown hK hP 0 rfl rfl 2 (by decide) fl_39 (fun _ h9 => h9) rfl dX10_fair_2 ?_
  refine lv_ishl hx hb dX10_fair_5 ?_
  refine lv_iconst (v := (1 : Int32)) hx hb dX10_fair_6 (by decide) ?_
  refine lv_isub hx hb dX10_fair_7 ?_
  refine lv_istore_n (lv' := [(1, .int (((1 : Int32) <<< (M_many &&& 31)) - (1 : Int32))), (0, .ref aM)]) hx hb dX10_fair_8 rfl hl (by decide) rfl (fun ls hl => ?_)
  refine lv_aload_n hx hb dX10_fair_9 rfl (lv_at hl 1 rfl) ?_
  refine va_get (D := D) (ci := 10) (v := .int M_little) (C := RX10) (T := TX10) (N := 23) hx hb hts inX10 hown hK hP 0 rfl rfl 6 (by decide) fl_116 (fun _ h9 => h9) rfl dX10_fair_10 ?_
  refine lv_aload_n hx hb dX10_fair_13 rfl (lv_at hl 1 rfl) ?_
  refine va_get (D := D) (ci := 10) (v := .int M_in) (C := RX10) (T := TX10) (N := 23) hx hb hts inX10 hown hK hP 0 rfl rfl 7 (by decide) fl_119 (fun _ h9 => h9) rfl dX10_fair_14 ?_
  refine lv_iconst (v := (-1 : Int32)) hx hb dX10_fair_17 (by decide) ?_
  refine lv_ixor hx hb dX10_fair_18 ?_
  refine lv_iand hx hb dX10_fair_19 ?_
  refine lv_if_eq (tgt := 43) hx hb dX10_fair_20 (by decide) (fun c_1 => ?_) (fun c_1 => ?_)
  · replace h := if_p c_1 h
    refine lv_iconst (v := (1 : Int32)) hx hb dX10_fair_43 (by decide) ?_
    exact pr_i hx hb hr hlocks dX10_fair_44 h
  · replace h := if_n c_1 h
    refine lv_aload_n hx hb dX10_fair_23 rfl (lv_at hl 1 rfl) ?_
    refine va_get (D := D) (ci := 10) (v := .int M_in) (C := RX10) (T := TX10) (N := 23) hx hb hts inX10 hown hK hP 0 rfl rfl 7 (by decide) fl_119 (fun _ h9 => h9) rfl dX10_fair_24 ?_
    refine lv_iload_n hx hb dX10_fair_27 rfl (lv_at hl 0 rfl) ?_
    refine lv_iand hx hb dX10_fair_28 ?_
    refine lv_aload_n hx hb dX10_fair_29 rfl (lv_at hl 1 rfl) ?_
    refine va_get (D := D) (ci := 10) (v := .int M_little) (C := RX10) (T := TX10) (N := 23) hx hb hts inX10 hown hK hP 0 rfl rfl 6 (by decide) fl_116 (fun _ h9 => h9) rfl dX10_fair_30 ?_
    refine lv_iconst (v := (-1 : Int32)) hx hb dX10_fair_33 (by decide) ?_
    refine lv_ixor hx hb dX10_fair_34 ?_
    refine lv_iand hx hb dX10_fair_35 ?_
    refine lv_if_eq (tgt := 43) hx hb dX10_fair_36 (by decide) (fun c_2 => ?_) (fun c_2 => ?_)
    · replace h := if_p c_2 h
      refine lv_iconst (v := (1 : Int32)) hx hb dX10_fair_43 (by decide) ?_
      exact pr_i hx hb hr hlocks dX10_fair_44 h
    · replace h := if_n c_2 h
      refine lv_iconst (v := (0 : Int32)) hx hb dX10_fair_39 (by decide) ?_
      refine lv_goto (tgt := 44) hx hb dX10_fair_40 (by decide) ?_
      exact pr_i hx hb hr hlocks dX10_fair_44 h

def f_X10_child (M_many : Int32) (M_little : Int32) (M_in : Int32) (M_slips : Nat → Int32) (M_lates : Nat → Int32) (M_copies : Nat → Int32) (p1 : Int32) (p2 : Int32) : Option (Int32) := (if (f_X10_isChild M_many p1) = 0 then some (-1 : Int32) else (if (f_X10_within p2.toInt64 (0 : Int64) (5 : Int64)) = 0 then some (-1 : Int32) else (if p2 = (0 : Int32) then (if gIn p1 6 = true then some (M_slips p1.toNatClampNeg) else none) else (if p2 = (1 : Int32) then (if gIn p1 6 = true then some (M_lates p1.toNatClampNeg) else none) else (if p2 = (2 : Int32) then (if gIn p1 6 = true then some (M_copies p1.toNatClampNeg) else none) else (if p2 = (3 : Int32) then some ((M_little >>> (p1 &&& 31)) &&& (1 : Int32)) else (if p2 = (4 : Int32) then some ((M_in >>> (p1 &&& 31)) &&& (1 : Int32)) else (if (f_X10_has M_in p1) = 0 then some (-9 : Int32) else (Option.bind (f_X10_leaderOf M_in M_copies p1) (fun y15 => some y15))))))))))
set_option maxHeartbeats 8000000 in
set_option maxRecDepth 100000 in
theorem c_X10_child (l : Launch) (D : va_G) (cI cJ cZ cO : ClassId) (aM : Nat) (aM_slips : Nat) (aM_lates : Nat) (aM_copies : Nat) (aM_text : Nat) (aM_before : Nat) (aM_images : Nat) (aM_kept : Nat) (aM_read : Nat) (M_size : Int32) (M_many : Int32) (M_little : Int32) (M_in : Int32) (M_streak : Int32) (M_lot : Int32) (M_undos : Int32) (M_trace : Int64) (M_at : Int32) (M_begin : Int32) (M_kind : Int32) (M_value : Int64) (M_readMany : Int32) (M_readLittle : Int32) (M_below : Int64) (M_slips : Nat → Int32) (M_lates : Nat → Int32) (M_copies : Nat → Int32)  (p1 : Int32) (p2 : Int32)  (y0 : Int32) (h : f_X10_child M_many M_little M_in M_slips M_lates M_copies p1 p2 = some y0) : Met l yX10_child wsX10_child ({ frames := 2, cells := 0, slots := 0, locals := 46 } : Room) (va_Pc [.ref aM, .int p1, .int p2] (fun U => va_P D vwCl [(aM, .inr (10, [.ref aM_text, .int M_size, .int M_many, .ref aM_slips, .ref aM_lates, .ref aM_copies, .int M_little, .int M_in, .int M_streak, .int M_lot, .int M_undos, .ref aM_before, .ref aM_images, .ref aM_kept, .long M_trace, .int M_at, .int M_begin, .int M_kind, .long M_value, .int M_readMany, .int M_readLittle, .ref aM_read, .long M_below])), (aM_slips, .inl (cI, 6, .inl M_slips)), (aM_lates, .inl (cI, 6, .inl M_lates)), (aM_copies, .inl (cI, 6, .inl M_copies))] U.heap ∧ KK D cI cJ cZ cO U)) (vp_Si (fun r => r = y0)) 0 0 (fun _ => False) := by
  refine Met.ofW (cc := cX10_child) (maxL := 3) (ret := (some .int)) (by decide) rfl ?_
  intro p e s m args below meth c s₁ B hml hv
  obtain ⟨rfl, hP, hKK⟩ := hv
  have hx := B.exec
  have hb := B.bytes
  have hr := B.returns
  have hts := atoms_spec (ws := wsX10_child) B.pre
  have hown : s.vm.findClass RX10 = some m.cls := findClass_of_methodNamed B.named
  have hlocks := B.notSynchronized
  have hK := hKK.1
  have fl_13 := hts (.fieldLink RX10 13 "SimonSaysModel" "slips" "[I") (by decide +kernel)
  have fl_16 := hts (.fieldLink RX10 16 "SimonSaysModel" "lates" "[I") (by decide +kernel)
  have fl_19 := hts (.fieldLink RX10 19 "SimonSaysModel" "copies" "[I") (by decide +kernel)
  have fl_116 := hts (.fieldLink RX10 116 "SimonSaysModel" "little" "I") (by decide +kernel)
  have fl_119 := hts (.fieldLink RX10 119 "SimonSaysModel" "in" "I") (by decide +kernel)
  have cst_138 := hts (.constantLong RX10 138 (5)) (by decide +kernel)
  have inX10 : ∀ w ∈ wsX100, w ∈ wsX10_child := by decide +kernel
  have hl := lv_entry ([.ref aM, .int p1, .int p2]) (n := 3) (Nat.le_of_ble_eq_true rfl)
  rw [lg_entry_eq]
  generalize (lg_sl ([.ref aM, .int p1, .int p2]) ++ List.replicate (3 - (lg_sl ([.ref aM, .int p1, .int p2])).length) Slot.unset).toArray = ls at hl ⊢
  have hl : lv_has ls 3 [(0, .ref aM), (1, .int p1), (2, .int p2)] := hl
  unfold f_X10_child at h
  refine lv_aload_n hx hb dX10_child_0 rfl (lv_at hl 0 rfl) ?_
  refine lv_iload_n hx hb dX10_child_1 rfl (lv_at hl 1 rfl) ?_
  have hPc : va_P D vwCl [(aM, .inr (10, [.ref aM_text, .int M_size, .int M_many, .ref aM_slips, .ref aM_lates, .ref aM_copies, .int M_little, .int M_in, .int M_streak, .int M_lot, .int M_undos, .ref aM_before, .ref aM_images, .ref aM_kept, .long M_trace, .int M_at, .int M_begin, .int M_kind, .long M_value, .int M_readMany, .int M_readLittle, .ref aM_read, .long M_below]))] s.heap := hP.sub [0] rfl
  refine vp_callSi (va_Run.run (va_runV (As := [.int p1]) (rest := []) ⟨hx, hb, hml, hown, hts⟩ (c_X10_isChild l D cI cJ cZ cO aM aM_text aM_slips aM_lates aM_copies aM_before aM_images aM_kept aM_read M_size M_many M_little M_in M_streak M_lot M_undos M_trace M_at M_begin M_kind M_value M_readMany M_readLittle M_below p1 _ rfl) (cwV 1 hts gX10_child_X10_isChild rfl rfl rfl (by decide +kernel) ⟨Nat.le_of_ble_eq_true rfl, Nat.le_of_ble_eq_true rfl⟩) ⟨fb_p, va_recv hK hP (ci := 10) (q0 := 0) rfl rfl, fun U hU hW => ⟨rfl, by rw [hU]; exact hPc, KK.warm hW hKK⟩⟩ rfl rfl hl.1 rfl (lv_room (Nat.le_of_ble_eq_true rfl)) dX10_child_2 ⟨Nat.le_of_ble_eq_true rfl, Nat.le_of_ble_eq_true rfl⟩)) (fun r hr => ?_)
  obtain ⟨hr, hz1⟩ := hr
  replace hr := hr.symm
  subst hr
  refine lv_if_eq (tgt := 20) hx hb dX10_child_5 (by decide) (fun c_2 => ?_) (fun c_2 => ?_)
  · replace h := if_p c_2 h
    refine lv_iconst (v := (-1 : Int32)) hx hb dX10_child_20 (by decide) ?_
    exact pr_i hx hb hr hlocks dX10_child_21 (Option.some.inj h)
  · replace h := if_n c_2 h
    refine lv_iload_n hx hb dX10_child_8 rfl (lv_at hl 2 rfl) ?_
    refine lv_i2l (v := p2.toInt64) hx hb dX10_child_9 rfl ?_
    refine lv_lconst (v := (0 : Int64)) hx hb dX10_child_10 (by decide) ?_
    refine lv_ldc2 (v := (5 : Int64)) hx hb hown cst_138 dX10_child_11 ?_
    have hPc : va_P D vwCl [] s.heap := hP.sub [] rfl
    refine vp_callSi (va_Run.run (va_runS (As := [.long p2.toInt64, .long (0 : Int64), .long (5 : Int64)]) (rest := []) ⟨hx, hb, hml, hown, hts⟩ (c_X10_within l D cI cJ cZ cO p2.toInt64 (0 : Int64) (5 : Int64) _ rfl) (cwS 3 hts gX10_child_X10_within rfl rfl rfl (by decide +kernel) ⟨Nat.le_of_ble_eq_true rfl, Nat.le_of_ble_eq_true rfl⟩) ⟨fb_p, fun U hU hW => ⟨rfl, by rw [hU]; exact hPc, KK.warm hW hKK⟩⟩ rfl rfl hl.1 rfl (lv_room (Nat.le_of_ble_eq_true rfl)) dX10_child_14 ⟨Nat.le_of_ble_eq_true rfl, Nat.le_of_ble_eq_true rfl⟩)) (fun r hr => ?_)
    obtain ⟨hr, hz3⟩ := hr
    replace hr := hr.symm
    subst hr
    refine lv_if_ne (tgt := 22) hx hb dX10_child_17 (by decide) (fun c_4 => ?_) (fun c_4 => ?_)
    · replace h := if_n c_4 h
      refine lv_iload_n hx hb dX10_child_22 rfl (lv_at hl 2 rfl) ?_
      by_cases s_6 : p2 = (0 : Int32)
      · replace h := if_p s_6 h
        refine lv_tableIn (off := 33) (tgt := 56) hx hb dX10_child_23 (by rw [s_6]; decide) (by rw [s_6]; decide) (by rw [s_6]; decide) (by decide) ?_
        refine lv_aload_n hx hb dX10_child_56 rfl (lv_at hl 0 rfl) ?_
        refine va_get (D := D) (ci := 10) (v := .ref aM_slips) (C := RX10) (T := TX10) (N := 23) hx hb hts inX10 hown hK hP 0 rfl rfl 3 (by decide) fl_13 (fun _ h9 => h9) rfl dX10_child_57 ?_
        refine lv_iload_n hx hb dX10_child_60 rfl (lv_at hl 1 rfl) ?_
        obtain ⟨hi5, h⟩ := gd_in h
        refine va_iald hx hb hK hP 1 0 rfl rfl hi5 dX10_child_61 ?_
        exact pr_i hx hb hr hlocks dX10_child_62 (Option.some.inj h)
      replace h := if_n s_6 h
      by_cases s_8 : p2 = (1 : Int32)
      · replace h := if_p s_8 h
        refine lv_tableIn (off := 40) (tgt := 63) hx hb dX10_child_23 (by rw [s_8]; decide) (by rw [s_8]; decide) (by rw [s_8]; decide) (by decide) ?_
        refine lv_aload_n hx hb dX10_child_63 rfl (lv_at hl 0 rfl) ?_
        refine va_get (D := D) (ci := 10) (v := .ref aM_lates) (C := RX10) (T := TX10) (N := 23) hx hb hts inX10 hown hK hP 0 rfl rfl 4 (by decide) fl_16 (fun _ h9 => h9) rfl dX10_child_64 ?_
        refine lv_iload_n hx hb dX10_child_67 rfl (lv_at hl 1 rfl) ?_
        obtain ⟨hi7, h⟩ := gd_in h
        refine va_iald hx hb hK hP 2 0 rfl rfl hi7 dX10_child_68 ?_
        exact pr_i hx hb hr hlocks dX10_child_69 (Option.some.inj h)
      replace h := if_n s_8 h
      by_cases s_10 : p2 = (2 : Int32)
      · replace h := if_p s_10 h
        refine lv_tableIn (off := 47) (tgt := 70) hx hb dX10_child_23 (by rw [s_10]; decide) (by rw [s_10]; decide) (by rw [s_10]; decide) (by decide) ?_
        refine lv_aload_n hx hb dX10_child_70 rfl (lv_at hl 0 rfl) ?_
        refine va_get (D := D) (ci := 10) (v := .ref aM_copies) (C := RX10) (T := TX10) (N := 23) hx hb hts inX10 hown hK hP 0 rfl rfl 5 (by decide) fl_19 (fun _ h9 => h9) rfl dX10_child_71 ?_
        refine lv_iload_n hx hb dX10_child_74 rfl (lv_at hl 1 rfl) ?_
        obtain ⟨hi9, h⟩ := gd_in h
        refine va_iald hx hb hK hP 3 0 rfl rfl hi9 dX10_child_75 ?_
        exact pr_i hx hb hr hlocks dX10_child_76 (Option.some.inj h)
      replace h := if_n s_10 h
      by_cases s_11 : p2 = (3 : Int32)
      · replace h := if_p s_11 h
        refine lv_tableIn (off := 54) (tgt := 77) hx hb dX10_child_23 (by rw [s_11]; decide) (by rw [s_11]; decide) (by rw [s_11]; decide) (by decide) ?_
        refine lv_aload_n hx hb dX10_child_77 rfl (lv_at hl 0 rfl) ?_
        refine va_get (D := D) (ci := 10) (v := .int M_little) (C := RX10) (T := TX10) (N := 23) hx hb hts inX10 hown hK hP 0 rfl rfl 6 (by decide) fl_116 (fun _ h9 => h9) rfl dX10_child_78 ?_
        refine lv_iload_n hx hb dX10_child_81 rfl (lv_at hl 1 rfl) ?_
        refine lv_ishr hx hb dX10_child_82 ?_
        refine lv_iconst (v := (1 : Int32)) hx hb dX10_child_83 (by decide) ?_
        refine lv_iand hx hb dX10_child_84 ?_
        exact pr_i hx hb hr hlocks dX10_child_85 (Option.some.inj h)
      replace h := if_n s_11 h
      by_cases s_12 : p2 = (4 : Int32)
      · replace h := if_p s_12 h
        refine lv_tableIn (off := 63) (tgt := 86) hx hb dX10_child_23 (by rw [s_12]; decide) (by rw [s_12]; decide) (by rw [s_12]; decide) (by decide) ?_
        refine lv_aload_n hx hb dX10_child_86 rfl (lv_at hl 0 rfl) ?_
        refine va_get (D := D) (ci := 10) (v := .int M_in) (C := RX10) (T := TX10) (N := 23) hx hb hts inX10 hown hK hP 0 rfl rfl 7 (by decide) fl_119 (fun _ h9 => h9) rfl dX10_child_87 ?_
        refine lv_iload_n hx hb dX10_child_90 rfl (lv_at hl 1 rfl) ?_
        refine lv_ishr hx hb dX10_child_91 ?_
        refine lv_iconst (v := (1 : Int32)) hx hb dX10_child_92 (by decide) ?_
        refine lv_iand hx hb dX10_child_93 ?_
        exact pr_i hx hb hr hlocks dX10_child_94 (Option.some.inj h)
      replace h := if_n s_12 h
      refine lv_tableOut (tgt := 95) hx hb dX10_child_23 (by have e0 := i32_nek (0) (0 : Int32) (by decide) s_6; have e1 := i32_nek (1) (1 : Int32) (by decide) s_8; have e2 := i32_nek (2) (2 : Int32) (by decide) s_10; have e3 := i32_nek (3) (3 : Int32) (by decide) s_11; have e4 := i32_nek (4) (4 : Int32) (by decide) s_12; omega) (by decide) ?_
      refine lv_aload_n hx hb dX10_child_95 rfl (lv_at hl 0 rfl) ?_
      refine va_get (D := D) (ci := 10) (v := .int M_in) (C := RX10) (T := TX10) (N := 23) hx hb hts inX10 hown hK hP 0 rfl rfl 7 (by decide) fl_119 (fun _ h9 => h9) rfl dX10_child_96 ?_
      refine lv_iload_n hx hb dX10_child_99 rfl (lv_at hl 1 rfl) ?_
      have hPc : va_P D vwCl [] s.heap := hP.sub [] rfl
      refine vp_callSi (va_Run.run (va_runS (As := [.int M_in, .int p1]) (rest := []) ⟨hx, hb, hml, hown, hts⟩ (c_X10_has l D cI cJ cZ cO M_in p1 _ rfl) (cwS 2 hts gX10_child_X10_has rfl rfl rfl (by decide +kernel) ⟨Nat.le_of_ble_eq_true rfl, Nat.le_of_ble_eq_true rfl⟩) ⟨fb_p, fun U hU hW => ⟨rfl, by rw [hU]; exact hPc, KK.warm hW hKK⟩⟩ rfl rfl hl.1 rfl (lv_room (Nat.le_of_ble_eq_true rfl)) dX10_child_100 ⟨Nat.le_of_ble_eq_true rfl, Nat.le_of_ble_eq_true rfl⟩)) (fun r hr => ?_)
      obtain ⟨hr, hz13⟩ := hr
      replace hr := hr.symm
      subst hr
      refine lv_if_eq (tgt := 114) hx hb dX10_child_103 (by decide) (fun c_14 => ?_) (fun c_14 => ?_)
      · replace h := if_p c_14 h
        refine lv_bipush (v := (-9 : Int32)) hx hb dX10_child_114 (by decide) ?_
        exact pr_i hx hb hr hlocks dX10_child_116 (Option.some.inj h)
      · replace h := if_n c_14 h
        refine lv_aload_n hx hb dX10_child_106 rfl (lv_at hl 0 rfl) ?_
        refine lv_iload_n hx hb dX10_child_107 rfl (lv_at hl 1 rfl) ?_
        obtain ⟨y15, qy15, h⟩ := ob_some h
        have hPc : va_P D vwCl [(aM, .inr (10, [.ref aM_text, .int M_size, .int M_many, .ref aM_slips, .ref aM_lates, .ref aM_copies, .int M_little, .int M_in, .int M_streak, .int M_lot, .int M_undos, .ref aM_before, .ref aM_images, .ref aM_kept, .long M_trace, .int M_at, .int M_begin, .int M_kind, .long M_value, .int M_readMany, .int M_readLittle, .ref aM_read, .long M_below])), (aM_copies, .inl (cI, 6, .inl M_copies))] s.heap := hP.sub [0, 3] rfl
        refine vp_callSi (va_Run.run (va_runV (As := [.int p1]) (rest := []) ⟨hx, hb, hml, hown, hts⟩ (c_X10_leaderOf l D cI cJ cZ cO aM aM_copies aM_text aM_slips aM_lates aM_before aM_images aM_kept aM_read M_size M_many M_little M_in M_streak M_lot M_undos M_trace M_at M_begin M_kind M_value M_readMany M_readLittle M_below M_copies p1 y15 qy15) (cwV 1 hts gX10_child_X10_leaderOf rfl rfl rfl (by decide +kernel) ⟨Nat.le_of_ble_eq_true rfl, Nat.le_of_ble_eq_true rfl⟩) ⟨fb_p, va_recv hK hP (ci := 10) (q0 := 0) rfl rfl, fun U hU hW => ⟨rfl, by rw [hU]; exact hPc, KK.warm hW hKK⟩⟩ rfl rfl hl.1 rfl (lv_room (Nat.le_of_ble_eq_true rfl)) dX10_child_108 ⟨Nat.le_of_ble_eq_true rfl, Nat.le_of_ble_eq_true rfl⟩)) (fun r hr => ?_)
        replace hr := hr.symm
        subst hr
        refine lv_goto (tgt := 116) hx hb dX10_child_111 (by decide) ?_
        exact pr_i hx hb hr hlocks dX10_child_116 (Option.some.inj h)
    · replace h := if_p c_4 h
      refine lv_iconst (v := (-1 : Int32)) hx hb dX10_child_20 (by decide) ?_
      exact pr_i hx hb hr hlocks dX10_child_21 (Option.some.inj h)

def f_X10_now (M_many : Int32) (M_little : Int32) (M_in : Int32) (M_streak : Int32) (M_undos : Int32) (p1 : Int32) : Int32 := (if p1 = 0 then M_in else (if p1 = (1 : Int32) then M_streak else (if p1 = (2 : Int32) then (f_X10_fair M_many M_little M_in) else (if p1 = (3 : Int32) then M_undos else (-1 : Int32)))))
set_option maxHeartbeats 8000000 in
set_option maxRecDepth 100000 in
theorem c_X10_now (l : Launch) (D : va_G) (cI cJ cZ cO : ClassId) (aM : Nat) (aM_text : Nat) (aM_slips : Nat) (aM_lates : Nat) (aM_copies : Nat) (aM_before : Nat) (aM_images : Nat) (aM_kept : Nat) (aM_read : Nat) (M_size : Int32) (M_many : Int32) (M_little : Int32) (M_in : Int32) (M_streak : Int32) (M_lot : Int32) (M_undos : Int32) (M_trace : Int64) (M_at : Int32) (M_begin : Int32) (M_kind : Int32) (M_value : Int64) (M_readMany : Int32) (M_readLittle : Int32) (M_below : Int64)  (p1 : Int32)  (y0 : Int32) (h : f_X10_now M_many M_little M_in M_streak M_undos p1 = y0) : Met l yX10_now wsX10_now ({ frames := 1, cells := 0, slots := 0, locals := 21 } : Room) (va_Pc [.ref aM, .int p1] (fun U => va_P D vwCl [(aM, .inr (10, [.ref aM_text, .int M_size, .int M_many, .ref aM_slips, .ref aM_lates, .ref aM_copies, .int M_little, .int M_in, .int M_streak, .int M_lot, .int M_undos, .ref aM_before, .ref aM_images, .ref aM_kept, .long M_trace, .int M_at, .int M_begin, .int M_kind, .long M_value, .int M_readMany, .int M_readLittle, .ref aM_read, .long M_below]))] U.heap ∧ KK D cI cJ cZ cO U)) (vp_Si (fun r => r = y0)) 0 0 (fun _ => False) := by
  refine Met.ofW (cc := cX10_now) (maxL := 2) (ret := (some .int)) (by decide) rfl ?_
  intro p e s m args below meth c s₁ B hml hv
  obtain ⟨rfl, hP, hKK⟩ := hv
  have hx := B.exec
  have hb := B.bytes
  have hr := B.returns
  have hts := atoms_spec (ws := wsX10_now) B.pre
  have hown : s.vm.findClass RX10 = some m.cls := findClass_of_methodNamed B.named
  have hlocks := B.notSynchronized
  have hK := hKK.1
  have fl_119 := hts (.fieldLink RX10 119 "SimonSaysModel" "in" "I") (by decide +kernel)
  have fl_122 := hts (.fieldLink RX10 122 "SimonSaysModel" "streak" "I") (by decide +kernel)
  have fl_125 := hts (.fieldLink RX10 125 "SimonSaysModel" "undos" "I") (by decide +kernel)
  have inX10 : ∀ w ∈ wsX100, w ∈ wsX10_now := by decide +kernel
  have hl := lv_entry ([.ref aM, .int p1]) (n := 2) (Nat.le_of_ble_eq_true rfl)
  rw [lg_entry_eq]
  generalize (lg_sl ([.ref aM, .int p1]) ++ List.replicate (2 - (lg_sl ([.ref aM, .int p1])).length) Slot.unset).toArray = ls at hl ⊢
  have hl : lv_has ls 2 [(0, .ref aM), (1, .int p1)] := hl
  unfold f_X10_now at h
  refine lv_iload_n hx hb dX10_now_0 rfl (lv_at hl 1 rfl) ?_
  refine lv_if_ne (tgt := 11) hx hb dX10_now_1 (by decide) (fun c_1 => ?_) (fun c_1 => ?_)
  · replace h := if_n c_1 h
    refine lv_iload_n hx hb dX10_now_11 rfl (lv_at hl 1 rfl) ?_
    refine lv_iconst (v := (1 : Int32)) hx hb dX10_now_12 (by decide) ?_
    refine lv_icmp_ne (tgt := 23) hx hb dX10_now_13 (by decide) (fun c_2 => ?_) (fun c_2 => ?_)
    · replace h := if_n c_2 h
      refine lv_iload_n hx hb dX10_now_23 rfl (lv_at hl 1 rfl) ?_
      refine lv_iconst (v := (2 : Int32)) hx hb dX10_now_24 (by decide) ?_
      refine lv_icmp_ne (tgt := 35) hx hb dX10_now_25 (by decide) (fun c_3 => ?_) (fun c_3 => ?_)
      · replace h := if_n c_3 h
        refine lv_iload_n hx hb dX10_now_35 rfl (lv_at hl 1 rfl) ?_
        refine lv_iconst (v := (3 : Int32)) hx hb dX10_now_36 (by decide) ?_
        refine lv_icmp_ne (tgt := 47) hx hb dX10_now_37 (by decide) (fun c_4 => ?_) (fun c_4 => ?_)
        · replace h := if_n c_4 h
          refine lv_iconst (v := (-1 : Int32)) hx hb dX10_now_47 (by decide) ?_
          exact pr_i hx hb hr hlocks dX10_now_48 h
        · replace h := if_p c_4 h
          refine lv_aload_n hx hb dX10_now_40 rfl (lv_at hl 0 rfl) ?_
          refine va_get (D := D) (ci := 10) (v := .int M_undos) (C := RX10) (T := TX10) (N := 23) hx hb hts inX10 hown hK hP 0 rfl rfl 10 (by decide) fl_125 (fun _ h9 => h9) rfl dX10_now_41 ?_
          refine lv_goto (tgt := 48) hx hb dX10_now_44 (by decide) ?_
          exact pr_i hx hb hr hlocks dX10_now_48 h
      · replace h := if_p c_3 h
        refine lv_aload_n hx hb dX10_now_28 rfl (lv_at hl 0 rfl) ?_
        have hPc : va_P D vwCl [(aM, .inr (10, [.ref aM_text, .int M_size, .int M_many, .ref aM_slips, .ref aM_lates, .ref aM_copies, .int M_little, .int M_in, .int M_streak, .int M_lot, .int M_undos, .ref aM_before, .ref aM_images, .ref aM_kept, .long M_trace, .int M_at, .int M_begin, .int M_kind, .long M_value, .int M_readMany, .int M_readLittle, .ref aM_read, .long M_below]))] s.heap := hP.sub [0] rfl
        refine vp_callSi (va_Run.run (va_runV (As := []) (rest := []) ⟨hx, hb, hml, hown, hts⟩ (c_X10_fair l D cI cJ cZ cO aM aM_text aM_slips aM_lates aM_copies aM_before aM_images aM_kept aM_read M_size M_many M_little M_in M_streak M_lot M_undos M_trace M_at M_begin M_kind M_value M_readMany M_readLittle M_below _ rfl) (cwV 0 hts gX10_now_X10_fair rfl rfl rfl (by decide +kernel) ⟨Nat.le_of_ble_eq_true rfl, Nat.le_of_ble_eq_true rfl⟩) ⟨fb_p, va_recv hK hP (ci := 10) (q0 := 0) rfl rfl, fun U hU hW => ⟨rfl, by rw [hU]; exact hPc, KK.warm hW hKK⟩⟩ rfl rfl hl.1 rfl (lv_room (Nat.le_of_ble_eq_true rfl)) dX10_now_29 ⟨Nat.le_of_ble_eq_true rfl, Nat.le_of_ble_eq_true rfl⟩)) (fun r hr => ?_)
        replace hr := hr.symm
        subst hr
        refine lv_goto (tgt := 48) hx hb dX10_now_32 (by decide) ?_
        exact pr_i hx hb hr hlocks dX10_now_48 h
    · replace h := if_p c_2 h
      refine lv_aload_n hx hb dX10_now_16 rfl (lv_at hl 0 rfl) ?_
      refine va_get (D := D) (ci := 10) (v := .int M_streak) (C := RX10) (T := TX10) (N := 23) hx hb hts inX10 hown hK hP 0 rfl rfl 8 (by decide) fl_122 (fun _ h9 => h9) rfl dX10_now_17 ?_
      refine lv_goto (tgt := 48) hx hb dX10_now_20 (by decide) ?_
      exact pr_i hx hb hr hlocks dX10_now_48 h
  · replace h := if_p c_1 h
    refine lv_aload_n hx hb dX10_now_4 rfl (lv_at hl 0 rfl) ?_
    refine va_get (D := D) (ci := 10) (v := .int M_in) (C := RX10) (T := TX10) (N := 23) hx hb hts inX10 hown hK hP 0 rfl rfl 7 (by decide) fl_119 (fun _ h9 => h9) rfl dX10_now_5 ?_
    refine lv_goto (tgt := 48) hx hb dX10_now_8 (by decide) ?_
    exact pr_i hx hb hr hlocks dX10_now_48 h

def f_X10_errs (M_many : Int32) (M_in : Int32) (M_streak : Int32) (M_slips : Nat → Int32) (M_lates : Nat → Int32) (p1 : Int32) (p2 : Int32) : Option (Int32) := (if (f_X10_isChild M_many p1) = 0 then some (-1 : Int32) else (if (f_X10_isOrder p2) = 0 then some (-1 : Int32) else (if (f_X10_has M_in p1) = 0 then some (-2 : Int32) else (Option.bind (f_X10_errsOf M_slips M_lates p1 p2 M_streak) (fun y7 => some y7)))))
set_option maxHeartbeats 8000000 in
set_option maxRecDepth 100000 in
theorem c_X10_errs (l : Launch) (D : va_G) (cI cJ cZ cO : ClassId) (aM : Nat) (aM_slips : Nat) (aM_lates : Nat) (aM_text : Nat) (aM_copies : Nat) (aM_before : Nat) (aM_images : Nat) (aM_kept : Nat) (aM_read : Nat) (M_size : Int32) (M_many : Int32) (M_little : Int32) (M_in : Int32) (M_streak : Int32) (M_lot : Int32) (M_undos : Int32) (M_trace : Int64) (M_at : Int32) (M_begin : Int32) (M_kind : Int32) (M_value : Int64) (M_readMany : Int32) (M_readLittle : Int32) (M_below : Int64) (M_slips : Nat → Int32) (M_lates : Nat → Int32)  (p1 : Int32) (p2 : Int32)  (y0 : Int32) (h : f_X10_errs M_many M_in M_streak M_slips M_lates p1 p2 = some y0) : Met l yX10_errs wsX10_errs ({ frames := 2, cells := 0, slots := 0, locals := 46 } : Room) (va_Pc [.ref aM, .int p1, .int p2] (fun U => va_P D vwCl [(aM, .inr (10, [.ref aM_text, .int M_size, .int M_many, .ref aM_slips, .ref aM_lates, .ref aM_copies, .int M_little, .int M_in, .int M_streak, .int M_lot, .int M_undos, .ref aM_before, .ref aM_images, .ref aM_kept, .long M_trace, .int M_at, .int M_begin, .int M_kind, .long M_value, .int M_readMany, .int M_readLittle, .ref aM_read, .long M_below])), (aM_slips, .inl (cI, 6, .inl M_slips)), (aM_lates, .inl (cI, 6, .inl M_lates))] U.heap ∧ KK D cI cJ cZ cO U)) (vp_Si (fun r => r = y0)) 0 0 (fun _ => False) := by
  refine Met.ofW (cc := cX10_errs) (maxL := 3) (ret := (some .int)) (by decide) rfl ?_
  intro p e s m args below meth c s₁ B hml hv
  obtain ⟨rfl, hP, hKK⟩ := hv
  have hx := B.exec
  have hb := B.bytes
  have hr := B.returns
  have hts := atoms_spec (ws := wsX10_errs) B.pre
  have hown : s.vm.findClass RX10 = some m.cls := findClass_of_methodNamed B.named
  have hlocks := B.notSynchronized
  have hK := hKK.1
  have fl_119 := hts (.fieldLink RX10 119 "SimonSaysModel" "in" "I") (by decide +kernel)
  have fl_122 := hts (.fieldLink RX10 122 "SimonSaysModel" "streak" "I") (by decide +kernel)
  have inX10 : ∀ w ∈ wsX100, w ∈ wsX10_errs := by decide +kernel
  have hl := lv_entry ([.ref aM, .int p1, .int p2]) (n := 3) (Nat.le_of_ble_eq_true rfl)
  rw [lg_entry_eq]
  generalize (lg_sl ([.ref aM, .int p1, .int p2]) ++ List.replicate (3 - (lg_sl ([.ref aM, .int p1, .int p2])).length) Slot.unset).toArray = ls at hl ⊢
  have hl : lv_has ls 3 [(0, .ref aM), (1, .int p1), (2, .int p2)] := hl
  unfold f_X10_errs at h
  refine lv_aload_n hx hb dX10_errs_0 rfl (lv_at hl 0 rfl) ?_
  refine lv_iload_n hx hb dX10_errs_1 rfl (lv_at hl 1 rfl) ?_
  have hPc : va_P D vwCl [(aM, .inr (10, [.ref aM_text, .int M_size, .int M_many, .ref aM_slips, .ref aM_lates, .ref aM_copies, .int M_little, .int M_in, .int M_streak, .int M_lot, .int M_undos, .ref aM_before, .ref aM_images, .ref aM_kept, .long M_trace, .int M_at, .int M_begin, .int M_kind, .long M_value, .int M_readMany, .int M_readLittle, .ref aM_read, .long M_below]))] s.heap := hP.sub [0] rfl
  refine vp_callSi (va_Run.run (va_runV (As := [.int p1]) (rest := []) ⟨hx, hb, hml, hown, hts⟩ (c_X10_isChild l D cI cJ cZ cO aM aM_text aM_slips aM_lates aM_copies aM_before aM_images aM_kept aM_read M_size M_many M_little M_in M_streak M_lot M_undos M_trace M_at M_begin M_kind M_value M_readMany M_readLittle M_below p1 _ rfl) (cwV 1 hts gX10_errs_X10_isChild rfl rfl rfl (by decide +kernel) ⟨Nat.le_of_ble_eq_true rfl, Nat.le_of_ble_eq_true rfl⟩) ⟨fb_p, va_recv hK hP (ci := 10) (q0 := 0) rfl rfl, fun U hU hW => ⟨rfl, by rw [hU]; exact hPc, KK.warm hW hKK⟩⟩ rfl rfl hl.1 rfl (lv_room (Nat.le_of_ble_eq_true rfl)) dX10_errs_2 ⟨Nat.le_of_ble_eq_true rfl, Nat.le_of_ble_eq_true rfl⟩)) (fun r hr => ?_)
  obtain ⟨hr, hz1⟩ := hr
  replace hr := hr.symm
  subst hr
  refine lv_if_eq (tgt := 15) hx hb dX10_errs_5 (by decide) (fun c_2 => ?_) (fun c_2 => ?_)
  · replace h := if_p c_2 h
    refine lv_iconst (v := (-1 : Int32)) hx hb dX10_errs_15 (by decide) ?_
    exact pr_i hx hb hr hlocks dX10_errs_16 (Option.some.inj h)
  · replace h := if_n c_2 h
    refine lv_iload_n hx hb dX10_errs_8 rfl (lv_at hl 2 rfl) ?_
    have hPc : va_P D vwCl [] s.heap := hP.sub [] rfl
    refine vp_callSi (va_Run.run (va_runS (As := [.int p2]) (rest := []) ⟨hx, hb, hml, hown, hts⟩ (c_X10_isOrder l D cI cJ cZ cO p2 _ rfl) (cwS 1 hts gX10_errs_X10_isOrder rfl rfl rfl (by decide +kernel) ⟨Nat.le_of_ble_eq_true rfl, Nat.le_of_ble_eq_true rfl⟩) ⟨fb_p, fun U hU hW => ⟨rfl, by rw [hU]; exact hPc, KK.warm hW hKK⟩⟩ rfl rfl hl.1 rfl (lv_room (Nat.le_of_ble_eq_true rfl)) dX10_errs_9 ⟨Nat.le_of_ble_eq_true rfl, Nat.le_of_ble_eq_true rfl⟩)) (fun r hr => ?_)
    obtain ⟨hr, hz3⟩ := hr
    replace hr := hr.symm
    subst hr
    refine lv_if_ne (tgt := 17) hx hb dX10_errs_12 (by decide) (fun c_4 => ?_) (fun c_4 => ?_)
    · replace h := if_n c_4 h
      refine lv_aload_n hx hb dX10_errs_17 rfl (lv_at hl 0 rfl) ?_
      refine va_get (D := D) (ci := 10) (v := .int M_in) (C := RX10) (T := TX10) (N := 23) hx hb hts inX10 hown hK hP 0 rfl rfl 7 (by decide) fl_119 (fun _ h9 => h9) rfl dX10_errs_18 ?_
      refine lv_iload_n hx hb dX10_errs_21 rfl (lv_at hl 1 rfl) ?_
      have hPc : va_P D vwCl [] s.heap := hP.sub [] rfl
      refine vp_callSi (va_Run.run (va_runS (As := [.int M_in, .int p1]) (rest := []) ⟨hx, hb, hml, hown, hts⟩ (c_X10_has l D cI cJ cZ cO M_in p1 _ rfl) (cwS 2 hts gX10_errs_X10_has rfl rfl rfl (by decide +kernel) ⟨Nat.le_of_ble_eq_true rfl, Nat.le_of_ble_eq_true rfl⟩) ⟨fb_p, fun U hU hW => ⟨rfl, by rw [hU]; exact hPc, KK.warm hW hKK⟩⟩ rfl rfl hl.1 rfl (lv_room (Nat.le_of_ble_eq_true rfl)) dX10_errs_22 ⟨Nat.le_of_ble_eq_true rfl, Nat.le_of_ble_eq_true rfl⟩)) (fun r hr => ?_)
      obtain ⟨hr, hz5⟩ := hr
      replace hr := hr.symm
      subst hr
      refine lv_if_eq (tgt := 41) hx hb dX10_errs_25 (by decide) (fun c_6 => ?_) (fun c_6 => ?_)
      · replace h := if_p c_6 h
        refine lv_bipush (v := (-2 : Int32)) hx hb dX10_errs_41 (by decide) ?_
        exact pr_i hx hb hr hlocks dX10_errs_43 (Option.some.inj h)
      · replace h := if_n c_6 h
        refine lv_aload_n hx hb dX10_errs_28 rfl (lv_at hl 0 rfl) ?_
        refine lv_iload_n hx hb dX10_errs_29 rfl (lv_at hl 1 rfl) ?_
        refine lv_iload_n hx hb dX10_errs_30 rfl (lv_at hl 2 rfl) ?_
        refine lv_aload_n hx hb dX10_errs_31 rfl (lv_at hl 0 rfl) ?_
        refine va_get (D := D) (ci := 10) (v := .int M_streak) (C := RX10) (T := TX10) (N := 23) hx hb hts inX10 hown hK hP 0 rfl rfl 8 (by decide) fl_122 (fun _ h9 => h9) rfl dX10_errs_32 ?_
        obtain ⟨y7, qy7, h⟩ := ob_some h
        have hPc : va_P D vwCl [(aM, .inr (10, [.ref aM_text, .int M_size, .int M_many, .ref aM_slips, .ref aM_lates, .ref aM_copies, .int M_little, .int M_in, .int M_streak, .int M_lot, .int M_undos, .ref aM_before, .ref aM_images, .ref aM_kept, .long M_trace, .int M_at, .int M_begin, .int M_kind, .long M_value, .int M_readMany, .int M_readLittle, .ref aM_read, .long M_below])), (aM_slips, .inl (cI, 6, .inl M_slips)), (aM_lates, .inl (cI, 6, .inl M_lates))] s.heap := hP.sub [0, 1, 2] rfl
        refine vp_callSi (va_Run.run (va_runV (As := [.int p1, .int p2, .int M_streak]) (rest := []) ⟨hx, hb, hml, hown, hts⟩ (c_X10_errsOf l D cI cJ cZ cO aM aM_slips aM_lates aM_text aM_copies aM_before aM_images aM_kept aM_read M_size M_many M_little M_in M_streak M_lot M_undos M_trace M_at M_begin M_kind M_value M_readMany M_readLittle M_below M_slips M_lates p1 p2 M_streak y7 qy7) (cwV 3 hts gX10_errs_X10_errsOf rfl rfl rfl (by decide +kernel) ⟨Nat.le_of_ble_eq_true rfl, Nat.le_of_ble_eq_true rfl⟩) ⟨fb_p, va_recv hK hP (ci := 10) (q0 := 0) rfl rfl, fun U hU hW => ⟨rfl, by rw [hU]; exact hPc, KK.warm hW hKK⟩⟩ rfl rfl hl.1 rfl (lv_room (Nat.le_of_ble_eq_true rfl)) dX10_errs_35 ⟨Nat.le_of_ble_eq_true rfl, Nat.le_of_ble_eq_true rfl⟩)) (fun r hr => ?_)
        replace hr := hr.symm
        subst hr
        refine lv_goto (tgt := 43) hx hb dX10_errs_38 (by decide) ?_
        exact pr_i hx hb hr hlocks dX10_errs_43 (Option.some.inj h)
    · replace h := if_p c_4 h
      refine lv_iconst (v := (-1 : Int32)) hx hb dX10_errs_15 (by decide) ?_
      exact pr_i hx hb hr hlocks dX10_errs_16 (Option.some.inj h)

def f_X10_remember_L47 (M_in : Int32) (M_streak : Int32) (M_undos : Int32) (M_before : Nat → Int32) : Option (Int32 × (Nat → Int32)) := (if gIn ((2 : Int32) * M_undos) 24 = true then (if gIn (((2 : Int32) * M_undos) + (1 : Int32)) 24 = true then some ((M_undos + (1 : Int32)), (upd (upd M_before ((2 : Int32) * M_undos).toNatClampNeg M_in) (((2 : Int32) * M_undos) + (1 : Int32)).toNatClampNeg M_streak)) else none) else none)
def f_X10_remember_L11 (M_in : Int32) (M_streak : Int32) : Nat → Int32 → (Nat → Int32) → Int32 → Option (Int32 × (Nat → Int32))
  | 0, _, _, _ => none
  | n + 1, M_undos, M_before, x1 => (if (22 : Int32) ≤ x1 then f_X10_remember_L47 M_in M_streak (M_undos - (1 : Int32)) M_before else (if gIn (x1 + (2 : Int32)) 24 = true then (if gIn x1 24 = true then f_X10_remember_L11 M_in M_streak n M_undos (upd M_before x1.toNatClampNeg (M_before (x1 + (2 : Int32)).toNatClampNeg)) (x1 + (1 : Int32)) else none) else none))
def f_X10_remember (M_in : Int32) (M_streak : Int32) (M_undos : Int32) (M_before : Nat → Int32) : Option (Int32 × (Nat → Int32)) := (if M_undos = (12 : Int32) then f_X10_remember_L11 M_in M_streak 300 M_undos M_before (0 : Int32) else f_X10_remember_L47 M_in M_streak M_undos M_before)
set_option maxHeartbeats 8000000 in
set_option maxRecDepth 100000 in
theorem c_X10_remember (l : Launch) (D : va_G) (cI cJ cZ cO : ClassId) (aM : Nat) (aM_before : Nat) (aM_text : Nat) (aM_slips : Nat) (aM_lates : Nat) (aM_copies : Nat) (aM_images : Nat) (aM_kept : Nat) (aM_read : Nat) (M_size : Int32) (M_many : Int32) (M_little : Int32) (M_in : Int32) (M_streak : Int32) (M_lot : Int32) (M_undos : Int32) (M_trace : Int64) (M_at : Int32) (M_begin : Int32) (M_kind : Int32) (M_value : Int64) (M_readMany : Int32) (M_readLittle : Int32) (M_below : Int64) (M_before : Nat → Int32) (sz : Nat)   (y0 : Int32 × (Nat → Int32)) (h : f_X10_remember M_in M_streak M_undos M_before = some y0) : Met l yX10_remember wsX10_remember ({ frames := 0, cells := 0, slots := 0, locals := 0 } : Room) (va_Pc [.ref aM] (fun U => U.heap.size = sz ∧ va_P D vwCl [(aM, .inr (10, [.ref aM_text, .int M_size, .int M_many, .ref aM_slips, .ref aM_lates, .ref aM_copies, .int M_little, .int M_in, .int M_streak, .int M_lot, .int M_undos, .ref aM_before, .ref aM_images, .ref aM_kept, .long M_trace, .int M_at, .int M_begin, .int M_kind, .long M_value, .int M_readMany, .int M_readLittle, .ref aM_read, .long M_below])), (aM_before, .inl (cI, 24, .inl M_before))] U.heap ∧ KK D cI cJ cZ cO U ∧ va_D (fun _ => True) [(aM, .inr (10, [.ref aM_text, .int M_size, .int M_many, .ref aM_slips, .ref aM_lates, .ref aM_copies, .int M_little, .int M_in, .int M_streak, .int M_lot, .int M_undos, .ref aM_before, .ref aM_images, .ref aM_kept, .long M_trace, .int M_at, .int M_begin, .int M_kind, .long M_value, .int M_readMany, .int M_readLittle, .ref aM_read, .long M_below])), (aM_before, .inl (cI, 24, .inl M_before))])) (va_Qv (fun (_ : Unit) => True) (fun (_ : Unit) t => va_P D vwCl [(aM, .inr (10, [.ref aM_text, .int M_size, .int M_many, .ref aM_slips, .ref aM_lates, .ref aM_copies, .int M_little, .int M_in, .int M_streak, .int M_lot, .int y0.1, .ref aM_before, .ref aM_images, .ref aM_kept, .long M_trace, .int M_at, .int M_begin, .int M_kind, .long M_value, .int M_readMany, .int M_readLittle, .ref aM_read, .long M_below])), (aM_before, .inl (cI, 24, .inl y0.2))] t.heap ∧ va_D (va_A [(aM, .inr (10, [.ref aM_text, .int M_size, .int M_many, .ref aM_slips, .ref aM_lates, .ref aM_copies, .int M_little, .int M_in, .int M_streak, .int M_lot, .int M_undos, .ref aM_before, .ref aM_images, .ref aM_kept, .long M_trace, .int M_at, .int M_begin, .int M_kind, .long M_value, .int M_readMany, .int M_readLittle, .ref aM_read, .long M_below])), (aM_before, .inl (cI, 24, .inl M_before))] sz) [(aM, .inr (10, [.ref aM_text, .int M_size, .int M_many, .ref aM_slips, .ref aM_lates, .ref aM_copies, .int M_little, .int M_in, .int M_streak, .int M_lot, .int y0.1, .ref aM_before, .ref aM_images, .ref aM_kept, .long M_trace, .int M_at, .int M_begin, .int M_kind, .long M_value, .int M_readMany, .int M_readLittle, .ref aM_read, .long M_below])), (aM_before, .inl (cI, 24, .inl y0.2))]) (va_A [(aM, .inr (10, [.ref aM_text, .int M_size, .int M_many, .ref aM_slips, .ref aM_lates, .ref aM_copies, .int M_little, .int M_in, .int M_streak, .int M_lot, .int M_undos, .ref aM_before, .ref aM_images, .ref aM_kept, .long M_trace, .int M_at, .int M_begin, .int M_kind, .long M_value, .int M_readMany, .int M_readLittle, .ref aM_read, .long M_below])), (aM_before, .inl (cI, 24, .inl M_before))] sz)) 0 0 (va_A [(aM, .inr (10, [.ref aM_text, .int M_size, .int M_many, .ref aM_slips, .ref aM_lates, .ref aM_copies, .int M_little, .int M_in, .int M_streak, .int M_lot, .int M_undos, .ref aM_before, .ref aM_images, .ref aM_kept, .long M_trace, .int M_at, .int M_begin, .int M_kind, .long M_value, .int M_readMany, .int M_readLittle, .ref aM_read, .long M_below])), (aM_before, .inl (cI, 24, .inl M_before))] sz) := by
  refine Met.ofW (cc := cX10_remember) (maxL := 2) (ret := none) (by decide) rfl ?_
  intro p e s m args below meth c s₁ B hml hv
  obtain ⟨rfl, hsz, hP, hKK, hD0⟩ := hv
  have hx := B.exec
  have hb := B.bytes
  have hr := B.returns
  have hts := atoms_spec (ws := wsX10_remember) B.pre
  have hown : s.vm.findClass RX10 = some m.cls := findClass_of_methodNamed B.named
  have hlocks := B.notSynchronized
  have hK := hKK.1
  have fl_26 := hts (.fieldLink RX10 26 "SimonSaysModel" "before" "[I") (by decide +kernel)
  have fl_119 := hts (.fieldLink RX10 119 "SimonSaysModel" "in" "I") (by decide +kernel)
  have fl_122 := hts (.fieldLink RX10 122 "SimonSaysModel" "streak" "I") (by decide +kernel)
  have fl_125 := hts (.fieldLink RX10 125 "SimonSaysModel" "undos" "I") (by decide +kernel)
  have inX10 : ∀ w ∈ wsX100, w ∈ wsX10_remember := by decide +kernel
  subst hsz
  have hD := hD0.self (sz := s.heap.size)
  generalize hAe : va_A [(aM, .inr (10, [.ref aM_text, .int M_size, .int M_many, .ref aM_slips, .ref aM_lates, .ref aM_copies, .int M_little, .int M_in, .int M_streak, .int M_lot, .int M_undos, .ref aM_before, .ref aM_images, .ref aM_kept, .long M_trace, .int M_at, .int M_begin, .int M_kind, .long M_value, .int M_readMany, .int M_readLittle, .ref aM_read, .long M_below])), (aM_before, .inl (cI, 24, .inl M_before))] s.heap.size = A at hD ⊢
  have hA : ∀ q : Nat, s.heap.size ≤ q → A q := fun q h => by rw [← hAe]; exact Or.inr h
  have hS : va_S A s.heap s.heap [] := va_S.rf
  have hl := lv_entry ([.ref aM]) (n := 2) (Nat.le_of_ble_eq_true rfl)
  rw [lg_entry_eq]
  generalize (lg_sl ([.ref aM]) ++ List.replicate (2 - (lg_sl ([.ref aM])).length) Slot.unset).toArray = ls at hl ⊢
  have hl : lv_has ls 2 [(0, .ref aM)] := hl
  have L47 : ∀ (M_undos : Int32) (M_before : Nat → Int32), ∀ (H : Heap) (locs : List Loc), va_P D vwCl [(aM, .inr (10, [.ref aM_text, .int M_size, .int M_many, .ref aM_slips, .ref aM_lates, .ref aM_copies, .int M_little, .int M_in, .int M_streak, .int M_lot, .int M_undos, .ref aM_before, .ref aM_images, .ref aM_kept, .long M_trace, .int M_at, .int M_begin, .int M_kind, .long M_value, .int M_readMany, .int M_readLittle, .ref aM_read, .long M_below])), (aM_before, .inl (cI, 24, .inl M_before))] H → va_D A [(aM, .inr (10, [.ref aM_text, .int M_size, .int M_many, .ref aM_slips, .ref aM_lates, .ref aM_copies, .int M_little, .int M_in, .int M_streak, .int M_lot, .int M_undos, .ref aM_before, .ref aM_images, .ref aM_kept, .long M_trace, .int M_at, .int M_begin, .int M_kind, .long M_value, .int M_readMany, .int M_readLittle, .ref aM_read, .long M_below])), (aM_before, .inl (cI, 24, .inl M_before))] → va_S A s.heap H locs → ∀ (ls : Array Slot), lv_has ls 2 [(0, .ref aM)] → f_X10_remember_L47 M_in M_streak M_undos M_before = some y0 → W p l e (headSpec wsX10_remember ({ frames := 0, cells := 0, slots := 0, locals := 0 } : Room)).room s m ([.ref aM] : List Value).toArray below meth c H locs 0 0 (MQ below (va_Qv (fun (_ : Unit) => True) (fun (_ : Unit) t => va_P D vwCl [(aM, .inr (10, [.ref aM_text, .int M_size, .int M_many, .ref aM_slips, .ref aM_lates, .ref aM_copies, .int M_little, .int M_in, .int M_streak, .int M_lot, .int y0.1, .ref aM_before, .ref aM_images, .ref aM_kept, .long M_trace, .int M_at, .int M_begin, .int M_kind, .long M_value, .int M_readMany, .int M_readLittle, .ref aM_read, .long M_below])), (aM_before, .inl (cI, 24, .inl y0.2))] t.heap ∧ va_D A [(aM, .inr (10, [.ref aM_text, .int M_size, .int M_many, .ref aM_slips, .ref aM_lates, .ref aM_copies, .int M_little, .int M_in, .int M_streak, .int M_lot, .int y0.1, .ref aM_before, .ref aM_images, .ref aM_kept, .long M_trace, .int M_at, .int M_begin, .int M_kind, .long M_value, .int M_readMany, .int M_readLittle, .ref aM_read, .long M_below])), (aM_before, .inl (cI, 24, .inl y0.2))]) A) ([.ref aM] : List Value).toArray s 0 0 A) (F0 m 47 ls []) := by
    intro M_undos M_before H locs hP hD hS ls hl h
    unfold f_X10_remember_L47 at h
    refine lv_aload_n hx hb dX10_remember_47 rfl (lv_at hl 0 rfl) ?_
    refine va_get (D := D) (ci := 10) (v := .ref aM_before) (C := RX10) (T := TX10) (N := 23) hx hb hts inX10 hown hK hP 0 rfl rfl 11 (by decide) fl_26 (fun _ h9 => h9) rfl dX10_remember_48 ?_
    refine lv_iconst (v := (2 : Int32)) hx hb dX10_remember_51 (by decide) ?_
    refine lv_aload_n hx hb dX10_remember_52 rfl (lv_at hl 0 rfl) ?_
    refine va_get (D := D) (ci := 10) (v := .int M_undos) (C := RX10) (T := TX10) (N := 23) hx hb hts inX10 hown hK hP 0 rfl rfl 10 (by decide) fl_125 (fun _ h9 => h9) rfl dX10_remember_53 ?_
    refine lv_imul hx hb dX10_remember_56 ?_
    refine lv_aload_n hx hb dX10_remember_57 rfl (lv_at hl 0 rfl) ?_
    refine va_get (D := D) (ci := 10) (v := .int M_in) (C := RX10) (T := TX10) (N := 23) hx hb hts inX10 hown hK hP 0 rfl rfl 7 (by decide) fl_119 (fun _ h9 => h9) rfl dX10_remember_58 ?_
    obtain ⟨hi2, h⟩ := gd_in h
    refine va_iast hx hb hK hP hD hS 1 0 rfl rfl hi2 dX10_remember_61 (fun H locs hP hD hS => ?_)
    have hP : va_P D vwCl [(aM, .inr (10, [.ref aM_text, .int M_size, .int M_many, .ref aM_slips, .ref aM_lates, .ref aM_copies, .int M_little, .int M_in, .int M_streak, .int M_lot, .int M_undos, .ref aM_before, .ref aM_images, .ref aM_kept, .long M_trace, .int M_at, .int M_begin, .int M_kind, .long M_value, .int M_readMany, .int M_readLittle, .ref aM_read, .long M_below])), (aM_before, .inl (cI, 24, .inl (upd M_before ((2 : Int32) * M_undos).toNatClampNeg M_in)))] H := hP
    have hD : va_D A [(aM, .inr (10, [.ref aM_text, .int M_size, .int M_many, .ref aM_slips, .ref aM_lates, .ref aM_copies, .int M_little, .int M_in, .int M_streak, .int M_lot, .int M_undos, .ref aM_before, .ref aM_images, .ref aM_kept, .long M_trace, .int M_at, .int M_begin, .int M_kind, .long M_value, .int M_readMany, .int M_readLittle, .ref aM_read, .long M_below])), (aM_before, .inl (cI, 24, .inl (upd M_before ((2 : Int32) * M_undos).toNatClampNeg M_in)))] := hD
    refine lv_aload_n hx hb dX10_remember_62 rfl (lv_at hl 0 rfl) ?_
    refine va_get (D := D) (ci := 10) (v := .ref aM_before) (C := RX10) (T := TX10) (N := 23) hx hb hts inX10 hown hK hP 0 rfl rfl 11 (by decide) fl_26 (fun _ h9 => h9) rfl dX10_remember_63 ?_
    refine lv_iconst (v := (2 : Int32)) hx hb dX10_remember_66 (by decide) ?_
    refine lv_aload_n hx hb dX10_remember_67 rfl (lv_at hl 0 rfl) ?_
    refine va_get (D := D) (ci := 10) (v := .int M_undos) (C := RX10) (T := TX10) (N := 23) hx hb hts inX10 hown hK hP 0 rfl rfl 10 (by decide) fl_125 (fun _ h9 => h9) rfl dX10_remember_68 ?_
    refine lv_imul hx hb dX10_remember_71 ?_
    refine lv_iconst (v := (1 : Int32)) hx hb dX10_remember_72 (by decide) ?_
    refine lv_iadd hx hb dX10_remember_73 ?_
    refine lv_aload_n hx hb dX10_remember_74 rfl (lv_at hl 0 rfl) ?_
    refine va_get (D := D) (ci := 10) (v := .int M_streak) (C := RX10) (T := TX10) (N := 23) hx hb hts inX10 hown hK hP 0 rfl rfl 8 (by decide) fl_122 (fun _ h9 => h9) rfl dX10_remember_75 ?_
    obtain ⟨hi3, h⟩ := gd_in h
    refine va_iast hx hb hK hP hD hS 1 0 rfl rfl hi3 dX10_remember_78 (fun H locs hP hD hS => ?_)
    have hP : va_P D vwCl [(aM, .inr (10, [.ref aM_text, .int M_size, .int M_many, .ref aM_slips, .ref aM_lates, .ref aM_copies, .int M_little, .int M_in, .int M_streak, .int M_lot, .int M_undos, .ref aM_before, .ref aM_images, .ref aM_kept, .long M_trace, .int M_at, .int M_begin, .int M_kind, .long M_value, .int M_readMany, .int M_readLittle, .ref aM_read, .long M_below])), (aM_before, .inl (cI, 24, .inl (upd (upd M_before ((2 : Int32) * M_undos).toNatClampNeg M_in) (((2 : Int32) * M_undos) + (1 : Int32)).toNatClampNeg M_streak)))] H := hP
    have hD : va_D A [(aM, .inr (10, [.ref aM_text, .int M_size, .int M_many, .ref aM_slips, .ref aM_lates, .ref aM_copies, .int M_little, .int M_in, .int M_streak, .int M_lot, .int M_undos, .ref aM_before, .ref aM_images, .ref aM_kept, .long M_trace, .int M_at, .int M_begin, .int M_kind, .long M_value, .int M_readMany, .int M_readLittle, .ref aM_read, .long M_below])), (aM_before, .inl (cI, 24, .inl (upd (upd M_before ((2 : Int32) * M_undos).toNatClampNeg M_in) (((2 : Int32) * M_undos) + (1 : Int32)).toNatClampNeg M_streak)))] := hD
    refine lv_aload_n hx hb dX10_remember_79 rfl (lv_at hl 0 rfl) ?_
    refine lv_dup hx hb dX10_remember_80 rfl ?_
    refine va_get (D := D) (ci := 10) (v := .int M_undos) (C := RX10) (T := TX10) (N := 23) hx hb hts inX10 hown hK hP 0 rfl rfl 10 (by decide) fl_125 (fun _ h9 => h9) rfl dX10_remember_81 ?_
    refine lv_iconst (v := (1 : Int32)) hx hb dX10_remember_84 (by decide) ?_
    refine lv_iadd hx hb dX10_remember_85 ?_
    refine va_put (D := D) (ci := 10) (v := .int (M_undos + (1 : Int32))) (ty := .int) (C := RX10) (T := TX10) (N := 23) hx hb hts inX10 tyX10 tyX10_ok nmX10 hown hK hP hD hS 0 rfl rfl 10 (by decide) fl_125 (fun _ h9 => h9) rfl (by decide +kernel) rfl rfl (Nat.le_of_ble_eq_true rfl) dX10_remember_86 (fun H locs hP hD hS => ?_)
    have hP : va_P D vwCl [(aM, .inr (10, [.ref aM_text, .int M_size, .int M_many, .ref aM_slips, .ref aM_lates, .ref aM_copies, .int M_little, .int M_in, .int M_streak, .int M_lot, .int (M_undos + (1 : Int32)), .ref aM_before, .ref aM_images, .ref aM_kept, .long M_trace, .int M_at, .int M_begin, .int M_kind, .long M_value, .int M_readMany, .int M_readLittle, .ref aM_read, .long M_below])), (aM_before, .inl (cI, 24, .inl (upd (upd M_before ((2 : Int32) * M_undos).toNatClampNeg M_in) (((2 : Int32) * M_undos) + (1 : Int32)).toNatClampNeg M_streak)))] H := hP
    have hD : va_D A [(aM, .inr (10, [.ref aM_text, .int M_size, .int M_many, .ref aM_slips, .ref aM_lates, .ref aM_copies, .int M_little, .int M_in, .int M_streak, .int M_lot, .int (M_undos + (1 : Int32)), .ref aM_before, .ref aM_images, .ref aM_kept, .long M_trace, .int M_at, .int M_begin, .int M_kind, .long M_value, .int M_readMany, .int M_readLittle, .ref aM_read, .long M_below])), (aM_before, .inl (cI, 24, .inl (upd (upd M_before ((2 : Int32) * M_undos).toNatClampNeg M_in) (((2 : Int32) * M_undos) + (1 : Int32)).toNatClampNeg M_streak)))] := hD
    have hy := Option.some.inj h
    subst hy
    exact W.vret hx hb hr (fun t ht hW => ⟨⟨(), rfl, trivial, by rw [ht]; exact hP, hD⟩, hS.F ht⟩) hS.2.2 dX10_remember_89
  have L11 : ∀ (n : Nat), ∀ (M_undos : Int32) (M_before : Nat → Int32) (x1 : Int32), ∀ (H : Heap) (locs : List Loc), va_P D vwCl [(aM, .inr (10, [.ref aM_text, .int M_size, .int M_many, .ref aM_slips, .ref aM_lates, .ref aM_copies, .int M_little, .int M_in, .int M_streak, .int M_lot, .int M_undos, .ref aM_before, .ref aM_images, .ref aM_kept, .long M_trace, .int M_at, .int M_begin, .int M_kind, .long M_value, .int M_readMany, .int M_readLittle, .ref aM_read, .long M_below])), (aM_before, .inl (cI, 24, .inl M_before))] H → va_D A [(aM, .inr (10, [.ref aM_text, .int M_size, .int M_many, .ref aM_slips, .ref aM_lates, .ref aM_copies, .int M_little, .int M_in, .int M_streak, .int M_lot, .int M_undos, .ref aM_before, .ref aM_images, .ref aM_kept, .long M_trace, .int M_at, .int M_begin, .int M_kind, .long M_value, .int M_readMany, .int M_readLittle, .ref aM_read, .long M_below])), (aM_before, .inl (cI, 24, .inl M_before))] → va_S A s.heap H locs → ∀ (ls : Array Slot), lv_has ls 2 [(0, .ref aM), (1, .int x1)] → f_X10_remember_L11 M_in M_streak n M_undos M_before x1 = some y0 → W p l e (headSpec wsX10_remember ({ frames := 0, cells := 0, slots := 0, locals := 0 } : Room)).room s m ([.ref aM] : List Value).toArray below meth c H locs 0 0 (MQ below (va_Qv (fun (_ : Unit) => True) (fun (_ : Unit) t => va_P D vwCl [(aM, .inr (10, [.ref aM_text, .int M_size, .int M_many, .ref aM_slips, .ref aM_lates, .ref aM_copies, .int M_little, .int M_in, .int M_streak, .int M_lot, .int y0.1, .ref aM_before, .ref aM_images, .ref aM_kept, .long M_trace, .int M_at, .int M_begin, .int M_kind, .long M_value, .int M_readMany, .int M_readLittle, .ref aM_read, .long M_below])), (aM_before, .inl (cI, 24, .inl y0.2))] t.heap ∧ va_D A [(aM, .inr (10, [.ref aM_text, .int M_size, .int M_many, .ref aM_slips, .ref aM_lates, .ref aM_copies, .int M_little, .int M_in, .int M_streak, .int M_lot, .int y0.1, .ref aM_before, .ref aM_images, .ref aM_kept, .long M_trace, .int M_at, .int M_begin, .int M_kind, .long M_value, .int M_readMany, .int M_readLittle, .ref aM_read, .long M_below])), (aM_before, .inl (cI, 24, .inl y0.2))]) A) ([.ref aM] : List Value).toArray s 0 0 A) (F0 m 11 ls []) := by
    intro n
    induction n with
    | zero =>
      intro M_undos M_before x1 H locs hP hD hS ls hl h
      exact (ns h).elim
    | succ n ih =>
      intro M_undos M_before x1 H locs hP hD hS ls hl h
      unfold f_X10_remember_L11 at h
      refine lv_iload_n hx hb dX10_remember_11 rfl (lv_at hl 1 rfl) ?_
      refine lv_bipush (v := (22 : Int32)) hx hb dX10_remember_12 (by decide) ?_
      refine lv_icmp_ge (tgt := 37) hx hb dX10_remember_14 (by decide) (fun c_4 => ?_) (fun c_4 => ?_)
      · replace h := if_p c_4 h
        refine lv_aload_n hx hb dX10_remember_37 rfl (lv_at hl 0 rfl) ?_
        refine lv_dup hx hb dX10_remember_38 rfl ?_
        refine va_get (D := D) (ci := 10) (v := .int M_undos) (C := RX10) (T := TX10) (N := 23) hx hb hts inX10 hown hK hP 0 rfl rfl 10 (by decide) fl_125 (fun _ h9 => h9) rfl dX10_remember_39 ?_
        refine lv_iconst (v := (1 : Int32)) hx hb dX10_remember_42 (by decide) ?_
        refine lv_isub hx hb dX10_remember_43 ?_
        refine va_put (D := D) (ci := 10) (v := .int (M_undos - (1 : Int32))) (ty := .int) (C := RX10) (T := TX10) (N := 23) hx hb hts inX10 tyX10 tyX10_ok nmX10 hown hK hP hD hS 0 rfl rfl 10 (by decide) fl_125 (fun _ h9 => h9) rfl (by decide +kernel) rfl rfl (Nat.le_of_ble_eq_true rfl) dX10_remember_44 (fun H locs hP hD hS => ?_)
        have hP : va_P D vwCl [(aM, .inr (10, [.ref aM_text, .int M_size, .int M_many, .ref aM_slips, .ref aM_lates, .ref aM_copies, .int M_little, .int M_in, .int M_streak, .int M_lot, .int (M_undos - (1 : Int32)), .ref aM_before, .ref aM_images, .ref aM_kept, .long M_trace, .int M_at, .int M_begin, .int M_kind, .long M_value, .int M_readMany, .int M_readLittle, .ref aM_read, .long M_below])), (aM_before, .inl (cI, 24, .inl M_before))] H := hP
        have hD : va_D A [(aM, .inr (10, [.ref aM_text, .int M_size, .int M_many, .ref aM_slips, .ref aM_lates, .ref aM_copies, .int M_little, .int M_in, .int M_streak, .int M_lot, .int (M_undos - (1 : Int32)), .ref aM_before, .ref aM_images, .ref aM_kept, .long M_trace, .int M_at, .int M_begin, .int M_kind, .long M_value, .int M_readMany, .int M_readLittle, .ref aM_read, .long M_below])), (aM_before, .inl (cI, 24, .inl M_before))] := hD
        exact L47 (M_undos - (1 : Int32)) M_before _ _ hP hD hS ls (lv_sub hl [0] rfl) h
      · replace h := if_n c_4 h
        refine lv_aload_n hx hb dX10_remember_17 rfl (lv_at hl 0 rfl) ?_
        refine va_get (D := D) (ci := 10) (v := .ref aM_before) (C := RX10) (T := TX10) (N := 23) hx hb hts inX10 hown hK hP 0 rfl rfl 11 (by decide) fl_26 (fun _ h9 => h9) rfl dX10_remember_18 ?_
        refine lv_iload_n hx hb dX10_remember_21 rfl (lv_at hl 1 rfl) ?_
        refine lv_aload_n hx hb dX10_remember_22 rfl (lv_at hl 0 rfl) ?_
        refine va_get (D := D) (ci := 10) (v := .ref aM_before) (C := RX10) (T := TX10) (N := 23) hx hb hts inX10 hown hK hP 0 rfl rfl 11 (by decide) fl_26 (fun _ h9 => h9) rfl dX10_remember_23 ?_
        refine lv_iload_n hx hb dX10_remember_26 rfl (lv_at hl 1 rfl) ?_
        refine lv_iconst (v := (2 : Int32)) hx hb dX10_remember_27 (by decide) ?_
        refine lv_iadd hx hb dX10_remember_28 ?_
        obtain ⟨hi5, h⟩ := gd_in h
        refine va_iald hx hb hK hP 1 0 rfl rfl hi5 dX10_remember_29 ?_
        obtain ⟨hi6, h⟩ := gd_in h
        refine va_iast hx hb hK hP hD hS 1 0 rfl rfl hi6 dX10_remember_30 (fun H locs hP hD hS => ?_)
        have hP : va_P D vwCl [(aM, .inr (10, [.ref aM_text, .int M_size, .int M_many, .ref aM_slips, .ref aM_lates, .ref aM_copies, .int M_little, .int M_in, .int M_streak, .int M_lot, .int M_undos, .ref aM_before, .ref aM_images, .ref aM_kept, .long M_trace, .int M_at, .int M_begin, .int M_kind, .long M_value, .int M_readMany, .int M_readLittle, .ref aM_read, .long M_below])), (aM_before, .inl (cI, 24, .inl (upd M_before x1.toNatClampNeg (M_before (x1 + (2 : Int32)).toNatClampNeg))))] H := hP
        have hD : va_D A [(aM, .inr (10, [.ref aM_text, .int M_size, .int M_many, .ref aM_slips, .ref aM_lates, .ref aM_copies, .int M_little, .int M_in, .int M_streak, .int M_lot, .int M_undos, .ref aM_before, .ref aM_images, .ref aM_kept, .long M_trace, .int M_at, .int M_begin, .int M_kind, .long M_value, .int M_readMany, .int M_readLittle, .ref aM_read, .long M_below])), (aM_before, .inl (cI, 24, .inl (upd M_before x1.toNatClampNeg (M_before (x1 + (2 : Int32)).toNatClampNeg))))] := hD
        refine lv_iinc (v := (x1 + (1 : Int32))) (lv' := [(1, .int (x1 + (1 : Int32))), (0, .ref aM)]) hx hb dX10_remember_31 hl (k := 1) rfl rfl (by decide) rfl (fun ls hl => ?_)
        refine lv_goto (tgt := 11) hx hb dX10_remember_34 (by decide) ?_
        exact ih M_undos (upd M_before x1.toNatClampNeg (M_before (x1 + (2 : Int32)).toNatClampNeg)) (x1 + (1 : Int32)) _ _ hP hD hS ls (lv_sub hl [1, 0] rfl) h
  unfold f_X10_remember at h
  refine lv_aload_n hx hb dX10_remember_0 rfl (lv_at hl 0 rfl) ?_
  refine va_get (D := D) (ci := 10) (v := .int M_undos) (C := RX10) (T := TX10) (N := 23) hx hb hts inX10 hown hK hP 0 rfl rfl 10 (by decide) fl_125 (fun _ h9 => h9) rfl dX10_remember_1 ?_
  refine lv_bipush (v := (12 : Int32)) hx hb dX10_remember_4 (by decide) ?_
  refine lv_icmp_ne (tgt := 47) hx hb dX10_remember_6 (by decide) (fun c_1 => ?_) (fun c_1 => ?_)
  · replace h := if_n c_1 h
    exact L47 M_undos M_before _ _ hP hD hS ls (lv_sub hl [0] rfl) h
  · replace h := if_p c_1 h
    refine lv_iconst (v := (0 : Int32)) hx hb dX10_remember_9 (by decide) ?_
    refine lv_istore_n (lv' := [(1, .int (0 : Int32)), (0, .ref aM)]) hx hb dX10_remember_10 rfl hl (by decide) rfl (fun ls hl => ?_)
    exact L11 300 M_undos M_before (0 : Int32) _ _ hP hD hS ls (lv_sub hl [1, 0] rfl) h

def f_X10_call_L23 (M_many : Int32) (M_slips : Nat → Int32) (M_lates : Nat → Int32) (M_copies : Nat → Int32) : Nat → Int32 → Int32 → Int32 → Int32 → (Nat → Int32) → Int32 → Int32 → Int32 → Option (Int32 × Int32 × Int32 × Int32 × Int32 × (Nat → Int32))
  | 0, _, _, _, _, _, _, _, _ => none
  | n + 1, M_in, M_streak, M_lot, M_undos, M_before, x1, x2, x3 => (if M_many ≤ x3 then (Option.bind (f_X10_remember M_in M_streak M_undos M_before) (fun y5 => some (x2, (M_in &&& (x2 ^^^ (-1 : Int32))), (f_X10_streakBehind M_streak x1), M_lot, y5.1, y5.2))) else (if (f_X10_has M_in x3) = 0 then f_X10_call_L23 M_many M_slips M_lates M_copies n M_in M_streak M_lot M_undos M_before x1 x2 (x3 + (1 : Int32)) else (Option.bind (f_X10_leaderOf M_in M_copies x3) (fun y8 => (if y8 = x3 then (Option.bind (f_X10_errsOf M_slips M_lates x3 x1 M_streak) (fun y10 => (if y10 ≤ (((((M_lot * (1103515245 : Int32)) + (12345 : Int32)).toUInt32 >>> ((16 : Int32).toUInt32 &&& Int32.toUInt32 31)).toInt32) - ((((M_lot * (1103515245 : Int32)) + (12345 : Int32)).toUInt32 >>> ((16 : Int32).toUInt32 &&& Int32.toUInt32 31)).toInt32) / (10 : Int32) * (10 : Int32)) then f_X10_call_L23 M_many M_slips M_lates M_copies n M_in M_streak ((M_lot * (1103515245 : Int32)) + (12345 : Int32)) M_undos M_before x1 (x2 ||| (0 : Int32)) (x3 + (1 : Int32)) else (Option.bind (f_X10_ledBy M_many M_in M_copies x3) (fun y12 => f_X10_call_L23 M_many M_slips M_lates M_copies n M_in M_streak ((M_lot * (1103515245 : Int32)) + (12345 : Int32)) M_undos M_before x1 (x2 ||| y12) (x3 + (1 : Int32))))))) else f_X10_call_L23 M_many M_slips M_lates M_copies n M_in M_streak M_lot M_undos M_before x1 x2 (x3 + (1 : Int32)))))))
def f_X10_call (M_many : Int32) (M_in : Int32) (M_streak : Int32) (M_lot : Int32) (M_undos : Int32) (M_slips : Nat → Int32) (M_lates : Nat → Int32) (M_copies : Nat → Int32) (M_before : Nat → Int32) (p1 : Int32) : Option (Int32 × Int32 × Int32 × Int32 × Int32 × (Nat → Int32)) := (if (f_X10_isOrder p1) = 0 then some ((-1 : Int32), M_in, M_streak, M_lot, M_undos, M_before) else (if M_in = 0 then some ((-2 : Int32), M_in, M_streak, M_lot, M_undos, M_before) else f_X10_call_L23 M_many M_slips M_lates M_copies 300 M_in M_streak M_lot M_undos M_before p1 (0 : Int32) (0 : Int32)))
set_option maxHeartbeats 8000000 in
set_option maxRecDepth 100000 in
theorem c_X10_call (l : Launch) (D : va_G) (cI cJ cZ cO : ClassId) (aM : Nat) (aM_slips : Nat) (aM_lates : Nat) (aM_copies : Nat) (aM_before : Nat) (aM_text : Nat) (aM_images : Nat) (aM_kept : Nat) (aM_read : Nat) (M_size : Int32) (M_many : Int32) (M_little : Int32) (M_in : Int32) (M_streak : Int32) (M_lot : Int32) (M_undos : Int32) (M_trace : Int64) (M_at : Int32) (M_begin : Int32) (M_kind : Int32) (M_value : Int64) (M_readMany : Int32) (M_readLittle : Int32) (M_below : Int64) (M_slips : Nat → Int32) (M_lates : Nat → Int32) (M_copies : Nat → Int32) (M_before : Nat → Int32) (sz : Nat) (p1 : Int32)  (y0 : Int32 × Int32 × Int32 × Int32 × Int32 × (Nat → Int32)) (h : f_X10_call M_many M_in M_streak M_lot M_undos M_slips M_lates M_copies M_before p1 = some y0) : Met l yX10_call wsX10_call ({ frames := 3, cells := 0, slots := 0, locals := 66 } : Room) (va_Pc [.ref aM, .int p1] (fun U => U.heap.size = sz ∧ va_P D vwCl [(aM, .inr (10, [.ref aM_text, .int M_size, .int M_many, .ref aM_slips, .ref aM_lates, .ref aM_copies, .int M_little, .int M_in, .int M_streak, .int M_lot, .int M_undos, .ref aM_before, .ref aM_images, .ref aM_kept, .long M_trace, .int M_at, .int M_begin, .int M_kind, .long M_value, .int M_readMany, .int M_readLittle, .ref aM_read, .long M_below])), (aM_slips, .inl (cI, 6, .inl M_slips)), (aM_lates, .inl (cI, 6, .inl M_lates)), (aM_copies, .inl (cI, 6, .inl M_copies)), (aM_before, .inl (cI, 24, .inl M_before))] U.heap ∧ KK D cI cJ cZ cO U ∧ va_D (fun _ => True) [(aM, .inr (10, [.ref aM_text, .int M_size, .int M_many, .ref aM_slips, .ref aM_lates, .ref aM_copies, .int M_little, .int M_in, .int M_streak, .int M_lot, .int M_undos, .ref aM_before, .ref aM_images, .ref aM_kept, .long M_trace, .int M_at, .int M_begin, .int M_kind, .long M_value, .int M_readMany, .int M_readLittle, .ref aM_read, .long M_below])), (aM_slips, .inl (cI, 6, .inl M_slips)), (aM_lates, .inl (cI, 6, .inl M_lates)), (aM_copies, .inl (cI, 6, .inl M_copies)), (aM_before, .inl (cI, 24, .inl M_before))])) (va_Qi (fun (r : Int32) (_ : Unit) => r = y0.1) (fun (_ : Unit) t => va_P D vwCl [(aM, .inr (10, [.ref aM_text, .int M_size, .int M_many, .ref aM_slips, .ref aM_lates, .ref aM_copies, .int M_little, .int y0.2.1, .int y0.2.2.1, .int y0.2.2.2.1, .int y0.2.2.2.2.1, .ref aM_before, .ref aM_images, .ref aM_kept, .long M_trace, .int M_at, .int M_begin, .int M_kind, .long M_value, .int M_readMany, .int M_readLittle, .ref aM_read, .long M_below])), (aM_slips, .inl (cI, 6, .inl M_slips)), (aM_lates, .inl (cI, 6, .inl M_lates)), (aM_copies, .inl (cI, 6, .inl M_copies)), (aM_before, .inl (cI, 24, .inl y0.2.2.2.2.2))] t.heap ∧ va_D (va_A [(aM, .inr (10, [.ref aM_text, .int M_size, .int M_many, .ref aM_slips, .ref aM_lates, .ref aM_copies, .int M_little, .int M_in, .int M_streak, .int M_lot, .int M_undos, .ref aM_before, .ref aM_images, .ref aM_kept, .long M_trace, .int M_at, .int M_begin, .int M_kind, .long M_value, .int M_readMany, .int M_readLittle, .ref aM_read, .long M_below])), (aM_slips, .inl (cI, 6, .inl M_slips)), (aM_lates, .inl (cI, 6, .inl M_lates)), (aM_copies, .inl (cI, 6, .inl M_copies)), (aM_before, .inl (cI, 24, .inl M_before))] sz) [(aM, .inr (10, [.ref aM_text, .int M_size, .int M_many, .ref aM_slips, .ref aM_lates, .ref aM_copies, .int M_little, .int y0.2.1, .int y0.2.2.1, .int y0.2.2.2.1, .int y0.2.2.2.2.1, .ref aM_before, .ref aM_images, .ref aM_kept, .long M_trace, .int M_at, .int M_begin, .int M_kind, .long M_value, .int M_readMany, .int M_readLittle, .ref aM_read, .long M_below])), (aM_slips, .inl (cI, 6, .inl M_slips)), (aM_lates, .inl (cI, 6, .inl M_lates)), (aM_copies, .inl (cI, 6, .inl M_copies)), (aM_before, .inl (cI, 24, .inl y0.2.2.2.2.2))]) (va_A [(aM, .inr (10, [.ref aM_text, .int M_size, .int M_many, .ref aM_slips, .ref aM_lates, .ref aM_copies, .int M_little, .int M_in, .int M_streak, .int M_lot, .int M_undos, .ref aM_before, .ref aM_images, .ref aM_kept, .long M_trace, .int M_at, .int M_begin, .int M_kind, .long M_value, .int M_readMany, .int M_readLittle, .ref aM_read, .long M_below])), (aM_slips, .inl (cI, 6, .inl M_slips)), (aM_lates, .inl (cI, 6, .inl M_lates)), (aM_copies, .inl (cI, 6, .inl M_copies)), (aM_before, .inl (cI, 24, .inl M_before))] sz)) 0 0 (va_A [(aM, .inr (10, [.ref aM_text, .int M_size, .int M_many, .ref aM_slips, .ref aM_lates, .ref aM_copies, .int M_little, .int M_in, .int M_streak, .int M_lot, .int M_undos, .ref aM_before, .ref aM_images, .ref aM_kept, .long M_trace, .int M_at, .int M_begin, .int M_kind, .long M_value, .int M_readMany, .int M_readLittle, .ref aM_read, .long M_below])), (aM_slips, .inl (cI, 6, .inl M_slips)), (aM_lates, .inl (cI, 6, .inl M_lates)), (aM_copies, .inl (cI, 6, .inl M_copies)), (aM_before, .inl (cI, 24, .inl M_before))] sz) := by
  refine Met.ofW (cc := cX10_call) (maxL := 4) (ret := (some .int)) (by decide) rfl ?_
  intro p e s m args below meth c s₁ B hml hv
  obtain ⟨rfl, hsz, hP, hKK, hD0⟩ := hv
  have hx := B.exec
  have hb := B.bytes
  have hr := B.returns
  have hts := atoms_spec (ws := wsX10_call) B.pre
  have hown : s.vm.findClass RX10 = some m.cls := findClass_of_methodNamed B.named
  have hlocks := B.notSynchronized
  have hK := hKK.1
  have fl_22 := hts (.fieldLink RX10 22 "SimonSaysModel" "lot" "I") (by decide +kernel)
  have fl_39 := hts (.fieldLink RX10 39 "SimonSaysModel" "many" "I") (by decide +kernel)
  have fl_119 := hts (.fieldLink RX10 119 "SimonSaysModel" "in" "I") (by decide +kernel)
  have fl_122 := hts (.fieldLink RX10 122 "SimonSaysModel" "streak" "I") (by decide +kernel)
  have cst_151 := hts (.constant RX10 151 (1103515245)) (by decide +kernel)
  have inX10 : ∀ w ∈ wsX100, w ∈ wsX10_call := by decide +kernel
  subst hsz
  have hD := hD0.self (sz := s.heap.size)
  generalize hAe : va_A [(aM, .inr (10, [.ref aM_text, .int M_size, .int M_many, .ref aM_slips, .ref aM_lates, .ref aM_copies, .int M_little, .int M_in, .int M_streak, .int M_lot, .int M_undos, .ref aM_before, .ref aM_images, .ref aM_kept, .long M_trace, .int M_at, .int M_begin, .int M_kind, .long M_value, .int M_readMany, .int M_readLittle, .ref aM_read, .long M_below])), (aM_slips, .inl (cI, 6, .inl M_slips)), (aM_lates, .inl (cI, 6, .inl M_lates)), (aM_copies, .inl (cI, 6, .inl M_copies)), (aM_before, .inl (cI, 24, .inl M_before))] s.heap.size = A at hD ⊢
  have hA : ∀ q : Nat, s.heap.size ≤ q → A q := fun q h => by rw [← hAe]; exact Or.inr h
  have hS : va_S A s.heap s.heap [] := va_S.rf
  have hl := lv_entry ([.ref aM, .int p1]) (n := 4) (Nat.le_of_ble_eq_true rfl)
  rw [lg_entry_eq]
  generalize (lg_sl ([.ref aM, .int p1]) ++ List.replicate (4 - (lg_sl ([.ref aM, .int p1])).length) Slot.unset).toArray = ls at hl ⊢
  have hl : lv_has ls 4 [(0, .ref aM), (1, .int p1)] := hl
  have L23 : ∀ (n : Nat), ∀ (M_in : Int32) (M_streak : Int32) (M_lot : Int32) (M_undos : Int32) (M_before : Nat → Int32) (x1 : Int32) (x2 : Int32) (x3 : Int32), ∀ (H : Heap) (locs : List Loc), va_P D vwCl [(aM, .inr (10, [.ref aM_text, .int M_size, .int M_many, .ref aM_slips, .ref aM_lates, .ref aM_copies, .int M_little, .int M_in, .int M_streak, .int M_lot, .int M_undos, .ref aM_before, .ref aM_images, .ref aM_kept, .long M_trace, .int M_at, .int M_begin, .int M_kind, .long M_value, .int M_readMany, .int M_readLittle, .ref aM_read, .long M_below])), (aM_slips, .inl (cI, 6, .inl M_slips)), (aM_lates, .inl (cI, 6, .inl M_lates)), (aM_copies, .inl (cI, 6, .inl M_copies)), (aM_before, .inl (cI, 24, .inl M_before))] H → va_D A [(aM, .inr (10, [.ref aM_text, .int M_size, .int M_many, .ref aM_slips, .ref aM_lates, .ref aM_copies, .int M_little, .int M_in, .int M_streak, .int M_lot, .int M_undos, .ref aM_before, .ref aM_images, .ref aM_kept, .long M_trace, .int M_at, .int M_begin, .int M_kind, .long M_value, .int M_readMany, .int M_readLittle, .ref aM_read, .long M_below])), (aM_slips, .inl (cI, 6, .inl M_slips)), (aM_lates, .inl (cI, 6, .inl M_lates)), (aM_copies, .inl (cI, 6, .inl M_copies)), (aM_before, .inl (cI, 24, .inl M_before))] → va_S A s.heap H locs → ∀ (ls : Array Slot), lv_has ls 4 [(0, .ref aM), (1, .int x1), (2, .int x2), (3, .int x3)] → f_X10_call_L23 M_many M_slips M_lates M_copies n M_in M_streak M_lot M_undos M_before x1 x2 x3 = some y0 → W p l e (headSpec wsX10_call ({ frames := 3, cells := 0, slots := 0, locals := 66 } : Room)).room s m ([.ref aM, .int p1] : List Value).toArray below meth c H locs 0 0 (MQ below (va_Qi (fun (r : Int32) (_ : Unit) => r = y0.1) (fun (_ : Unit) t => va_P D vwCl [(aM, .inr (10, [.ref aM_text, .int M_size, .int M_many, .ref aM_slips, .ref aM_lates, .ref aM_copies, .int M_little, .int y0.2.1, .int y0.2.2.1, .int y0.2.2.2.1, .int y0.2.2.2.2.1, .ref aM_before, .ref aM_images, .ref aM_kept, .long M_trace, .int M_at, .int M_begin, .int M_kind, .long M_value, .int M_readMany, .int M_readLittle, .ref aM_read, .long M_below])), (aM_slips, .inl (cI, 6, .inl M_slips)), (aM_lates, .inl (cI, 6, .inl M_lates)), (aM_copies, .inl (cI, 6, .inl M_copies)), (aM_before, .inl (cI, 24, .inl y0.2.2.2.2.2))] t.heap ∧ va_D A [(aM, .inr (10, [.ref aM_text, .int M_size, .int M_many, .ref aM_slips, .ref aM_lates, .ref aM_copies, .int M_little, .int y0.2.1, .int y0.2.2.1, .int y0.2.2.2.1, .int y0.2.2.2.2.1, .ref aM_before, .ref aM_images, .ref aM_kept, .long M_trace, .int M_at, .int M_begin, .int M_kind, .long M_value, .int M_readMany, .int M_readLittle, .ref aM_read, .long M_below])), (aM_slips, .inl (cI, 6, .inl M_slips)), (aM_lates, .inl (cI, 6, .inl M_lates)), (aM_copies, .inl (cI, 6, .inl M_copies)), (aM_before, .inl (cI, 24, .inl y0.2.2.2.2.2))]) A) ([.ref aM, .int p1] : List Value).toArray s 0 0 A) (F0 m 23 ls []) := by
    intro n
    induction n with
    | zero =>
      intro M_in M_streak M_lot M_undos M_before x1 x2 x3 H locs hP hD hS ls hl h
      exact (ns h).elim
    | succ n ih =>
      intro M_in M_streak M_lot M_undos M_before x1 x2 x3 H locs hP hD hS ls hl h
      unfold f_X10_call_L23 at h
      refine lv_iload_n hx hb dX10_call_23 rfl (lv_at hl 3 rfl) ?_
      refine lv_aload_n hx hb dX10_call_24 rfl (lv_at hl 0 rfl) ?_
      refine va_get (D := D) (ci := 10) (v := .int M_many) (C := RX10) (T := TX10) (N := 23) hx hb hts inX10 hown hK hP 0 rfl rfl 2 (by decide) fl_39 (fun _ h9 => h9) rfl dX10_call_25 ?_
      refine lv_icmp_ge (tgt := 107) hx hb dX10_call_28 (by decide) (fun c_4 => ?_) (fun c_4 => ?_)
      · replace h := if_p c_4 h
        refine lv_aload_n hx hb dX10_call_107 rfl (lv_at hl 0 rfl) ?_
        obtain ⟨y5, qy5, h⟩ := ob_some h
        have hPc : va_P D vwCl [(aM, .inr (10, [.ref aM_text, .int M_size, .int M_many, .ref aM_slips, .ref aM_lates, .ref aM_copies, .int M_little, .int M_in, .int M_streak, .int M_lot, .int M_undos, .ref aM_before, .ref aM_images, .ref aM_kept, .long M_trace, .int M_at, .int M_begin, .int M_kind, .long M_value, .int M_readMany, .int M_readLittle, .ref aM_read, .long M_below])), (aM_before, .inl (cI, 24, .inl M_before))] H := hP.sub [0, 4] rfl
        have hDc : va_D A [(aM, .inr (10, [.ref aM_text, .int M_size, .int M_many, .ref aM_slips, .ref aM_lates, .ref aM_copies, .int M_little, .int M_in, .int M_streak, .int M_lot, .int M_undos, .ref aM_before, .ref aM_images, .ref aM_kept, .long M_trace, .int M_at, .int M_begin, .int M_kind, .long M_value, .int M_readMany, .int M_readLittle, .ref aM_read, .long M_below])), (aM_before, .inl (cI, 24, .inl M_before))] := hD.sub [0, 4] (by decide) rfl
        have hFc := va_free (wc := [(aM, .inr (10, [.ref aM_text, .int M_size, .int M_many, .ref aM_slips, .ref aM_lates, .ref aM_copies, .int M_little, .int M_in, .int M_streak, .int M_lot, .int M_undos, .ref aM_before, .ref aM_images, .ref aM_kept, .long M_trace, .int M_at, .int M_begin, .int M_kind, .long M_value, .int M_readMany, .int M_readLittle, .ref aM_read, .long M_below])), (aM_before, .inl (cI, 24, .inl M_before))]) hD hS hA [0, 4] rfl
        refine va_callv (va_runV (As := []) (rest := []) ⟨hx, hb, hml, hown, hts⟩ (c_X10_remember l D cI cJ cZ cO aM aM_before aM_text aM_slips aM_lates aM_copies aM_images aM_kept aM_read M_size M_many M_little M_in M_streak M_lot M_undos M_trace M_at M_begin M_kind M_value M_readMany M_readLittle M_below M_before H.size y5 qy5) (cwV 0 hts gX10_call_X10_remember rfl rfl rfl (by decide +kernel) ⟨Nat.le_of_ble_eq_true rfl, Nat.le_of_ble_eq_true rfl⟩) ⟨fb_i, va_recv hK hP (ci := 10) (q0 := 0) rfl rfl, fun U hU hW => ⟨rfl, by rw [hU], by rw [hU]; exact hPc, KK.warm hW hKK, hDc.weaken (fun _ _ _ _ => trivial)⟩⟩ rfl rfl hl.1 rfl (lv_room (Nat.le_of_ble_eq_true rfl)) dX10_call_108 ⟨Nat.le_of_ble_eq_true rfl, Nat.le_of_ble_eq_true rfl⟩) hS (fun q _ h => hFc q h) hFc (fun u t H1 locs ht hvm hw hB hz1 hk1 hS => ?_)
        obtain ⟨hP1, hD1⟩ := hB
        rw [ht] at hP1
        obtain ⟨hP, hD⟩ := va_join (wr := [(aM_slips, .inl (cI, 6, .inl M_slips)), (aM_lates, .inl (cI, 6, .inl M_lates)), (aM_copies, .inl (cI, 6, .inl M_copies))]) (w1 := [(aM, .inr (10, [.ref aM_text, .int M_size, .int M_many, .ref aM_slips, .ref aM_lates, .ref aM_copies, .int M_little, .int M_in, .int M_streak, .int M_lot, .int y5.1, .ref aM_before, .ref aM_images, .ref aM_kept, .long M_trace, .int M_at, .int M_begin, .int M_kind, .long M_value, .int M_readMany, .int M_readLittle, .ref aM_read, .long M_below])), (aM_before, .inl (cI, 24, .inl y5.2))]) hP hD [0, 4] [1, 2, 3] rfl rfl (by decide) (by decide) hk1 hFc hP1 hD1
        generalize H1 = H at hP hS ⊢
        have hP : va_P D vwCl [(aM, .inr (10, [.ref aM_text, .int M_size, .int M_many, .ref aM_slips, .ref aM_lates, .ref aM_copies, .int M_little, .int M_in, .int M_streak, .int M_lot, .int y5.1, .ref aM_before, .ref aM_images, .ref aM_kept, .long M_trace, .int M_at, .int M_begin, .int M_kind, .long M_value, .int M_readMany, .int M_readLittle, .ref aM_read, .long M_below])), (aM_slips, .inl (cI, 6, .inl M_slips)), (aM_lates, .inl (cI, 6, .inl M_lates)), (aM_copies, .inl (cI, 6, .inl M_copies)), (aM_before, .inl (cI, 24, .inl y5.2))] H := hP.sub [3, 0, 1, 2, 4] rfl
        have hD : va_D A [(aM, .inr (10, [.ref aM_text, .int M_size, .int M_many, .ref aM_slips, .ref aM_lates, .ref aM_copies, .int M_little, .int M_in, .int M_streak, .int M_lot, .int y5.1, .ref aM_before, .ref aM_images, .ref aM_kept, .long M_trace, .int M_at, .int M_begin, .int M_kind, .long M_value, .int M_readMany, .int M_readLittle, .ref aM_read, .long M_below])), (aM_slips, .inl (cI, 6, .inl M_slips)), (aM_lates, .inl (cI, 6, .inl M_lates)), (aM_copies, .inl (cI, 6, .inl M_copies)), (aM_before, .inl (cI, 24, .inl y5.2))] := hD.sub [3, 0, 1, 2, 4] (by decide) rfl
        refine lv_aload_n hx hb dX10_call_111 rfl (lv_at hl 0 rfl) ?_
        refine lv_dup hx hb dX10_call_112 rfl ?_
        refine va_get (D := D) (ci := 10) (v := .int M_in) (C := RX10) (T := TX10) (N := 23) hx hb hts inX10 hown hK hP 0 rfl rfl 7 (by decide) fl_119 (fun _ h9 => h9) rfl dX10_call_113 ?_
        refine lv_iload_n hx hb dX10_call_116 rfl (lv_at hl 2 rfl) ?_
        refine lv_iconst (v := (-1 : Int32)) hx hb dX10_call_117 (by decide) ?_
        refine lv_ixor hx hb dX10_call_118 ?_
        refine lv_iand hx hb dX10_call_119 ?_
        refine va_put (D := D) (ci := 10) (v := .int (M_in &&& (x2 ^^^ (-1 : Int32)))) (ty := .int) (C := RX10) (T := TX10) (N := 23) hx hb hts inX10 tyX10 tyX10_ok nmX10 hown hK hP hD hS 0 rfl rfl 7 (by decide) fl_119 (fun _ h9 => h9) rfl (by decide +kernel) rfl rfl (Nat.le_of_ble_eq_true rfl) dX10_call_120 (fun H locs hP hD hS => ?_)
        have hP : va_P D vwCl [(aM, .inr (10, [.ref aM_text, .int M_size, .int M_many, .ref aM_slips, .ref aM_lates, .ref aM_copies, .int M_little, .int (M_in &&& (x2 ^^^ (-1 : Int32))), .int M_streak, .int M_lot, .int y5.1, .ref aM_before, .ref aM_images, .ref aM_kept, .long M_trace, .int M_at, .int M_begin, .int M_kind, .long M_value, .int M_readMany, .int M_readLittle, .ref aM_read, .long M_below])), (aM_slips, .inl (cI, 6, .inl M_slips)), (aM_lates, .inl (cI, 6, .inl M_lates)), (aM_copies, .inl (cI, 6, .inl M_copies)), (aM_before, .inl (cI, 24, .inl y5.2))] H := hP
        have hD : va_D A [(aM, .inr (10, [.ref aM_text, .int M_size, .int M_many, .ref aM_slips, .ref aM_lates, .ref aM_copies, .int M_little, .int (M_in &&& (x2 ^^^ (-1 : Int32))), .int M_streak, .int M_lot, .int y5.1, .ref aM_before, .ref aM_images, .ref aM_kept, .long M_trace, .int M_at, .int M_begin, .int M_kind, .long M_value, .int M_readMany, .int M_readLittle, .ref aM_read, .long M_below])), (aM_slips, .inl (cI, 6, .inl M_slips)), (aM_lates, .inl (cI, 6, .inl M_lates)), (aM_copies, .inl (cI, 6, .inl M_copies)), (aM_before, .inl (cI, 24, .inl y5.2))] := hD
        refine lv_aload_n hx hb dX10_call_123 rfl (lv_at hl 0 rfl) ?_
        refine lv_aload_n hx hb dX10_call_124 rfl (lv_at hl 0 rfl) ?_
        refine va_get (D := D) (ci := 10) (v := .int M_streak) (C := RX10) (T := TX10) (N := 23) hx hb hts inX10 hown hK hP 0 rfl rfl 8 (by decide) fl_122 (fun _ h9 => h9) rfl dX10_call_125 ?_
        refine lv_iload_n hx hb dX10_call_128 rfl (lv_at hl 1 rfl) ?_
        have hPc : va_P D vwCl [] H := hP.sub [] rfl
        refine vp_callSi (va_Run.run (va_runS (As := [.int M_streak, .int x1]) (rest := [.ref aM]) ⟨hx, hb, hml, hown, hts⟩ (c_X10_streakBehind l D cI cJ cZ cO M_streak x1 _ rfl) (cwS 2 hts gX10_call_X10_streakBehind rfl rfl rfl (by decide +kernel) ⟨Nat.le_of_ble_eq_true rfl, Nat.le_of_ble_eq_true rfl⟩) ⟨fb_p, fun U hU hW => ⟨rfl, by rw [hU]; exact hPc, KK.warm hW hKK⟩⟩ rfl rfl hl.1 rfl (lv_room (Nat.le_of_ble_eq_true rfl)) dX10_call_129 ⟨Nat.le_of_ble_eq_true rfl, Nat.le_of_ble_eq_true rfl⟩)) (fun r hr => ?_)
        replace hr := hr.symm
        subst hr
        refine va_put (D := D) (ci := 10) (v := .int (f_X10_streakBehind M_streak x1)) (ty := .int) (C := RX10) (T := TX10) (N := 23) hx hb hts inX10 tyX10 tyX10_ok nmX10 hown hK hP hD hS 0 rfl rfl 8 (by decide) fl_122 (fun _ h9 => h9) rfl (by decide +kernel) rfl rfl (Nat.le_of_ble_eq_true rfl) dX10_call_132 (fun H locs hP hD hS => ?_)
        have hP : va_P D vwCl [(aM, .inr (10, [.ref aM_text, .int M_size, .int M_many, .ref aM_slips, .ref aM_lates, .ref aM_copies, .int M_little, .int (M_in &&& (x2 ^^^ (-1 : Int32))), .int (f_X10_streakBehind M_streak x1), .int M_lot, .int y5.1, .ref aM_before, .ref aM_images, .ref aM_kept, .long M_trace, .int M_at, .int M_begin, .int M_kind, .long M_value, .int M_readMany, .int M_readLittle, .ref aM_read, .long M_below])), (aM_slips, .inl (cI, 6, .inl M_slips)), (aM_lates, .inl (cI, 6, .inl M_lates)), (aM_copies, .inl (cI, 6, .inl M_copies)), (aM_before, .inl (cI, 24, .inl y5.2))] H := hP
        have hD : va_D A [(aM, .inr (10, [.ref aM_text, .int M_size, .int M_many, .ref aM_slips, .ref aM_lates, .ref aM_copies, .int M_little, .int (M_in &&& (x2 ^^^ (-1 : Int32))), .int (f_X10_streakBehind M_streak x1), .int M_lot, .int y5.1, .ref aM_before, .ref aM_images, .ref aM_kept, .long M_trace, .int M_at, .int M_begin, .int M_kind, .long M_value, .int M_readMany, .int M_readLittle, .ref aM_read, .long M_below])), (aM_slips, .inl (cI, 6, .inl M_slips)), (aM_lates, .inl (cI, 6, .inl M_lates)), (aM_copies, .inl (cI, 6, .inl M_copies)), (aM_before, .inl (cI, 24, .inl y5.2))] := hD
        refine lv_iload_n hx hb dX10_call_135 rfl (lv_at hl 2 rfl) ?_
        have hy := Option.some.inj h
        subst hy
        exact W.iret (v := x2) hx hb hr (fun t ht hW => ⟨⟨x2, (), rfl, rfl, by rw [ht]; exact hP, hD⟩, hS.F ht⟩) hS.2.2 dX10_call_136
      · replace h := if_n c_4 h
        refine lv_aload_n hx hb dX10_call_31 rfl (lv_at hl 0 rfl) ?_
        refine va_get (D := D) (ci := 10) (v := .int M_in) (C := RX10) (T := TX10) (N := 23) hx hb hts inX10 hown hK hP 0 rfl rfl 7 (by decide) fl_119 (fun _ h9 => h9) rfl dX10_call_32 ?_
        refine lv_iload_n hx hb dX10_call_35 rfl (lv_at hl 3 rfl) ?_
        have hPc : va_P D vwCl [] H := hP.sub [] rfl
        refine vp_callSi (va_Run.run (va_runS (As := [.int M_in, .int x3]) (rest := []) ⟨hx, hb, hml, hown, hts⟩ (c_X10_has l D cI cJ cZ cO M_in x3 _ rfl) (cwS 2 hts gX10_call_X10_has rfl rfl rfl (by decide +kernel) ⟨Nat.le_of_ble_eq_true rfl, Nat.le_of_ble_eq_true rfl⟩) ⟨fb_p, fun U hU hW => ⟨rfl, by rw [hU]; exact hPc, KK.warm hW hKK⟩⟩ rfl rfl hl.1 rfl (lv_room (Nat.le_of_ble_eq_true rfl)) dX10_call_36 ⟨Nat.le_of_ble_eq_true rfl, Nat.le_of_ble_eq_true rfl⟩)) (fun r hr => ?_)
        obtain ⟨hr, hz6⟩ := hr
        replace hr := hr.symm
        subst hr
        refine lv_if_eq (tgt := 101) hx hb dX10_call_39 (by decide) (fun c_7 => ?_) (fun c_7 => ?_)
        · replace h := if_p c_7 h
          refine lv_iinc (v := (x3 + (1 : Int32))) (lv' := [(3, .int (x3 + (1 : Int32))), (0, .ref aM), (1, .int x1), (2, .int x2)]) hx hb dX10_call_101 hl (k := 3) rfl rfl (by decide) rfl (fun ls hl => ?_)
          refine lv_goto (tgt := 23) hx hb dX10_call_104 (by decide) ?_
          exact ih M_in M_streak M_lot M_undos M_before x1 x2 (x3 + (1 : Int32)) _ _ hP hD hS ls (lv_sub hl [1, 2, 3, 0] rfl) h
        · replace h := if_n c_7 h
          refine lv_aload_n hx hb dX10_call_42 rfl (lv_at hl 0 rfl) ?_
          refine lv_iload_n hx hb dX10_call_43 rfl (lv_at hl 3 rfl) ?_
          obtain ⟨y8, qy8, h⟩ := ob_some h
          have hPc : va_P D vwCl [(aM, .inr (10, [.ref aM_text, .int M_size, .int M_many, .ref aM_slips, .ref aM_lates, .ref aM_copies, .int M_little, .int M_in, .int M_streak, .int M_lot, .int M_undos, .ref aM_before, .ref aM_images, .ref aM_kept, .long M_trace, .int M_at, .int M_begin, .int M_kind, .long M_value, .int M_readMany, .int M_readLittle, .ref aM_read, .long M_below])), (aM_copies, .inl (cI, 6, .inl M_copies))] H := hP.sub [0, 3] rfl
          refine vp_callSi (va_Run.run (va_runV (As := [.int x3]) (rest := []) ⟨hx, hb, hml, hown, hts⟩ (c_X10_leaderOf l D cI cJ cZ cO aM aM_copies aM_text aM_slips aM_lates aM_before aM_images aM_kept aM_read M_size M_many M_little M_in M_streak M_lot M_undos M_trace M_at M_begin M_kind M_value M_readMany M_readLittle M_below M_copies x3 y8 qy8) (cwV 1 hts gX10_call_X10_leaderOf rfl rfl rfl (by decide +kernel) ⟨Nat.le_of_ble_eq_true rfl, Nat.le_of_ble_eq_true rfl⟩) ⟨fb_p, va_recv hK hP (ci := 10) (q0 := 0) rfl rfl, fun U hU hW => ⟨rfl, by rw [hU]; exact hPc, KK.warm hW hKK⟩⟩ rfl rfl hl.1 rfl (lv_room (Nat.le_of_ble_eq_true rfl)) dX10_call_44 ⟨Nat.le_of_ble_eq_true rfl, Nat.le_of_ble_eq_true rfl⟩)) (fun r hr => ?_)
          replace hr := hr.symm
          subst hr
          refine lv_iload_n hx hb dX10_call_47 rfl (lv_at hl 3 rfl) ?_
          refine lv_icmp_ne (tgt := 101) hx hb dX10_call_48 (by decide) (fun c_9 => ?_) (fun c_9 => ?_)
          · replace h := if_n c_9 h
            refine lv_iinc (v := (x3 + (1 : Int32))) (lv' := [(3, .int (x3 + (1 : Int32))), (0, .ref aM), (1, .int x1), (2, .int x2)]) hx hb dX10_call_101 hl (k := 3) rfl rfl (by decide) rfl (fun ls hl => ?_)
            refine lv_goto (tgt := 23) hx hb dX10_call_104 (by decide) ?_
            exact ih M_in M_streak M_lot M_undos M_before x1 x2 (x3 + (1 : Int32)) _ _ hP hD hS ls (lv_sub hl [1, 2, 3, 0] rfl) h
          · replace h := if_p c_9 h
            refine lv_aload_n hx hb dX10_call_51 rfl (lv_at hl 0 rfl) ?_
            refine lv_aload_n hx hb dX10_call_52 rfl (lv_at hl 0 rfl) ?_
            refine va_get (D := D) (ci := 10) (v := .int M_lot) (C := RX10) (T := TX10) (N := 23) hx hb hts inX10 hown hK hP 0 rfl rfl 9 (by decide) fl_22 (fun _ h9 => h9) rfl dX10_call_53 ?_
            refine lv_ldc (v := (1103515245 : Int32)) hx hb hown cst_151 dX10_call_56 ?_
            refine lv_imul hx hb dX10_call_58 ?_
            refine lv_sipush (v := (12345 : Int32)) hx hb dX10_call_59 (by decide) ?_
            refine lv_iadd hx hb dX10_call_62 ?_
            refine va_put (D := D) (ci := 10) (v := .int ((M_lot * (1103515245 : Int32)) + (12345 : Int32))) (ty := .int) (C := RX10) (T := TX10) (N := 23) hx hb hts inX10 tyX10 tyX10_ok nmX10 hown hK hP hD hS 0 rfl rfl 9 (by decide) fl_22 (fun _ h9 => h9) rfl (by decide +kernel) rfl rfl (Nat.le_of_ble_eq_true rfl) dX10_call_63 (fun H locs hP hD hS => ?_)
            have hP : va_P D vwCl [(aM, .inr (10, [.ref aM_text, .int M_size, .int M_many, .ref aM_slips, .ref aM_lates, .ref aM_copies, .int M_little, .int M_in, .int M_streak, .int ((M_lot * (1103515245 : Int32)) + (12345 : Int32)), .int M_undos, .ref aM_before, .ref aM_images, .ref aM_kept, .long M_trace, .int M_at, .int M_begin, .int M_kind, .long M_value, .int M_readMany, .int M_readLittle, .ref aM_read, .long M_below])), (aM_slips, .inl (cI, 6, .inl M_slips)), (aM_lates, .inl (cI, 6, .inl M_lates)), (aM_copies, .inl (cI, 6, .inl M_copies)), (aM_before, .inl (cI, 24, .inl M_before))] H := hP
            have hD : va_D A [(aM, .inr (10, [.ref aM_text, .int M_size, .int M_many, .ref aM_slips, .ref aM_lates, .ref aM_copies, .int M_little, .int M_in, .int M_streak, .int ((M_lot * (1103515245 : Int32)) + (12345 : Int32)), .int M_undos, .ref aM_before, .ref aM_images, .ref aM_kept, .long M_trace, .int M_at, .int M_begin, .int M_kind, .long M_value, .int M_readMany, .int M_readLittle, .ref aM_read, .long M_below])), (aM_slips, .inl (cI, 6, .inl M_slips)), (aM_lates, .inl (cI, 6, .inl M_lates)), (aM_copies, .inl (cI, 6, .inl M_copies)), (aM_before, .inl (cI, 24, .inl M_before))] := hD
            refine lv_iload_n hx hb dX10_call_66 rfl (lv_at hl 2 rfl) ?_
            refine lv_aload_n hx hb dX10_call_67 rfl (lv_at hl 0 rfl) ?_
            refine va_get (D := D) (ci := 10) (v := .int ((M_lot * (1103515245 : Int32)) + (12345 : Int32))) (C := RX10) (T := TX10) (N := 23) hx hb hts inX10 hown hK hP 0 rfl rfl 9 (by decide) fl_22 (fun _ h9 => h9) rfl dX10_call_68 ?_
            refine lv_bipush (v := (16 : Int32)) hx hb dX10_call_71 (by decide) ?_
            refine lv_iushr (v := (((M_lot * (1103515245 : Int32)) + (12345 : Int32)).toUInt32 >>> ((16 : Int32).toUInt32 &&& Int32.toUInt32 31)).toInt32) hx hb dX10_call_73 rfl ?_
            refine lv_bipush (v := (10 : Int32)) hx hb dX10_call_74 (by decide) ?_
            refine lv_irem hx hb dX10_call_76 (by decide) ?_
            refine lv_aload_n hx hb dX10_call_77 rfl (lv_at hl 0 rfl) ?_
            refine lv_iload_n hx hb dX10_call_78 rfl (lv_at hl 3 rfl) ?_
            refine lv_iload_n hx hb dX10_call_79 rfl (lv_at hl 1 rfl) ?_
            refine lv_aload_n hx hb dX10_call_80 rfl (lv_at hl 0 rfl) ?_
            refine va_get (D := D) (ci := 10) (v := .int M_streak) (C := RX10) (T := TX10) (N := 23) hx hb hts inX10 hown hK hP 0 rfl rfl 8 (by decide) fl_122 (fun _ h9 => h9) rfl dX10_call_81 ?_
            obtain ⟨y10, qy10, h⟩ := ob_some h
            have hPc : va_P D vwCl [(aM, .inr (10, [.ref aM_text, .int M_size, .int M_many, .ref aM_slips, .ref aM_lates, .ref aM_copies, .int M_little, .int M_in, .int M_streak, .int ((M_lot * (1103515245 : Int32)) + (12345 : Int32)), .int M_undos, .ref aM_before, .ref aM_images, .ref aM_kept, .long M_trace, .int M_at, .int M_begin, .int M_kind, .long M_value, .int M_readMany, .int M_readLittle, .ref aM_read, .long M_below])), (aM_slips, .inl (cI, 6, .inl M_slips)), (aM_lates, .inl (cI, 6, .inl M_lates))] H := hP.sub [0, 1, 2] rfl
            refine vp_callSi (va_Run.run (va_runV (As := [.int x3, .int x1, .int M_streak]) (rest := [.int (((((M_lot * (1103515245 : Int32)) + (12345 : Int32)).toUInt32 >>> ((16 : Int32).toUInt32 &&& Int32.toUInt32 31)).toInt32) - ((((M_lot * (1103515245 : Int32)) + (12345 : Int32)).toUInt32 >>> ((16 : Int32).toUInt32 &&& Int32.toUInt32 31)).toInt32) / (10 : Int32) * (10 : Int32)), .int x2]) ⟨hx, hb, hml, hown, hts⟩ (c_X10_errsOf l D cI cJ cZ cO aM aM_slips aM_lates aM_text aM_copies aM_before aM_images aM_kept aM_read M_size M_many M_little M_in M_streak ((M_lot * (1103515245 : Int32)) + (12345 : Int32)) M_undos M_trace M_at M_begin M_kind M_value M_readMany M_readLittle M_below M_slips M_lates x3 x1 M_streak y10 qy10) (cwV 3 hts gX10_call_X10_errsOf rfl rfl rfl (by decide +kernel) ⟨Nat.le_of_ble_eq_true rfl, Nat.le_of_ble_eq_true rfl⟩) ⟨fb_p, va_recv hK hP (ci := 10) (q0 := 0) rfl rfl, fun U hU hW => ⟨rfl, by rw [hU]; exact hPc, KK.warm hW hKK⟩⟩ rfl rfl hl.1 rfl (lv_room (Nat.le_of_ble_eq_true rfl)) dX10_call_84 ⟨Nat.le_of_ble_eq_true rfl, Nat.le_of_ble_eq_true rfl⟩)) (fun r hr => ?_)
            replace hr := hr.symm
            subst hr
            refine lv_icmp_ge (tgt := 98) hx hb dX10_call_87 (by decide) (fun c_11 => ?_) (fun c_11 => ?_)
            · replace h := if_p c_11 h
              refine lv_iconst (v := (0 : Int32)) hx hb dX10_call_98 (by decide) ?_
              refine lv_ior hx hb dX10_call_99 ?_
              refine lv_istore_n (lv' := [(2, .int (x2 ||| (0 : Int32))), (0, .ref aM), (1, .int x1), (3, .int x3)]) hx hb dX10_call_100 rfl hl (by decide) rfl (fun ls hl => ?_)
              refine lv_iinc (v := (x3 + (1 : Int32))) (lv' := [(3, .int (x3 + (1 : Int32))), (2, .int (x2 ||| (0 : Int32))), (0, .ref aM), (1, .int x1)]) hx hb dX10_call_101 hl (k := 3) rfl rfl (by decide) rfl (fun ls hl => ?_)
              refine lv_goto (tgt := 23) hx hb dX10_call_104 (by decide) ?_
              exact ih M_in M_streak ((M_lot * (1103515245 : Int32)) + (12345 : Int32)) M_undos M_before x1 (x2 ||| (0 : Int32)) (x3 + (1 : Int32)) _ _ hP hD hS ls (lv_sub hl [2, 3, 1, 0] rfl) h
            · replace h := if_n c_11 h
              refine lv_aload_n hx hb dX10_call_90 rfl (lv_at hl 0 rfl) ?_
              refine lv_iload_n hx hb dX10_call_91 rfl (lv_at hl 3 rfl) ?_
              obtain ⟨y12, qy12, h⟩ := ob_some h
              have hPc : va_P D vwCl [(aM, .inr (10, [.ref aM_text, .int M_size, .int M_many, .ref aM_slips, .ref aM_lates, .ref aM_copies, .int M_little, .int M_in, .int M_streak, .int ((M_lot * (1103515245 : Int32)) + (12345 : Int32)), .int M_undos, .ref aM_before, .ref aM_images, .ref aM_kept, .long M_trace, .int M_at, .int M_begin, .int M_kind, .long M_value, .int M_readMany, .int M_readLittle, .ref aM_read, .long M_below])), (aM_copies, .inl (cI, 6, .inl M_copies))] H := hP.sub [0, 3] rfl
              refine vp_callSi (va_Run.run (va_runV (As := [.int x3]) (rest := [.int x2]) ⟨hx, hb, hml, hown, hts⟩ (c_X10_ledBy l D cI cJ cZ cO aM aM_copies aM_text aM_slips aM_lates aM_before aM_images aM_kept aM_read M_size M_many M_little M_in M_streak ((M_lot * (1103515245 : Int32)) + (12345 : Int32)) M_undos M_trace M_at M_begin M_kind M_value M_readMany M_readLittle M_below M_copies x3 y12 qy12) (cwV 1 hts gX10_call_X10_ledBy rfl rfl rfl (by decide +kernel) ⟨Nat.le_of_ble_eq_true rfl, Nat.le_of_ble_eq_true rfl⟩) ⟨fb_p, va_recv hK hP (ci := 10) (q0 := 0) rfl rfl, fun U hU hW => ⟨rfl, by rw [hU]; exact hPc, KK.warm hW hKK⟩⟩ rfl rfl hl.1 rfl (lv_room (Nat.le_of_ble_eq_true rfl)) dX10_call_92 ⟨Nat.le_of_ble_eq_true rfl, Nat.le_of_ble_eq_true rfl⟩)) (fun r hr => ?_)
              replace hr := hr.symm
              subst hr
              refine lv_goto (tgt := 99) hx hb dX10_call_95 (by decide) ?_
              refine lv_ior hx hb dX10_call_99 ?_
              refine lv_istore_n (lv' := [(2, .int (x2 ||| y12)), (0, .ref aM), (1, .int x1), (3, .int x3)]) hx hb dX10_call_100 rfl hl (by decide) rfl (fun ls hl => ?_)
              refine lv_iinc (v := (x3 + (1 : Int32))) (lv' := [(3, .int (x3 + (1 : Int32))), (2, .int (x2 ||| y12)), (0, .ref aM), (1, .int x1)]) hx hb dX10_call_101 hl (k := 3) rfl rfl (by decide) rfl (fun ls hl => ?_)
              refine lv_goto (tgt := 23) hx hb dX10_call_104 (by decide) ?_
              exact ih M_in M_streak ((M_lot * (1103515245 : Int32)) + (12345 : Int32)) M_undos M_before x1 (x2 ||| y12) (x3 + (1 : Int32)) _ _ hP hD hS ls (lv_sub hl [2, 3, 1, 0] rfl) h
  unfold f_X10_call at h
  refine lv_iload_n hx hb dX10_call_0 rfl (lv_at hl 1 rfl) ?_
  have hPc : va_P D vwCl [] s.heap := hP.sub [] rfl
  refine vp_callSi (va_Run.run (va_runS (As := [.int p1]) (rest := []) ⟨hx, hb, hml, hown, hts⟩ (c_X10_isOrder l D cI cJ cZ cO p1 _ rfl) (cwS 1 hts gX10_call_X10_isOrder rfl rfl rfl (by decide +kernel) ⟨Nat.le_of_ble_eq_true rfl, Nat.le_of_ble_eq_true rfl⟩) ⟨fb_p, fun U hU hW => ⟨rfl, by rw [hU]; exact hPc, KK.warm hW hKK⟩⟩ rfl rfl hl.1 rfl (lv_room (Nat.le_of_ble_eq_true rfl)) dX10_call_1 ⟨Nat.le_of_ble_eq_true rfl, Nat.le_of_ble_eq_true rfl⟩)) (fun r hr => ?_)
  obtain ⟨hr, hz1⟩ := hr
  replace hr := hr.symm
  subst hr
  refine lv_if_ne (tgt := 9) hx hb dX10_call_4 (by decide) (fun c_2 => ?_) (fun c_2 => ?_)
  · replace h := if_n c_2 h
    refine lv_aload_n hx hb dX10_call_9 rfl (lv_at hl 0 rfl) ?_
    refine va_get (D := D) (ci := 10) (v := .int M_in) (C := RX10) (T := TX10) (N := 23) hx hb hts inX10 hown hK hP 0 rfl rfl 7 (by decide) fl_119 (fun _ h9 => h9) rfl dX10_call_10 ?_
    refine lv_if_ne (tgt := 19) hx hb dX10_call_13 (by decide) (fun c_3 => ?_) (fun c_3 => ?_)
    · replace h := if_n c_3 h
      refine lv_iconst (v := (0 : Int32)) hx hb dX10_call_19 (by decide) ?_
      refine lv_istore_n (lv' := [(2, .int (0 : Int32)), (0, .ref aM), (1, .int p1)]) hx hb dX10_call_20 rfl hl (by decide) rfl (fun ls hl => ?_)
      refine lv_iconst (v := (0 : Int32)) hx hb dX10_call_21 (by decide) ?_
      refine lv_istore_n (lv' := [(3, .int (0 : Int32)), (2, .int (0 : Int32)), (0, .ref aM), (1, .int p1)]) hx hb dX10_call_22 rfl hl (by decide) rfl (fun ls hl => ?_)
      exact L23 300 M_in M_streak M_lot M_undos M_before p1 (0 : Int32) (0 : Int32) _ _ hP hD hS ls (lv_sub hl [2, 3, 1, 0] rfl) h
    · replace h := if_p c_3 h
      refine lv_bipush (v := (-2 : Int32)) hx hb dX10_call_16 (by decide) ?_
      have hy := Option.some.inj h
      subst hy
      exact W.iret (v := (-2 : Int32)) hx hb hr (fun t ht hW => ⟨⟨(-2 : Int32), (), rfl, rfl, by rw [ht]; exact hP, hD⟩, hS.F ht⟩) hS.2.2 dX10_call_18
  · replace h := if_p c_2 h
    refine lv_iconst (v := (-1 : Int32)) hx hb dX10_call_7 (by decide) ?_
    have hy := Option.some.inj h
    subst hy
    exact W.iret (v := (-1 : Int32)) hx hb hr (fun t ht hW => ⟨⟨(-1 : Int32), (), rfl, rfl, by rw [ht]; exact hP, hD⟩, hS.F ht⟩) hS.2.2 dX10_call_8

def f_X10_comesBack (M_many : Int32) (M_in : Int32) (M_streak : Int32) (M_undos : Int32) (M_before : Nat → Int32) (p1 : Int32) : Option (Int32 × Int32 × Int32 × (Nat → Int32)) := (if (f_X10_isChild M_many p1) = 0 then some ((-1 : Int32), M_in, M_undos, M_before) else (if (f_X10_has M_in p1) = 0 then (Option.bind (f_X10_remember M_in M_streak M_undos M_before) (fun y5 => (Option.bind (f_X10_bits (M_in ||| ((1 : Int32) <<< (p1 &&& 31)))) (fun y6 => some (y6, (M_in ||| ((1 : Int32) <<< (p1 &&& 31))), y5.1, y5.2))))) else some ((-2 : Int32), M_in, M_undos, M_before)))
set_option maxHeartbeats 8000000 in
set_option maxRecDepth 100000 in
theorem c_X10_comesBack (l : Launch) (D : va_G) (cI cJ cZ cO : ClassId) (aM : Nat) (aM_before : Nat) (aM_text : Nat) (aM_slips : Nat) (aM_lates : Nat) (aM_copies : Nat) (aM_images : Nat) (aM_kept : Nat) (aM_read : Nat) (M_size : Int32) (M_many : Int32) (M_little : Int32) (M_in : Int32) (M_streak : Int32) (M_lot : Int32) (M_undos : Int32) (M_trace : Int64) (M_at : Int32) (M_begin : Int32) (M_kind : Int32) (M_value : Int64) (M_readMany : Int32) (M_readLittle : Int32) (M_below : Int64) (M_before : Nat → Int32) (sz : Nat) (p1 : Int32)  (y0 : Int32 × Int32 × Int32 × (Nat → Int32)) (h : f_X10_comesBack M_many M_in M_streak M_undos M_before p1 = some y0) : Met l yX10_comesBack wsX10_comesBack ({ frames := 2, cells := 0, slots := 0, locals := 46 } : Room) (va_Pc [.ref aM, .int p1] (fun U => U.heap.size = sz ∧ va_P D vwCl [(aM, .inr (10, [.ref aM_text, .int M_size, .int M_many, .ref aM_slips, .ref aM_lates, .ref aM_copies, .int M_little, .int M_in, .int M_streak, .int M_lot, .int M_undos, .ref aM_before, .ref aM_images, .ref aM_kept, .long M_trace, .int M_at, .int M_begin, .int M_kind, .long M_value, .int M_readMany, .int M_readLittle, .ref aM_read, .long M_below])), (aM_before, .inl (cI, 24, .inl M_before))] U.heap ∧ KK D cI cJ cZ cO U ∧ va_D (fun _ => True) [(aM, .inr (10, [.ref aM_text, .int M_size, .int M_many, .ref aM_slips, .ref aM_lates, .ref aM_copies, .int M_little, .int M_in, .int M_streak, .int M_lot, .int M_undos, .ref aM_before, .ref aM_images, .ref aM_kept, .long M_trace, .int M_at, .int M_begin, .int M_kind, .long M_value, .int M_readMany, .int M_readLittle, .ref aM_read, .long M_below])), (aM_before, .inl (cI, 24, .inl M_before))])) (va_Qi (fun (r : Int32) (_ : Unit) => r = y0.1) (fun (_ : Unit) t => va_P D vwCl [(aM, .inr (10, [.ref aM_text, .int M_size, .int M_many, .ref aM_slips, .ref aM_lates, .ref aM_copies, .int M_little, .int y0.2.1, .int M_streak, .int M_lot, .int y0.2.2.1, .ref aM_before, .ref aM_images, .ref aM_kept, .long M_trace, .int M_at, .int M_begin, .int M_kind, .long M_value, .int M_readMany, .int M_readLittle, .ref aM_read, .long M_below])), (aM_before, .inl (cI, 24, .inl y0.2.2.2))] t.heap ∧ va_D (va_A [(aM, .inr (10, [.ref aM_text, .int M_size, .int M_many, .ref aM_slips, .ref aM_lates, .ref aM_copies, .int M_little, .int M_in, .int M_streak, .int M_lot, .int M_undos, .ref aM_before, .ref aM_images, .ref aM_kept, .long M_trace, .int M_at, .int M_begin, .int M_kind, .long M_value, .int M_readMany, .int M_readLittle, .ref aM_read, .long M_below])), (aM_before, .inl (cI, 24, .inl M_before))] sz) [(aM, .inr (10, [.ref aM_text, .int M_size, .int M_many, .ref aM_slips, .ref aM_lates, .ref aM_copies, .int M_little, .int y0.2.1, .int M_streak, .int M_lot, .int y0.2.2.1, .ref aM_before, .ref aM_images, .ref aM_kept, .long M_trace, .int M_at, .int M_begin, .int M_kind, .long M_value, .int M_readMany, .int M_readLittle, .ref aM_read, .long M_below])), (aM_before, .inl (cI, 24, .inl y0.2.2.2))]) (va_A [(aM, .inr (10, [.ref aM_text, .int M_size, .int M_many, .ref aM_slips, .ref aM_lates, .ref aM_copies, .int M_little, .int M_in, .int M_streak, .int M_lot, .int M_undos, .ref aM_before, .ref aM_images, .ref aM_kept, .long M_trace, .int M_at, .int M_begin, .int M_kind, .long M_value, .int M_readMany, .int M_readLittle, .ref aM_read, .long M_below])), (aM_before, .inl (cI, 24, .inl M_before))] sz)) 0 0 (va_A [(aM, .inr (10, [.ref aM_text, .int M_size, .int M_many, .ref aM_slips, .ref aM_lates, .ref aM_copies, .int M_little, .int M_in, .int M_streak, .int M_lot, .int M_undos, .ref aM_before, .ref aM_images, .ref aM_kept, .long M_trace, .int M_at, .int M_begin, .int M_kind, .long M_value, .int M_readMany, .int M_readLittle, .ref aM_read, .long M_below])), (aM_before, .inl (cI, 24, .inl M_before))] sz) := by
  refine Met.ofW (cc := cX10_comesBack) (maxL := 2) (ret := (some .int)) (by decide) rfl ?_
  intro p e s m args below meth c s₁ B hml hv
  obtain ⟨rfl, hsz, hP, hKK, hD0⟩ := hv
  have hx := B.exec
  have hb := B.bytes
  have hr := B.returns
  have hts := atoms_spec (ws := wsX10_comesBack) B.pre
  have hown : s.vm.findClass RX10 = some m.cls := findClass_of_methodNamed B.named
  have hlocks := B.notSynchronized
  have hK := hKK.1
  have fl_119 := hts (.fieldLink RX10 119 "SimonSaysModel" "in" "I") (by decide +kernel)
  have inX10 : ∀ w ∈ wsX100, w ∈ wsX10_comesBack := by decide +kernel
  subst hsz
  have hD := hD0.self (sz := s.heap.size)
  generalize hAe : va_A [(aM, .inr (10, [.ref aM_text, .int M_size, .int M_many, .ref aM_slips, .ref aM_lates, .ref aM_copies, .int M_little, .int M_in, .int M_streak, .int M_lot, .int M_undos, .ref aM_before, .ref aM_images, .ref aM_kept, .long M_trace, .int M_at, .int M_begin, .int M_kind, .long M_value, .int M_readMany, .int M_readLittle, .ref aM_read, .long M_below])), (aM_before, .inl (cI, 24, .inl M_before))] s.heap.size = A at hD ⊢
  have hA : ∀ q : Nat, s.heap.size ≤ q → A q := fun q h => by rw [← hAe]; exact Or.inr h
  have hS : va_S A s.heap s.heap [] := va_S.rf
  have hl := lv_entry ([.ref aM, .int p1]) (n := 2) (Nat.le_of_ble_eq_true rfl)
  rw [lg_entry_eq]
  generalize (lg_sl ([.ref aM, .int p1]) ++ List.replicate (2 - (lg_sl ([.ref aM, .int p1])).length) Slot.unset).toArray = ls at hl ⊢
  have hl : lv_has ls 2 [(0, .ref aM), (1, .int p1)] := hl
  unfold f_X10_comesBack at h
  refine lv_aload_n hx hb dX10_comesBack_0 rfl (lv_at hl 0 rfl) ?_
  refine lv_iload_n hx hb dX10_comesBack_1 rfl (lv_at hl 1 rfl) ?_
  have hPc : va_P D vwCl [(aM, .inr (10, [.ref aM_text, .int M_size, .int M_many, .ref aM_slips, .ref aM_lates, .ref aM_copies, .int M_little, .int M_in, .int M_streak, .int M_lot, .int M_undos, .ref aM_before, .ref aM_images, .ref aM_kept, .long M_trace, .int M_at, .int M_begin, .int M_kind, .long M_value, .int M_readMany, .int M_readLittle, .ref aM_read, .long M_below]))] s.heap := hP.sub [0] rfl
  refine vp_callSi (va_Run.run (va_runV (As := [.int p1]) (rest := []) ⟨hx, hb, hml, hown, hts⟩ (c_X10_isChild l D cI cJ cZ cO aM aM_text aM_slips aM_lates aM_copies aM_before aM_images aM_kept aM_read M_size M_many M_little M_in M_streak M_lot M_undos M_trace M_at M_begin M_kind M_value M_readMany M_readLittle M_below p1 _ rfl) (cwV 1 hts gX10_comesBack_X10_isChild rfl rfl rfl (by decide +kernel) ⟨Nat.le_of_ble_eq_true rfl, Nat.le_of_ble_eq_true rfl⟩) ⟨fb_p, va_recv hK hP (ci := 10) (q0 := 0) rfl rfl, fun U hU hW => ⟨rfl, by rw [hU]; exact hPc, KK.warm hW hKK⟩⟩ rfl rfl hl.1 rfl (lv_room (Nat.le_of_ble_eq_true rfl)) dX10_comesBack_2 ⟨Nat.le_of_ble_eq_true rfl, Nat.le_of_ble_eq_true rfl⟩)) (fun r hr => ?_)
  obtain ⟨hr, hz1⟩ := hr
  replace hr := hr.symm
  subst hr
  refine lv_if_ne (tgt := 10) hx hb dX10_comesBack_5 (by decide) (fun c_2 => ?_) (fun c_2 => ?_)
  · replace h := if_n c_2 h
    refine lv_aload_n hx hb dX10_comesBack_10 rfl (lv_at hl 0 rfl) ?_
    refine va_get (D := D) (ci := 10) (v := .int M_in) (C := RX10) (T := TX10) (N := 23) hx hb hts inX10 hown hK hP 0 rfl rfl 7 (by decide) fl_119 (fun _ h9 => h9) rfl dX10_comesBack_11 ?_
    refine lv_iload_n hx hb dX10_comesBack_14 rfl (lv_at hl 1 rfl) ?_
    have hPc : va_P D vwCl [] s.heap := hP.sub [] rfl
    refine vp_callSi (va_Run.run (va_runS (As := [.int M_in, .int p1]) (rest := []) ⟨hx, hb, hml, hown, hts⟩ (c_X10_has l D cI cJ cZ cO M_in p1 _ rfl) (cwS 2 hts gX10_comesBack_X10_has rfl rfl rfl (by decide +kernel) ⟨Nat.le_of_ble_eq_true rfl, Nat.le_of_ble_eq_true rfl⟩) ⟨fb_p, fun U hU hW => ⟨rfl, by rw [hU]; exact hPc, KK.warm hW hKK⟩⟩ rfl rfl hl.1 rfl (lv_room (Nat.le_of_ble_eq_true rfl)) dX10_comesBack_15 ⟨Nat.le_of_ble_eq_true rfl, Nat.le_of_ble_eq_true rfl⟩)) (fun r hr => ?_)
    obtain ⟨hr, hz3⟩ := hr
    replace hr := hr.symm
    subst hr
    refine lv_if_eq (tgt := 24) hx hb dX10_comesBack_18 (by decide) (fun c_4 => ?_) (fun c_4 => ?_)
    · replace h := if_p c_4 h
      refine lv_aload_n hx hb dX10_comesBack_24 rfl (lv_at hl 0 rfl) ?_
      obtain ⟨y5, qy5, h⟩ := ob_some h
      have hPc : va_P D vwCl [(aM, .inr (10, [.ref aM_text, .int M_size, .int M_many, .ref aM_slips, .ref aM_lates, .ref aM_copies, .int M_little, .int M_in, .int M_streak, .int M_lot, .int M_undos, .ref aM_before, .ref aM_images, .ref aM_kept, .long M_trace, .int M_at, .int M_begin, .int M_kind, .long M_value, .int M_readMany, .int M_readLittle, .ref aM_read, .long M_below])), (aM_before, .inl (cI, 24, .inl M_before))] s.heap := hP.sub [0, 1] rfl
      have hDc : va_D A [(aM, .inr (10, [.ref aM_text, .int M_size, .int M_many, .ref aM_slips, .ref aM_lates, .ref aM_copies, .int M_little, .int M_in, .int M_streak, .int M_lot, .int M_undos, .ref aM_before, .ref aM_images, .ref aM_kept, .long M_trace, .int M_at, .int M_begin, .int M_kind, .long M_value, .int M_readMany, .int M_readLittle, .ref aM_read, .long M_below])), (aM_before, .inl (cI, 24, .inl M_before))] := hD.sub [0, 1] (by decide) rfl
      have hFc := va_free (wc := [(aM, .inr (10, [.ref aM_text, .int M_size, .int M_many, .ref aM_slips, .ref aM_lates, .ref aM_copies, .int M_little, .int M_in, .int M_streak, .int M_lot, .int M_undos, .ref aM_before, .ref aM_images, .ref aM_kept, .long M_trace, .int M_at, .int M_begin, .int M_kind, .long M_value, .int M_readMany, .int M_readLittle, .ref aM_read, .long M_below])), (aM_before, .inl (cI, 24, .inl M_before))]) hD hS hA [0, 1] rfl
      refine va_callv (va_runV (As := []) (rest := []) ⟨hx, hb, hml, hown, hts⟩ (c_X10_remember l D cI cJ cZ cO aM aM_before aM_text aM_slips aM_lates aM_copies aM_images aM_kept aM_read M_size M_many M_little M_in M_streak M_lot M_undos M_trace M_at M_begin M_kind M_value M_readMany M_readLittle M_below M_before s.heap.size y5 qy5) (cwV 0 hts gX10_comesBack_X10_remember rfl rfl rfl (by decide +kernel) ⟨Nat.le_of_ble_eq_true rfl, Nat.le_of_ble_eq_true rfl⟩) ⟨fb_i, va_recv hK hP (ci := 10) (q0 := 0) rfl rfl, fun U hU hW => ⟨rfl, by rw [hU], by rw [hU]; exact hPc, KK.warm hW hKK, hDc.weaken (fun _ _ _ _ => trivial)⟩⟩ rfl rfl hl.1 rfl (lv_room (Nat.le_of_ble_eq_true rfl)) dX10_comesBack_25 ⟨Nat.le_of_ble_eq_true rfl, Nat.le_of_ble_eq_true rfl⟩) hS (fun q _ h => hFc q h) hFc (fun u t H1 locs ht hvm hw hB hz1 hk1 hS => ?_)
      obtain ⟨hP1, hD1⟩ := hB
      rw [ht] at hP1
      obtain ⟨hP, hD⟩ := va_join (wr := []) (w1 := [(aM, .inr (10, [.ref aM_text, .int M_size, .int M_many, .ref aM_slips, .ref aM_lates, .ref aM_copies, .int M_little, .int M_in, .int M_streak, .int M_lot, .int y5.1, .ref aM_before, .ref aM_images, .ref aM_kept, .long M_trace, .int M_at, .int M_begin, .int M_kind, .long M_value, .int M_readMany, .int M_readLittle, .ref aM_read, .long M_below])), (aM_before, .inl (cI, 24, .inl y5.2))]) hP hD [0, 1] [] rfl rfl (by decide) (by decide) hk1 hFc hP1 hD1
      generalize H1 = H at hP hS ⊢
      have hP : va_P D vwCl [(aM, .inr (10, [.ref aM_text, .int M_size, .int M_many, .ref aM_slips, .ref aM_lates, .ref aM_copies, .int M_little, .int M_in, .int M_streak, .int M_lot, .int y5.1, .ref aM_before, .ref aM_images, .ref aM_kept, .long M_trace, .int M_at, .int M_begin, .int M_kind, .long M_value, .int M_readMany, .int M_readLittle, .ref aM_read, .long M_below])), (aM_before, .inl (cI, 24, .inl y5.2))] H := hP.sub [0, 1] rfl
      have hD : va_D A [(aM, .inr (10, [.ref aM_text, .int M_size, .int M_many, .ref aM_slips, .ref aM_lates, .ref aM_copies, .int M_little, .int M_in, .int M_streak, .int M_lot, .int y5.1, .ref aM_before, .ref aM_images, .ref aM_kept, .long M_trace, .int M_at, .int M_begin, .int M_kind, .long M_value, .int M_readMany, .int M_readLittle, .ref aM_read, .long M_below])), (aM_before, .inl (cI, 24, .inl y5.2))] := hD.sub [0, 1] (by decide) rfl
      refine lv_aload_n hx hb dX10_comesBack_28 rfl (lv_at hl 0 rfl) ?_
      refine lv_dup hx hb dX10_comesBack_29 rfl ?_
      refine va_get (D := D) (ci := 10) (v := .int M_in) (C := RX10) (T := TX10) (N := 23) hx hb hts inX10 hown hK hP 0 rfl rfl 7 (by decide) fl_119 (fun _ h9 => h9) rfl dX10_comesBack_30 ?_
      refine lv_iconst (v := (1 : Int32)) hx hb dX10_comesBack_33 (by decide) ?_
      refine lv_iload_n hx hb dX10_comesBack_34 rfl (lv_at hl 1 rfl) ?_
      refine lv_ishl hx hb dX10_comesBack_35 ?_
      refine lv_ior hx hb dX10_comesBack_36 ?_
      refine va_put (D := D) (ci := 10) (v := .int (M_in ||| ((1 : Int32) <<< (p1 &&& 31)))) (ty := .int) (C := RX10) (T := TX10) (N := 23) hx hb hts inX10 tyX10 tyX10_ok nmX10 hown hK hP hD hS 0 rfl rfl 7 (by decide) fl_119 (fun _ h9 => h9) rfl (by decide +kernel) rfl rfl (Nat.le_of_ble_eq_true rfl) dX10_comesBack_37 (fun H locs hP hD hS => ?_)
      have hP : va_P D vwCl [(aM, .inr (10, [.ref aM_text, .int M_size, .int M_many, .ref aM_slips, .ref aM_lates, .ref aM_copies, .int M_little, .int (M_in ||| ((1 : Int32) <<< (p1 &&& 31))), .int M_streak, .int M_lot, .int y5.1, .ref aM_before, .ref aM_images, .ref aM_kept, .long M_trace, .int M_at, .int M_begin, .int M_kind, .long M_value, .int M_readMany, .int M_readLittle, .ref aM_read, .long M_below])), (aM_before, .inl (cI, 24, .inl y5.2))] H := hP
      have hD : va_D A [(aM, .inr (10, [.ref aM_text, .int M_size, .int M_many, .ref aM_slips, .ref aM_lates, .ref aM_copies, .int M_little, .int (M_in ||| ((1 : Int32) <<< (p1 &&& 31))), .int M_streak, .int M_lot, .int y5.1, .ref aM_before, .ref aM_images, .ref aM_kept, .long M_trace, .int M_at, .int M_begin, .int M_kind, .long M_value, .int M_readMany, .int M_readLittle, .ref aM_read, .long M_below])), (aM_before, .inl (cI, 24, .inl y5.2))] := hD
      refine lv_aload_n hx hb dX10_comesBack_40 rfl (lv_at hl 0 rfl) ?_
      refine va_get (D := D) (ci := 10) (v := .int (M_in ||| ((1 : Int32) <<< (p1 &&& 31)))) (C := RX10) (T := TX10) (N := 23) hx hb hts inX10 hown hK hP 0 rfl rfl 7 (by decide) fl_119 (fun _ h9 => h9) rfl dX10_comesBack_41 ?_
      obtain ⟨y6, qy6, h⟩ := ob_some h
      have hPc : va_P D vwCl [] H := hP.sub [] rfl
      refine vp_callSi (va_Run.run (va_runS (As := [.int (M_in ||| ((1 : Int32) <<< (p1 &&& 31)))]) (rest := []) ⟨hx, hb, hml, hown, hts⟩ (c_X10_bits l D cI cJ cZ cO (M_in ||| ((1 : Int32) <<< (p1 &&& 31))) y6 qy6) (cwS 1 hts gX10_comesBack_X10_bits rfl rfl rfl (by decide +kernel) ⟨Nat.le_of_ble_eq_true rfl, Nat.le_of_ble_eq_true rfl⟩) ⟨fb_p, fun U hU hW => ⟨rfl, by rw [hU]; exact hPc, KK.warm hW hKK⟩⟩ rfl rfl hl.1 rfl (lv_room (Nat.le_of_ble_eq_true rfl)) dX10_comesBack_44 ⟨Nat.le_of_ble_eq_true rfl, Nat.le_of_ble_eq_true rfl⟩)) (fun r hr => ?_)
      replace hr := hr.symm
      subst hr
      have hy := Option.some.inj h
      subst hy
      exact W.iret (v := y6) hx hb hr (fun t ht hW => ⟨⟨y6, (), rfl, rfl, by rw [ht]; exact hP, hD⟩, hS.F ht⟩) hS.2.2 dX10_comesBack_47
    · replace h := if_n c_4 h
      refine lv_bipush (v := (-2 : Int32)) hx hb dX10_comesBack_21 (by decide) ?_
      have hy := Option.some.inj h
      subst hy
      exact W.iret (v := (-2 : Int32)) hx hb hr (fun t ht hW => ⟨⟨(-2 : Int32), (), rfl, rfl, by rw [ht]; exact hP, hD⟩, hS.F ht⟩) hS.2.2 dX10_comesBack_23
  · replace h := if_p c_2 h
    refine lv_iconst (v := (-1 : Int32)) hx hb dX10_comesBack_8 (by decide) ?_
    have hy := Option.some.inj h
    subst hy
    exact W.iret (v := (-1 : Int32)) hx hb hr (fun t ht hW => ⟨⟨(-1 : Int32), (), rfl, rfl, by rw [ht]; exact hP, hD⟩, hS.F ht⟩) hS.2.2 dX10_comesBack_9

def f_X10_undo (M_in : Int32) (M_streak : Int32) (M_undos : Int32) (M_before : Nat → Int32) : Option (Int32 × Int32 × Int32 × Int32) := (if M_undos = 0 then some ((-2 : Int32), M_in, M_streak, M_undos) else (if gIn ((2 : Int32) * (M_undos - (1 : Int32))) 24 = true then (if gIn (((2 : Int32) * (M_undos - (1 : Int32))) + (1 : Int32)) 24 = true then some ((M_undos - (1 : Int32)), (M_before ((2 : Int32) * (M_undos - (1 : Int32))).toNatClampNeg), (M_before (((2 : Int32) * (M_undos - (1 : Int32))) + (1 : Int32)).toNatClampNeg), (M_undos - (1 : Int32))) else none) else none))
set_option maxHeartbeats 8000000 in
set_option maxRecDepth 100000 in
theorem c_X10_undo (l : Launch) (D : va_G) (cI cJ cZ cO : ClassId) (aM : Nat) (aM_before : Nat) (aM_text : Nat) (aM_slips : Nat) (aM_lates : Nat) (aM_copies : Nat) (aM_images : Nat) (aM_kept : Nat) (aM_read : Nat) (M_size : Int32) (M_many : Int32) (M_little : Int32) (M_in : Int32) (M_streak : Int32) (M_lot : Int32) (M_undos : Int32) (M_trace : Int64) (M_at : Int32) (M_begin : Int32) (M_kind : Int32) (M_value : Int64) (M_readMany : Int32) (M_readLittle : Int32) (M_below : Int64) (M_before : Nat → Int32) (sz : Nat)   (y0 : Int32 × Int32 × Int32 × Int32) (h : f_X10_undo M_in M_streak M_undos M_before = some y0) : Met l yX10_undo wsX10_undo ({ frames := 0, cells := 0, slots := 0, locals := 0 } : Room) (va_Pc [.ref aM] (fun U => U.heap.size = sz ∧ va_P D vwCl [(aM, .inr (10, [.ref aM_text, .int M_size, .int M_many, .ref aM_slips, .ref aM_lates, .ref aM_copies, .int M_little, .int M_in, .int M_streak, .int M_lot, .int M_undos, .ref aM_before, .ref aM_images, .ref aM_kept, .long M_trace, .int M_at, .int M_begin, .int M_kind, .long M_value, .int M_readMany, .int M_readLittle, .ref aM_read, .long M_below])), (aM_before, .inl (cI, 24, .inl M_before))] U.heap ∧ KK D cI cJ cZ cO U ∧ va_D (fun _ => True) [(aM, .inr (10, [.ref aM_text, .int M_size, .int M_many, .ref aM_slips, .ref aM_lates, .ref aM_copies, .int M_little, .int M_in, .int M_streak, .int M_lot, .int M_undos, .ref aM_before, .ref aM_images, .ref aM_kept, .long M_trace, .int M_at, .int M_begin, .int M_kind, .long M_value, .int M_readMany, .int M_readLittle, .ref aM_read, .long M_below])), (aM_before, .inl (cI, 24, .inl M_before))])) (va_Qi (fun (r : Int32) (_ : Unit) => r = y0.1) (fun (_ : Unit) t => va_P D vwCl [(aM, .inr (10, [.ref aM_text, .int M_size, .int M_many, .ref aM_slips, .ref aM_lates, .ref aM_copies, .int M_little, .int y0.2.1, .int y0.2.2.1, .int M_lot, .int y0.2.2.2, .ref aM_before, .ref aM_images, .ref aM_kept, .long M_trace, .int M_at, .int M_begin, .int M_kind, .long M_value, .int M_readMany, .int M_readLittle, .ref aM_read, .long M_below])), (aM_before, .inl (cI, 24, .inl M_before))] t.heap ∧ va_D (va_A [(aM, .inr (10, [.ref aM_text, .int M_size, .int M_many, .ref aM_slips, .ref aM_lates, .ref aM_copies, .int M_little, .int M_in, .int M_streak, .int M_lot, .int M_undos, .ref aM_before, .ref aM_images, .ref aM_kept, .long M_trace, .int M_at, .int M_begin, .int M_kind, .long M_value, .int M_readMany, .int M_readLittle, .ref aM_read, .long M_below])), (aM_before, .inl (cI, 24, .inl M_before))] sz) [(aM, .inr (10, [.ref aM_text, .int M_size, .int M_many, .ref aM_slips, .ref aM_lates, .ref aM_copies, .int M_little, .int y0.2.1, .int y0.2.2.1, .int M_lot, .int y0.2.2.2, .ref aM_before, .ref aM_images, .ref aM_kept, .long M_trace, .int M_at, .int M_begin, .int M_kind, .long M_value, .int M_readMany, .int M_readLittle, .ref aM_read, .long M_below])), (aM_before, .inl (cI, 24, .inl M_before))]) (va_A [(aM, .inr (10, [.ref aM_text, .int M_size, .int M_many, .ref aM_slips, .ref aM_lates, .ref aM_copies, .int M_little, .int M_in, .int M_streak, .int M_lot, .int M_undos, .ref aM_before, .ref aM_images, .ref aM_kept, .long M_trace, .int M_at, .int M_begin, .int M_kind, .long M_value, .int M_readMany, .int M_readLittle, .ref aM_read, .long M_below])), (aM_before, .inl (cI, 24, .inl M_before))] sz)) 0 0 (va_A [(aM, .inr (10, [.ref aM_text, .int M_size, .int M_many, .ref aM_slips, .ref aM_lates, .ref aM_copies, .int M_little, .int M_in, .int M_streak, .int M_lot, .int M_undos, .ref aM_before, .ref aM_images, .ref aM_kept, .long M_trace, .int M_at, .int M_begin, .int M_kind, .long M_value, .int M_readMany, .int M_readLittle, .ref aM_read, .long M_below])), (aM_before, .inl (cI, 24, .inl M_before))] sz) := by
  refine Met.ofW (cc := cX10_undo) (maxL := 1) (ret := (some .int)) (by decide) rfl ?_
  intro p e s m args below meth c s₁ B hml hv
  obtain ⟨rfl, hsz, hP, hKK, hD0⟩ := hv
  have hx := B.exec
  have hb := B.bytes
  have hr := B.returns
  have hts := atoms_spec (ws := wsX10_undo) B.pre
  have hown : s.vm.findClass RX10 = some m.cls := findClass_of_methodNamed B.named
  have hlocks := B.notSynchronized
  have hK := hKK.1
  have fl_26 := hts (.fieldLink RX10 26 "SimonSaysModel" "before" "[I") (by decide +kernel)
  have fl_119 := hts (.fieldLink RX10 119 "SimonSaysModel" "in" "I") (by decide +kernel)
  have fl_122 := hts (.fieldLink RX10 122 "SimonSaysModel" "streak" "I") (by decide +kernel)
  have fl_125 := hts (.fieldLink RX10 125 "SimonSaysModel" "undos" "I") (by decide +kernel)
  have inX10 : ∀ w ∈ wsX100, w ∈ wsX10_undo := by decide +kernel
  subst hsz
  have hD := hD0.self (sz := s.heap.size)
  generalize hAe : va_A [(aM, .inr (10, [.ref aM_text, .int M_size, .int M_many, .ref aM_slips, .ref aM_lates, .ref aM_copies, .int M_little, .int M_in, .int M_streak, .int M_lot, .int M_undos, .ref aM_before, .ref aM_images, .ref aM_kept, .long M_trace, .int M_at, .int M_begin, .int M_kind, .long M_value, .int M_readMany, .int M_readLittle, .ref aM_read, .long M_below])), (aM_before, .inl (cI, 24, .inl M_before))] s.heap.size = A at hD ⊢
  have hA : ∀ q : Nat, s.heap.size ≤ q → A q := fun q h => by rw [← hAe]; exact Or.inr h
  have hS : va_S A s.heap s.heap [] := va_S.rf
  have hl := lv_entry ([.ref aM]) (n := 1) (Nat.le_of_ble_eq_true rfl)
  rw [lg_entry_eq]
  generalize (lg_sl ([.ref aM]) ++ List.replicate (1 - (lg_sl ([.ref aM])).length) Slot.unset).toArray = ls at hl ⊢
  have hl : lv_has ls 1 [(0, .ref aM)] := hl
  unfold f_X10_undo at h
  refine lv_aload_n hx hb dX10_undo_0 rfl (lv_at hl 0 rfl) ?_
  refine va_get (D := D) (ci := 10) (v := .int M_undos) (C := RX10) (T := TX10) (N := 23) hx hb hts inX10 hown hK hP 0 rfl rfl 10 (by decide) fl_125 (fun _ h9 => h9) rfl dX10_undo_1 ?_
  refine lv_if_ne (tgt := 10) hx hb dX10_undo_4 (by decide) (fun c_1 => ?_) (fun c_1 => ?_)
  · replace h := if_n c_1 h
    refine lv_aload_n hx hb dX10_undo_10 rfl (lv_at hl 0 rfl) ?_
    refine lv_dup hx hb dX10_undo_11 rfl ?_
    refine va_get (D := D) (ci := 10) (v := .int M_undos) (C := RX10) (T := TX10) (N := 23) hx hb hts inX10 hown hK hP 0 rfl rfl 10 (by decide) fl_125 (fun _ h9 => h9) rfl dX10_undo_12 ?_
    refine lv_iconst (v := (1 : Int32)) hx hb dX10_undo_15 (by decide) ?_
    refine lv_isub hx hb dX10_undo_16 ?_
    refine va_put (D := D) (ci := 10) (v := .int (M_undos - (1 : Int32))) (ty := .int) (C := RX10) (T := TX10) (N := 23) hx hb hts inX10 tyX10 tyX10_ok nmX10 hown hK hP hD hS 0 rfl rfl 10 (by decide) fl_125 (fun _ h9 => h9) rfl (by decide +kernel) rfl rfl (Nat.le_of_ble_eq_true rfl) dX10_undo_17 (fun H locs hP hD hS => ?_)
    have hP : va_P D vwCl [(aM, .inr (10, [.ref aM_text, .int M_size, .int M_many, .ref aM_slips, .ref aM_lates, .ref aM_copies, .int M_little, .int M_in, .int M_streak, .int M_lot, .int (M_undos - (1 : Int32)), .ref aM_before, .ref aM_images, .ref aM_kept, .long M_trace, .int M_at, .int M_begin, .int M_kind, .long M_value, .int M_readMany, .int M_readLittle, .ref aM_read, .long M_below])), (aM_before, .inl (cI, 24, .inl M_before))] H := hP
    have hD : va_D A [(aM, .inr (10, [.ref aM_text, .int M_size, .int M_many, .ref aM_slips, .ref aM_lates, .ref aM_copies, .int M_little, .int M_in, .int M_streak, .int M_lot, .int (M_undos - (1 : Int32)), .ref aM_before, .ref aM_images, .ref aM_kept, .long M_trace, .int M_at, .int M_begin, .int M_kind, .long M_value, .int M_readMany, .int M_readLittle, .ref aM_read, .long M_below])), (aM_before, .inl (cI, 24, .inl M_before))] := hD
    refine lv_aload_n hx hb dX10_undo_20 rfl (lv_at hl 0 rfl) ?_
    refine lv_aload_n hx hb dX10_undo_21 rfl (lv_at hl 0 rfl) ?_
    refine va_get (D := D) (ci := 10) (v := .ref aM_before) (C := RX10) (T := TX10) (N := 23) hx hb hts inX10 hown hK hP 0 rfl rfl 11 (by decide) fl_26 (fun _ h9 => h9) rfl dX10_undo_22 ?_
    refine lv_iconst (v := (2 : Int32)) hx hb dX10_undo_25 (by decide) ?_
    refine lv_aload_n hx hb dX10_undo_26 rfl (lv_at hl 0 rfl) ?_
    refine va_get (D := D) (ci := 10) (v := .int (M_undos - (1 : Int32))) (C := RX10) (T := TX10) (N := 23) hx hb hts inX10 hown hK hP 0 rfl rfl 10 (by decide) fl_125 (fun _ h9 => h9) rfl dX10_undo_27 ?_
    refine lv_imul hx hb dX10_undo_30 ?_
    obtain ⟨hi2, h⟩ := gd_in h
    refine va_iald hx hb hK hP 1 0 rfl rfl hi2 dX10_undo_31 ?_
    refine va_put (D := D) (ci := 10) (v := .int (M_before ((2 : Int32) * (M_undos - (1 : Int32))).toNatClampNeg)) (ty := .int) (C := RX10) (T := TX10) (N := 23) hx hb hts inX10 tyX10 tyX10_ok nmX10 hown hK hP hD hS 0 rfl rfl 7 (by decide) fl_119 (fun _ h9 => h9) rfl (by decide +kernel) rfl rfl (Nat.le_of_ble_eq_true rfl) dX10_undo_32 (fun H locs hP hD hS => ?_)
    have hP : va_P D vwCl [(aM, .inr (10, [.ref aM_text, .int M_size, .int M_many, .ref aM_slips, .ref aM_lates, .ref aM_copies, .int M_little, .int (M_before ((2 : Int32) * (M_undos - (1 : Int32))).toNatClampNeg), .int M_streak, .int M_lot, .int (M_undos - (1 : Int32)), .ref aM_before, .ref aM_images, .ref aM_kept, .long M_trace, .int M_at, .int M_begin, .int M_kind, .long M_value, .int M_readMany, .int M_readLittle, .ref aM_read, .long M_below])), (aM_before, .inl (cI, 24, .inl M_before))] H := hP
    have hD : va_D A [(aM, .inr (10, [.ref aM_text, .int M_size, .int M_many, .ref aM_slips, .ref aM_lates, .ref aM_copies, .int M_little, .int (M_before ((2 : Int32) * (M_undos - (1 : Int32))).toNatClampNeg), .int M_streak, .int M_lot, .int (M_undos - (1 : Int32)), .ref aM_before, .ref aM_images, .ref aM_kept, .long M_trace, .int M_at, .int M_begin, .int M_kind, .long M_value, .int M_readMany, .int M_readLittle, .ref aM_read, .long M_below])), (aM_before, .inl (cI, 24, .inl M_before))] := hD
    refine lv_aload_n hx hb dX10_undo_35 rfl (lv_at hl 0 rfl) ?_
    refine lv_aload_n hx hb dX10_undo_36 rfl (lv_at hl 0 rfl) ?_
    refine va_get (D := D) (ci := 10) (v := .ref aM_before) (C := RX10) (T := TX10) (N := 23) hx hb hts inX10 hown hK hP 0 rfl rfl 11 (by decide) fl_26 (fun _ h9 => h9) rfl dX10_undo_37 ?_
    refine lv_iconst (v := (2 : Int32)) hx hb dX10_undo_40 (by decide) ?_
    refine lv_aload_n hx hb dX10_undo_41 rfl (lv_at hl 0 rfl) ?_
    refine va_get (D := D) (ci := 10) (v := .int (M_undos - (1 : Int32))) (C := RX10) (T := TX10) (N := 23) hx hb hts inX10 hown hK hP 0 rfl rfl 10 (by decide) fl_125 (fun _ h9 => h9) rfl dX10_undo_42 ?_
    refine lv_imul hx hb dX10_undo_45 ?_
    refine lv_iconst (v := (1 : Int32)) hx hb dX10_undo_46 (by decide) ?_
    refine lv_iadd hx hb dX10_undo_47 ?_
    obtain ⟨hi3, h⟩ := gd_in h
    refine va_iald hx hb hK hP 1 0 rfl rfl hi3 dX10_undo_48 ?_
    refine va_put (D := D) (ci := 10) (v := .int (M_before (((2 : Int32) * (M_undos - (1 : Int32))) + (1 : Int32)).toNatClampNeg)) (ty := .int) (C := RX10) (T := TX10) (N := 23) hx hb hts inX10 tyX10 tyX10_ok nmX10 hown hK hP hD hS 0 rfl rfl 8 (by decide) fl_122 (fun _ h9 => h9) rfl (by decide +kernel) rfl rfl (Nat.le_of_ble_eq_true rfl) dX10_undo_49 (fun H locs hP hD hS => ?_)
    have hP : va_P D vwCl [(aM, .inr (10, [.ref aM_text, .int M_size, .int M_many, .ref aM_slips, .ref aM_lates, .ref aM_copies, .int M_little, .int (M_before ((2 : Int32) * (M_undos - (1 : Int32))).toNatClampNeg), .int (M_before (((2 : Int32) * (M_undos - (1 : Int32))) + (1 : Int32)).toNatClampNeg), .int M_lot, .int (M_undos - (1 : Int32)), .ref aM_before, .ref aM_images, .ref aM_kept, .long M_trace, .int M_at, .int M_begin, .int M_kind, .long M_value, .int M_readMany, .int M_readLittle, .ref aM_read, .long M_below])), (aM_before, .inl (cI, 24, .inl M_before))] H := hP
    have hD : va_D A [(aM, .inr (10, [.ref aM_text, .int M_size, .int M_many, .ref aM_slips, .ref aM_lates, .ref aM_copies, .int M_little, .int (M_before ((2 : Int32) * (M_undos - (1 : Int32))).toNatClampNeg), .int (M_before (((2 : Int32) * (M_undos - (1 : Int32))) + (1 : Int32)).toNatClampNeg), .int M_lot, .int (M_undos - (1 : Int32)), .ref aM_before, .ref aM_images, .ref aM_kept, .long M_trace, .int M_at, .int M_begin, .int M_kind, .long M_value, .int M_readMany, .int M_readLittle, .ref aM_read, .long M_below])), (aM_before, .inl (cI, 24, .inl M_before))] := hD
    refine lv_aload_n hx hb dX10_undo_52 rfl (lv_at hl 0 rfl) ?_
    refine va_get (D := D) (ci := 10) (v := .int (M_undos - (1 : Int32))) (C := RX10) (T := TX10) (N := 23) hx hb hts inX10 hown hK hP 0 rfl rfl 10 (by decide) fl_125 (fun _ h9 => h9) rfl dX10_undo_53 ?_
    have hy := Option.some.inj h
    subst hy
    exact W.iret (v := (M_undos - (1 : Int32))) hx hb hr (fun t ht hW => ⟨⟨(M_undos - (1 : Int32)), (), rfl, rfl, by rw [ht]; exact hP, hD⟩, hS.F ht⟩) hS.2.2 dX10_undo_56
  · replace h := if_p c_1 h
    refine lv_bipush (v := (-2 : Int32)) hx hb dX10_undo_7 (by decide) ?_
    have hy := Option.some.inj h
    subst hy
    exact W.iret (v := (-2 : Int32)) hx hb hr (fun t ht hW => ⟨⟨(-2 : Int32), (), rfl, rfl, by rw [ht]; exact hP, hD⟩, hS.F ht⟩) hS.2.2 dX10_undo_9

def f_X10_lot (M_lot : Int32) (p1 : Int32) : Option (Int32 × Int32) := some (M_lot, p1)
set_option maxHeartbeats 8000000 in
set_option maxRecDepth 100000 in
theorem c_X10_lot (l : Launch) (D : va_G) (cI cJ cZ cO : ClassId) (aM : Nat) (aM_text : Nat) (aM_slips : Nat) (aM_lates : Nat) (aM_copies : Nat) (aM_before : Nat) (aM_images : Nat) (aM_kept : Nat) (aM_read : Nat) (M_size : Int32) (M_many : Int32) (M_little : Int32) (M_in : Int32) (M_streak : Int32) (M_lot : Int32) (M_undos : Int32) (M_trace : Int64) (M_at : Int32) (M_begin : Int32) (M_kind : Int32) (M_value : Int64) (M_readMany : Int32) (M_readLittle : Int32) (M_below : Int64) (sz : Nat) (p1 : Int32)  (y0 : Int32 × Int32) (h : f_X10_lot M_lot p1 = some y0) : Met l yX10_lot wsX10_lot ({ frames := 0, cells := 0, slots := 0, locals := 0 } : Room) (va_Pc [.ref aM, .int p1] (fun U => U.heap.size = sz ∧ va_P D vwCl [(aM, .inr (10, [.ref aM_text, .int M_size, .int M_many, .ref aM_slips, .ref aM_lates, .ref aM_copies, .int M_little, .int M_in, .int M_streak, .int M_lot, .int M_undos, .ref aM_before, .ref aM_images, .ref aM_kept, .long M_trace, .int M_at, .int M_begin, .int M_kind, .long M_value, .int M_readMany, .int M_readLittle, .ref aM_read, .long M_below]))] U.heap ∧ KK D cI cJ cZ cO U ∧ va_D (fun _ => True) [(aM, .inr (10, [.ref aM_text, .int M_size, .int M_many, .ref aM_slips, .ref aM_lates, .ref aM_copies, .int M_little, .int M_in, .int M_streak, .int M_lot, .int M_undos, .ref aM_before, .ref aM_images, .ref aM_kept, .long M_trace, .int M_at, .int M_begin, .int M_kind, .long M_value, .int M_readMany, .int M_readLittle, .ref aM_read, .long M_below]))])) (va_Qi (fun (r : Int32) (_ : Unit) => r = y0.1) (fun (_ : Unit) t => va_P D vwCl [(aM, .inr (10, [.ref aM_text, .int M_size, .int M_many, .ref aM_slips, .ref aM_lates, .ref aM_copies, .int M_little, .int M_in, .int M_streak, .int y0.2, .int M_undos, .ref aM_before, .ref aM_images, .ref aM_kept, .long M_trace, .int M_at, .int M_begin, .int M_kind, .long M_value, .int M_readMany, .int M_readLittle, .ref aM_read, .long M_below]))] t.heap ∧ va_D (va_A [(aM, .inr (10, [.ref aM_text, .int M_size, .int M_many, .ref aM_slips, .ref aM_lates, .ref aM_copies, .int M_little, .int M_in, .int M_streak, .int M_lot, .int M_undos, .ref aM_before, .ref aM_images, .ref aM_kept, .long M_trace, .int M_at, .int M_begin, .int M_kind, .long M_value, .int M_readMany, .int M_readLittle, .ref aM_read, .long M_below]))] sz) [(aM, .inr (10, [.ref aM_text, .int M_size, .int M_many, .ref aM_slips, .ref aM_lates, .ref aM_copies, .int M_little, .int M_in, .int M_streak, .int y0.2, .int M_undos, .ref aM_before, .ref aM_images, .ref aM_kept, .long M_trace, .int M_at, .int M_begin, .int M_kind, .long M_value, .int M_readMany, .int M_readLittle, .ref aM_read, .long M_below]))]) (va_A [(aM, .inr (10, [.ref aM_text, .int M_size, .int M_many, .ref aM_slips, .ref aM_lates, .ref aM_copies, .int M_little, .int M_in, .int M_streak, .int M_lot, .int M_undos, .ref aM_before, .ref aM_images, .ref aM_kept, .long M_trace, .int M_at, .int M_begin, .int M_kind, .long M_value, .int M_readMany, .int M_readLittle, .ref aM_read, .long M_below]))] sz)) 0 0 (va_A [(aM, .inr (10, [.ref aM_text, .int M_size, .int M_many, .ref aM_slips, .ref aM_lates, .ref aM_copies, .int M_little, .int M_in, .int M_streak, .int M_lot, .int M_undos, .ref aM_before, .ref aM_images, .ref aM_kept, .long M_trace, .int M_at, .int M_begin, .int M_kind, .long M_value, .int M_readMany, .int M_readLittle, .ref aM_read, .long M_below]))] sz) := by
  refine Met.ofW (cc := cX10_lot) (maxL := 3) (ret := (some .int)) (by decide) rfl ?_
  intro p e s m args below meth c s₁ B hml hv
  obtain ⟨rfl, hsz, hP, hKK, hD0⟩ := hv
  have hx := B.exec
  have hb := B.bytes
  have hr := B.returns
  have hts := atoms_spec (ws := wsX10_lot) B.pre
  have hown : s.vm.findClass RX10 = some m.cls := findClass_of_methodNamed B.named
  have hlocks := B.notSynchronized
  have hK := hKK.1
  have fl_22 := hts (.fieldLink RX10 22 "SimonSaysModel" "lot" "I") (by decide +kernel)
  have inX10 : ∀ w ∈ wsX100, w ∈ wsX10_lot := by decide +kernel
  subst hsz
  have hD := hD0.self (sz := s.heap.size)
  generalize hAe : va_A [(aM, .inr (10, [.ref aM_text, .int M_size, .int M_many, .ref aM_slips, .ref aM_lates, .ref aM_copies, .int M_little, .int M_in, .int M_streak, .int M_lot, .int M_undos, .ref aM_before, .ref aM_images, .ref aM_kept, .long M_trace, .int M_at, .int M_begin, .int M_kind, .long M_value, .int M_readMany, .int M_readLittle, .ref aM_read, .long M_below]))] s.heap.size = A at hD ⊢
  have hA : ∀ q : Nat, s.heap.size ≤ q → A q := fun q h => by rw [← hAe]; exact Or.inr h
  have hS : va_S A s.heap s.heap [] := va_S.rf
  have hl := lv_entry ([.ref aM, .int p1]) (n := 3) (Nat.le_of_ble_eq_true rfl)
  rw [lg_entry_eq]
  generalize (lg_sl ([.ref aM, .int p1]) ++ List.replicate (3 - (lg_sl ([.ref aM, .int p1])).length) Slot.unset).toArray = ls at hl ⊢
  have hl : lv_has ls 3 [(0, .ref aM), (1, .int p1)] := hl
  unfold f_X10_lot at h
  refine lv_aload_n hx hb dX10_lot_0 rfl (lv_at hl 0 rfl) ?_
  refine va_get (D := D) (ci := 10) (v := .int M_lot) (C := RX10) (T := TX10) (N := 23) hx hb hts inX10 hown hK hP 0 rfl rfl 9 (by decide) fl_22 (fun _ h9 => h9) rfl dX10_lot_1 ?_
  refine lv_istore_n (lv' := [(2, .int M_lot), (0, .ref aM), (1, .int p1)]) hx hb dX10_lot_4 rfl hl (by decide) rfl (fun ls hl => ?_)
  refine lv_aload_n hx hb dX10_lot_5 rfl (lv_at hl 1 rfl) ?_
  refine lv_iload_n hx hb dX10_lot_6 rfl (lv_at hl 2 rfl) ?_
  refine va_put (D := D) (ci := 10) (v := .int p1) (ty := .int) (C := RX10) (T := TX10) (N := 23) hx hb hts inX10 tyX10 tyX10_ok nmX10 hown hK hP hD hS 0 rfl rfl 9 (by decide) fl_22 (fun _ h9 => h9) rfl (by decide +kernel) rfl rfl (Nat.le_of_ble_eq_true rfl) dX10_lot_7 (fun H locs hP hD hS => ?_)
  have hP : va_P D vwCl [(aM, .inr (10, [.ref aM_text, .int M_size, .int M_many, .ref aM_slips, .ref aM_lates, .ref aM_copies, .int M_little, .int M_in, .int M_streak, .int p1, .int M_undos, .ref aM_before, .ref aM_images, .ref aM_kept, .long M_trace, .int M_at, .int M_begin, .int M_kind, .long M_value, .int M_readMany, .int M_readLittle, .ref aM_read, .long M_below]))] H := hP
  have hD : va_D A [(aM, .inr (10, [.ref aM_text, .int M_size, .int M_many, .ref aM_slips, .ref aM_lates, .ref aM_copies, .int M_little, .int M_in, .int M_streak, .int p1, .int M_undos, .ref aM_before, .ref aM_images, .ref aM_kept, .long M_trace, .int M_at, .int M_begin, .int M_kind, .long M_value, .int M_readMany, .int M_readLittle, .ref aM_read, .long M_below]))] := hD
  refine lv_iload_n hx hb dX10_lot_10 rfl (lv_at hl 0 rfl) ?_
  have hy := Option.some.inj h
  subst hy
  exact W.iret (v := M_lot) hx hb hr (fun t ht hW => ⟨⟨M_lot, (), rfl, rfl, by rw [ht]; exact hP, hD⟩, hS.F ht⟩) hS.2.2 dX10_lot_11

def f_X10_part_L6  : Nat → Int64 → Int64 → Int32 → Int64 → Int64 → Option (Int64)
  | 0, _, _, _, _, _ => none
  | n + 1, x0, x2, x4, x5, x7 => (if (lg_cmp x7 (0 : Int64)) = 0 then (if x4 = 0 then (if x5 = 0 then none else some (x0 / x5)) else (if x5 = 0 then none else some (x2 / x5))) else (if x7 = 0 then none else f_X10_part_L6 n x0 x2 x4 x7 (x5 - x5 / x7 * x7)))
def f_X10_part (p0 : Int64) (p2 : Int64) (p4 : Int32) : Option (Int64) := f_X10_part_L6 300 p0 p2 p4 p0 p2
set_option maxHeartbeats 8000000 in
set_option maxRecDepth 100000 in
theorem c_X10_part (l : Launch) (D : va_G) (cI cJ cZ cO : ClassId)   (p0 : Int64) (p2 : Int64) (p4 : Int32)  (y0 : Int64) (h : f_X10_part p0 p2 p4 = some y0) : Met l yX10_part wsX10_part ({ frames := 0, cells := 0, slots := 0, locals := 0 } : Room) (va_Pc [.long p0, .long p2, .int p4] (fun U => va_P D vwCl [] U.heap ∧ KK D cI cJ cZ cO U)) (vp_Sl (fun r => r = y0)) 0 0 (fun _ => False) := by
  refine Met.ofW (cc := cX10_part) (maxL := 11) (ret := (some .long)) (by decide) rfl ?_
  intro p e s m args below meth c s₁ B hml hv
  obtain ⟨rfl, hP, hKK⟩ := hv
  have hx := B.exec
  have hb := B.bytes
  have hr := B.returns
  have hts := atoms_spec (ws := wsX10_part) B.pre
  have hown : s.vm.findClass RX10 = some m.cls := findClass_of_methodNamed B.named
  have hlocks := B.notSynchronized
  have hK := hKK.1
  have hl := lv_entry ([.long p0, .long p2, .int p4]) (n := 11) (Nat.le_of_ble_eq_true rfl)
  rw [lg_entry_eq]
  generalize (lg_sl ([.long p0, .long p2, .int p4]) ++ List.replicate (11 - (lg_sl ([.long p0, .long p2, .int p4])).length) Slot.unset).toArray = ls at hl ⊢
  have hl : lv_has ls 11 [(0, .long p0), (2, .long p2), (4, .int p4)] := hl
  have L6 : ∀ (n : Nat), ∀ (x0 : Int64) (x2 : Int64) (x4 : Int32) (x5 : Int64) (x7 : Int64), ∀ (ls : Array Slot), lv_has ls 11 [(0, .long x0), (2, .long x2), (4, .int x4), (5, .long x5), (7, .long x7)] → f_X10_part_L6 n x0 x2 x4 x5 x7 = some y0 → W p l e (headSpec wsX10_part ({ frames := 0, cells := 0, slots := 0, locals := 0 } : Room)).room s m ([.long p0, .long p2, .int p4] : List Value).toArray below meth c s.heap [] 0 0 (MQ below (vp_Sl (fun r => r = y0)) ([.long p0, .long p2, .int p4] : List Value).toArray s 0 0 (fun _ => False)) (F0 m 6 ls []) := by
    intro n
    induction n with
    | zero =>
      intro x0 x2 x4 x5 x7 ls hl h
      exact (ns h).elim
    | succ n ih =>
      intro x0 x2 x4 x5 x7 ls hl h
      unfold f_X10_part_L6 at h
      refine lv_lload hx hb dX10_part_6 (lv_at hl 4 rfl) ?_
      refine lv_lconst (v := (0 : Int64)) hx hb dX10_part_8 (by decide) ?_
      refine W.lcmp hx hb dX10_part_9 ?_
      refine lv_if_eq (tgt := 31) hx hb dX10_part_10 (by decide) (fun c_1 => ?_) (fun c_1 => ?_)
      · replace h := if_p c_1 h
        refine lv_iload hx hb dX10_part_31 (lv_at hl 2 rfl) ?_
        refine lv_if_ne (tgt := 43) hx hb dX10_part_33 (by decide) (fun c_2 => ?_) (fun c_2 => ?_)
        · replace h := if_n c_2 h
          refine lv_lload_n hx hb dX10_part_43 rfl (lv_at hl 1 rfl) ?_
          refine lv_lload hx hb dX10_part_44 (lv_at hl 3 rfl) ?_
          obtain ⟨hn3, h⟩ := gd_nzl h
          refine lv_ldiv hx hb dX10_part_46 hn3 ?_
          exact pr_l hx hb hr hlocks dX10_part_47 (Option.some.inj h)
        · replace h := if_p c_2 h
          refine lv_lload_n hx hb dX10_part_36 rfl (lv_at hl 0 rfl) ?_
          refine lv_lload hx hb dX10_part_37 (lv_at hl 3 rfl) ?_
          obtain ⟨hn4, h⟩ := gd_nzl h
          refine lv_ldiv hx hb dX10_part_39 hn4 ?_
          refine lv_goto (tgt := 47) hx hb dX10_part_40 (by decide) ?_
          exact pr_l hx hb hr hlocks dX10_part_47 (Option.some.inj h)
      · replace h := if_n c_1 h
        refine lv_lload hx hb dX10_part_13 (lv_at hl 3 rfl) ?_
        refine lv_lload hx hb dX10_part_15 (lv_at hl 4 rfl) ?_
        obtain ⟨hn5, h⟩ := gd_nzl h
        refine lv_lrem hx hb dX10_part_17 hn5 ?_
        refine lv_lstore (lv' := [(9, .long (x5 - x5 / x7 * x7)), (0, .long x0), (2, .long x2), (4, .int x4), (5, .long x5), (7, .long x7)]) hx hb dX10_part_18 hl (by decide) rfl (fun ls hl => ?_)
        refine lv_lload hx hb dX10_part_20 (lv_at hl 5 rfl) ?_
        refine lv_lstore (lv' := [(5, .long x7), (9, .long (x5 - x5 / x7 * x7)), (0, .long x0), (2, .long x2), (4, .int x4), (7, .long x7)]) hx hb dX10_part_22 hl (by decide) rfl (fun ls hl => ?_)
        refine lv_lload hx hb dX10_part_24 (lv_at hl 1 rfl) ?_
        refine lv_lstore (lv' := [(7, .long (x5 - x5 / x7 * x7)), (5, .long x7), (9, .long (x5 - x5 / x7 * x7)), (0, .long x0), (2, .long x2), (4, .int x4)]) hx hb dX10_part_26 hl (by decide) rfl (fun ls hl => ?_)
        refine lv_goto (tgt := 6) hx hb dX10_part_28 (by decide) ?_
        exact ih x0 x2 x4 x7 (x5 - x5 / x7 * x7) ls (lv_sub hl [3, 4, 5, 1, 0] rfl) h
  unfold f_X10_part at h
  refine lv_lload_n hx hb dX10_part_0 rfl (lv_at hl 0 rfl) ?_
  refine lv_lstore (lv' := [(5, .long p0), (0, .long p0), (2, .long p2), (4, .int p4)]) hx hb dX10_part_1 hl (by decide) rfl (fun ls hl => ?_)
  refine lv_lload_n hx hb dX10_part_3 rfl (lv_at hl 2 rfl) ?_
  refine lv_lstore (lv' := [(7, .long p2), (5, .long p0), (0, .long p0), (2, .long p2), (4, .int p4)]) hx hb dX10_part_4 hl (by decide) rfl (fun ls hl => ?_)
  exact L6 300 p0 p2 p4 p0 p2 ls (lv_sub hl [2, 3, 4, 1, 0] rfl) h

def f_X10_waysOf_L111 (M_many : Int32) (M_in : Int32) (M_streak : Int32) (M_slips : Nat → Int32) (M_lates : Nat → Int32) (M_copies : Nat → Int32) (k25 : Int64 → Int32 → Int32 → Int64 → Int32 → Option (Int64 × Int64)) (M_below : Int64) (t0 : Int64) (t1 : Int64) (x1 : Int32) (x2 : Int32) (x5 : Int32) : Option (Int64 × Int64) := k25 (M_below * (10 : Int64)) x1 x2 (t1 * t0) (x5 + (1 : Int32))
def f_X10_waysOf_L25 (M_many : Int32) (M_in : Int32) (M_streak : Int32) (M_slips : Nat → Int32) (M_lates : Nat → Int32) (M_copies : Nat → Int32) : Nat → Int64 → Int32 → Int32 → Int64 → Int32 → Option (Int64 × Int64)
  | 0, _, _, _, _, _ => none
  | n + 1, M_below, x1, x2, x3, x5 => (if M_many ≤ x5 then some (x3, M_below) else (if (f_X10_has M_in x5) = 0 then f_X10_waysOf_L25 M_many M_in M_streak M_slips M_lates M_copies n M_below x1 x2 x3 (x5 + (1 : Int32)) else (Option.bind (f_X10_leaderOf M_in M_copies x5) (fun y5 => (if y5 = x5 then (Option.bind (f_X10_ledBy M_many M_in M_copies x5) (fun y7 => (Option.bind (f_X10_errsOf M_slips M_lates x5 x1 M_streak) (fun y8 => (if (y7 &&& (x2 ^^^ (-1 : Int32))) = 0 then f_X10_waysOf_L111 M_many M_in M_streak M_slips M_lates M_copies (f_X10_waysOf_L25 M_many M_in M_streak M_slips M_lates M_copies n) M_below y8.toInt64 x3 x1 x2 x5 else (if (y7 &&& x2) = 0 then f_X10_waysOf_L111 M_many M_in M_streak M_slips M_lates M_copies (f_X10_waysOf_L25 M_many M_in M_streak M_slips M_lates M_copies n) M_below (((10 : Int32) - y8).toInt64) x3 x1 x2 x5 else f_X10_waysOf_L111 M_many M_in M_streak M_slips M_lates M_copies (f_X10_waysOf_L25 M_many M_in M_streak M_slips M_lates M_copies n) M_below (0 : Int64) x3 x1 x2 x5)))))) else f_X10_waysOf_L25 M_many M_in M_streak M_slips M_lates M_copies n M_below x1 x2 x3 (x5 + (1 : Int32)))))))
def f_X10_waysOf (M_many : Int32) (M_in : Int32) (M_streak : Int32) (M_below : Int64) (M_slips : Nat → Int32) (M_lates : Nat → Int32) (M_copies : Nat → Int32) (p1 : Int32) (p2 : Int32) : Option (Int64 × Int64) := (if (p2 &&& (M_in ^^^ (-1 : Int32))) = 0 then f_X10_waysOf_L25 M_many M_in M_streak M_slips M_lates M_copies 300 (1 : Int64) p1 p2 (1 : Int64) (0 : Int32) else f_X10_waysOf_L25 M_many M_in M_streak M_slips M_lates M_copies 300 (1 : Int64) p1 p2 (0 : Int64) (0 : Int32))
set_option maxHeartbeats 8000000 in
set_option maxRecDepth 100000 in
theorem c_X10_waysOf (l : Launch) (D : va_G) (cI cJ cZ cO : ClassId) (aM : Nat) (aM_slips : Nat) (aM_lates : Nat) (aM_copies : Nat) (aM_text : Nat) (aM_before : Nat) (aM_images : Nat) (aM_kept : Nat) (aM_read : Nat) (M_size : Int32) (M_many : Int32) (M_little : Int32) (M_in : Int32) (M_streak : Int32) (M_lot : Int32) (M_undos : Int32) (M_trace : Int64) (M_at : Int32) (M_begin : Int32) (M_kind : Int32) (M_value : Int64) (M_readMany : Int32) (M_readLittle : Int32) (M_below : Int64) (M_slips : Nat → Int32) (M_lates : Nat → Int32) (M_copies : Nat → Int32) (sz : Nat) (p1 : Int32) (p2 : Int32)  (y0 : Int64 × Int64) (h : f_X10_waysOf M_many M_in M_streak M_below M_slips M_lates M_copies p1 p2 = some y0) : Met l yX10_waysOf wsX10_waysOf ({ frames := 3, cells := 0, slots := 0, locals := 66 } : Room) (va_Pc [.ref aM, .int p1, .int p2] (fun U => U.heap.size = sz ∧ va_P D vwCl [(aM, .inr (10, [.ref aM_text, .int M_size, .int M_many, .ref aM_slips, .ref aM_lates, .ref aM_copies, .int M_little, .int M_in, .int M_streak, .int M_lot, .int M_undos, .ref aM_before, .ref aM_images, .ref aM_kept, .long M_trace, .int M_at, .int M_begin, .int M_kind, .long M_value, .int M_readMany, .int M_readLittle, .ref aM_read, .long M_below])), (aM_slips, .inl (cI, 6, .inl M_slips)), (aM_lates, .inl (cI, 6, .inl M_lates)), (aM_copies, .inl (cI, 6, .inl M_copies))] U.heap ∧ KK D cI cJ cZ cO U ∧ va_D (fun _ => True) [(aM, .inr (10, [.ref aM_text, .int M_size, .int M_many, .ref aM_slips, .ref aM_lates, .ref aM_copies, .int M_little, .int M_in, .int M_streak, .int M_lot, .int M_undos, .ref aM_before, .ref aM_images, .ref aM_kept, .long M_trace, .int M_at, .int M_begin, .int M_kind, .long M_value, .int M_readMany, .int M_readLittle, .ref aM_read, .long M_below])), (aM_slips, .inl (cI, 6, .inl M_slips)), (aM_lates, .inl (cI, 6, .inl M_lates)), (aM_copies, .inl (cI, 6, .inl M_copies))])) (va_Ql (fun (r : Int64) (_ : Unit) => r = y0.1) (fun (_ : Unit) t => va_P D vwCl [(aM, .inr (10, [.ref aM_text, .int M_size, .int M_many, .ref aM_slips, .ref aM_lates, .ref aM_copies, .int M_little, .int M_in, .int M_streak, .int M_lot, .int M_undos, .ref aM_before, .ref aM_images, .ref aM_kept, .long M_trace, .int M_at, .int M_begin, .int M_kind, .long M_value, .int M_readMany, .int M_readLittle, .ref aM_read, .long y0.2])), (aM_slips, .inl (cI, 6, .inl M_slips)), (aM_lates, .inl (cI, 6, .inl M_lates)), (aM_copies, .inl (cI, 6, .inl M_copies))] t.heap ∧ va_D (va_A [(aM, .inr (10, [.ref aM_text, .int M_size, .int M_many, .ref aM_slips, .ref aM_lates, .ref aM_copies, .int M_little, .int M_in, .int M_streak, .int M_lot, .int M_undos, .ref aM_before, .ref aM_images, .ref aM_kept, .long M_trace, .int M_at, .int M_begin, .int M_kind, .long M_value, .int M_readMany, .int M_readLittle, .ref aM_read, .long M_below])), (aM_slips, .inl (cI, 6, .inl M_slips)), (aM_lates, .inl (cI, 6, .inl M_lates)), (aM_copies, .inl (cI, 6, .inl M_copies))] sz) [(aM, .inr (10, [.ref aM_text, .int M_size, .int M_many, .ref aM_slips, .ref aM_lates, .ref aM_copies, .int M_little, .int M_in, .int M_streak, .int M_lot, .int M_undos, .ref aM_before, .ref aM_images, .ref aM_kept, .long M_trace, .int M_at, .int M_begin, .int M_kind, .long M_value, .int M_readMany, .int M_readLittle, .ref aM_read, .long y0.2])), (aM_slips, .inl (cI, 6, .inl M_slips)), (aM_lates, .inl (cI, 6, .inl M_lates)), (aM_copies, .inl (cI, 6, .inl M_copies))]) (va_A [(aM, .inr (10, [.ref aM_text, .int M_size, .int M_many, .ref aM_slips, .ref aM_lates, .ref aM_copies, .int M_little, .int M_in, .int M_streak, .int M_lot, .int M_undos, .ref aM_before, .ref aM_images, .ref aM_kept, .long M_trace, .int M_at, .int M_begin, .int M_kind, .long M_value, .int M_readMany, .int M_readLittle, .ref aM_read, .long M_below])), (aM_slips, .inl (cI, 6, .inl M_slips)), (aM_lates, .inl (cI, 6, .inl M_lates)), (aM_copies, .inl (cI, 6, .inl M_copies))] sz)) 0 0 (va_A [(aM, .inr (10, [.ref aM_text, .int M_size, .int M_many, .ref aM_slips, .ref aM_lates, .ref aM_copies, .int M_little, .int M_in, .int M_streak, .int M_lot, .int M_undos, .ref aM_before, .ref aM_images, .ref aM_kept, .long M_trace, .int M_at, .int M_begin, .int M_kind, .long M_value, .int M_readMany, .int M_readLittle, .ref aM_read, .long M_below])), (aM_slips, .inl (cI, 6, .inl M_slips)), (aM_lates, .inl (cI, 6, .inl M_lates)), (aM_copies, .inl (cI, 6, .inl M_copies))] sz) := by
  refine Met.ofW (cc := cX10_waysOf) (maxL := 8) (ret := (some .long)) (by decide) rfl ?_
  intro p e s m args below meth c s₁ B hml hv
  obtain ⟨rfl, hsz, hP, hKK, hD0⟩ := hv
  have hx := B.exec
  have hb := B.bytes
  have hr := B.returns
  have hts := atoms_spec (ws := wsX10_waysOf) B.pre
  have hown : s.vm.findClass RX10 = some m.cls := findClass_of_methodNamed B.named
  have hlocks := B.notSynchronized
  have hK := hKK.1
  have fl_39 := hts (.fieldLink RX10 39 "SimonSaysModel" "many" "I") (by decide +kernel)
  have fl_119 := hts (.fieldLink RX10 119 "SimonSaysModel" "in" "I") (by decide +kernel)
  have fl_122 := hts (.fieldLink RX10 122 "SimonSaysModel" "streak" "I") (by decide +kernel)
  have fl_165 := hts (.fieldLink RX10 165 "SimonSaysModel" "below" "J") (by decide +kernel)
  have cst_81 := hts (.constantLong RX10 81 (10)) (by decide +kernel)
  have inX10 : ∀ w ∈ wsX100, w ∈ wsX10_waysOf := by decide +kernel
  subst hsz
  have hD := hD0.self (sz := s.heap.size)
  generalize hAe : va_A [(aM, .inr (10, [.ref aM_text, .int M_size, .int M_many, .ref aM_slips, .ref aM_lates, .ref aM_copies, .int M_little, .int M_in, .int M_streak, .int M_lot, .int M_undos, .ref aM_before, .ref aM_images, .ref aM_kept, .long M_trace, .int M_at, .int M_begin, .int M_kind, .long M_value, .int M_readMany, .int M_readLittle, .ref aM_read, .long M_below])), (aM_slips, .inl (cI, 6, .inl M_slips)), (aM_lates, .inl (cI, 6, .inl M_lates)), (aM_copies, .inl (cI, 6, .inl M_copies))] s.heap.size = A at hD ⊢
  have hA : ∀ q : Nat, s.heap.size ≤ q → A q := fun q h => by rw [← hAe]; exact Or.inr h
  have hS : va_S A s.heap s.heap [] := va_S.rf
  have hl := lv_entry ([.ref aM, .int p1, .int p2]) (n := 8) (Nat.le_of_ble_eq_true rfl)
  rw [lg_entry_eq]
  generalize (lg_sl ([.ref aM, .int p1, .int p2]) ++ List.replicate (8 - (lg_sl ([.ref aM, .int p1, .int p2])).length) Slot.unset).toArray = ls at hl ⊢
  have hl : lv_has ls 8 [(0, .ref aM), (1, .int p1), (2, .int p2)] := hl
  have L111 : ∀ (k25 : Int64 → Int32 → Int32 → Int64 → Int32 → Option (Int64 × Int64)) (_ : ∀ (M_below : Int64) (x1 : Int32) (x2 : Int32) (x3 : Int64) (x5 : Int32), ∀ (H : Heap) (locs : List Loc), va_P D vwCl [(aM, .inr (10, [.ref aM_text, .int M_size, .int M_many, .ref aM_slips, .ref aM_lates, .ref aM_copies, .int M_little, .int M_in, .int M_streak, .int M_lot, .int M_undos, .ref aM_before, .ref aM_images, .ref aM_kept, .long M_trace, .int M_at, .int M_begin, .int M_kind, .long M_value, .int M_readMany, .int M_readLittle, .ref aM_read, .long M_below])), (aM_slips, .inl (cI, 6, .inl M_slips)), (aM_lates, .inl (cI, 6, .inl M_lates)), (aM_copies, .inl (cI, 6, .inl M_copies))] H → va_D A [(aM, .inr (10, [.ref aM_text, .int M_size, .int M_many, .ref aM_slips, .ref aM_lates, .ref aM_copies, .int M_little, .int M_in, .int M_streak, .int M_lot, .int M_undos, .ref aM_before, .ref aM_images, .ref aM_kept, .long M_trace, .int M_at, .int M_begin, .int M_kind, .long M_value, .int M_readMany, .int M_readLittle, .ref aM_read, .long M_below])), (aM_slips, .inl (cI, 6, .inl M_slips)), (aM_lates, .inl (cI, 6, .inl M_lates)), (aM_copies, .inl (cI, 6, .inl M_copies))] → va_S A s.heap H locs → ∀ (ls : Array Slot), lv_has ls 8 [(0, .ref aM), (1, .int x1), (2, .int x2), (3, .long x3), (5, .int x5)] → k25 M_below x1 x2 x3 x5 = some y0 → W p l e (headSpec wsX10_waysOf ({ frames := 3, cells := 0, slots := 0, locals := 66 } : Room)).room s m ([.ref aM, .int p1, .int p2] : List Value).toArray below meth c H locs 0 0 (MQ below (va_Ql (fun (r : Int64) (_ : Unit) => r = y0.1) (fun (_ : Unit) t => va_P D vwCl [(aM, .inr (10, [.ref aM_text, .int M_size, .int M_many, .ref aM_slips, .ref aM_lates, .ref aM_copies, .int M_little, .int M_in, .int M_streak, .int M_lot, .int M_undos, .ref aM_before, .ref aM_images, .ref aM_kept, .long M_trace, .int M_at, .int M_begin, .int M_kind, .long M_value, .int M_readMany, .int M_readLittle, .ref aM_read, .long y0.2])), (aM_slips, .inl (cI, 6, .inl M_slips)), (aM_lates, .inl (cI, 6, .inl M_lates)), (aM_copies, .inl (cI, 6, .inl M_copies))] t.heap ∧ va_D A [(aM, .inr (10, [.ref aM_text, .int M_size, .int M_many, .ref aM_slips, .ref aM_lates, .ref aM_copies, .int M_little, .int M_in, .int M_streak, .int M_lot, .int M_undos, .ref aM_before, .ref aM_images, .ref aM_kept, .long M_trace, .int M_at, .int M_begin, .int M_kind, .long M_value, .int M_readMany, .int M_readLittle, .ref aM_read, .long y0.2])), (aM_slips, .inl (cI, 6, .inl M_slips)), (aM_lates, .inl (cI, 6, .inl M_lates)), (aM_copies, .inl (cI, 6, .inl M_copies))]) A) ([.ref aM, .int p1, .int p2] : List Value).toArray s 0 0 A) (F0 m 25 ls [])), ∀ (M_below : Int64) (t0 : Int64) (t1 : Int64) (x1 : Int32) (x2 : Int32) (x5 : Int32), ∀ (H : Heap) (locs : List Loc), va_P D vwCl [(aM, .inr (10, [.ref aM_text, .int M_size, .int M_many, .ref aM_slips, .ref aM_lates, .ref aM_copies, .int M_little, .int M_in, .int M_streak, .int M_lot, .int M_undos, .ref aM_before, .ref aM_images, .ref aM_kept, .long M_trace, .int M_at, .int M_begin, .int M_kind, .long M_value, .int M_readMany, .int M_readLittle, .ref aM_read, .long M_below])), (aM_slips, .inl (cI, 6, .inl M_slips)), (aM_lates, .inl (cI, 6, .inl M_lates)), (aM_copies, .inl (cI, 6, .inl M_copies))] H → va_D A [(aM, .inr (10, [.ref aM_text, .int M_size, .int M_many, .ref aM_slips, .ref aM_lates, .ref aM_copies, .int M_little, .int M_in, .int M_streak, .int M_lot, .int M_undos, .ref aM_before, .ref aM_images, .ref aM_kept, .long M_trace, .int M_at, .int M_begin, .int M_kind, .long M_value, .int M_readMany, .int M_readLittle, .ref aM_read, .long M_below])), (aM_slips, .inl (cI, 6, .inl M_slips)), (aM_lates, .inl (cI, 6, .inl M_lates)), (aM_copies, .inl (cI, 6, .inl M_copies))] → va_S A s.heap H locs → ∀ (ls : Array Slot), lv_has ls 8 [(0, .ref aM), (1, .int x1), (2, .int x2), (5, .int x5)] → f_X10_waysOf_L111 M_many M_in M_streak M_slips M_lates M_copies k25 M_below t0 t1 x1 x2 x5 = some y0 → W p l e (headSpec wsX10_waysOf ({ frames := 3, cells := 0, slots := 0, locals := 66 } : Room)).room s m ([.ref aM, .int p1, .int p2] : List Value).toArray below meth c H locs 0 0 (MQ below (va_Ql (fun (r : Int64) (_ : Unit) => r = y0.1) (fun (_ : Unit) t => va_P D vwCl [(aM, .inr (10, [.ref aM_text, .int M_size, .int M_many, .ref aM_slips, .ref aM_lates, .ref aM_copies, .int M_little, .int M_in, .int M_streak, .int M_lot, .int M_undos, .ref aM_before, .ref aM_images, .ref aM_kept, .long M_trace, .int M_at, .int M_begin, .int M_kind, .long M_value, .int M_readMany, .int M_readLittle, .ref aM_read, .long y0.2])), (aM_slips, .inl (cI, 6, .inl M_slips)), (aM_lates, .inl (cI, 6, .inl M_lates)), (aM_copies, .inl (cI, 6, .inl M_copies))] t.heap ∧ va_D A [(aM, .inr (10, [.ref aM_text, .int M_size, .int M_many, .ref aM_slips, .ref aM_lates, .ref aM_copies, .int M_little, .int M_in, .int M_streak, .int M_lot, .int M_undos, .ref aM_before, .ref aM_images, .ref aM_kept, .long M_trace, .int M_at, .int M_begin, .int M_kind, .long M_value, .int M_readMany, .int M_readLittle, .ref aM_read, .long y0.2])), (aM_slips, .inl (cI, 6, .inl M_slips)), (aM_lates, .inl (cI, 6, .inl M_lates)), (aM_copies, .inl (cI, 6, .inl M_copies))]) A) ([.ref aM, .int p1, .int p2] : List Value).toArray s 0 0 A) (F0 m 111 ls [.long t0, .long t1]) := by
    intro k25 hk25
    intro M_below t0 t1 x1 x2 x5 H locs hP hD hS ls hl h
    unfold f_X10_waysOf_L111 at h
    refine lv_lmul hx hb dX10_waysOf_111 ?_
    refine lv_lstore_n (lv' := [(3, .long (t1 * t0)), (0, .ref aM), (1, .int x1), (2, .int x2), (5, .int x5)]) hx hb dX10_waysOf_112 rfl hl (by decide) rfl (fun ls hl => ?_)
    refine lv_aload_n hx hb dX10_waysOf_113 rfl (lv_at hl 1 rfl) ?_
    refine lv_dup hx hb dX10_waysOf_114 rfl ?_
    refine va_get (D := D) (ci := 10) (v := .long M_below) (C := RX10) (T := TX10) (N := 23) hx hb hts inX10 hown hK hP 0 rfl rfl 22 (by decide) fl_165 (fun _ h9 => h9) rfl dX10_waysOf_115 ?_
    refine lv_ldc2 (v := (10 : Int64)) hx hb hown cst_81 dX10_waysOf_118 ?_
    refine lv_lmul hx hb dX10_waysOf_121 ?_
    refine va_put (D := D) (ci := 10) (v := .long (M_below * (10 : Int64))) (ty := .long) (C := RX10) (T := TX10) (N := 23) hx hb hts inX10 tyX10 tyX10_ok nmX10 hown hK hP hD hS 0 rfl rfl 22 (by decide) fl_165 (fun _ h9 => h9) rfl (by decide +kernel) rfl rfl (Nat.le_of_ble_eq_true rfl) dX10_waysOf_122 (fun H locs hP hD hS => ?_)
    have hP : va_P D vwCl [(aM, .inr (10, [.ref aM_text, .int M_size, .int M_many, .ref aM_slips, .ref aM_lates, .ref aM_copies, .int M_little, .int M_in, .int M_streak, .int M_lot, .int M_undos, .ref aM_before, .ref aM_images, .ref aM_kept, .long M_trace, .int M_at, .int M_begin, .int M_kind, .long M_value, .int M_readMany, .int M_readLittle, .ref aM_read, .long (M_below * (10 : Int64))])), (aM_slips, .inl (cI, 6, .inl M_slips)), (aM_lates, .inl (cI, 6, .inl M_lates)), (aM_copies, .inl (cI, 6, .inl M_copies))] H := hP
    have hD : va_D A [(aM, .inr (10, [.ref aM_text, .int M_size, .int M_many, .ref aM_slips, .ref aM_lates, .ref aM_copies, .int M_little, .int M_in, .int M_streak, .int M_lot, .int M_undos, .ref aM_before, .ref aM_images, .ref aM_kept, .long M_trace, .int M_at, .int M_begin, .int M_kind, .long M_value, .int M_readMany, .int M_readLittle, .ref aM_read, .long (M_below * (10 : Int64))])), (aM_slips, .inl (cI, 6, .inl M_slips)), (aM_lates, .inl (cI, 6, .inl M_lates)), (aM_copies, .inl (cI, 6, .inl M_copies))] := hD
    refine lv_iinc (v := (x5 + (1 : Int32))) (lv' := [(5, .int (x5 + (1 : Int32))), (3, .long (t1 * t0)), (0, .ref aM), (1, .int x1), (2, .int x2)]) hx hb dX10_waysOf_125 hl (k := 4) rfl rfl (by decide) rfl (fun ls hl => ?_)
    refine lv_goto (tgt := 25) hx hb dX10_waysOf_128 (by decide) ?_
    exact hk25 (M_below * (10 : Int64)) x1 x2 (t1 * t0) (x5 + (1 : Int32)) _ _ hP hD hS ls (lv_sub hl [2, 3, 4, 1, 0] rfl) h
  have L25 : ∀ (n : Nat), ∀ (M_below : Int64) (x1 : Int32) (x2 : Int32) (x3 : Int64) (x5 : Int32), ∀ (H : Heap) (locs : List Loc), va_P D vwCl [(aM, .inr (10, [.ref aM_text, .int M_size, .int M_many, .ref aM_slips, .ref aM_lates, .ref aM_copies, .int M_little, .int M_in, .int M_streak, .int M_lot, .int M_undos, .ref aM_before, .ref aM_images, .ref aM_kept, .long M_trace, .int M_at, .int M_begin, .int M_kind, .long M_value, .int M_readMany, .int M_readLittle, .ref aM_read, .long M_below])), (aM_slips, .inl (cI, 6, .inl M_slips)), (aM_lates, .inl (cI, 6, .inl M_lates)), (aM_copies, .inl (cI, 6, .inl M_copies))] H → va_D A [(aM, .inr (10, [.ref aM_text, .int M_size, .int M_many, .ref aM_slips, .ref aM_lates, .ref aM_copies, .int M_little, .int M_in, .int M_streak, .int M_lot, .int M_undos, .ref aM_before, .ref aM_images, .ref aM_kept, .long M_trace, .int M_at, .int M_begin, .int M_kind, .long M_value, .int M_readMany, .int M_readLittle, .ref aM_read, .long M_below])), (aM_slips, .inl (cI, 6, .inl M_slips)), (aM_lates, .inl (cI, 6, .inl M_lates)), (aM_copies, .inl (cI, 6, .inl M_copies))] → va_S A s.heap H locs → ∀ (ls : Array Slot), lv_has ls 8 [(0, .ref aM), (1, .int x1), (2, .int x2), (3, .long x3), (5, .int x5)] → f_X10_waysOf_L25 M_many M_in M_streak M_slips M_lates M_copies n M_below x1 x2 x3 x5 = some y0 → W p l e (headSpec wsX10_waysOf ({ frames := 3, cells := 0, slots := 0, locals := 66 } : Room)).room s m ([.ref aM, .int p1, .int p2] : List Value).toArray below meth c H locs 0 0 (MQ below (va_Ql (fun (r : Int64) (_ : Unit) => r = y0.1) (fun (_ : Unit) t => va_P D vwCl [(aM, .inr (10, [.ref aM_text, .int M_size, .int M_many, .ref aM_slips, .ref aM_lates, .ref aM_copies, .int M_little, .int M_in, .int M_streak, .int M_lot, .int M_undos, .ref aM_before, .ref aM_images, .ref aM_kept, .long M_trace, .int M_at, .int M_begin, .int M_kind, .long M_value, .int M_readMany, .int M_readLittle, .ref aM_read, .long y0.2])), (aM_slips, .inl (cI, 6, .inl M_slips)), (aM_lates, .inl (cI, 6, .inl M_lates)), (aM_copies, .inl (cI, 6, .inl M_copies))] t.heap ∧ va_D A [(aM, .inr (10, [.ref aM_text, .int M_size, .int M_many, .ref aM_slips, .ref aM_lates, .ref aM_copies, .int M_little, .int M_in, .int M_streak, .int M_lot, .int M_undos, .ref aM_before, .ref aM_images, .ref aM_kept, .long M_trace, .int M_at, .int M_begin, .int M_kind, .long M_value, .int M_readMany, .int M_readLittle, .ref aM_read, .long y0.2])), (aM_slips, .inl (cI, 6, .inl M_slips)), (aM_lates, .inl (cI, 6, .inl M_lates)), (aM_copies, .inl (cI, 6, .inl M_copies))]) A) ([.ref aM, .int p1, .int p2] : List Value).toArray s 0 0 A) (F0 m 25 ls []) := by
    intro n
    induction n with
    | zero =>
      intro M_below x1 x2 x3 x5 H locs hP hD hS ls hl h
      exact (ns h).elim
    | succ n ih =>
      intro M_below x1 x2 x3 x5 H locs hP hD hS ls hl h
      unfold f_X10_waysOf_L25 at h
      refine lv_iload hx hb dX10_waysOf_25 (lv_at hl 4 rfl) ?_
      refine lv_aload_n hx hb dX10_waysOf_27 rfl (lv_at hl 0 rfl) ?_
      refine va_get (D := D) (ci := 10) (v := .int M_many) (C := RX10) (T := TX10) (N := 23) hx hb hts inX10 hown hK hP 0 rfl rfl 2 (by decide) fl_39 (fun _ h9 => h9) rfl dX10_waysOf_28 ?_
      refine lv_icmp_ge (tgt := 131) hx hb dX10_waysOf_31 (by decide) (fun c_2 => ?_) (fun c_2 => ?_)
      · replace h := if_p c_2 h
        refine lv_lload_n hx hb dX10_waysOf_131 rfl (lv_at hl 3 rfl) ?_
        have hy := Option.some.inj h
        subst hy
        exact W.lret (v := x3) hx hb hr (fun t ht hW => ⟨⟨x3, (), rfl, rfl, by rw [ht]; exact hP, hD⟩, hS.F ht⟩) hS.2.2 dX10_waysOf_132
      · replace h := if_n c_2 h
        refine lv_aload_n hx hb dX10_waysOf_34 rfl (lv_at hl 0 rfl) ?_
        refine va_get (D := D) (ci := 10) (v := .int M_in) (C := RX10) (T := TX10) (N := 23) hx hb hts inX10 hown hK hP 0 rfl rfl 7 (by decide) fl_119 (fun _ h9 => h9) rfl dX10_waysOf_35 ?_
        refine lv_iload hx hb dX10_waysOf_38 (lv_at hl 4 rfl) ?_
        have hPc : va_P D vwCl [] H := hP.sub [] rfl
        refine vp_callSi (va_Run.run (va_runS (As := [.int M_in, .int x5]) (rest := []) ⟨hx, hb, hml, hown, hts⟩ (c_X10_has l D cI cJ cZ cO M_in x5 _ rfl) (cwS 2 hts gX10_waysOf_X10_has rfl rfl rfl (by decide +kernel) ⟨Nat.le_of_ble_eq_true rfl, Nat.le_of_ble_eq_true rfl⟩) ⟨fb_p, fun U hU hW => ⟨rfl, by rw [hU]; exact hPc, KK.warm hW hKK⟩⟩ rfl rfl hl.1 rfl (lv_room (Nat.le_of_ble_eq_true rfl)) dX10_waysOf_40 ⟨Nat.le_of_ble_eq_true rfl, Nat.le_of_ble_eq_true rfl⟩)) (fun r hr => ?_)
        obtain ⟨hr, hz3⟩ := hr
        replace hr := hr.symm
        subst hr
        refine lv_if_eq (tgt := 125) hx hb dX10_waysOf_43 (by decide) (fun c_4 => ?_) (fun c_4 => ?_)
        · replace h := if_p c_4 h
          refine lv_iinc (v := (x5 + (1 : Int32))) (lv' := [(5, .int (x5 + (1 : Int32))), (0, .ref aM), (1, .int x1), (2, .int x2), (3, .long x3)]) hx hb dX10_waysOf_125 hl (k := 4) rfl rfl (by decide) rfl (fun ls hl => ?_)
          refine lv_goto (tgt := 25) hx hb dX10_waysOf_128 (by decide) ?_
          exact ih M_below x1 x2 x3 (x5 + (1 : Int32)) _ _ hP hD hS ls (lv_sub hl [1, 2, 3, 4, 0] rfl) h
        · replace h := if_n c_4 h
          refine lv_aload_n hx hb dX10_waysOf_46 rfl (lv_at hl 0 rfl) ?_
          refine lv_iload hx hb dX10_waysOf_47 (lv_at hl 4 rfl) ?_
          obtain ⟨y5, qy5, h⟩ := ob_some h
          have hPc : va_P D vwCl [(aM, .inr (10, [.ref aM_text, .int M_size, .int M_many, .ref aM_slips, .ref aM_lates, .ref aM_copies, .int M_little, .int M_in, .int M_streak, .int M_lot, .int M_undos, .ref aM_before, .ref aM_images, .ref aM_kept, .long M_trace, .int M_at, .int M_begin, .int M_kind, .long M_value, .int M_readMany, .int M_readLittle, .ref aM_read, .long M_below])), (aM_copies, .inl (cI, 6, .inl M_copies))] H := hP.sub [0, 3] rfl
          refine vp_callSi (va_Run.run (va_runV (As := [.int x5]) (rest := []) ⟨hx, hb, hml, hown, hts⟩ (c_X10_leaderOf l D cI cJ cZ cO aM aM_copies aM_text aM_slips aM_lates aM_before aM_images aM_kept aM_read M_size M_many M_little M_in M_streak M_lot M_undos M_trace M_at M_begin M_kind M_value M_readMany M_readLittle M_below M_copies x5 y5 qy5) (cwV 1 hts gX10_waysOf_X10_leaderOf rfl rfl rfl (by decide +kernel) ⟨Nat.le_of_ble_eq_true rfl, Nat.le_of_ble_eq_true rfl⟩) ⟨fb_p, va_recv hK hP (ci := 10) (q0 := 0) rfl rfl, fun U hU hW => ⟨rfl, by rw [hU]; exact hPc, KK.warm hW hKK⟩⟩ rfl rfl hl.1 rfl (lv_room (Nat.le_of_ble_eq_true rfl)) dX10_waysOf_49 ⟨Nat.le_of_ble_eq_true rfl, Nat.le_of_ble_eq_true rfl⟩)) (fun r hr => ?_)
          replace hr := hr.symm
          subst hr
          refine lv_iload hx hb dX10_waysOf_52 (lv_at hl 4 rfl) ?_
          refine lv_icmp_ne (tgt := 125) hx hb dX10_waysOf_54 (by decide) (fun c_6 => ?_) (fun c_6 => ?_)
          · replace h := if_n c_6 h
            refine lv_iinc (v := (x5 + (1 : Int32))) (lv' := [(5, .int (x5 + (1 : Int32))), (0, .ref aM), (1, .int x1), (2, .int x2), (3, .long x3)]) hx hb dX10_waysOf_125 hl (k := 4) rfl rfl (by decide) rfl (fun ls hl => ?_)
            refine lv_goto (tgt := 25) hx hb dX10_waysOf_128 (by decide) ?_
            exact ih M_below x1 x2 x3 (x5 + (1 : Int32)) _ _ hP hD hS ls (lv_sub hl [1, 2, 3, 4, 0] rfl) h
          · replace h := if_p c_6 h
            refine lv_aload_n hx hb dX10_waysOf_57 rfl (lv_at hl 0 rfl) ?_
            refine lv_iload hx hb dX10_waysOf_58 (lv_at hl 4 rfl) ?_
            obtain ⟨y7, qy7, h⟩ := ob_some h
            have hPc : va_P D vwCl [(aM, .inr (10, [.ref aM_text, .int M_size, .int M_many, .ref aM_slips, .ref aM_lates, .ref aM_copies, .int M_little, .int M_in, .int M_streak, .int M_lot, .int M_undos, .ref aM_before, .ref aM_images, .ref aM_kept, .long M_trace, .int M_at, .int M_begin, .int M_kind, .long M_value, .int M_readMany, .int M_readLittle, .ref aM_read, .long M_below])), (aM_copies, .inl (cI, 6, .inl M_copies))] H := hP.sub [0, 3] rfl
            refine vp_callSi (va_Run.run (va_runV (As := [.int x5]) (rest := []) ⟨hx, hb, hml, hown, hts⟩ (c_X10_ledBy l D cI cJ cZ cO aM aM_copies aM_text aM_slips aM_lates aM_before aM_images aM_kept aM_read M_size M_many M_little M_in M_streak M_lot M_undos M_trace M_at M_begin M_kind M_value M_readMany M_readLittle M_below M_copies x5 y7 qy7) (cwV 1 hts gX10_waysOf_X10_ledBy rfl rfl rfl (by decide +kernel) ⟨Nat.le_of_ble_eq_true rfl, Nat.le_of_ble_eq_true rfl⟩) ⟨fb_p, va_recv hK hP (ci := 10) (q0 := 0) rfl rfl, fun U hU hW => ⟨rfl, by rw [hU]; exact hPc, KK.warm hW hKK⟩⟩ rfl rfl hl.1 rfl (lv_room (Nat.le_of_ble_eq_true rfl)) dX10_waysOf_60 ⟨Nat.le_of_ble_eq_true rfl, Nat.le_of_ble_eq_true rfl⟩)) (fun r hr => ?_)
            replace hr := hr.symm
            subst hr
            refine lv_istore (lv' := [(6, .int y7), (0, .ref aM), (1, .int x1), (2, .int x2), (3, .long x3), (5, .int x5)]) hx hb dX10_waysOf_63 hl (by decide) rfl (fun ls hl => ?_)
            refine lv_aload_n hx hb dX10_waysOf_65 rfl (lv_at hl 1 rfl) ?_
            refine lv_iload hx hb dX10_waysOf_66 (lv_at hl 5 rfl) ?_
            refine lv_iload_n hx hb dX10_waysOf_68 rfl (lv_at hl 2 rfl) ?_
            refine lv_aload_n hx hb dX10_waysOf_69 rfl (lv_at hl 1 rfl) ?_
            refine va_get (D := D) (ci := 10) (v := .int M_streak) (C := RX10) (T := TX10) (N := 23) hx hb hts inX10 hown hK hP 0 rfl rfl 8 (by decide) fl_122 (fun _ h9 => h9) rfl dX10_waysOf_70 ?_
            obtain ⟨y8, qy8, h⟩ := ob_some h
            have hPc : va_P D vwCl [(aM, .inr (10, [.ref aM_text, .int M_size, .int M_many, .ref aM_slips, .ref aM_lates, .ref aM_copies, .int M_little, .int M_in, .int M_streak, .int M_lot, .int M_undos, .ref aM_before, .ref aM_images, .ref aM_kept, .long M_trace, .int M_at, .int M_begin, .int M_kind, .long M_value, .int M_readMany, .int M_readLittle, .ref aM_read, .long M_below])), (aM_slips, .inl (cI, 6, .inl M_slips)), (aM_lates, .inl (cI, 6, .inl M_lates))] H := hP.sub [0, 1, 2] rfl
            refine vp_callSi (va_Run.run (va_runV (As := [.int x5, .int x1, .int M_streak]) (rest := []) ⟨hx, hb, hml, hown, hts⟩ (c_X10_errsOf l D cI cJ cZ cO aM aM_slips aM_lates aM_text aM_copies aM_before aM_images aM_kept aM_read M_size M_many M_little M_in M_streak M_lot M_undos M_trace M_at M_begin M_kind M_value M_readMany M_readLittle M_below M_slips M_lates x5 x1 M_streak y8 qy8) (cwV 3 hts gX10_waysOf_X10_errsOf rfl rfl rfl (by decide +kernel) ⟨Nat.le_of_ble_eq_true rfl, Nat.le_of_ble_eq_true rfl⟩) ⟨fb_p, va_recv hK hP (ci := 10) (q0 := 0) rfl rfl, fun U hU hW => ⟨rfl, by rw [hU]; exact hPc, KK.warm hW hKK⟩⟩ rfl rfl hl.1 rfl (lv_room (Nat.le_of_ble_eq_true rfl)) dX10_waysOf_73 ⟨Nat.le_of_ble_eq_true rfl, Nat.le_of_ble_eq_true rfl⟩)) (fun r hr => ?_)
            replace hr := hr.symm
            subst hr
            refine lv_istore (lv' := [(7, .int y8), (6, .int y7), (0, .ref aM), (1, .int x1), (2, .int x2), (3, .long x3), (5, .int x5)]) hx hb dX10_waysOf_76 hl (by decide) rfl (fun ls hl => ?_)
            refine lv_lload_n hx hb dX10_waysOf_78 rfl (lv_at hl 5 rfl) ?_
            refine lv_iload hx hb dX10_waysOf_79 (lv_at hl 1 rfl) ?_
            refine lv_iload_n hx hb dX10_waysOf_81 rfl (lv_at hl 4 rfl) ?_
            refine lv_iconst (v := (-1 : Int32)) hx hb dX10_waysOf_82 (by decide) ?_
            refine lv_ixor hx hb dX10_waysOf_83 ?_
            refine lv_iand hx hb dX10_waysOf_84 ?_
            refine lv_if_ne (tgt := 94) hx hb dX10_waysOf_85 (by decide) (fun c_9 => ?_) (fun c_9 => ?_)
            · replace h := if_n c_9 h
              refine lv_iload hx hb dX10_waysOf_94 (lv_at hl 1 rfl) ?_
              refine lv_iload_n hx hb dX10_waysOf_96 rfl (lv_at hl 4 rfl) ?_
              refine lv_iand hx hb dX10_waysOf_97 ?_
              refine lv_if_ne (tgt := 110) hx hb dX10_waysOf_98 (by decide) (fun c_10 => ?_) (fun c_10 => ?_)
              · replace h := if_n c_10 h
                refine lv_lconst (v := (0 : Int64)) hx hb dX10_waysOf_110 (by decide) ?_
                exact L111 (f_X10_waysOf_L25 M_many M_in M_streak M_slips M_lates M_copies n) ih M_below (0 : Int64) x3 x1 x2 x5 _ _ hP hD hS ls (lv_sub hl [2, 3, 4, 6] rfl) h
              · replace h := if_p c_10 h
                refine lv_bipush (v := (10 : Int32)) hx hb dX10_waysOf_101 (by decide) ?_
                refine lv_iload hx hb dX10_waysOf_103 (lv_at hl 0 rfl) ?_
                refine lv_isub hx hb dX10_waysOf_105 ?_
                refine lv_i2l (v := ((10 : Int32) - y8).toInt64) hx hb dX10_waysOf_106 rfl ?_
                refine lv_goto (tgt := 111) hx hb dX10_waysOf_107 (by decide) ?_
                exact L111 (f_X10_waysOf_L25 M_many M_in M_streak M_slips M_lates M_copies n) ih M_below (((10 : Int32) - y8).toInt64) x3 x1 x2 x5 _ _ hP hD hS ls (lv_sub hl [2, 3, 4, 6] rfl) h
            · replace h := if_p c_9 h
              refine lv_iload hx hb dX10_waysOf_88 (lv_at hl 0 rfl) ?_
              refine lv_i2l (v := y8.toInt64) hx hb dX10_waysOf_90 rfl ?_
              refine lv_goto (tgt := 111) hx hb dX10_waysOf_91 (by decide) ?_
              exact L111 (f_X10_waysOf_L25 M_many M_in M_streak M_slips M_lates M_copies n) ih M_below y8.toInt64 x3 x1 x2 x5 _ _ hP hD hS ls (lv_sub hl [2, 3, 4, 6] rfl) h
  unfold f_X10_waysOf at h
  refine lv_iload_n hx hb dX10_waysOf_0 rfl (lv_at hl 2 rfl) ?_
  refine lv_aload_n hx hb dX10_waysOf_1 rfl (lv_at hl 0 rfl) ?_
  refine va_get (D := D) (ci := 10) (v := .int M_in) (C := RX10) (T := TX10) (N := 23) hx hb hts inX10 hown hK hP 0 rfl rfl 7 (by decide) fl_119 (fun _ h9 => h9) rfl dX10_waysOf_2 ?_
  refine lv_iconst (v := (-1 : Int32)) hx hb dX10_waysOf_5 (by decide) ?_
  refine lv_ixor hx hb dX10_waysOf_6 ?_
  refine lv_iand hx hb dX10_waysOf_7 ?_
  refine lv_if_ne (tgt := 15) hx hb dX10_waysOf_8 (by decide) (fun c_1 => ?_) (fun c_1 => ?_)
  · replace h := if_n c_1 h
    refine lv_lconst (v := (0 : Int64)) hx hb dX10_waysOf_15 (by decide) ?_
    refine lv_lstore_n (lv' := [(3, .long (0 : Int64)), (0, .ref aM), (1, .int p1), (2, .int p2)]) hx hb dX10_waysOf_16 rfl hl (by decide) rfl (fun ls hl => ?_)
    refine lv_aload_n hx hb dX10_waysOf_17 rfl (lv_at hl 1 rfl) ?_
    refine lv_lconst (v := (1 : Int64)) hx hb dX10_waysOf_18 (by decide) ?_
    refine va_put (D := D) (ci := 10) (v := .long (1 : Int64)) (ty := .long) (C := RX10) (T := TX10) (N := 23) hx hb hts inX10 tyX10 tyX10_ok nmX10 hown hK hP hD hS 0 rfl rfl 22 (by decide) fl_165 (fun _ h9 => h9) rfl (by decide +kernel) rfl rfl (Nat.le_of_ble_eq_true rfl) dX10_waysOf_19 (fun H locs hP hD hS => ?_)
    have hP : va_P D vwCl [(aM, .inr (10, [.ref aM_text, .int M_size, .int M_many, .ref aM_slips, .ref aM_lates, .ref aM_copies, .int M_little, .int M_in, .int M_streak, .int M_lot, .int M_undos, .ref aM_before, .ref aM_images, .ref aM_kept, .long M_trace, .int M_at, .int M_begin, .int M_kind, .long M_value, .int M_readMany, .int M_readLittle, .ref aM_read, .long (1 : Int64)])), (aM_slips, .inl (cI, 6, .inl M_slips)), (aM_lates, .inl (cI, 6, .inl M_lates)), (aM_copies, .inl (cI, 6, .inl M_copies))] H := hP
    have hD : va_D A [(aM, .inr (10, [.ref aM_text, .int M_size, .int M_many, .ref aM_slips, .ref aM_lates, .ref aM_copies, .int M_little, .int M_in, .int M_streak, .int M_lot, .int M_undos, .ref aM_before, .ref aM_images, .ref aM_kept, .long M_trace, .int M_at, .int M_begin, .int M_kind, .long M_value, .int M_readMany, .int M_readLittle, .ref aM_read, .long (1 : Int64)])), (aM_slips, .inl (cI, 6, .inl M_slips)), (aM_lates, .inl (cI, 6, .inl M_lates)), (aM_copies, .inl (cI, 6, .inl M_copies))] := hD
    refine lv_iconst (v := (0 : Int32)) hx hb dX10_waysOf_22 (by decide) ?_
    refine lv_istore (lv' := [(5, .int (0 : Int32)), (3, .long (0 : Int64)), (0, .ref aM), (1, .int p1), (2, .int p2)]) hx hb dX10_waysOf_23 hl (by decide) rfl (fun ls hl => ?_)
    exact L25 300 (1 : Int64) p1 p2 (0 : Int64) (0 : Int32) _ _ hP hD hS ls (lv_sub hl [2, 3, 4, 1, 0] rfl) h
  · replace h := if_p c_1 h
    refine lv_lconst (v := (1 : Int64)) hx hb dX10_waysOf_11 (by decide) ?_
    refine lv_goto (tgt := 16) hx hb dX10_waysOf_12 (by decide) ?_
    refine lv_lstore_n (lv' := [(3, .long (1 : Int64)), (0, .ref aM), (1, .int p1), (2, .int p2)]) hx hb dX10_waysOf_16 rfl hl (by decide) rfl (fun ls hl => ?_)
    refine lv_aload_n hx hb dX10_waysOf_17 rfl (lv_at hl 1 rfl) ?_
    refine lv_lconst (v := (1 : Int64)) hx hb dX10_waysOf_18 (by decide) ?_
    refine va_put (D := D) (ci := 10) (v := .long (1 : Int64)) (ty := .long) (C := RX10) (T := TX10) (N := 23) hx hb hts inX10 tyX10 tyX10_ok nmX10 hown hK hP hD hS 0 rfl rfl 22 (by decide) fl_165 (fun _ h9 => h9) rfl (by decide +kernel) rfl rfl (Nat.le_of_ble_eq_true rfl) dX10_waysOf_19 (fun H locs hP hD hS => ?_)
    have hP : va_P D vwCl [(aM, .inr (10, [.ref aM_text, .int M_size, .int M_many, .ref aM_slips, .ref aM_lates, .ref aM_copies, .int M_little, .int M_in, .int M_streak, .int M_lot, .int M_undos, .ref aM_before, .ref aM_images, .ref aM_kept, .long M_trace, .int M_at, .int M_begin, .int M_kind, .long M_value, .int M_readMany, .int M_readLittle, .ref aM_read, .long (1 : Int64)])), (aM_slips, .inl (cI, 6, .inl M_slips)), (aM_lates, .inl (cI, 6, .inl M_lates)), (aM_copies, .inl (cI, 6, .inl M_copies))] H := hP
    have hD : va_D A [(aM, .inr (10, [.ref aM_text, .int M_size, .int M_many, .ref aM_slips, .ref aM_lates, .ref aM_copies, .int M_little, .int M_in, .int M_streak, .int M_lot, .int M_undos, .ref aM_before, .ref aM_images, .ref aM_kept, .long M_trace, .int M_at, .int M_begin, .int M_kind, .long M_value, .int M_readMany, .int M_readLittle, .ref aM_read, .long (1 : Int64)])), (aM_slips, .inl (cI, 6, .inl M_slips)), (aM_lates, .inl (cI, 6, .inl M_lates)), (aM_copies, .inl (cI, 6, .inl M_copies))] := hD
    refine lv_iconst (v := (0 : Int32)) hx hb dX10_waysOf_22 (by decide) ?_
    refine lv_istore (lv' := [(5, .int (0 : Int32)), (3, .long (1 : Int64)), (0, .ref aM), (1, .int p1), (2, .int p2)]) hx hb dX10_waysOf_23 hl (by decide) rfl (fun ls hl => ?_)
    exact L25 300 (1 : Int64) p1 p2 (1 : Int64) (0 : Int32) _ _ hP hD hS ls (lv_sub hl [2, 3, 4, 1, 0] rfl) h

def f_X10_isPart (p0 : Int32) : Int32 := (f_X10_within p0.toInt64 (0 : Int64) (1 : Int64))
set_option maxHeartbeats 8000000 in
set_option maxRecDepth 100000 in
theorem c_X10_isPart (l : Launch) (D : va_G) (cI cJ cZ cO : ClassId)   (p0 : Int32)  (y0 : Int32) (h : f_X10_isPart p0 = y0) : Met l yX10_isPart wsX10_isPart ({ frames := 1, cells := 0, slots := 0, locals := 25 } : Room) (va_Pc [.int p0] (fun U => va_P D vwCl [] U.heap ∧ KK D cI cJ cZ cO U)) (vp_Si (fun r => r = y0 ∧ zo r)) 0 0 (fun _ => False) := by
  refine Met.ofW (cc := cX10_isPart) (maxL := 1) (ret := (some .boolean)) (by decide) rfl ?_
  intro p e s m args below meth c s₁ B hml hv
  obtain ⟨rfl, hP, hKK⟩ := hv
  have hx := B.exec
  have hb := B.bytes
  have hr := B.returns
  have hts := atoms_spec (ws := wsX10_isPart) B.pre
  have hown : s.vm.findClass RX10 = some m.cls := findClass_of_methodNamed B.named
  have hlocks := B.notSynchronized
  have hK := hKK.1
  have hl := lv_entry ([.int p0]) (n := 1) (Nat.le_of_ble_eq_true rfl)
  rw [lg_entry_eq]
  generalize (lg_sl ([.int p0]) ++ List.replicate (1 - (lg_sl ([.int p0])).length) Slot.unset).toArray = ls at hl ⊢
  have hl : lv_has ls 1 [(0, .int p0)] := hl
  unfold f_X10_isPart at h
  refine lv_iload_n hx hb dX10_isPart_0 rfl (lv_at hl 0 rfl) ?_
  refine lv_i2l (v := p0.toInt64) hx hb dX10_isPart_1 rfl ?_
  refine lv_lconst (v := (0 : Int64)) hx hb dX10_isPart_2 (by decide) ?_
  refine lv_lconst (v := (1 : Int64)) hx hb dX10_isPart_3 (by decide) ?_
  have hPc : va_P D vwCl [] s.heap := hP.sub [] rfl
  refine vp_callSi (va_Run.run (va_runS (As := [.long p0.toInt64, .long (0 : Int64), .long (1 : Int64)]) (rest := []) ⟨hx, hb, hml, hown, hts⟩ (c_X10_within l D cI cJ cZ cO p0.toInt64 (0 : Int64) (1 : Int64) _ rfl) (cwS 3 hts gX10_isPart_X10_within rfl rfl rfl (by decide +kernel) ⟨Nat.le_of_ble_eq_true rfl, Nat.le_of_ble_eq_true rfl⟩) ⟨fb_p, fun U hU hW => ⟨rfl, by rw [hU]; exact hPc, KK.warm hW hKK⟩⟩ rfl rfl hl.1 rfl (lv_room (Nat.le_of_ble_eq_true rfl)) dX10_isPart_4 ⟨Nat.le_of_ble_eq_true rfl, Nat.le_of_ble_eq_true rfl⟩)) (fun r hr => ?_)
  obtain ⟨hr, hz1⟩ := hr
  replace hr := hr.symm
  subst hr
  exact pr_z hx hb hr hlocks dX10_isPart_7 h hz1

def f_X10_falls (M_many : Int32) (M_in : Int32) (M_streak : Int32) (M_below : Int64) (M_slips : Nat → Int32) (M_lates : Nat → Int32) (M_copies : Nat → Int32) (p1 : Int32) (p2 : Int32) (p3 : Int32) : Option (Int64 × Int64) := (if (f_X10_isOrder p1) = 0 then some ((-1 : Int64), M_below) else (if (f_X10_isSet M_many p2) = 0 then some ((-1 : Int64), M_below) else (if (f_X10_isPart p3) = 0 then some ((-1 : Int64), M_below) else (Option.bind (f_X10_waysOf M_many M_in M_streak M_below M_slips M_lates M_copies p1 p2) (fun y7 => (Option.bind (f_X10_part y7.1 y7.2 p3) (fun y8 => some (y8, y7.2))))))))
set_option maxHeartbeats 8000000 in
set_option maxRecDepth 100000 in
theorem c_X10_falls (l : Launch) (D : va_G) (cI cJ cZ cO : ClassId) (aM : Nat) (aM_slips : Nat) (aM_lates : Nat) (aM_copies : Nat) (aM_text : Nat) (aM_before : Nat) (aM_images : Nat) (aM_kept : Nat) (aM_read : Nat) (M_size : Int32) (M_many : Int32) (M_little : Int32) (M_in : Int32) (M_streak : Int32) (M_lot : Int32) (M_undos : Int32) (M_trace : Int64) (M_at : Int32) (M_begin : Int32) (M_kind : Int32) (M_value : Int64) (M_readMany : Int32) (M_readLittle : Int32) (M_below : Int64) (M_slips : Nat → Int32) (M_lates : Nat → Int32) (M_copies : Nat → Int32) (sz : Nat) (p1 : Int32) (p2 : Int32) (p3 : Int32)  (y0 : Int64 × Int64) (h : f_X10_falls M_many M_in M_streak M_below M_slips M_lates M_copies p1 p2 p3 = some y0) : Met l yX10_falls wsX10_falls ({ frames := 4, cells := 0, slots := 0, locals := 93 } : Room) (va_Pc [.ref aM, .int p1, .int p2, .int p3] (fun U => U.heap.size = sz ∧ va_P D vwCl [(aM, .inr (10, [.ref aM_text, .int M_size, .int M_many, .ref aM_slips, .ref aM_lates, .ref aM_copies, .int M_little, .int M_in, .int M_streak, .int M_lot, .int M_undos, .ref aM_before, .ref aM_images, .ref aM_kept, .long M_trace, .int M_at, .int M_begin, .int M_kind, .long M_value, .int M_readMany, .int M_readLittle, .ref aM_read, .long M_below])), (aM_slips, .inl (cI, 6, .inl M_slips)), (aM_lates, .inl (cI, 6, .inl M_lates)), (aM_copies, .inl (cI, 6, .inl M_copies))] U.heap ∧ KK D cI cJ cZ cO U ∧ va_D (fun _ => True) [(aM, .inr (10, [.ref aM_text, .int M_size, .int M_many, .ref aM_slips, .ref aM_lates, .ref aM_copies, .int M_little, .int M_in, .int M_streak, .int M_lot, .int M_undos, .ref aM_before, .ref aM_images, .ref aM_kept, .long M_trace, .int M_at, .int M_begin, .int M_kind, .long M_value, .int M_readMany, .int M_readLittle, .ref aM_read, .long M_below])), (aM_slips, .inl (cI, 6, .inl M_slips)), (aM_lates, .inl (cI, 6, .inl M_lates)), (aM_copies, .inl (cI, 6, .inl M_copies))])) (va_Ql (fun (r : Int64) (_ : Unit) => r = y0.1) (fun (_ : Unit) t => va_P D vwCl [(aM, .inr (10, [.ref aM_text, .int M_size, .int M_many, .ref aM_slips, .ref aM_lates, .ref aM_copies, .int M_little, .int M_in, .int M_streak, .int M_lot, .int M_undos, .ref aM_before, .ref aM_images, .ref aM_kept, .long M_trace, .int M_at, .int M_begin, .int M_kind, .long M_value, .int M_readMany, .int M_readLittle, .ref aM_read, .long y0.2])), (aM_slips, .inl (cI, 6, .inl M_slips)), (aM_lates, .inl (cI, 6, .inl M_lates)), (aM_copies, .inl (cI, 6, .inl M_copies))] t.heap ∧ va_D (va_A [(aM, .inr (10, [.ref aM_text, .int M_size, .int M_many, .ref aM_slips, .ref aM_lates, .ref aM_copies, .int M_little, .int M_in, .int M_streak, .int M_lot, .int M_undos, .ref aM_before, .ref aM_images, .ref aM_kept, .long M_trace, .int M_at, .int M_begin, .int M_kind, .long M_value, .int M_readMany, .int M_readLittle, .ref aM_read, .long M_below])), (aM_slips, .inl (cI, 6, .inl M_slips)), (aM_lates, .inl (cI, 6, .inl M_lates)), (aM_copies, .inl (cI, 6, .inl M_copies))] sz) [(aM, .inr (10, [.ref aM_text, .int M_size, .int M_many, .ref aM_slips, .ref aM_lates, .ref aM_copies, .int M_little, .int M_in, .int M_streak, .int M_lot, .int M_undos, .ref aM_before, .ref aM_images, .ref aM_kept, .long M_trace, .int M_at, .int M_begin, .int M_kind, .long M_value, .int M_readMany, .int M_readLittle, .ref aM_read, .long y0.2])), (aM_slips, .inl (cI, 6, .inl M_slips)), (aM_lates, .inl (cI, 6, .inl M_lates)), (aM_copies, .inl (cI, 6, .inl M_copies))]) (va_A [(aM, .inr (10, [.ref aM_text, .int M_size, .int M_many, .ref aM_slips, .ref aM_lates, .ref aM_copies, .int M_little, .int M_in, .int M_streak, .int M_lot, .int M_undos, .ref aM_before, .ref aM_images, .ref aM_kept, .long M_trace, .int M_at, .int M_begin, .int M_kind, .long M_value, .int M_readMany, .int M_readLittle, .ref aM_read, .long M_below])), (aM_slips, .inl (cI, 6, .inl M_slips)), (aM_lates, .inl (cI, 6, .inl M_lates)), (aM_copies, .inl (cI, 6, .inl M_copies))] sz)) 0 0 (va_A [(aM, .inr (10, [.ref aM_text, .int M_size, .int M_many, .ref aM_slips, .ref aM_lates, .ref aM_copies, .int M_little, .int M_in, .int M_streak, .int M_lot, .int M_undos, .ref aM_before, .ref aM_images, .ref aM_kept, .long M_trace, .int M_at, .int M_begin, .int M_kind, .long M_value, .int M_readMany, .int M_readLittle, .ref aM_read, .long M_below])), (aM_slips, .inl (cI, 6, .inl M_slips)), (aM_lates, .inl (cI, 6, .inl M_lates)), (aM_copies, .inl (cI, 6, .inl M_copies))] sz) := by
  refine Met.ofW (cc := cX10_falls) (maxL := 6) (ret := (some .long)) (by decide) rfl ?_
  intro p e s m args below meth c s₁ B hml hv
  obtain ⟨rfl, hsz, hP, hKK, hD0⟩ := hv
  have hx := B.exec
  have hb := B.bytes
  have hr := B.returns
  have hts := atoms_spec (ws := wsX10_falls) B.pre
  have hown : s.vm.findClass RX10 = some m.cls := findClass_of_methodNamed B.named
  have hlocks := B.notSynchronized
  have hK := hKK.1
  have fl_165 := hts (.fieldLink RX10 165 "SimonSaysModel" "below" "J") (by decide +kernel)
  have cst_79 := hts (.constantLong RX10 79 (-1)) (by decide +kernel)
  have inX10 : ∀ w ∈ wsX100, w ∈ wsX10_falls := by decide +kernel
  subst hsz
  have hD := hD0.self (sz := s.heap.size)
  generalize hAe : va_A [(aM, .inr (10, [.ref aM_text, .int M_size, .int M_many, .ref aM_slips, .ref aM_lates, .ref aM_copies, .int M_little, .int M_in, .int M_streak, .int M_lot, .int M_undos, .ref aM_before, .ref aM_images, .ref aM_kept, .long M_trace, .int M_at, .int M_begin, .int M_kind, .long M_value, .int M_readMany, .int M_readLittle, .ref aM_read, .long M_below])), (aM_slips, .inl (cI, 6, .inl M_slips)), (aM_lates, .inl (cI, 6, .inl M_lates)), (aM_copies, .inl (cI, 6, .inl M_copies))] s.heap.size = A at hD ⊢
  have hA : ∀ q : Nat, s.heap.size ≤ q → A q := fun q h => by rw [← hAe]; exact Or.inr h
  have hS : va_S A s.heap s.heap [] := va_S.rf
  have hl := lv_entry ([.ref aM, .int p1, .int p2, .int p3]) (n := 6) (Nat.le_of_ble_eq_true rfl)
  rw [lg_entry_eq]
  generalize (lg_sl ([.ref aM, .int p1, .int p2, .int p3]) ++ List.replicate (6 - (lg_sl ([.ref aM, .int p1, .int p2, .int p3])).length) Slot.unset).toArray = ls at hl ⊢
  have hl : lv_has ls 6 [(0, .ref aM), (1, .int p1), (2, .int p2), (3, .int p3)] := hl
  unfold f_X10_falls at h
  refine lv_iload_n hx hb dX10_falls_0 rfl (lv_at hl 1 rfl) ?_
  have hPc : va_P D vwCl [] s.heap := hP.sub [] rfl
  refine vp_callSi (va_Run.run (va_runS (As := [.int p1]) (rest := []) ⟨hx, hb, hml, hown, hts⟩ (c_X10_isOrder l D cI cJ cZ cO p1 _ rfl) (cwS 1 hts gX10_falls_X10_isOrder rfl rfl rfl (by decide +kernel) ⟨Nat.le_of_ble_eq_true rfl, Nat.le_of_ble_eq_true rfl⟩) ⟨fb_p, fun U hU hW => ⟨rfl, by rw [hU]; exact hPc, KK.warm hW hKK⟩⟩ rfl rfl hl.1 rfl (lv_room (Nat.le_of_ble_eq_true rfl)) dX10_falls_1 ⟨Nat.le_of_ble_eq_true rfl, Nat.le_of_ble_eq_true rfl⟩)) (fun r hr => ?_)
  obtain ⟨hr, hz1⟩ := hr
  replace hr := hr.symm
  subst hr
  refine lv_if_eq (tgt := 22) hx hb dX10_falls_4 (by decide) (fun c_2 => ?_) (fun c_2 => ?_)
  · replace h := if_p c_2 h
    refine lv_ldc2 (v := (-1 : Int64)) hx hb hown cst_79 dX10_falls_22 ?_
    have hy := Option.some.inj h
    subst hy
    exact W.lret (v := (-1 : Int64)) hx hb hr (fun t ht hW => ⟨⟨(-1 : Int64), (), rfl, rfl, by rw [ht]; exact hP, hD⟩, hS.F ht⟩) hS.2.2 dX10_falls_25
  · replace h := if_n c_2 h
    refine lv_aload_n hx hb dX10_falls_7 rfl (lv_at hl 0 rfl) ?_
    refine lv_iload_n hx hb dX10_falls_8 rfl (lv_at hl 2 rfl) ?_
    have hPc : va_P D vwCl [(aM, .inr (10, [.ref aM_text, .int M_size, .int M_many, .ref aM_slips, .ref aM_lates, .ref aM_copies, .int M_little, .int M_in, .int M_streak, .int M_lot, .int M_undos, .ref aM_before, .ref aM_images, .ref aM_kept, .long M_trace, .int M_at, .int M_begin, .int M_kind, .long M_value, .int M_readMany, .int M_readLittle, .ref aM_read, .long M_below]))] s.heap := hP.sub [0] rfl
    refine vp_callSi (va_Run.run (va_runV (As := [.int p2]) (rest := []) ⟨hx, hb, hml, hown, hts⟩ (c_X10_isSet l D cI cJ cZ cO aM aM_text aM_slips aM_lates aM_copies aM_before aM_images aM_kept aM_read M_size M_many M_little M_in M_streak M_lot M_undos M_trace M_at M_begin M_kind M_value M_readMany M_readLittle M_below p2 _ rfl) (cwV 1 hts gX10_falls_X10_isSet rfl rfl rfl (by decide +kernel) ⟨Nat.le_of_ble_eq_true rfl, Nat.le_of_ble_eq_true rfl⟩) ⟨fb_p, va_recv hK hP (ci := 10) (q0 := 0) rfl rfl, fun U hU hW => ⟨rfl, by rw [hU]; exact hPc, KK.warm hW hKK⟩⟩ rfl rfl hl.1 rfl (lv_room (Nat.le_of_ble_eq_true rfl)) dX10_falls_9 ⟨Nat.le_of_ble_eq_true rfl, Nat.le_of_ble_eq_true rfl⟩)) (fun r hr => ?_)
    obtain ⟨hr, hz3⟩ := hr
    replace hr := hr.symm
    subst hr
    refine lv_if_eq (tgt := 22) hx hb dX10_falls_12 (by decide) (fun c_4 => ?_) (fun c_4 => ?_)
    · replace h := if_p c_4 h
      refine lv_ldc2 (v := (-1 : Int64)) hx hb hown cst_79 dX10_falls_22 ?_
      have hy := Option.some.inj h
      subst hy
      exact W.lret (v := (-1 : Int64)) hx hb hr (fun t ht hW => ⟨⟨(-1 : Int64), (), rfl, rfl, by rw [ht]; exact hP, hD⟩, hS.F ht⟩) hS.2.2 dX10_falls_25
    · replace h := if_n c_4 h
      refine lv_iload_n hx hb dX10_falls_15 rfl (lv_at hl 3 rfl) ?_
      have hPc : va_P D vwCl [] s.heap := hP.sub [] rfl
      refine vp_callSi (va_Run.run (va_runS (As := [.int p3]) (rest := []) ⟨hx, hb, hml, hown, hts⟩ (c_X10_isPart l D cI cJ cZ cO p3 _ rfl) (cwS 1 hts gX10_falls_X10_isPart rfl rfl rfl (by decide +kernel) ⟨Nat.le_of_ble_eq_true rfl, Nat.le_of_ble_eq_true rfl⟩) ⟨fb_p, fun U hU hW => ⟨rfl, by rw [hU]; exact hPc, KK.warm hW hKK⟩⟩ rfl rfl hl.1 rfl (lv_room (Nat.le_of_ble_eq_true rfl)) dX10_falls_16 ⟨Nat.le_of_ble_eq_true rfl, Nat.le_of_ble_eq_true rfl⟩)) (fun r hr => ?_)
      obtain ⟨hr, hz5⟩ := hr
      replace hr := hr.symm
      subst hr
      refine lv_if_ne (tgt := 26) hx hb dX10_falls_19 (by decide) (fun c_6 => ?_) (fun c_6 => ?_)
      · replace h := if_n c_6 h
        refine lv_aload_n hx hb dX10_falls_26 rfl (lv_at hl 0 rfl) ?_
        refine lv_iload_n hx hb dX10_falls_27 rfl (lv_at hl 1 rfl) ?_
        refine lv_iload_n hx hb dX10_falls_28 rfl (lv_at hl 2 rfl) ?_
        obtain ⟨y7, qy7, h⟩ := ob_some h
        have hPc : va_P D vwCl [(aM, .inr (10, [.ref aM_text, .int M_size, .int M_many, .ref aM_slips, .ref aM_lates, .ref aM_copies, .int M_little, .int M_in, .int M_streak, .int M_lot, .int M_undos, .ref aM_before, .ref aM_images, .ref aM_kept, .long M_trace, .int M_at, .int M_begin, .int M_kind, .long M_value, .int M_readMany, .int M_readLittle, .ref aM_read, .long M_below])), (aM_slips, .inl (cI, 6, .inl M_slips)), (aM_lates, .inl (cI, 6, .inl M_lates)), (aM_copies, .inl (cI, 6, .inl M_copies))] s.heap := hP.sub [0, 1, 2, 3] rfl
        have hDc : va_D A [(aM, .inr (10, [.ref aM_text, .int M_size, .int M_many, .ref aM_slips, .ref aM_lates, .ref aM_copies, .int M_little, .int M_in, .int M_streak, .int M_lot, .int M_undos, .ref aM_before, .ref aM_images, .ref aM_kept, .long M_trace, .int M_at, .int M_begin, .int M_kind, .long M_value, .int M_readMany, .int M_readLittle, .ref aM_read, .long M_below])), (aM_slips, .inl (cI, 6, .inl M_slips)), (aM_lates, .inl (cI, 6, .inl M_lates)), (aM_copies, .inl (cI, 6, .inl M_copies))] := hD.sub [0, 1, 2, 3] (by decide) rfl
        have hFc := va_free (wc := [(aM, .inr (10, [.ref aM_text, .int M_size, .int M_many, .ref aM_slips, .ref aM_lates, .ref aM_copies, .int M_little, .int M_in, .int M_streak, .int M_lot, .int M_undos, .ref aM_before, .ref aM_images, .ref aM_kept, .long M_trace, .int M_at, .int M_begin, .int M_kind, .long M_value, .int M_readMany, .int M_readLittle, .ref aM_read, .long M_below])), (aM_slips, .inl (cI, 6, .inl M_slips)), (aM_lates, .inl (cI, 6, .inl M_lates)), (aM_copies, .inl (cI, 6, .inl M_copies))]) hD hS hA [0, 1, 2, 3] rfl
        refine va_calll (va_runV (As := [.int p1, .int p2]) (rest := []) ⟨hx, hb, hml, hown, hts⟩ (c_X10_waysOf l D cI cJ cZ cO aM aM_slips aM_lates aM_copies aM_text aM_before aM_images aM_kept aM_read M_size M_many M_little M_in M_streak M_lot M_undos M_trace M_at M_begin M_kind M_value M_readMany M_readLittle M_below M_slips M_lates M_copies s.heap.size p1 p2 y7 qy7) (cwV 2 hts gX10_falls_X10_waysOf rfl rfl rfl (by decide +kernel) ⟨Nat.le_of_ble_eq_true rfl, Nat.le_of_ble_eq_true rfl⟩) ⟨fb_i, va_recv hK hP (ci := 10) (q0 := 0) rfl rfl, fun U hU hW => ⟨rfl, by rw [hU], by rw [hU]; exact hPc, KK.warm hW hKK, hDc.weaken (fun _ _ _ _ => trivial)⟩⟩ rfl rfl hl.1 rfl (lv_room (Nat.le_of_ble_eq_true rfl)) dX10_falls_29 ⟨Nat.le_of_ble_eq_true rfl, Nat.le_of_ble_eq_true rfl⟩) hS (fun q _ h => hFc q h) hFc (fun r u t H1 locs ht hvm hw hB hz1 hk1 hS => ?_)
        obtain ⟨hP1, hD1⟩ := hB
        rw [ht] at hP1
        replace hw := hw.symm
        subst hw
        obtain ⟨hP, hD⟩ := va_join (wr := []) (w1 := [(aM, .inr (10, [.ref aM_text, .int M_size, .int M_many, .ref aM_slips, .ref aM_lates, .ref aM_copies, .int M_little, .int M_in, .int M_streak, .int M_lot, .int M_undos, .ref aM_before, .ref aM_images, .ref aM_kept, .long M_trace, .int M_at, .int M_begin, .int M_kind, .long M_value, .int M_readMany, .int M_readLittle, .ref aM_read, .long y7.2])), (aM_slips, .inl (cI, 6, .inl M_slips)), (aM_lates, .inl (cI, 6, .inl M_lates)), (aM_copies, .inl (cI, 6, .inl M_copies))]) hP hD [0, 1, 2, 3] [] rfl rfl (by decide) (by decide) hk1 hFc hP1 hD1
        generalize H1 = H at hP hS ⊢
        have hP : va_P D vwCl [(aM, .inr (10, [.ref aM_text, .int M_size, .int M_many, .ref aM_slips, .ref aM_lates, .ref aM_copies, .int M_little, .int M_in, .int M_streak, .int M_lot, .int M_undos, .ref aM_before, .ref aM_images, .ref aM_kept, .long M_trace, .int M_at, .int M_begin, .int M_kind, .long M_value, .int M_readMany, .int M_readLittle, .ref aM_read, .long y7.2])), (aM_slips, .inl (cI, 6, .inl M_slips)), (aM_lates, .inl (cI, 6, .inl M_lates)), (aM_copies, .inl (cI, 6, .inl M_copies))] H := hP.sub [0, 1, 2, 3] rfl
        have hD : va_D A [(aM, .inr (10, [.ref aM_text, .int M_size, .int M_many, .ref aM_slips, .ref aM_lates, .ref aM_copies, .int M_little, .int M_in, .int M_streak, .int M_lot, .int M_undos, .ref aM_before, .ref aM_images, .ref aM_kept, .long M_trace, .int M_at, .int M_begin, .int M_kind, .long M_value, .int M_readMany, .int M_readLittle, .ref aM_read, .long y7.2])), (aM_slips, .inl (cI, 6, .inl M_slips)), (aM_lates, .inl (cI, 6, .inl M_lates)), (aM_copies, .inl (cI, 6, .inl M_copies))] := hD.sub [0, 1, 2, 3] (by decide) rfl
        refine lv_lstore (lv' := [(4, .long y7.1), (0, .ref aM), (1, .int p1), (2, .int p2), (3, .int p3)]) hx hb dX10_falls_32 hl (by decide) rfl (fun ls hl => ?_)
        refine lv_lload hx hb dX10_falls_34 (lv_at hl 0 rfl) ?_
        refine lv_aload_n hx hb dX10_falls_36 rfl (lv_at hl 1 rfl) ?_
        refine va_get (D := D) (ci := 10) (v := .long y7.2) (C := RX10) (T := TX10) (N := 23) hx hb hts inX10 hown hK hP 0 rfl rfl 22 (by decide) fl_165 (fun _ h9 => h9) rfl dX10_falls_37 ?_
        refine lv_iload_n hx hb dX10_falls_40 rfl (lv_at hl 4 rfl) ?_
        obtain ⟨y8, qy8, h⟩ := ob_some h
        have hPc : va_P D vwCl [] H := hP.sub [] rfl
        refine vp_callSl (va_Run.run (va_runS (As := [.long y7.1, .long y7.2, .int p3]) (rest := []) ⟨hx, hb, hml, hown, hts⟩ (c_X10_part l D cI cJ cZ cO y7.1 y7.2 p3 y8 qy8) (cwS 3 hts gX10_falls_X10_part rfl rfl rfl (by decide +kernel) ⟨Nat.le_of_ble_eq_true rfl, Nat.le_of_ble_eq_true rfl⟩) ⟨fb_p, fun U hU hW => ⟨rfl, by rw [hU]; exact hPc, KK.warm hW hKK⟩⟩ rfl rfl hl.1 rfl (lv_room (Nat.le_of_ble_eq_true rfl)) dX10_falls_41 ⟨Nat.le_of_ble_eq_true rfl, Nat.le_of_ble_eq_true rfl⟩)) (fun r hr => ?_)
        replace hr := hr.symm
        subst hr
        have hy := Option.some.inj h
        subst hy
        exact W.lret (v := y8) hx hb hr (fun t ht hW => ⟨⟨y8, (), rfl, rfl, by rw [ht]; exact hP, hD⟩, hS.F ht⟩) hS.2.2 dX10_falls_44
      · replace h := if_p c_6 h
        refine lv_ldc2 (v := (-1 : Int64)) hx hb hown cst_79 dX10_falls_22 ?_
        have hy := Option.some.inj h
        subst hy
        exact W.lret (v := (-1 : Int64)) hx hb hr (fun t ht hW => ⟨⟨(-1 : Int64), (), rfl, rfl, by rw [ht]; exact hP, hD⟩, hS.F ht⟩) hS.2.2 dX10_falls_25

def f_X10_many_L36 (M_many : Int32) (M_in : Int32) (M_streak : Int32) (M_slips : Nat → Int32) (M_lates : Nat → Int32) (M_copies : Nat → Int32) : Nat → Int64 → Int32 → Int32 → Int32 → Int64 → Int32 → Option (Int64 × Int64)
  | 0, _, _, _, _, _, _ => none
  | n + 1, M_below, x1, x2, x3, x4, x6 => (if ((1 : Int32) <<< (M_many &&& 31)) ≤ x6 then (Option.bind (f_X10_waysOf M_many M_in M_streak M_below M_slips M_lates M_copies x1 (0 : Int32)) (fun y8 => (Option.bind (f_X10_part x4 y8.2 x3) (fun y9 => some (y9, y8.2))))) else (Option.bind (f_X10_bits x6) (fun y10 => (if y10 = x2 then (Option.bind (f_X10_waysOf M_many M_in M_streak M_below M_slips M_lates M_copies x1 x6) (fun y12 => f_X10_many_L36 M_many M_in M_streak M_slips M_lates M_copies n y12.2 x1 x2 x3 (x4 + y12.1) (x6 + (1 : Int32)))) else f_X10_many_L36 M_many M_in M_streak M_slips M_lates M_copies n M_below x1 x2 x3 (x4 + (0 : Int64)) (x6 + (1 : Int32))))))
def f_X10_many (M_many : Int32) (M_in : Int32) (M_streak : Int32) (M_below : Int64) (M_slips : Nat → Int32) (M_lates : Nat → Int32) (M_copies : Nat → Int32) (p1 : Int32) (p2 : Int32) (p3 : Int32) : Option (Int64 × Int64) := (if (f_X10_isOrder p1) = 0 then some ((-1 : Int64), M_below) else (if (f_X10_within p2.toInt64 (0 : Int64) (6 : Int64)) = 0 then some ((-1 : Int64), M_below) else (if (f_X10_isPart p3) = 0 then some ((-1 : Int64), M_below) else f_X10_many_L36 M_many M_in M_streak M_slips M_lates M_copies 300 M_below p1 p2 p3 (0 : Int64) (0 : Int32))))
set_option maxHeartbeats 8000000 in
set_option maxRecDepth 100000 in
theorem c_X10_many (l : Launch) (D : va_G) (cI cJ cZ cO : ClassId) (aM : Nat) (aM_slips : Nat) (aM_lates : Nat) (aM_copies : Nat) (aM_text : Nat) (aM_before : Nat) (aM_images : Nat) (aM_kept : Nat) (aM_read : Nat) (M_size : Int32) (M_many : Int32) (M_little : Int32) (M_in : Int32) (M_streak : Int32) (M_lot : Int32) (M_undos : Int32) (M_trace : Int64) (M_at : Int32) (M_begin : Int32) (M_kind : Int32) (M_value : Int64) (M_readMany : Int32) (M_readLittle : Int32) (M_below : Int64) (M_slips : Nat → Int32) (M_lates : Nat → Int32) (M_copies : Nat → Int32) (sz : Nat) (p1 : Int32) (p2 : Int32) (p3 : Int32)  (y0 : Int64 × Int64) (h : f_X10_many M_many M_in M_streak M_below M_slips M_lates M_copies p1 p2 p3 = some y0) : Met l yX10_many wsX10_many ({ frames := 4, cells := 0, slots := 0, locals := 93 } : Room) (va_Pc [.ref aM, .int p1, .int p2, .int p3] (fun U => U.heap.size = sz ∧ va_P D vwCl [(aM, .inr (10, [.ref aM_text, .int M_size, .int M_many, .ref aM_slips, .ref aM_lates, .ref aM_copies, .int M_little, .int M_in, .int M_streak, .int M_lot, .int M_undos, .ref aM_before, .ref aM_images, .ref aM_kept, .long M_trace, .int M_at, .int M_begin, .int M_kind, .long M_value, .int M_readMany, .int M_readLittle, .ref aM_read, .long M_below])), (aM_slips, .inl (cI, 6, .inl M_slips)), (aM_lates, .inl (cI, 6, .inl M_lates)), (aM_copies, .inl (cI, 6, .inl M_copies))] U.heap ∧ KK D cI cJ cZ cO U ∧ va_D (fun _ => True) [(aM, .inr (10, [.ref aM_text, .int M_size, .int M_many, .ref aM_slips, .ref aM_lates, .ref aM_copies, .int M_little, .int M_in, .int M_streak, .int M_lot, .int M_undos, .ref aM_before, .ref aM_images, .ref aM_kept, .long M_trace, .int M_at, .int M_begin, .int M_kind, .long M_value, .int M_readMany, .int M_readLittle, .ref aM_read, .long M_below])), (aM_slips, .inl (cI, 6, .inl M_slips)), (aM_lates, .inl (cI, 6, .inl M_lates)), (aM_copies, .inl (cI, 6, .inl M_copies))])) (va_Ql (fun (r : Int64) (_ : Unit) => r = y0.1) (fun (_ : Unit) t => va_P D vwCl [(aM, .inr (10, [.ref aM_text, .int M_size, .int M_many, .ref aM_slips, .ref aM_lates, .ref aM_copies, .int M_little, .int M_in, .int M_streak, .int M_lot, .int M_undos, .ref aM_before, .ref aM_images, .ref aM_kept, .long M_trace, .int M_at, .int M_begin, .int M_kind, .long M_value, .int M_readMany, .int M_readLittle, .ref aM_read, .long y0.2])), (aM_slips, .inl (cI, 6, .inl M_slips)), (aM_lates, .inl (cI, 6, .inl M_lates)), (aM_copies, .inl (cI, 6, .inl M_copies))] t.heap ∧ va_D (va_A [(aM, .inr (10, [.ref aM_text, .int M_size, .int M_many, .ref aM_slips, .ref aM_lates, .ref aM_copies, .int M_little, .int M_in, .int M_streak, .int M_lot, .int M_undos, .ref aM_before, .ref aM_images, .ref aM_kept, .long M_trace, .int M_at, .int M_begin, .int M_kind, .long M_value, .int M_readMany, .int M_readLittle, .ref aM_read, .long M_below])), (aM_slips, .inl (cI, 6, .inl M_slips)), (aM_lates, .inl (cI, 6, .inl M_lates)), (aM_copies, .inl (cI, 6, .inl M_copies))] sz) [(aM, .inr (10, [.ref aM_text, .int M_size, .int M_many, .ref aM_slips, .ref aM_lates, .ref aM_copies, .int M_little, .int M_in, .int M_streak, .int M_lot, .int M_undos, .ref aM_before, .ref aM_images, .ref aM_kept, .long M_trace, .int M_at, .int M_begin, .int M_kind, .long M_value, .int M_readMany, .int M_readLittle, .ref aM_read, .long y0.2])), (aM_slips, .inl (cI, 6, .inl M_slips)), (aM_lates, .inl (cI, 6, .inl M_lates)), (aM_copies, .inl (cI, 6, .inl M_copies))]) (va_A [(aM, .inr (10, [.ref aM_text, .int M_size, .int M_many, .ref aM_slips, .ref aM_lates, .ref aM_copies, .int M_little, .int M_in, .int M_streak, .int M_lot, .int M_undos, .ref aM_before, .ref aM_images, .ref aM_kept, .long M_trace, .int M_at, .int M_begin, .int M_kind, .long M_value, .int M_readMany, .int M_readLittle, .ref aM_read, .long M_below])), (aM_slips, .inl (cI, 6, .inl M_slips)), (aM_lates, .inl (cI, 6, .inl M_lates)), (aM_copies, .inl (cI, 6, .inl M_copies))] sz)) 0 0 (va_A [(aM, .inr (10, [.ref aM_text, .int M_size, .int M_many, .ref aM_slips, .ref aM_lates, .ref aM_copies, .int M_little, .int M_in, .int M_streak, .int M_lot, .int M_undos, .ref aM_before, .ref aM_images, .ref aM_kept, .long M_trace, .int M_at, .int M_begin, .int M_kind, .long M_value, .int M_readMany, .int M_readLittle, .ref aM_read, .long M_below])), (aM_slips, .inl (cI, 6, .inl M_slips)), (aM_lates, .inl (cI, 6, .inl M_lates)), (aM_copies, .inl (cI, 6, .inl M_copies))] sz) := by
  refine Met.ofW (cc := cX10_many) (maxL := 8) (ret := (some .long)) (by decide) rfl ?_
  intro p e s m args below meth c s₁ B hml hv
  obtain ⟨rfl, hsz, hP, hKK, hD0⟩ := hv
  have hx := B.exec
  have hb := B.bytes
  have hr := B.returns
  have hts := atoms_spec (ws := wsX10_many) B.pre
  have hown : s.vm.findClass RX10 = some m.cls := findClass_of_methodNamed B.named
  have hlocks := B.notSynchronized
  have hK := hKK.1
  have fl_39 := hts (.fieldLink RX10 39 "SimonSaysModel" "many" "I") (by decide +kernel)
  have fl_165 := hts (.fieldLink RX10 165 "SimonSaysModel" "below" "J") (by decide +kernel)
  have cst_79 := hts (.constantLong RX10 79 (-1)) (by decide +kernel)
  have cst_182 := hts (.constantLong RX10 182 (6)) (by decide +kernel)
  have inX10 : ∀ w ∈ wsX100, w ∈ wsX10_many := by decide +kernel
  subst hsz
  have hD := hD0.self (sz := s.heap.size)
  generalize hAe : va_A [(aM, .inr (10, [.ref aM_text, .int M_size, .int M_many, .ref aM_slips, .ref aM_lates, .ref aM_copies, .int M_little, .int M_in, .int M_streak, .int M_lot, .int M_undos, .ref aM_before, .ref aM_images, .ref aM_kept, .long M_trace, .int M_at, .int M_begin, .int M_kind, .long M_value, .int M_readMany, .int M_readLittle, .ref aM_read, .long M_below])), (aM_slips, .inl (cI, 6, .inl M_slips)), (aM_lates, .inl (cI, 6, .inl M_lates)), (aM_copies, .inl (cI, 6, .inl M_copies))] s.heap.size = A at hD ⊢
  have hA : ∀ q : Nat, s.heap.size ≤ q → A q := fun q h => by rw [← hAe]; exact Or.inr h
  have hS : va_S A s.heap s.heap [] := va_S.rf
  have hl := lv_entry ([.ref aM, .int p1, .int p2, .int p3]) (n := 8) (Nat.le_of_ble_eq_true rfl)
  rw [lg_entry_eq]
  generalize (lg_sl ([.ref aM, .int p1, .int p2, .int p3]) ++ List.replicate (8 - (lg_sl ([.ref aM, .int p1, .int p2, .int p3])).length) Slot.unset).toArray = ls at hl ⊢
  have hl : lv_has ls 8 [(0, .ref aM), (1, .int p1), (2, .int p2), (3, .int p3)] := hl
  have L36 : ∀ (n : Nat), ∀ (M_below : Int64) (x1 : Int32) (x2 : Int32) (x3 : Int32) (x4 : Int64) (x6 : Int32), ∀ (H : Heap) (locs : List Loc), va_P D vwCl [(aM, .inr (10, [.ref aM_text, .int M_size, .int M_many, .ref aM_slips, .ref aM_lates, .ref aM_copies, .int M_little, .int M_in, .int M_streak, .int M_lot, .int M_undos, .ref aM_before, .ref aM_images, .ref aM_kept, .long M_trace, .int M_at, .int M_begin, .int M_kind, .long M_value, .int M_readMany, .int M_readLittle, .ref aM_read, .long M_below])), (aM_slips, .inl (cI, 6, .inl M_slips)), (aM_lates, .inl (cI, 6, .inl M_lates)), (aM_copies, .inl (cI, 6, .inl M_copies))] H → va_D A [(aM, .inr (10, [.ref aM_text, .int M_size, .int M_many, .ref aM_slips, .ref aM_lates, .ref aM_copies, .int M_little, .int M_in, .int M_streak, .int M_lot, .int M_undos, .ref aM_before, .ref aM_images, .ref aM_kept, .long M_trace, .int M_at, .int M_begin, .int M_kind, .long M_value, .int M_readMany, .int M_readLittle, .ref aM_read, .long M_below])), (aM_slips, .inl (cI, 6, .inl M_slips)), (aM_lates, .inl (cI, 6, .inl M_lates)), (aM_copies, .inl (cI, 6, .inl M_copies))] → va_S A s.heap H locs → ∀ (ls : Array Slot), lv_has ls 8 [(0, .ref aM), (1, .int x1), (2, .int x2), (3, .int x3), (4, .long x4), (6, .int x6)] → f_X10_many_L36 M_many M_in M_streak M_slips M_lates M_copies n M_below x1 x2 x3 x4 x6 = some y0 → W p l e (headSpec wsX10_many ({ frames := 4, cells := 0, slots := 0, locals := 93 } : Room)).room s m ([.ref aM, .int p1, .int p2, .int p3] : List Value).toArray below meth c H locs 0 0 (MQ below (va_Ql (fun (r : Int64) (_ : Unit) => r = y0.1) (fun (_ : Unit) t => va_P D vwCl [(aM, .inr (10, [.ref aM_text, .int M_size, .int M_many, .ref aM_slips, .ref aM_lates, .ref aM_copies, .int M_little, .int M_in, .int M_streak, .int M_lot, .int M_undos, .ref aM_before, .ref aM_images, .ref aM_kept, .long M_trace, .int M_at, .int M_begin, .int M_kind, .long M_value, .int M_readMany, .int M_readLittle, .ref aM_read, .long y0.2])), (aM_slips, .inl (cI, 6, .inl M_slips)), (aM_lates, .inl (cI, 6, .inl M_lates)), (aM_copies, .inl (cI, 6, .inl M_copies))] t.heap ∧ va_D A [(aM, .inr (10, [.ref aM_text, .int M_size, .int M_many, .ref aM_slips, .ref aM_lates, .ref aM_copies, .int M_little, .int M_in, .int M_streak, .int M_lot, .int M_undos, .ref aM_before, .ref aM_images, .ref aM_kept, .long M_trace, .int M_at, .int M_begin, .int M_kind, .long M_value, .int M_readMany, .int M_readLittle, .ref aM_read, .long y0.2])), (aM_slips, .inl (cI, 6, .inl M_slips)), (aM_lates, .inl (cI, 6, .inl M_lates)), (aM_copies, .inl (cI, 6, .inl M_copies))]) A) ([.ref aM, .int p1, .int p2, .int p3] : List Value).toArray s 0 0 A) (F0 m 36 ls []) := by
    intro n
    induction n with
    | zero =>
      intro M_below x1 x2 x3 x4 x6 H locs hP hD hS ls hl h
      exact (ns h).elim
    | succ n ih =>
      intro M_below x1 x2 x3 x4 x6 H locs hP hD hS ls hl h
      unfold f_X10_many_L36 at h
      refine lv_iload hx hb dX10_many_36 (lv_at hl 5 rfl) ?_
      refine lv_iconst (v := (1 : Int32)) hx hb dX10_many_38 (by decide) ?_
      refine lv_aload_n hx hb dX10_many_39 rfl (lv_at hl 0 rfl) ?_
      refine va_get (D := D) (ci := 10) (v := .int M_many) (C := RX10) (T := TX10) (N := 23) hx hb hts inX10 hown hK hP 0 rfl rfl 2 (by decide) fl_39 (fun _ h9 => h9) rfl dX10_many_40 ?_
      refine lv_ishl hx hb dX10_many_43 ?_
      refine lv_icmp_ge (tgt := 78) hx hb dX10_many_44 (by decide) (fun c_7 => ?_) (fun c_7 => ?_)
      · replace h := if_p c_7 h
        refine lv_aload_n hx hb dX10_many_78 rfl (lv_at hl 0 rfl) ?_
        refine lv_iload_n hx hb dX10_many_79 rfl (lv_at hl 1 rfl) ?_
        refine lv_iconst (v := (0 : Int32)) hx hb dX10_many_80 (by decide) ?_
        obtain ⟨y8, qy8, h⟩ := ob_some h
        have hPc : va_P D vwCl [(aM, .inr (10, [.ref aM_text, .int M_size, .int M_many, .ref aM_slips, .ref aM_lates, .ref aM_copies, .int M_little, .int M_in, .int M_streak, .int M_lot, .int M_undos, .ref aM_before, .ref aM_images, .ref aM_kept, .long M_trace, .int M_at, .int M_begin, .int M_kind, .long M_value, .int M_readMany, .int M_readLittle, .ref aM_read, .long M_below])), (aM_slips, .inl (cI, 6, .inl M_slips)), (aM_lates, .inl (cI, 6, .inl M_lates)), (aM_copies, .inl (cI, 6, .inl M_copies))] H := hP.sub [0, 1, 2, 3] rfl
        have hDc : va_D A [(aM, .inr (10, [.ref aM_text, .int M_size, .int M_many, .ref aM_slips, .ref aM_lates, .ref aM_copies, .int M_little, .int M_in, .int M_streak, .int M_lot, .int M_undos, .ref aM_before, .ref aM_images, .ref aM_kept, .long M_trace, .int M_at, .int M_begin, .int M_kind, .long M_value, .int M_readMany, .int M_readLittle, .ref aM_read, .long M_below])), (aM_slips, .inl (cI, 6, .inl M_slips)), (aM_lates, .inl (cI, 6, .inl M_lates)), (aM_copies, .inl (cI, 6, .inl M_copies))] := hD.sub [0, 1, 2, 3] (by decide) rfl
        have hFc := va_free (wc := [(aM, .inr (10, [.ref aM_text, .int M_size, .int M_many, .ref aM_slips, .ref aM_lates, .ref aM_copies, .int M_little, .int M_in, .int M_streak, .int M_lot, .int M_undos, .ref aM_before, .ref aM_images, .ref aM_kept, .long M_trace, .int M_at, .int M_begin, .int M_kind, .long M_value, .int M_readMany, .int M_readLittle, .ref aM_read, .long M_below])), (aM_slips, .inl (cI, 6, .inl M_slips)), (aM_lates, .inl (cI, 6, .inl M_lates)), (aM_copies, .inl (cI, 6, .inl M_copies))]) hD hS hA [0, 1, 2, 3] rfl
        refine va_calll (va_runV (As := [.int x1, .int (0 : Int32)]) (rest := []) ⟨hx, hb, hml, hown, hts⟩ (c_X10_waysOf l D cI cJ cZ cO aM aM_slips aM_lates aM_copies aM_text aM_before aM_images aM_kept aM_read M_size M_many M_little M_in M_streak M_lot M_undos M_trace M_at M_begin M_kind M_value M_readMany M_readLittle M_below M_slips M_lates M_copies H.size x1 (0 : Int32) y8 qy8) (cwV 2 hts gX10_many_X10_waysOf rfl rfl rfl (by decide +kernel) ⟨Nat.le_of_ble_eq_true rfl, Nat.le_of_ble_eq_true rfl⟩) ⟨fb_i, va_recv hK hP (ci := 10) (q0 := 0) rfl rfl, fun U hU hW => ⟨rfl, by rw [hU], by rw [hU]; exact hPc, KK.warm hW hKK, hDc.weaken (fun _ _ _ _ => trivial)⟩⟩ rfl rfl hl.1 rfl (lv_room (Nat.le_of_ble_eq_true rfl)) dX10_many_81 ⟨Nat.le_of_ble_eq_true rfl, Nat.le_of_ble_eq_true rfl⟩) hS (fun q _ h => hFc q h) hFc (fun r u t H1 locs ht hvm hw hB hz1 hk1 hS => ?_)
        obtain ⟨hP1, hD1⟩ := hB
        rw [ht] at hP1
        replace hw := hw.symm
        subst hw
        obtain ⟨hP, hD⟩ := va_join (wr := []) (w1 := [(aM, .inr (10, [.ref aM_text, .int M_size, .int M_many, .ref aM_slips, .ref aM_lates, .ref aM_copies, .int M_little, .int M_in, .int M_streak, .int M_lot, .int M_undos, .ref aM_before, .ref aM_images, .ref aM_kept, .long M_trace, .int M_at, .int M_begin, .int M_kind, .long M_value, .int M_readMany, .int M_readLittle, .ref aM_read, .long y8.2])), (aM_slips, .inl (cI, 6, .inl M_slips)), (aM_lates, .inl (cI, 6, .inl M_lates)), (aM_copies, .inl (cI, 6, .inl M_copies))]) hP hD [0, 1, 2, 3] [] rfl rfl (by decide) (by decide) hk1 hFc hP1 hD1
        generalize H1 = H at hP hS ⊢
        have hP : va_P D vwCl [(aM, .inr (10, [.ref aM_text, .int M_size, .int M_many, .ref aM_slips, .ref aM_lates, .ref aM_copies, .int M_little, .int M_in, .int M_streak, .int M_lot, .int M_undos, .ref aM_before, .ref aM_images, .ref aM_kept, .long M_trace, .int M_at, .int M_begin, .int M_kind, .long M_value, .int M_readMany, .int M_readLittle, .ref aM_read, .long y8.2])), (aM_slips, .inl (cI, 6, .inl M_slips)), (aM_lates, .inl (cI, 6, .inl M_lates)), (aM_copies, .inl (cI, 6, .inl M_copies))] H := hP.sub [0, 1, 2, 3] rfl
        have hD : va_D A [(aM, .inr (10, [.ref aM_text, .int M_size, .int M_many, .ref aM_slips, .ref aM_lates, .ref aM_copies, .int M_little, .int M_in, .int M_streak, .int M_lot, .int M_undos, .ref aM_before, .ref aM_images, .ref aM_kept, .long M_trace, .int M_at, .int M_begin, .int M_kind, .long M_value, .int M_readMany, .int M_readLittle, .ref aM_read, .long y8.2])), (aM_slips, .inl (cI, 6, .inl M_slips)), (aM_lates, .inl (cI, 6, .inl M_lates)), (aM_copies, .inl (cI, 6, .inl M_copies))] := hD.sub [0, 1, 2, 3] (by decide) rfl
        refine lv_lstore (lv' := [(6, .long y8.1), (0, .ref aM), (1, .int x1), (2, .int x2), (3, .int x3), (4, .long x4)]) hx hb dX10_many_84 hl (by decide) rfl (fun ls hl => ?_)
        refine lv_lload hx hb dX10_many_86 (lv_at hl 5 rfl) ?_
        refine lv_aload_n hx hb dX10_many_88 rfl (lv_at hl 1 rfl) ?_
        refine va_get (D := D) (ci := 10) (v := .long y8.2) (C := RX10) (T := TX10) (N := 23) hx hb hts inX10 hown hK hP 0 rfl rfl 22 (by decide) fl_165 (fun _ h9 => h9) rfl dX10_many_89 ?_
        refine lv_iload_n hx hb dX10_many_92 rfl (lv_at hl 4 rfl) ?_
        obtain ⟨y9, qy9, h⟩ := ob_some h
        have hPc : va_P D vwCl [] H := hP.sub [] rfl
        refine vp_callSl (va_Run.run (va_runS (As := [.long x4, .long y8.2, .int x3]) (rest := []) ⟨hx, hb, hml, hown, hts⟩ (c_X10_part l D cI cJ cZ cO x4 y8.2 x3 y9 qy9) (cwS 3 hts gX10_many_X10_part rfl rfl rfl (by decide +kernel) ⟨Nat.le_of_ble_eq_true rfl, Nat.le_of_ble_eq_true rfl⟩) ⟨fb_p, fun U hU hW => ⟨rfl, by rw [hU]; exact hPc, KK.warm hW hKK⟩⟩ rfl rfl hl.1 rfl (lv_room (Nat.le_of_ble_eq_true rfl)) dX10_many_93 ⟨Nat.le_of_ble_eq_true rfl, Nat.le_of_ble_eq_true rfl⟩)) (fun r hr => ?_)
        replace hr := hr.symm
        subst hr
        have hy := Option.some.inj h
        subst hy
        exact W.lret (v := y9) hx hb hr (fun t ht hW => ⟨⟨y9, (), rfl, rfl, by rw [ht]; exact hP, hD⟩, hS.F ht⟩) hS.2.2 dX10_many_96
      · replace h := if_n c_7 h
        refine lv_lload hx hb dX10_many_47 (lv_at hl 4 rfl) ?_
        refine lv_iload hx hb dX10_many_49 (lv_at hl 5 rfl) ?_
        obtain ⟨y10, qy10, h⟩ := ob_some h
        have hPc : va_P D vwCl [] H := hP.sub [] rfl
        refine vp_callSi (va_Run.run (va_runS (As := [.int x6]) (rest := [.long x4]) ⟨hx, hb, hml, hown, hts⟩ (c_X10_bits l D cI cJ cZ cO x6 y10 qy10) (cwS 1 hts gX10_many_X10_bits rfl rfl rfl (by decide +kernel) ⟨Nat.le_of_ble_eq_true rfl, Nat.le_of_ble_eq_true rfl⟩) ⟨fb_p, fun U hU hW => ⟨rfl, by rw [hU]; exact hPc, KK.warm hW hKK⟩⟩ rfl rfl hl.1 rfl (lv_room (Nat.le_of_ble_eq_true rfl)) dX10_many_51 ⟨Nat.le_of_ble_eq_true rfl, Nat.le_of_ble_eq_true rfl⟩)) (fun r hr => ?_)
        replace hr := hr.symm
        subst hr
        refine lv_iload_n hx hb dX10_many_54 rfl (lv_at hl 2 rfl) ?_
        refine lv_icmp_ne (tgt := 68) hx hb dX10_many_55 (by decide) (fun c_11 => ?_) (fun c_11 => ?_)
        · replace h := if_n c_11 h
          refine lv_lconst (v := (0 : Int64)) hx hb dX10_many_68 (by decide) ?_
          refine lv_ladd hx hb dX10_many_69 ?_
          refine lv_lstore (lv' := [(4, .long (x4 + (0 : Int64))), (0, .ref aM), (1, .int x1), (2, .int x2), (3, .int x3), (6, .int x6)]) hx hb dX10_many_70 hl (by decide) rfl (fun ls hl => ?_)
          refine lv_iinc (v := (x6 + (1 : Int32))) (lv' := [(6, .int (x6 + (1 : Int32))), (4, .long (x4 + (0 : Int64))), (0, .ref aM), (1, .int x1), (2, .int x2), (3, .int x3)]) hx hb dX10_many_72 hl (k := 5) rfl rfl (by decide) rfl (fun ls hl => ?_)
          refine lv_goto (tgt := 36) hx hb dX10_many_75 (by decide) ?_
          exact ih M_below x1 x2 x3 (x4 + (0 : Int64)) (x6 + (1 : Int32)) _ _ hP hD hS ls (lv_sub hl [2, 3, 4, 5, 1, 0] rfl) h
        · replace h := if_p c_11 h
          refine lv_aload_n hx hb dX10_many_58 rfl (lv_at hl 0 rfl) ?_
          refine lv_iload_n hx hb dX10_many_59 rfl (lv_at hl 1 rfl) ?_
          refine lv_iload hx hb dX10_many_60 (lv_at hl 5 rfl) ?_
          obtain ⟨y12, qy12, h⟩ := ob_some h
          have hPc : va_P D vwCl [(aM, .inr (10, [.ref aM_text, .int M_size, .int M_many, .ref aM_slips, .ref aM_lates, .ref aM_copies, .int M_little, .int M_in, .int M_streak, .int M_lot, .int M_undos, .ref aM_before, .ref aM_images, .ref aM_kept, .long M_trace, .int M_at, .int M_begin, .int M_kind, .long M_value, .int M_readMany, .int M_readLittle, .ref aM_read, .long M_below])), (aM_slips, .inl (cI, 6, .inl M_slips)), (aM_lates, .inl (cI, 6, .inl M_lates)), (aM_copies, .inl (cI, 6, .inl M_copies))] H := hP.sub [0, 1, 2, 3] rfl
          have hDc : va_D A [(aM, .inr (10, [.ref aM_text, .int M_size, .int M_many, .ref aM_slips, .ref aM_lates, .ref aM_copies, .int M_little, .int M_in, .int M_streak, .int M_lot, .int M_undos, .ref aM_before, .ref aM_images, .ref aM_kept, .long M_trace, .int M_at, .int M_begin, .int M_kind, .long M_value, .int M_readMany, .int M_readLittle, .ref aM_read, .long M_below])), (aM_slips, .inl (cI, 6, .inl M_slips)), (aM_lates, .inl (cI, 6, .inl M_lates)), (aM_copies, .inl (cI, 6, .inl M_copies))] := hD.sub [0, 1, 2, 3] (by decide) rfl
          have hFc := va_free (wc := [(aM, .inr (10, [.ref aM_text, .int M_size, .int M_many, .ref aM_slips, .ref aM_lates, .ref aM_copies, .int M_little, .int M_in, .int M_streak, .int M_lot, .int M_undos, .ref aM_before, .ref aM_images, .ref aM_kept, .long M_trace, .int M_at, .int M_begin, .int M_kind, .long M_value, .int M_readMany, .int M_readLittle, .ref aM_read, .long M_below])), (aM_slips, .inl (cI, 6, .inl M_slips)), (aM_lates, .inl (cI, 6, .inl M_lates)), (aM_copies, .inl (cI, 6, .inl M_copies))]) hD hS hA [0, 1, 2, 3] rfl
          refine va_calll (va_runV (As := [.int x1, .int x6]) (rest := [.long x4]) ⟨hx, hb, hml, hown, hts⟩ (c_X10_waysOf l D cI cJ cZ cO aM aM_slips aM_lates aM_copies aM_text aM_before aM_images aM_kept aM_read M_size M_many M_little M_in M_streak M_lot M_undos M_trace M_at M_begin M_kind M_value M_readMany M_readLittle M_below M_slips M_lates M_copies H.size x1 x6 y12 qy12) (cwV 2 hts gX10_many_X10_waysOf rfl rfl rfl (by decide +kernel) ⟨Nat.le_of_ble_eq_true rfl, Nat.le_of_ble_eq_true rfl⟩) ⟨fb_i, va_recv hK hP (ci := 10) (q0 := 0) rfl rfl, fun U hU hW => ⟨rfl, by rw [hU], by rw [hU]; exact hPc, KK.warm hW hKK, hDc.weaken (fun _ _ _ _ => trivial)⟩⟩ rfl rfl hl.1 rfl (lv_room (Nat.le_of_ble_eq_true rfl)) dX10_many_62 ⟨Nat.le_of_ble_eq_true rfl, Nat.le_of_ble_eq_true rfl⟩) hS (fun q _ h => hFc q h) hFc (fun r u t H1 locs ht hvm hw hB hz1 hk1 hS => ?_)
          obtain ⟨hP1, hD1⟩ := hB
          rw [ht] at hP1
          replace hw := hw.symm
          subst hw
          obtain ⟨hP, hD⟩ := va_join (wr := []) (w1 := [(aM, .inr (10, [.ref aM_text, .int M_size, .int M_many, .ref aM_slips, .ref aM_lates, .ref aM_copies, .int M_little, .int M_in, .int M_streak, .int M_lot, .int M_undos, .ref aM_before, .ref aM_images, .ref aM_kept, .long M_trace, .int M_at, .int M_begin, .int M_kind, .long M_value, .int M_readMany, .int M_readLittle, .ref aM_read, .long y12.2])), (aM_slips, .inl (cI, 6, .inl M_slips)), (aM_lates, .inl (cI, 6, .inl M_lates)), (aM_copies, .inl (cI, 6, .inl M_copies))]) hP hD [0, 1, 2, 3] [] rfl rfl (by decide) (by decide) hk1 hFc hP1 hD1
          generalize H1 = H at hP hS ⊢
          have hP : va_P D vwCl [(aM, .inr (10, [.ref aM_text, .int M_size, .int M_many, .ref aM_slips, .ref aM_lates, .ref aM_copies, .int M_little, .int M_in, .int M_streak, .int M_lot, .int M_undos, .ref aM_before, .ref aM_images, .ref aM_kept, .long M_trace, .int M_at, .int M_begin, .int M_kind, .long M_value, .int M_readMany, .int M_readLittle, .ref aM_read, .long y12.2])), (aM_slips, .inl (cI, 6, .inl M_slips)), (aM_lates, .inl (cI, 6, .inl M_lates)), (aM_copies, .inl (cI, 6, .inl M_copies))] H := hP.sub [0, 1, 2, 3] rfl
          have hD : va_D A [(aM, .inr (10, [.ref aM_text, .int M_size, .int M_many, .ref aM_slips, .ref aM_lates, .ref aM_copies, .int M_little, .int M_in, .int M_streak, .int M_lot, .int M_undos, .ref aM_before, .ref aM_images, .ref aM_kept, .long M_trace, .int M_at, .int M_begin, .int M_kind, .long M_value, .int M_readMany, .int M_readLittle, .ref aM_read, .long y12.2])), (aM_slips, .inl (cI, 6, .inl M_slips)), (aM_lates, .inl (cI, 6, .inl M_lates)), (aM_copies, .inl (cI, 6, .inl M_copies))] := hD.sub [0, 1, 2, 3] (by decide) rfl
          refine lv_goto (tgt := 69) hx hb dX10_many_65 (by decide) ?_
          refine lv_ladd hx hb dX10_many_69 ?_
          refine lv_lstore (lv' := [(4, .long (x4 + y12.1)), (0, .ref aM), (1, .int x1), (2, .int x2), (3, .int x3), (6, .int x6)]) hx hb dX10_many_70 hl (by decide) rfl (fun ls hl => ?_)
          refine lv_iinc (v := (x6 + (1 : Int32))) (lv' := [(6, .int (x6 + (1 : Int32))), (4, .long (x4 + y12.1)), (0, .ref aM), (1, .int x1), (2, .int x2), (3, .int x3)]) hx hb dX10_many_72 hl (k := 5) rfl rfl (by decide) rfl (fun ls hl => ?_)
          refine lv_goto (tgt := 36) hx hb dX10_many_75 (by decide) ?_
          exact ih y12.2 x1 x2 x3 (x4 + y12.1) (x6 + (1 : Int32)) _ _ hP hD hS ls (lv_sub hl [2, 3, 4, 5, 1, 0] rfl) h
  unfold f_X10_many at h
  refine lv_iload_n hx hb dX10_many_0 rfl (lv_at hl 1 rfl) ?_
  have hPc : va_P D vwCl [] s.heap := hP.sub [] rfl
  refine vp_callSi (va_Run.run (va_runS (As := [.int p1]) (rest := []) ⟨hx, hb, hml, hown, hts⟩ (c_X10_isOrder l D cI cJ cZ cO p1 _ rfl) (cwS 1 hts gX10_many_X10_isOrder rfl rfl rfl (by decide +kernel) ⟨Nat.le_of_ble_eq_true rfl, Nat.le_of_ble_eq_true rfl⟩) ⟨fb_p, fun U hU hW => ⟨rfl, by rw [hU]; exact hPc, KK.warm hW hKK⟩⟩ rfl rfl hl.1 rfl (lv_room (Nat.le_of_ble_eq_true rfl)) dX10_many_1 ⟨Nat.le_of_ble_eq_true rfl, Nat.le_of_ble_eq_true rfl⟩)) (fun r hr => ?_)
  obtain ⟨hr, hz1⟩ := hr
  replace hr := hr.symm
  subst hr
  refine lv_if_eq (tgt := 26) hx hb dX10_many_4 (by decide) (fun c_2 => ?_) (fun c_2 => ?_)
  · replace h := if_p c_2 h
    refine lv_ldc2 (v := (-1 : Int64)) hx hb hown cst_79 dX10_many_26 ?_
    have hy := Option.some.inj h
    subst hy
    exact W.lret (v := (-1 : Int64)) hx hb hr (fun t ht hW => ⟨⟨(-1 : Int64), (), rfl, rfl, by rw [ht]; exact hP, hD⟩, hS.F ht⟩) hS.2.2 dX10_many_29
  · replace h := if_n c_2 h
    refine lv_iload_n hx hb dX10_many_7 rfl (lv_at hl 2 rfl) ?_
    refine lv_i2l (v := p2.toInt64) hx hb dX10_many_8 rfl ?_
    refine lv_lconst (v := (0 : Int64)) hx hb dX10_many_9 (by decide) ?_
    refine lv_ldc2 (v := (6 : Int64)) hx hb hown cst_182 dX10_many_10 ?_
    have hPc : va_P D vwCl [] s.heap := hP.sub [] rfl
    refine vp_callSi (va_Run.run (va_runS (As := [.long p2.toInt64, .long (0 : Int64), .long (6 : Int64)]) (rest := []) ⟨hx, hb, hml, hown, hts⟩ (c_X10_within l D cI cJ cZ cO p2.toInt64 (0 : Int64) (6 : Int64) _ rfl) (cwS 3 hts gX10_many_X10_within rfl rfl rfl (by decide +kernel) ⟨Nat.le_of_ble_eq_true rfl, Nat.le_of_ble_eq_true rfl⟩) ⟨fb_p, fun U hU hW => ⟨rfl, by rw [hU]; exact hPc, KK.warm hW hKK⟩⟩ rfl rfl hl.1 rfl (lv_room (Nat.le_of_ble_eq_true rfl)) dX10_many_13 ⟨Nat.le_of_ble_eq_true rfl, Nat.le_of_ble_eq_true rfl⟩)) (fun r hr => ?_)
    obtain ⟨hr, hz3⟩ := hr
    replace hr := hr.symm
    subst hr
    refine lv_if_eq (tgt := 26) hx hb dX10_many_16 (by decide) (fun c_4 => ?_) (fun c_4 => ?_)
    · replace h := if_p c_4 h
      refine lv_ldc2 (v := (-1 : Int64)) hx hb hown cst_79 dX10_many_26 ?_
      have hy := Option.some.inj h
      subst hy
      exact W.lret (v := (-1 : Int64)) hx hb hr (fun t ht hW => ⟨⟨(-1 : Int64), (), rfl, rfl, by rw [ht]; exact hP, hD⟩, hS.F ht⟩) hS.2.2 dX10_many_29
    · replace h := if_n c_4 h
      refine lv_iload_n hx hb dX10_many_19 rfl (lv_at hl 3 rfl) ?_
      have hPc : va_P D vwCl [] s.heap := hP.sub [] rfl
      refine vp_callSi (va_Run.run (va_runS (As := [.int p3]) (rest := []) ⟨hx, hb, hml, hown, hts⟩ (c_X10_isPart l D cI cJ cZ cO p3 _ rfl) (cwS 1 hts gX10_many_X10_isPart rfl rfl rfl (by decide +kernel) ⟨Nat.le_of_ble_eq_true rfl, Nat.le_of_ble_eq_true rfl⟩) ⟨fb_p, fun U hU hW => ⟨rfl, by rw [hU]; exact hPc, KK.warm hW hKK⟩⟩ rfl rfl hl.1 rfl (lv_room (Nat.le_of_ble_eq_true rfl)) dX10_many_20 ⟨Nat.le_of_ble_eq_true rfl, Nat.le_of_ble_eq_true rfl⟩)) (fun r hr => ?_)
      obtain ⟨hr, hz5⟩ := hr
      replace hr := hr.symm
      subst hr
      refine lv_if_ne (tgt := 30) hx hb dX10_many_23 (by decide) (fun c_6 => ?_) (fun c_6 => ?_)
      · replace h := if_n c_6 h
        refine lv_lconst (v := (0 : Int64)) hx hb dX10_many_30 (by decide) ?_
        refine lv_lstore (lv' := [(4, .long (0 : Int64)), (0, .ref aM), (1, .int p1), (2, .int p2), (3, .int p3)]) hx hb dX10_many_31 hl (by decide) rfl (fun ls hl => ?_)
        refine lv_iconst (v := (0 : Int32)) hx hb dX10_many_33 (by decide) ?_
        refine lv_istore (lv' := [(6, .int (0 : Int32)), (4, .long (0 : Int64)), (0, .ref aM), (1, .int p1), (2, .int p2), (3, .int p3)]) hx hb dX10_many_34 hl (by decide) rfl (fun ls hl => ?_)
        exact L36 300 M_below p1 p2 p3 (0 : Int64) (0 : Int32) _ _ hP hD hS ls (lv_sub hl [2, 3, 4, 5, 1, 0] rfl) h
      · replace h := if_p c_6 h
        refine lv_ldc2 (v := (-1 : Int64)) hx hb hown cst_79 dX10_many_26 ?_
        have hy := Option.some.inj h
        subst hy
        exact W.lret (v := (-1 : Int64)) hx hb hr (fun t ht hW => ⟨⟨(-1 : Int64), (), rfl, rfl, by rw [ht]; exact hP, hD⟩, hS.F ht⟩) hS.2.2 dX10_many_29
