def f_X10_ordersIn_L36 (k14 : Int32 → Int32 → Int32 → Option (Int32)) (x1 : Int32) (x3 : Int32) : Option (Int32) := k14 (x1 + (1 : Int32)) (0 : Int32) (x3 / (10 : Int32))
def f_X10_ordersIn_L14  : Nat → Int32 → Int32 → Int32 → Option (Int32)
  | 0, _, _, _ => none
  | n + 1, x1, x2, x3 => (if x3 ≤ 0 then (if x2 = 0 then some (-1 : Int32) else some x1) else (if x2 = 0 then f_X10_ordersIn_L36 (f_X10_ordersIn_L14 n) x1 x3 else (if (f_X10_isOrder (x3 - x3 / (10 : Int32) * (10 : Int32))) = 0 then f_X10_ordersIn_L36 (f_X10_ordersIn_L14 n) x1 x3 else f_X10_ordersIn_L14 n (x1 + (1 : Int32)) (1 : Int32) (x3 / (10 : Int32)))))
def f_X10_ordersIn (p0 : Int32) : Option (Int32) := (if p0 < 0 then f_X10_ordersIn_L14 300 (0 : Int32) (0 : Int32) p0 else f_X10_ordersIn_L14 300 (0 : Int32) (1 : Int32) p0)
set_option maxHeartbeats 8000000 in
set_option maxRecDepth 100000 in
theorem c_X10_ordersIn (l : Launch) (D : va_G) (cI cJ cZ cO : ClassId)   (p0 : Int32)  (y0 : Int32) (h : f_X10_ordersIn p0 = some y0) : Met l yX10_ordersIn wsX10_ordersIn ({ frames := 2, cells := 0, slots := 0, locals := 45 } : Room) (va_Pc [.int p0] (fun U => va_P D vwCl [] U.heap ∧ KK D cI cJ cZ cO U)) (vp_Si (fun r => r = y0)) 0 0 (fun _ => False) := by
  refine Met.ofW (cc := cX10_ordersIn) (maxL := 4) (ret := (some .int)) (by decide) rfl ?_
  intro p e s m args below meth c s₁ B hml hv
  obtain ⟨rfl, hP, hKK⟩ := hv
  have hx := B.exec
  have hb := B.bytes
  have hr := B.returns
  have hts := atoms_spec (ws := wsX10_ordersIn) B.pre
  have hown : s.vm.findClass RX10 = some m.cls := findClass_of_methodNamed B.named
  have hlocks := B.notSynchronized
  have hK := hKK.1
  have hl := lv_entry ([.int p0]) (n := 4) (Nat.le_of_ble_eq_true rfl)
  rw [lg_entry_eq]
  generalize (lg_sl ([.int p0]) ++ List.replicate (4 - (lg_sl ([.int p0])).length) Slot.unset).toArray = ls at hl ⊢
  have hl : lv_has ls 4 [(0, .int p0)] := hl
  have L36 : ∀ (k14 : Int32 → Int32 → Int32 → Option (Int32)) (_ : ∀ (x1 : Int32) (x2 : Int32) (x3 : Int32), ∀ (ls : Array Slot), lv_has ls 4 [(1, .int x1), (2, .int x2), (3, .int x3)] → k14 x1 x2 x3 = some y0 → W p l e (headSpec wsX10_ordersIn ({ frames := 2, cells := 0, slots := 0, locals := 45 } : Room)).room s m ([.int p0] : List Value).toArray below meth c s.heap [] 0 0 (MQ below (vp_Si (fun r => r = y0)) ([.int p0] : List Value).toArray s 0 0 (fun _ => False)) (F0 m 14 ls [])), ∀ (x1 : Int32) (x3 : Int32), ∀ (ls : Array Slot), lv_has ls 4 [(1, .int x1), (3, .int x3)] → f_X10_ordersIn_L36 k14 x1 x3 = some y0 → W p l e (headSpec wsX10_ordersIn ({ frames := 2, cells := 0, slots := 0, locals := 45 } : Room)).room s m ([.int p0] : List Value).toArray below meth c s.heap [] 0 0 (MQ below (vp_Si (fun r => r = y0)) ([.int p0] : List Value).toArray s 0 0 (fun _ => False)) (F0 m 36 ls []) := by
    intro k14 hk14
    intro x1 x3 ls hl h
    unfold f_X10_ordersIn_L36 at h
    refine lv_iconst (v := (0 : Int32)) hx hb dX10_ordersIn_36 (by decide) ?_
    refine lv_istore_n (lv' := [(2, .int (0 : Int32)), (1, .int x1), (3, .int x3)]) hx hb dX10_ordersIn_37 rfl hl (by decide) rfl (fun ls hl => ?_)
    refine lv_iinc (v := (x1 + (1 : Int32))) (lv' := [(1, .int (x1 + (1 : Int32))), (2, .int (0 : Int32)), (3, .int x3)]) hx hb dX10_ordersIn_38 hl (k := 1) rfl rfl (by decide) rfl (fun ls hl => ?_)
    refine lv_iload_n hx hb dX10_ordersIn_41 rfl (lv_at hl 2 rfl) ?_
    refine lv_bipush (v := (10 : Int32)) hx hb dX10_ordersIn_42 (by decide) ?_
    refine lv_idiv hx hb dX10_ordersIn_44 (by decide) ?_
    refine lv_istore_n (lv' := [(3, .int (x3 / (10 : Int32))), (1, .int (x1 + (1 : Int32))), (2, .int (0 : Int32))]) hx hb dX10_ordersIn_45 rfl hl (by decide) rfl (fun ls hl => ?_)
    refine lv_goto (tgt := 14) hx hb dX10_ordersIn_46 (by decide) ?_
    exact hk14 (x1 + (1 : Int32)) (0 : Int32) (x3 / (10 : Int32)) ls (lv_sub hl [1, 2, 0] rfl) h
  have L14 : ∀ (n : Nat), ∀ (x1 : Int32) (x2 : Int32) (x3 : Int32), ∀ (ls : Array Slot), lv_has ls 4 [(1, .int x1), (2, .int x2), (3, .int x3)] → f_X10_ordersIn_L14 n x1 x2 x3 = some y0 → W p l e (headSpec wsX10_ordersIn ({ frames := 2, cells := 0, slots := 0, locals := 45 } : Room)).room s m ([.int p0] : List Value).toArray below meth c s.heap [] 0 0 (MQ below (vp_Si (fun r => r = y0)) ([.int p0] : List Value).toArray s 0 0 (fun _ => False)) (F0 m 14 ls []) := by
    intro n
    induction n with
    | zero =>
      intro x1 x2 x3 ls hl h
      exact (ns h).elim
    | succ n ih =>
      intro x1 x2 x3 ls hl h
      unfold f_X10_ordersIn_L14 at h
      refine lv_iload_n hx hb dX10_ordersIn_14 rfl (lv_at hl 2 rfl) ?_
      refine lv_if_le (tgt := 49) hx hb dX10_ordersIn_15 (by decide) (fun c_2 => ?_) (fun c_2 => ?_)
      · replace h := if_p c_2 h
        refine lv_iload_n hx hb dX10_ordersIn_49 rfl (lv_at hl 1 rfl) ?_
        refine lv_if_eq (tgt := 57) hx hb dX10_ordersIn_50 (by decide) (fun c_3 => ?_) (fun c_3 => ?_)
        · replace h := if_p c_3 h
          refine lv_iconst (v := (-1 : Int32)) hx hb dX10_ordersIn_57 (by decide) ?_
          exact pr_i hx hb hr hlocks dX10_ordersIn_58 (Option.some.inj h)
        · replace h := if_n c_3 h
          refine lv_iload_n hx hb dX10_ordersIn_53 rfl (lv_at hl 0 rfl) ?_
          refine lv_goto (tgt := 58) hx hb dX10_ordersIn_54 (by decide) ?_
          exact pr_i hx hb hr hlocks dX10_ordersIn_58 (Option.some.inj h)
      · replace h := if_n c_2 h
        refine lv_iload_n hx hb dX10_ordersIn_18 rfl (lv_at hl 1 rfl) ?_
        refine lv_if_eq (tgt := 36) hx hb dX10_ordersIn_19 (by decide) (fun c_4 => ?_) (fun c_4 => ?_)
        · replace h := if_p c_4 h
          exact L36 (f_X10_ordersIn_L14 n) ih x1 x3 ls (lv_sub hl [0, 2] rfl) h
        · replace h := if_n c_4 h
          refine lv_iload_n hx hb dX10_ordersIn_22 rfl (lv_at hl 2 rfl) ?_
          refine lv_bipush (v := (10 : Int32)) hx hb dX10_ordersIn_23 (by decide) ?_
          refine lv_irem hx hb dX10_ordersIn_25 (by decide) ?_
          have hPc : va_P D vwCl [] s.heap := hP.sub [] rfl
          refine vp_callSi (va_Run.run (va_runS (As := [.int (x3 - x3 / (10 : Int32) * (10 : Int32))]) (rest := []) ⟨hx, hb, hml, hown, hts⟩ (c_X10_isOrder l D cI cJ cZ cO (x3 - x3 / (10 : Int32) * (10 : Int32)) _ rfl) (cwS 1 hts gX10_ordersIn_X10_isOrder rfl rfl rfl (by decide +kernel) ⟨Nat.le_of_ble_eq_true rfl, Nat.le_of_ble_eq_true rfl⟩) ⟨fb_p, fun U hU hW => ⟨rfl, by rw [hU]; exact hPc, KK.warm hW hKK⟩⟩ rfl rfl hl.1 rfl (lv_room (Nat.le_of_ble_eq_true rfl)) dX10_ordersIn_26 ⟨Nat.le_of_ble_eq_true rfl, Nat.le_of_ble_eq_true rfl⟩)) (fun r hr => ?_)
          obtain ⟨hr, hz5⟩ := hr
          replace hr := hr.symm
          subst hr
          refine lv_if_eq (tgt := 36) hx hb dX10_ordersIn_29 (by decide) (fun c_6 => ?_) (fun c_6 => ?_)
          · replace h := if_p c_6 h
            exact L36 (f_X10_ordersIn_L14 n) ih x1 x3 ls (lv_sub hl [0, 2] rfl) h
          · replace h := if_n c_6 h
            refine lv_iconst (v := (1 : Int32)) hx hb dX10_ordersIn_32 (by decide) ?_
            refine lv_goto (tgt := 37) hx hb dX10_ordersIn_33 (by decide) ?_
            refine lv_istore_n (lv' := [(2, .int (1 : Int32)), (1, .int x1), (3, .int x3)]) hx hb dX10_ordersIn_37 rfl hl (by decide) rfl (fun ls hl => ?_)
            refine lv_iinc (v := (x1 + (1 : Int32))) (lv' := [(1, .int (x1 + (1 : Int32))), (2, .int (1 : Int32)), (3, .int x3)]) hx hb dX10_ordersIn_38 hl (k := 1) rfl rfl (by decide) rfl (fun ls hl => ?_)
            refine lv_iload_n hx hb dX10_ordersIn_41 rfl (lv_at hl 2 rfl) ?_
            refine lv_bipush (v := (10 : Int32)) hx hb dX10_ordersIn_42 (by decide) ?_
            refine lv_idiv hx hb dX10_ordersIn_44 (by decide) ?_
            refine lv_istore_n (lv' := [(3, .int (x3 / (10 : Int32))), (1, .int (x1 + (1 : Int32))), (2, .int (1 : Int32))]) hx hb dX10_ordersIn_45 rfl hl (by decide) rfl (fun ls hl => ?_)
            refine lv_goto (tgt := 14) hx hb dX10_ordersIn_46 (by decide) ?_
            exact ih (x1 + (1 : Int32)) (1 : Int32) (x3 / (10 : Int32)) ls (lv_sub hl [1, 2, 0] rfl) h
  unfold f_X10_ordersIn at h
  refine lv_iconst (v := (0 : Int32)) hx hb dX10_ordersIn_0 (by decide) ?_
  refine lv_istore_n (lv' := [(1, .int (0 : Int32)), (0, .int p0)]) hx hb dX10_ordersIn_1 rfl hl (by decide) rfl (fun ls hl => ?_)
  refine lv_iload_n hx hb dX10_ordersIn_2 rfl (lv_at hl 1 rfl) ?_
  refine lv_if_lt (tgt := 10) hx hb dX10_ordersIn_3 (by decide) (fun c_1 => ?_) (fun c_1 => ?_)
  · replace h := if_p c_1 h
    refine lv_iconst (v := (0 : Int32)) hx hb dX10_ordersIn_10 (by decide) ?_
    refine lv_istore_n (lv' := [(2, .int (0 : Int32)), (1, .int (0 : Int32)), (0, .int p0)]) hx hb dX10_ordersIn_11 rfl hl (by decide) rfl (fun ls hl => ?_)
    refine lv_iload_n hx hb dX10_ordersIn_12 rfl (lv_at hl 2 rfl) ?_
    refine lv_istore_n (lv' := [(3, .int p0), (2, .int (0 : Int32)), (1, .int (0 : Int32)), (0, .int p0)]) hx hb dX10_ordersIn_13 rfl hl (by decide) rfl (fun ls hl => ?_)
    exact L14 300 (0 : Int32) (0 : Int32) p0 ls (lv_sub hl [2, 1, 0] rfl) h
  · replace h := if_n c_1 h
    refine lv_iconst (v := (1 : Int32)) hx hb dX10_ordersIn_6 (by decide) ?_
    refine lv_goto (tgt := 11) hx hb dX10_ordersIn_7 (by decide) ?_
    refine lv_istore_n (lv' := [(2, .int (1 : Int32)), (1, .int (0 : Int32)), (0, .int p0)]) hx hb dX10_ordersIn_11 rfl hl (by decide) rfl (fun ls hl => ?_)
    refine lv_iload_n hx hb dX10_ordersIn_12 rfl (lv_at hl 2 rfl) ?_
    refine lv_istore_n (lv' := [(3, .int p0), (2, .int (1 : Int32)), (1, .int (0 : Int32)), (0, .int p0)]) hx hb dX10_ordersIn_13 rfl hl (by decide) rfl (fun ls hl => ?_)
    exact L14 300 (0 : Int32) (1 : Int32) p0 ls (lv_sub hl [2, 1, 0] rfl) h

def f_X10_orderAt_L7  : Nat → Int32 → Int32 → Int32 → Option (Int32)
  | 0, _, _, _ => none
  | n + 1, x2, x3, x4 => (if x4 ≤ x2 then some (x3 - x3 / (10 : Int32) * (10 : Int32)) else f_X10_orderAt_L7 n x2 (x3 / (10 : Int32)) (x4 + (-1 : Int32)))
def f_X10_orderAt (p0 : Int32) (p1 : Int32) (p2 : Int32) : Option (Int32) := f_X10_orderAt_L7 300 p2 p0 (p1 - (1 : Int32))
set_option maxHeartbeats 8000000 in
set_option maxRecDepth 100000 in
theorem c_X10_orderAt (l : Launch) (D : va_G) (cI cJ cZ cO : ClassId)   (p0 : Int32) (p1 : Int32) (p2 : Int32)  (y0 : Int32) (h : f_X10_orderAt p0 p1 p2 = some y0) : Met l yX10_orderAt wsX10_orderAt ({ frames := 0, cells := 0, slots := 0, locals := 0 } : Room) (va_Pc [.int p0, .int p1, .int p2] (fun U => va_P D vwCl [] U.heap ∧ KK D cI cJ cZ cO U)) (vp_Si (fun r => r = y0)) 0 0 (fun _ => False) := by
  refine Met.ofW (cc := cX10_orderAt) (maxL := 5) (ret := (some .int)) (by decide) rfl ?_
  intro p e s m args below meth c s₁ B hml hv
  obtain ⟨rfl, hP, hKK⟩ := hv
  have hx := B.exec
  have hb := B.bytes
  have hr := B.returns
  have hts := atoms_spec (ws := wsX10_orderAt) B.pre
  have hown : s.vm.findClass RX10 = some m.cls := findClass_of_methodNamed B.named
  have hlocks := B.notSynchronized
  have hK := hKK.1
  have hl := lv_entry ([.int p0, .int p1, .int p2]) (n := 5) (Nat.le_of_ble_eq_true rfl)
  rw [lg_entry_eq]
  generalize (lg_sl ([.int p0, .int p1, .int p2]) ++ List.replicate (5 - (lg_sl ([.int p0, .int p1, .int p2])).length) Slot.unset).toArray = ls at hl ⊢
  have hl : lv_has ls 5 [(0, .int p0), (1, .int p1), (2, .int p2)] := hl
  have L7 : ∀ (n : Nat), ∀ (x2 : Int32) (x3 : Int32) (x4 : Int32), ∀ (ls : Array Slot), lv_has ls 5 [(2, .int x2), (3, .int x3), (4, .int x4)] → f_X10_orderAt_L7 n x2 x3 x4 = some y0 → W p l e (headSpec wsX10_orderAt ({ frames := 0, cells := 0, slots := 0, locals := 0 } : Room)).room s m ([.int p0, .int p1, .int p2] : List Value).toArray below meth c s.heap [] 0 0 (MQ below (vp_Si (fun r => r = y0)) ([.int p0, .int p1, .int p2] : List Value).toArray s 0 0 (fun _ => False)) (F0 m 7 ls []) := by
    intro n
    induction n with
    | zero =>
      intro x2 x3 x4 ls hl h
      exact (ns h).elim
    | succ n ih =>
      intro x2 x3 x4 ls hl h
      unfold f_X10_orderAt_L7 at h
      refine lv_iload hx hb dX10_orderAt_7 (lv_at hl 2 rfl) ?_
      refine lv_iload_n hx hb dX10_orderAt_9 rfl (lv_at hl 0 rfl) ?_
      refine lv_icmp_le (tgt := 24) hx hb dX10_orderAt_10 (by decide) (fun c_1 => ?_) (fun c_1 => ?_)
      · replace h := if_p c_1 h
        refine lv_iload_n hx hb dX10_orderAt_24 rfl (lv_at hl 1 rfl) ?_
        refine lv_bipush (v := (10 : Int32)) hx hb dX10_orderAt_25 (by decide) ?_
        refine lv_irem hx hb dX10_orderAt_27 (by decide) ?_
        exact pr_i hx hb hr hlocks dX10_orderAt_28 (Option.some.inj h)
      · replace h := if_n c_1 h
        refine lv_iload_n hx hb dX10_orderAt_13 rfl (lv_at hl 1 rfl) ?_
        refine lv_bipush (v := (10 : Int32)) hx hb dX10_orderAt_14 (by decide) ?_
        refine lv_idiv hx hb dX10_orderAt_16 (by decide) ?_
        refine lv_istore_n (lv' := [(3, .int (x3 / (10 : Int32))), (2, .int x2), (4, .int x4)]) hx hb dX10_orderAt_17 rfl hl (by decide) rfl (fun ls hl => ?_)
        refine lv_iinc (v := (x4 + (-1 : Int32))) (lv' := [(4, .int (x4 + (-1 : Int32))), (3, .int (x3 / (10 : Int32))), (2, .int x2)]) hx hb dX10_orderAt_18 hl (k := 2) rfl rfl (by decide) rfl (fun ls hl => ?_)
        refine lv_goto (tgt := 7) hx hb dX10_orderAt_21 (by decide) ?_
        exact ih x2 (x3 / (10 : Int32)) (x4 + (-1 : Int32)) ls (lv_sub hl [2, 1, 0] rfl) h
  unfold f_X10_orderAt at h
  refine lv_iload_n hx hb dX10_orderAt_0 rfl (lv_at hl 0 rfl) ?_
  refine lv_istore_n (lv' := [(3, .int p0), (0, .int p0), (1, .int p1), (2, .int p2)]) hx hb dX10_orderAt_1 rfl hl (by decide) rfl (fun ls hl => ?_)
  refine lv_iload_n hx hb dX10_orderAt_2 rfl (lv_at hl 2 rfl) ?_
  refine lv_iconst (v := (1 : Int32)) hx hb dX10_orderAt_3 (by decide) ?_
  refine lv_isub hx hb dX10_orderAt_4 ?_
  refine lv_istore (lv' := [(4, .int (p1 - (1 : Int32))), (3, .int p0), (0, .int p0), (1, .int p1), (2, .int p2)]) hx hb dX10_orderAt_5 hl (by decide) rfl (fun ls hl => ?_)
  exact L7 300 p2 p0 (p1 - (1 : Int32)) ls (lv_sub hl [4, 1, 0] rfl) h

def f_X10_staysOf_L12 (M_streak : Int32) (M_slips : Nat → Int32) (M_lates : Nat → Int32) : Nat → Int32 → Int32 → Int32 → Int32 → Int64 → Int32 → Option (Int64)
  | 0, _, _, _, _, _, _ => none
  | n + 1, x1, x2, x3, x4, x5, x7 => (if x3 ≤ x7 then some x5 else (Option.bind (f_X10_orderAt x2 x3 x7) (fun y2 => (Option.bind (f_X10_errsOf M_slips M_lates x1 y2 x4) (fun y3 => f_X10_staysOf_L12 M_streak M_slips M_lates n x1 x2 x3 (f_X10_streakBehind x4 y2) (x5 * (((10 : Int32) - y3).toInt64)) (x7 + (1 : Int32)))))))
def f_X10_staysOf (M_streak : Int32) (M_slips : Nat → Int32) (M_lates : Nat → Int32) (p1 : Int32) (p2 : Int32) (p3 : Int32) : Option (Int64) := f_X10_staysOf_L12 M_streak M_slips M_lates 300 p1 p2 p3 M_streak (1 : Int64) (0 : Int32)
set_option maxHeartbeats 8000000 in
set_option maxRecDepth 100000 in
theorem c_X10_staysOf (l : Launch) (D : va_G) (cI cJ cZ cO : ClassId) (aM : Nat) (aM_slips : Nat) (aM_lates : Nat) (aM_text : Nat) (aM_copies : Nat) (aM_before : Nat) (aM_images : Nat) (aM_kept : Nat) (aM_read : Nat) (M_size : Int32) (M_many : Int32) (M_little : Int32) (M_in : Int32) (M_streak : Int32) (M_lot : Int32) (M_undos : Int32) (M_trace : Int64) (M_at : Int32) (M_begin : Int32) (M_kind : Int32) (M_value : Int64) (M_readMany : Int32) (M_readLittle : Int32) (M_below : Int64) (M_slips : Nat → Int32) (M_lates : Nat → Int32)  (p1 : Int32) (p2 : Int32) (p3 : Int32)  (y0 : Int64) (h : f_X10_staysOf M_streak M_slips M_lates p1 p2 p3 = some y0) : Met l yX10_staysOf wsX10_staysOf ({ frames := 1, cells := 0, slots := 0, locals := 24 } : Room) (va_Pc [.ref aM, .int p1, .int p2, .int p3] (fun U => va_P D vwCl [(aM, .inr (10, [.ref aM_text, .int M_size, .int M_many, .ref aM_slips, .ref aM_lates, .ref aM_copies, .int M_little, .int M_in, .int M_streak, .int M_lot, .int M_undos, .ref aM_before, .ref aM_images, .ref aM_kept, .long M_trace, .int M_at, .int M_begin, .int M_kind, .long M_value, .int M_readMany, .int M_readLittle, .ref aM_read, .long M_below])), (aM_slips, .inl (cI, 6, .inl M_slips)), (aM_lates, .inl (cI, 6, .inl M_lates))] U.heap ∧ KK D cI cJ cZ cO U)) (vp_Sl (fun r => r = y0)) 0 0 (fun _ => False) := by
  refine Met.ofW (cc := cX10_staysOf) (maxL := 9) (ret := (some .long)) (by decide) rfl ?_
  intro p e s m args below meth c s₁ B hml hv
  obtain ⟨rfl, hP, hKK⟩ := hv
  have hx := B.exec
  have hb := B.bytes
  have hr := B.returns
  have hts := atoms_spec (ws := wsX10_staysOf) B.pre
  have hown : s.vm.findClass RX10 = some m.cls := findClass_of_methodNamed B.named
  have hlocks := B.notSynchronized
  have hK := hKK.1
  have fl_122 := hts (.fieldLink RX10 122 "SimonSaysModel" "streak" "I") (by decide +kernel)
  have inX10 : ∀ w ∈ wsX100, w ∈ wsX10_staysOf := by decide +kernel
  have hl := lv_entry ([.ref aM, .int p1, .int p2, .int p3]) (n := 9) (Nat.le_of_ble_eq_true rfl)
  rw [lg_entry_eq]
  generalize (lg_sl ([.ref aM, .int p1, .int p2, .int p3]) ++ List.replicate (9 - (lg_sl ([.ref aM, .int p1, .int p2, .int p3])).length) Slot.unset).toArray = ls at hl ⊢
  have hl : lv_has ls 9 [(0, .ref aM), (1, .int p1), (2, .int p2), (3, .int p3)] := hl
  have L12 : ∀ (n : Nat), ∀ (x1 : Int32) (x2 : Int32) (x3 : Int32) (x4 : Int32) (x5 : Int64) (x7 : Int32), ∀ (ls : Array Slot), lv_has ls 9 [(0, .ref aM), (1, .int x1), (2, .int x2), (3, .int x3), (4, .int x4), (5, .long x5), (7, .int x7)] → f_X10_staysOf_L12 M_streak M_slips M_lates n x1 x2 x3 x4 x5 x7 = some y0 → W p l e (headSpec wsX10_staysOf ({ frames := 1, cells := 0, slots := 0, locals := 24 } : Room)).room s m ([.ref aM, .int p1, .int p2, .int p3] : List Value).toArray below meth c s.heap [] 0 0 (MQ below (vp_Sl (fun r => r = y0)) ([.ref aM, .int p1, .int p2, .int p3] : List Value).toArray s 0 0 (fun _ => False)) (F0 m 12 ls []) := by
    intro n
    induction n with
    | zero =>
      intro x1 x2 x3 x4 x5 x7 ls hl h
      exact (ns h).elim
    | succ n ih =>
      intro x1 x2 x3 x4 x5 x7 ls hl h
      unfold f_X10_staysOf_L12 at h
      refine lv_iload hx hb dX10_staysOf_12 (lv_at hl 6 rfl) ?_
      refine lv_iload_n hx hb dX10_staysOf_14 rfl (lv_at hl 3 rfl) ?_
      refine lv_icmp_ge (tgt := 60) hx hb dX10_staysOf_15 (by decide) (fun c_1 => ?_) (fun c_1 => ?_)
      · replace h := if_p c_1 h
        refine lv_lload hx hb dX10_staysOf_60 (lv_at hl 5 rfl) ?_
        exact pr_l hx hb hr hlocks dX10_staysOf_62 (Option.some.inj h)
      · replace h := if_n c_1 h
        refine lv_iload_n hx hb dX10_staysOf_18 rfl (lv_at hl 2 rfl) ?_
        refine lv_iload_n hx hb dX10_staysOf_19 rfl (lv_at hl 3 rfl) ?_
        refine lv_iload hx hb dX10_staysOf_20 (lv_at hl 6 rfl) ?_
        obtain ⟨y2, qy2, h⟩ := ob_some h
        have hPc : va_P D vwCl [] s.heap := hP.sub [] rfl
        refine vp_callSi (va_Run.run (va_runS (As := [.int x2, .int x3, .int x7]) (rest := []) ⟨hx, hb, hml, hown, hts⟩ (c_X10_orderAt l D cI cJ cZ cO x2 x3 x7 y2 qy2) (cwS 3 hts gX10_staysOf_X10_orderAt rfl rfl rfl (by decide +kernel) ⟨Nat.le_of_ble_eq_true rfl, Nat.le_of_ble_eq_true rfl⟩) ⟨fb_p, fun U hU hW => ⟨rfl, by rw [hU]; exact hPc, KK.warm hW hKK⟩⟩ rfl rfl hl.1 rfl (lv_room (Nat.le_of_ble_eq_true rfl)) dX10_staysOf_22 ⟨Nat.le_of_ble_eq_true rfl, Nat.le_of_ble_eq_true rfl⟩)) (fun r hr => ?_)
        replace hr := hr.symm
        subst hr
        refine lv_istore (lv' := [(8, .int y2), (0, .ref aM), (1, .int x1), (2, .int x2), (3, .int x3), (4, .int x4), (5, .long x5), (7, .int x7)]) hx hb dX10_staysOf_25 hl (by decide) rfl (fun ls hl => ?_)
        refine lv_lload hx hb dX10_staysOf_27 (lv_at hl 6 rfl) ?_
        refine lv_bipush (v := (10 : Int32)) hx hb dX10_staysOf_29 (by decide) ?_
        refine lv_aload_n hx hb dX10_staysOf_31 rfl (lv_at hl 1 rfl) ?_
        refine lv_iload_n hx hb dX10_staysOf_32 rfl (lv_at hl 2 rfl) ?_
        refine lv_iload hx hb dX10_staysOf_33 (lv_at hl 0 rfl) ?_
        refine lv_iload hx hb dX10_staysOf_35 (lv_at hl 5 rfl) ?_
        obtain ⟨y3, qy3, h⟩ := ob_some h
        have hPc : va_P D vwCl [(aM, .inr (10, [.ref aM_text, .int M_size, .int M_many, .ref aM_slips, .ref aM_lates, .ref aM_copies, .int M_little, .int M_in, .int M_streak, .int M_lot, .int M_undos, .ref aM_before, .ref aM_images, .ref aM_kept, .long M_trace, .int M_at, .int M_begin, .int M_kind, .long M_value, .int M_readMany, .int M_readLittle, .ref aM_read, .long M_below])), (aM_slips, .inl (cI, 6, .inl M_slips)), (aM_lates, .inl (cI, 6, .inl M_lates))] s.heap := hP.sub [0, 1, 2] rfl
        refine vp_callSi (va_Run.run (va_runV (As := [.int x1, .int y2, .int x4]) (rest := [.int (10 : Int32), .long x5]) ⟨hx, hb, hml, hown, hts⟩ (c_X10_errsOf l D cI cJ cZ cO aM aM_slips aM_lates aM_text aM_copies aM_before aM_images aM_kept aM_read M_size M_many M_little M_in M_streak M_lot M_undos M_trace M_at M_begin M_kind M_value M_readMany M_readLittle M_below M_slips M_lates x1 y2 x4 y3 qy3) (cwV 3 hts gX10_staysOf_X10_errsOf rfl rfl rfl (by decide +kernel) ⟨Nat.le_of_ble_eq_true rfl, Nat.le_of_ble_eq_true rfl⟩) ⟨fb_p, va_recv hK hP (ci := 10) (q0 := 0) rfl rfl, fun U hU hW => ⟨rfl, by rw [hU]; exact hPc, KK.warm hW hKK⟩⟩ rfl rfl hl.1 rfl (lv_room (Nat.le_of_ble_eq_true rfl)) dX10_staysOf_37 ⟨Nat.le_of_ble_eq_true rfl, Nat.le_of_ble_eq_true rfl⟩)) (fun r hr => ?_)
        replace hr := hr.symm
        subst hr
        refine lv_isub hx hb dX10_staysOf_40 ?_
        refine lv_i2l (v := ((10 : Int32) - y3).toInt64) hx hb dX10_staysOf_41 rfl ?_
        refine lv_lmul hx hb dX10_staysOf_42 ?_
        refine lv_lstore (lv' := [(5, .long (x5 * (((10 : Int32) - y3).toInt64))), (8, .int y2), (0, .ref aM), (1, .int x1), (2, .int x2), (3, .int x3), (4, .int x4), (7, .int x7)]) hx hb dX10_staysOf_43 hl (by decide) rfl (fun ls hl => ?_)
        refine lv_iload hx hb dX10_staysOf_45 (lv_at hl 6 rfl) ?_
        refine lv_iload hx hb dX10_staysOf_47 (lv_at hl 1 rfl) ?_
        have hPc : va_P D vwCl [] s.heap := hP.sub [] rfl
        refine vp_callSi (va_Run.run (va_runS (As := [.int x4, .int y2]) (rest := []) ⟨hx, hb, hml, hown, hts⟩ (c_X10_streakBehind l D cI cJ cZ cO x4 y2 _ rfl) (cwS 2 hts gX10_staysOf_X10_streakBehind rfl rfl rfl (by decide +kernel) ⟨Nat.le_of_ble_eq_true rfl, Nat.le_of_ble_eq_true rfl⟩) ⟨fb_p, fun U hU hW => ⟨rfl, by rw [hU]; exact hPc, KK.warm hW hKK⟩⟩ rfl rfl hl.1 rfl (lv_room (Nat.le_of_ble_eq_true rfl)) dX10_staysOf_49 ⟨Nat.le_of_ble_eq_true rfl, Nat.le_of_ble_eq_true rfl⟩)) (fun r hr => ?_)
        replace hr := hr.symm
        subst hr
        refine lv_istore (lv' := [(4, .int (f_X10_streakBehind x4 y2)), (5, .long (x5 * (((10 : Int32) - y3).toInt64))), (8, .int y2), (0, .ref aM), (1, .int x1), (2, .int x2), (3, .int x3), (7, .int x7)]) hx hb dX10_staysOf_52 hl (by decide) rfl (fun ls hl => ?_)
        refine lv_iinc (v := (x7 + (1 : Int32))) (lv' := [(7, .int (x7 + (1 : Int32))), (4, .int (f_X10_streakBehind x4 y2)), (5, .long (x5 * (((10 : Int32) - y3).toInt64))), (8, .int y2), (0, .ref aM), (1, .int x1), (2, .int x2), (3, .int x3)]) hx hb dX10_staysOf_54 hl (k := 7) rfl rfl (by decide) rfl (fun ls hl => ?_)
        refine lv_goto (tgt := 12) hx hb dX10_staysOf_57 (by decide) ?_
        exact ih x1 x2 x3 (f_X10_streakBehind x4 y2) (x5 * (((10 : Int32) - y3).toInt64)) (x7 + (1 : Int32)) ls (lv_sub hl [4, 5, 6, 7, 1, 2, 0] rfl) h
  unfold f_X10_staysOf at h
  refine lv_aload_n hx hb dX10_staysOf_0 rfl (lv_at hl 0 rfl) ?_
  refine va_get (D := D) (ci := 10) (v := .int M_streak) (C := RX10) (T := TX10) (N := 23) hx hb hts inX10 hown hK hP 0 rfl rfl 8 (by decide) fl_122 (fun _ h9 => h9) rfl dX10_staysOf_1 ?_
  refine lv_istore (lv' := [(4, .int M_streak), (0, .ref aM), (1, .int p1), (2, .int p2), (3, .int p3)]) hx hb dX10_staysOf_4 hl (by decide) rfl (fun ls hl => ?_)
  refine lv_lconst (v := (1 : Int64)) hx hb dX10_staysOf_6 (by decide) ?_
  refine lv_lstore (lv' := [(5, .long (1 : Int64)), (4, .int M_streak), (0, .ref aM), (1, .int p1), (2, .int p2), (3, .int p3)]) hx hb dX10_staysOf_7 hl (by decide) rfl (fun ls hl => ?_)
  refine lv_iconst (v := (0 : Int32)) hx hb dX10_staysOf_9 (by decide) ?_
  refine lv_istore (lv' := [(7, .int (0 : Int32)), (5, .long (1 : Int64)), (4, .int M_streak), (0, .ref aM), (1, .int p1), (2, .int p2), (3, .int p3)]) hx hb dX10_staysOf_10 hl (by decide) rfl (fun ls hl => ?_)
  exact L12 300 p1 p2 p3 M_streak (1 : Int64) (0 : Int32) ls (lv_sub hl [3, 4, 5, 6, 2, 1, 0] rfl) h

def f_X10_tens_L4  : Nat → Int32 → Int64 → Int32 → Option (Int64)
  | 0, _, _, _ => none
  | n + 1, x0, x1, x3 => (if x0 ≤ x3 then some x1 else f_X10_tens_L4 n x0 (x1 * (10 : Int64)) (x3 + (1 : Int32)))
def f_X10_tens (p0 : Int32) : Option (Int64) := f_X10_tens_L4 300 p0 (1 : Int64) (0 : Int32)
set_option maxHeartbeats 8000000 in
set_option maxRecDepth 100000 in
theorem c_X10_tens (l : Launch) (D : va_G) (cI cJ cZ cO : ClassId)   (p0 : Int32)  (y0 : Int64) (h : f_X10_tens p0 = some y0) : Met l yX10_tens wsX10_tens ({ frames := 0, cells := 0, slots := 0, locals := 0 } : Room) (va_Pc [.int p0] (fun U => va_P D vwCl [] U.heap ∧ KK D cI cJ cZ cO U)) (vp_Sl (fun r => r = y0)) 0 0 (fun _ => False) := by
  refine Met.ofW (cc := cX10_tens) (maxL := 4) (ret := (some .long)) (by decide) rfl ?_
  intro p e s m args below meth c s₁ B hml hv
  obtain ⟨rfl, hP, hKK⟩ := hv
  have hx := B.exec
  have hb := B.bytes
  have hr := B.returns
  have hts := atoms_spec (ws := wsX10_tens) B.pre
  have hown : s.vm.findClass RX10 = some m.cls := findClass_of_methodNamed B.named
  have hlocks := B.notSynchronized
  have hK := hKK.1
  have cst_81 := hts (.constantLong RX10 81 (10)) (by decide +kernel)
  have hl := lv_entry ([.int p0]) (n := 4) (Nat.le_of_ble_eq_true rfl)
  rw [lg_entry_eq]
  generalize (lg_sl ([.int p0]) ++ List.replicate (4 - (lg_sl ([.int p0])).length) Slot.unset).toArray = ls at hl ⊢
  have hl : lv_has ls 4 [(0, .int p0)] := hl
  have L4 : ∀ (n : Nat), ∀ (x0 : Int32) (x1 : Int64) (x3 : Int32), ∀ (ls : Array Slot), lv_has ls 4 [(0, .int x0), (1, .long x1), (3, .int x3)] → f_X10_tens_L4 n x0 x1 x3 = some y0 → W p l e (headSpec wsX10_tens ({ frames := 0, cells := 0, slots := 0, locals := 0 } : Room)).room s m ([.int p0] : List Value).toArray below meth c s.heap [] 0 0 (MQ below (vp_Sl (fun r => r = y0)) ([.int p0] : List Value).toArray s 0 0 (fun _ => False)) (F0 m 4 ls []) := by
    intro n
    induction n with
    | zero =>
      intro x0 x1 x3 ls hl h
      exact (ns h).elim
    | succ n ih =>
      intro x0 x1 x3 ls hl h
      unfold f_X10_tens_L4 at h
      refine lv_iload_n hx hb dX10_tens_4 rfl (lv_at hl 2 rfl) ?_
      refine lv_iload_n hx hb dX10_tens_5 rfl (lv_at hl 0 rfl) ?_
      refine lv_icmp_ge (tgt := 21) hx hb dX10_tens_6 (by decide) (fun c_1 => ?_) (fun c_1 => ?_)
      · replace h := if_p c_1 h
        refine lv_lload_n hx hb dX10_tens_21 rfl (lv_at hl 1 rfl) ?_
        exact pr_l hx hb hr hlocks dX10_tens_22 (Option.some.inj h)
      · replace h := if_n c_1 h
        refine lv_lload_n hx hb dX10_tens_9 rfl (lv_at hl 1 rfl) ?_
        refine lv_ldc2 (v := (10 : Int64)) hx hb hown cst_81 dX10_tens_10 ?_
        refine lv_lmul hx hb dX10_tens_13 ?_
        refine lv_lstore_n (lv' := [(1, .long (x1 * (10 : Int64))), (0, .int x0), (3, .int x3)]) hx hb dX10_tens_14 rfl hl (by decide) rfl (fun ls hl => ?_)
        refine lv_iinc (v := (x3 + (1 : Int32))) (lv' := [(3, .int (x3 + (1 : Int32))), (1, .long (x1 * (10 : Int64))), (0, .int x0)]) hx hb dX10_tens_15 hl (k := 2) rfl rfl (by decide) rfl (fun ls hl => ?_)
        refine lv_goto (tgt := 4) hx hb dX10_tens_18 (by decide) ?_
        exact ih x0 (x1 * (10 : Int64)) (x3 + (1 : Int32)) ls (lv_sub hl [2, 1, 0] rfl) h
  unfold f_X10_tens at h
  refine lv_lconst (v := (1 : Int64)) hx hb dX10_tens_0 (by decide) ?_
  refine lv_lstore_n (lv' := [(1, .long (1 : Int64)), (0, .int p0)]) hx hb dX10_tens_1 rfl hl (by decide) rfl (fun ls hl => ?_)
  refine lv_iconst (v := (0 : Int32)) hx hb dX10_tens_2 (by decide) ?_
  refine lv_istore_n (lv' := [(3, .int (0 : Int32)), (1, .long (1 : Int64)), (0, .int p0)]) hx hb dX10_tens_3 rfl hl (by decide) rfl (fun ls hl => ?_)
  exact L4 300 p0 (1 : Int64) (0 : Int32) ls (lv_sub hl [2, 1, 0] rfl) h

def f_X10_stays_L65 (M_many : Int32) (M_in : Int32) (M_streak : Int32) (M_slips : Nat → Int32) (M_lates : Nat → Int32) (M_copies : Nat → Int32) (t0 : Int64) (x3 : Int32) (x4 : Int32) : Option (Int64) := (Option.bind (f_X10_tens x4) (fun y12 => (Option.bind (f_X10_part t0 y12 x3) (fun y13 => some y13))))
def f_X10_stays (M_many : Int32) (M_in : Int32) (M_streak : Int32) (M_slips : Nat → Int32) (M_lates : Nat → Int32) (M_copies : Nat → Int32) (p1 : Int32) (p2 : Int32) (p3 : Int32) : Option (Int64) := (Option.bind (f_X10_ordersIn p2) (fun y1 => (if (f_X10_isChild M_many p1) = 0 then some (-1 : Int64) else (if (f_X10_within y1.toInt64 (0 : Int64) (9 : Int64)) = 0 then some (-1 : Int64) else (if (f_X10_isPart p3) = 0 then some (-1 : Int64) else (if (f_X10_has M_in p1) = 0 then f_X10_stays_L65 M_many M_in M_streak M_slips M_lates M_copies (0 : Int64) p3 y1 else (Option.bind (f_X10_leaderOf M_in M_copies p1) (fun y10 => (Option.bind (f_X10_staysOf M_streak M_slips M_lates y10 p2 y1) (fun y11 => f_X10_stays_L65 M_many M_in M_streak M_slips M_lates M_copies y11 p3 y1))))))))))
set_option maxHeartbeats 8000000 in
set_option maxRecDepth 100000 in
theorem c_X10_stays (l : Launch) (D : va_G) (cI cJ cZ cO : ClassId) (aM : Nat) (aM_slips : Nat) (aM_lates : Nat) (aM_copies : Nat) (aM_text : Nat) (aM_before : Nat) (aM_images : Nat) (aM_kept : Nat) (aM_read : Nat) (M_size : Int32) (M_many : Int32) (M_little : Int32) (M_in : Int32) (M_streak : Int32) (M_lot : Int32) (M_undos : Int32) (M_trace : Int64) (M_at : Int32) (M_begin : Int32) (M_kind : Int32) (M_value : Int64) (M_readMany : Int32) (M_readLittle : Int32) (M_below : Int64) (M_slips : Nat → Int32) (M_lates : Nat → Int32) (M_copies : Nat → Int32)  (p1 : Int32) (p2 : Int32) (p3 : Int32)  (y0 : Int64) (h : f_X10_stays M_many M_in M_streak M_slips M_lates M_copies p1 p2 p3 = some y0) : Met l yX10_stays wsX10_stays ({ frames := 3, cells := 0, slots := 0, locals := 68 } : Room) (va_Pc [.ref aM, .int p1, .int p2, .int p3] (fun U => va_P D vwCl [(aM, .inr (10, [.ref aM_text, .int M_size, .int M_many, .ref aM_slips, .ref aM_lates, .ref aM_copies, .int M_little, .int M_in, .int M_streak, .int M_lot, .int M_undos, .ref aM_before, .ref aM_images, .ref aM_kept, .long M_trace, .int M_at, .int M_begin, .int M_kind, .long M_value, .int M_readMany, .int M_readLittle, .ref aM_read, .long M_below])), (aM_slips, .inl (cI, 6, .inl M_slips)), (aM_lates, .inl (cI, 6, .inl M_lates)), (aM_copies, .inl (cI, 6, .inl M_copies))] U.heap ∧ KK D cI cJ cZ cO U)) (vp_Sl (fun r => r = y0)) 0 0 (fun _ => False) := by
  refine Met.ofW (cc := cX10_stays) (maxL := 5) (ret := (some .long)) (by decide) rfl ?_
  intro p e s m args below meth c s₁ B hml hv
  obtain ⟨rfl, hP, hKK⟩ := hv
  have hx := B.exec
  have hb := B.bytes
  have hr := B.returns
  have hts := atoms_spec (ws := wsX10_stays) B.pre
  have hown : s.vm.findClass RX10 = some m.cls := findClass_of_methodNamed B.named
  have hlocks := B.notSynchronized
  have hK := hKK.1
  have fl_119 := hts (.fieldLink RX10 119 "SimonSaysModel" "in" "I") (by decide +kernel)
  have cst_79 := hts (.constantLong RX10 79 (-1)) (by decide +kernel)
  have cst_97 := hts (.constantLong RX10 97 (9)) (by decide +kernel)
  have inX10 : ∀ w ∈ wsX100, w ∈ wsX10_stays := by decide +kernel
  have hl := lv_entry ([.ref aM, .int p1, .int p2, .int p3]) (n := 5) (Nat.le_of_ble_eq_true rfl)
  rw [lg_entry_eq]
  generalize (lg_sl ([.ref aM, .int p1, .int p2, .int p3]) ++ List.replicate (5 - (lg_sl ([.ref aM, .int p1, .int p2, .int p3])).length) Slot.unset).toArray = ls at hl ⊢
  have hl : lv_has ls 5 [(0, .ref aM), (1, .int p1), (2, .int p2), (3, .int p3)] := hl
  have L65 : ∀ (t0 : Int64) (x3 : Int32) (x4 : Int32), ∀ (ls : Array Slot), lv_has ls 5 [(0, .ref aM), (3, .int x3), (4, .int x4)] → f_X10_stays_L65 M_many M_in M_streak M_slips M_lates M_copies t0 x3 x4 = some y0 → W p l e (headSpec wsX10_stays ({ frames := 3, cells := 0, slots := 0, locals := 68 } : Room)).room s m ([.ref aM, .int p1, .int p2, .int p3] : List Value).toArray below meth c s.heap [] 0 0 (MQ below (vp_Sl (fun r => r = y0)) ([.ref aM, .int p1, .int p2, .int p3] : List Value).toArray s 0 0 (fun _ => False)) (F0 m 65 ls [.long t0]) := by
    intro t0 x3 x4 ls hl h
    unfold f_X10_stays_L65 at h
    refine lv_iload hx hb dX10_stays_65 (lv_at hl 2 rfl) ?_
    obtain ⟨y12, qy12, h⟩ := ob_some h
    have hPc : va_P D vwCl [] s.heap := hP.sub [] rfl
    refine vp_callSl (va_Run.run (va_runS (As := [.int x4]) (rest := [.long t0]) ⟨hx, hb, hml, hown, hts⟩ (c_X10_tens l D cI cJ cZ cO x4 y12 qy12) (cwS 1 hts gX10_stays_X10_tens rfl rfl rfl (by decide +kernel) ⟨Nat.le_of_ble_eq_true rfl, Nat.le_of_ble_eq_true rfl⟩) ⟨fb_p, fun U hU hW => ⟨rfl, by rw [hU]; exact hPc, KK.warm hW hKK⟩⟩ rfl rfl hl.1 rfl (lv_room (Nat.le_of_ble_eq_true rfl)) dX10_stays_67 ⟨Nat.le_of_ble_eq_true rfl, Nat.le_of_ble_eq_true rfl⟩)) (fun r hr => ?_)
    replace hr := hr.symm
    subst hr
    refine lv_iload_n hx hb dX10_stays_70 rfl (lv_at hl 1 rfl) ?_
    obtain ⟨y13, qy13, h⟩ := ob_some h
    have hPc : va_P D vwCl [] s.heap := hP.sub [] rfl
    refine vp_callSl (va_Run.run (va_runS (As := [.long t0, .long y12, .int x3]) (rest := []) ⟨hx, hb, hml, hown, hts⟩ (c_X10_part l D cI cJ cZ cO t0 y12 x3 y13 qy13) (cwS 3 hts gX10_stays_X10_part rfl rfl rfl (by decide +kernel) ⟨Nat.le_of_ble_eq_true rfl, Nat.le_of_ble_eq_true rfl⟩) ⟨fb_p, fun U hU hW => ⟨rfl, by rw [hU]; exact hPc, KK.warm hW hKK⟩⟩ rfl rfl hl.1 rfl (lv_room (Nat.le_of_ble_eq_true rfl)) dX10_stays_71 ⟨Nat.le_of_ble_eq_true rfl, Nat.le_of_ble_eq_true rfl⟩)) (fun r hr => ?_)
    replace hr := hr.symm
    subst hr
    exact pr_l hx hb hr hlocks dX10_stays_74 (Option.some.inj h)
  unfold f_X10_stays at h
  refine lv_iload_n hx hb dX10_stays_0 rfl (lv_at hl 2 rfl) ?_
  obtain ⟨y1, qy1, h⟩ := ob_some h
  have hPc : va_P D vwCl [] s.heap := hP.sub [] rfl
  refine vp_callSi (va_Run.run (va_runS (As := [.int p2]) (rest := []) ⟨hx, hb, hml, hown, hts⟩ (c_X10_ordersIn l D cI cJ cZ cO p2 y1 qy1) (cwS 1 hts gX10_stays_X10_ordersIn rfl rfl rfl (by decide +kernel) ⟨Nat.le_of_ble_eq_true rfl, Nat.le_of_ble_eq_true rfl⟩) ⟨fb_p, fun U hU hW => ⟨rfl, by rw [hU]; exact hPc, KK.warm hW hKK⟩⟩ rfl rfl hl.1 rfl (lv_room (Nat.le_of_ble_eq_true rfl)) dX10_stays_1 ⟨Nat.le_of_ble_eq_true rfl, Nat.le_of_ble_eq_true rfl⟩)) (fun r hr => ?_)
  replace hr := hr.symm
  subst hr
  refine lv_istore (lv' := [(4, .int y1), (0, .ref aM), (1, .int p1), (2, .int p2), (3, .int p3)]) hx hb dX10_stays_4 hl (by decide) rfl (fun ls hl => ?_)
  refine lv_aload_n hx hb dX10_stays_6 rfl (lv_at hl 1 rfl) ?_
  refine lv_iload_n hx hb dX10_stays_7 rfl (lv_at hl 2 rfl) ?_
  have hPc : va_P D vwCl [(aM, .inr (10, [.ref aM_text, .int M_size, .int M_many, .ref aM_slips, .ref aM_lates, .ref aM_copies, .int M_little, .int M_in, .int M_streak, .int M_lot, .int M_undos, .ref aM_before, .ref aM_images, .ref aM_kept, .long M_trace, .int M_at, .int M_begin, .int M_kind, .long M_value, .int M_readMany, .int M_readLittle, .ref aM_read, .long M_below]))] s.heap := hP.sub [0] rfl
  refine vp_callSi (va_Run.run (va_runV (As := [.int p1]) (rest := []) ⟨hx, hb, hml, hown, hts⟩ (c_X10_isChild l D cI cJ cZ cO aM aM_text aM_slips aM_lates aM_copies aM_before aM_images aM_kept aM_read M_size M_many M_little M_in M_streak M_lot M_undos M_trace M_at M_begin M_kind M_value M_readMany M_readLittle M_below p1 _ rfl) (cwV 1 hts gX10_stays_X10_isChild rfl rfl rfl (by decide +kernel) ⟨Nat.le_of_ble_eq_true rfl, Nat.le_of_ble_eq_true rfl⟩) ⟨fb_p, va_recv hK hP (ci := 10) (q0 := 0) rfl rfl, fun U hU hW => ⟨rfl, by rw [hU]; exact hPc, KK.warm hW hKK⟩⟩ rfl rfl hl.1 rfl (lv_room (Nat.le_of_ble_eq_true rfl)) dX10_stays_8 ⟨Nat.le_of_ble_eq_true rfl, Nat.le_of_ble_eq_true rfl⟩)) (fun r hr => ?_)
  obtain ⟨hr, hz2⟩ := hr
  replace hr := hr.symm
  subst hr
  refine lv_if_eq (tgt := 34) hx hb dX10_stays_11 (by decide) (fun c_3 => ?_) (fun c_3 => ?_)
  · replace h := if_p c_3 h
    refine lv_ldc2 (v := (-1 : Int64)) hx hb hown cst_79 dX10_stays_34 ?_
    exact pr_l hx hb hr hlocks dX10_stays_37 (Option.some.inj h)
  · replace h := if_n c_3 h
    refine lv_iload hx hb dX10_stays_14 (lv_at hl 0 rfl) ?_
    refine lv_i2l (v := y1.toInt64) hx hb dX10_stays_16 rfl ?_
    refine lv_lconst (v := (0 : Int64)) hx hb dX10_stays_17 (by decide) ?_
    refine lv_ldc2 (v := (9 : Int64)) hx hb hown cst_97 dX10_stays_18 ?_
    have hPc : va_P D vwCl [] s.heap := hP.sub [] rfl
    refine vp_callSi (va_Run.run (va_runS (As := [.long y1.toInt64, .long (0 : Int64), .long (9 : Int64)]) (rest := []) ⟨hx, hb, hml, hown, hts⟩ (c_X10_within l D cI cJ cZ cO y1.toInt64 (0 : Int64) (9 : Int64) _ rfl) (cwS 3 hts gX10_stays_X10_within rfl rfl rfl (by decide +kernel) ⟨Nat.le_of_ble_eq_true rfl, Nat.le_of_ble_eq_true rfl⟩) ⟨fb_p, fun U hU hW => ⟨rfl, by rw [hU]; exact hPc, KK.warm hW hKK⟩⟩ rfl rfl hl.1 rfl (lv_room (Nat.le_of_ble_eq_true rfl)) dX10_stays_21 ⟨Nat.le_of_ble_eq_true rfl, Nat.le_of_ble_eq_true rfl⟩)) (fun r hr => ?_)
    obtain ⟨hr, hz4⟩ := hr
    replace hr := hr.symm
    subst hr
    refine lv_if_eq (tgt := 34) hx hb dX10_stays_24 (by decide) (fun c_5 => ?_) (fun c_5 => ?_)
    · replace h := if_p c_5 h
      refine lv_ldc2 (v := (-1 : Int64)) hx hb hown cst_79 dX10_stays_34 ?_
      exact pr_l hx hb hr hlocks dX10_stays_37 (Option.some.inj h)
    · replace h := if_n c_5 h
      refine lv_iload_n hx hb dX10_stays_27 rfl (lv_at hl 4 rfl) ?_
      have hPc : va_P D vwCl [] s.heap := hP.sub [] rfl
      refine vp_callSi (va_Run.run (va_runS (As := [.int p3]) (rest := []) ⟨hx, hb, hml, hown, hts⟩ (c_X10_isPart l D cI cJ cZ cO p3 _ rfl) (cwS 1 hts gX10_stays_X10_isPart rfl rfl rfl (by decide +kernel) ⟨Nat.le_of_ble_eq_true rfl, Nat.le_of_ble_eq_true rfl⟩) ⟨fb_p, fun U hU hW => ⟨rfl, by rw [hU]; exact hPc, KK.warm hW hKK⟩⟩ rfl rfl hl.1 rfl (lv_room (Nat.le_of_ble_eq_true rfl)) dX10_stays_28 ⟨Nat.le_of_ble_eq_true rfl, Nat.le_of_ble_eq_true rfl⟩)) (fun r hr => ?_)
      obtain ⟨hr, hz6⟩ := hr
      replace hr := hr.symm
      subst hr
      refine lv_if_ne (tgt := 38) hx hb dX10_stays_31 (by decide) (fun c_7 => ?_) (fun c_7 => ?_)
      · replace h := if_n c_7 h
        refine lv_aload_n hx hb dX10_stays_38 rfl (lv_at hl 1 rfl) ?_
        refine va_get (D := D) (ci := 10) (v := .int M_in) (C := RX10) (T := TX10) (N := 23) hx hb hts inX10 hown hK hP 0 rfl rfl 7 (by decide) fl_119 (fun _ h9 => h9) rfl dX10_stays_39 ?_
        refine lv_iload_n hx hb dX10_stays_42 rfl (lv_at hl 2 rfl) ?_
        have hPc : va_P D vwCl [] s.heap := hP.sub [] rfl
        refine vp_callSi (va_Run.run (va_runS (As := [.int M_in, .int p1]) (rest := []) ⟨hx, hb, hml, hown, hts⟩ (c_X10_has l D cI cJ cZ cO M_in p1 _ rfl) (cwS 2 hts gX10_stays_X10_has rfl rfl rfl (by decide +kernel) ⟨Nat.le_of_ble_eq_true rfl, Nat.le_of_ble_eq_true rfl⟩) ⟨fb_p, fun U hU hW => ⟨rfl, by rw [hU]; exact hPc, KK.warm hW hKK⟩⟩ rfl rfl hl.1 rfl (lv_room (Nat.le_of_ble_eq_true rfl)) dX10_stays_43 ⟨Nat.le_of_ble_eq_true rfl, Nat.le_of_ble_eq_true rfl⟩)) (fun r hr => ?_)
        obtain ⟨hr, hz8⟩ := hr
        replace hr := hr.symm
        subst hr
        refine lv_if_eq (tgt := 64) hx hb dX10_stays_46 (by decide) (fun c_9 => ?_) (fun c_9 => ?_)
        · replace h := if_p c_9 h
          refine lv_lconst (v := (0 : Int64)) hx hb dX10_stays_64 (by decide) ?_
          exact L65 (0 : Int64) p3 y1 ls (lv_sub hl [1, 4, 0] rfl) h
        · replace h := if_n c_9 h
          refine lv_aload_n hx hb dX10_stays_49 rfl (lv_at hl 1 rfl) ?_
          refine lv_aload_n hx hb dX10_stays_50 rfl (lv_at hl 1 rfl) ?_
          refine lv_iload_n hx hb dX10_stays_51 rfl (lv_at hl 2 rfl) ?_
          obtain ⟨y10, qy10, h⟩ := ob_some h
          have hPc : va_P D vwCl [(aM, .inr (10, [.ref aM_text, .int M_size, .int M_many, .ref aM_slips, .ref aM_lates, .ref aM_copies, .int M_little, .int M_in, .int M_streak, .int M_lot, .int M_undos, .ref aM_before, .ref aM_images, .ref aM_kept, .long M_trace, .int M_at, .int M_begin, .int M_kind, .long M_value, .int M_readMany, .int M_readLittle, .ref aM_read, .long M_below])), (aM_copies, .inl (cI, 6, .inl M_copies))] s.heap := hP.sub [0, 3] rfl
          refine vp_callSi (va_Run.run (va_runV (As := [.int p1]) (rest := [.ref aM]) ⟨hx, hb, hml, hown, hts⟩ (c_X10_leaderOf l D cI cJ cZ cO aM aM_copies aM_text aM_slips aM_lates aM_before aM_images aM_kept aM_read M_size M_many M_little M_in M_streak M_lot M_undos M_trace M_at M_begin M_kind M_value M_readMany M_readLittle M_below M_copies p1 y10 qy10) (cwV 1 hts gX10_stays_X10_leaderOf rfl rfl rfl (by decide +kernel) ⟨Nat.le_of_ble_eq_true rfl, Nat.le_of_ble_eq_true rfl⟩) ⟨fb_p, va_recv hK hP (ci := 10) (q0 := 0) rfl rfl, fun U hU hW => ⟨rfl, by rw [hU]; exact hPc, KK.warm hW hKK⟩⟩ rfl rfl hl.1 rfl (lv_room (Nat.le_of_ble_eq_true rfl)) dX10_stays_52 ⟨Nat.le_of_ble_eq_true rfl, Nat.le_of_ble_eq_true rfl⟩)) (fun r hr => ?_)
          replace hr := hr.symm
          subst hr
          refine lv_iload_n hx hb dX10_stays_55 rfl (lv_at hl 3 rfl) ?_
          refine lv_iload hx hb dX10_stays_56 (lv_at hl 0 rfl) ?_
          obtain ⟨y11, qy11, h⟩ := ob_some h
          have hPc : va_P D vwCl [(aM, .inr (10, [.ref aM_text, .int M_size, .int M_many, .ref aM_slips, .ref aM_lates, .ref aM_copies, .int M_little, .int M_in, .int M_streak, .int M_lot, .int M_undos, .ref aM_before, .ref aM_images, .ref aM_kept, .long M_trace, .int M_at, .int M_begin, .int M_kind, .long M_value, .int M_readMany, .int M_readLittle, .ref aM_read, .long M_below])), (aM_slips, .inl (cI, 6, .inl M_slips)), (aM_lates, .inl (cI, 6, .inl M_lates))] s.heap := hP.sub [0, 1, 2] rfl
          refine vp_callSl (va_Run.run (va_runV (As := [.int y10, .int p2, .int y1]) (rest := []) ⟨hx, hb, hml, hown, hts⟩ (c_X10_staysOf l D cI cJ cZ cO aM aM_slips aM_lates aM_text aM_copies aM_before aM_images aM_kept aM_read M_size M_many M_little M_in M_streak M_lot M_undos M_trace M_at M_begin M_kind M_value M_readMany M_readLittle M_below M_slips M_lates y10 p2 y1 y11 qy11) (cwV 3 hts gX10_stays_X10_staysOf rfl rfl rfl (by decide +kernel) ⟨Nat.le_of_ble_eq_true rfl, Nat.le_of_ble_eq_true rfl⟩) ⟨fb_p, va_recv hK hP (ci := 10) (q0 := 0) rfl rfl, fun U hU hW => ⟨rfl, by rw [hU]; exact hPc, KK.warm hW hKK⟩⟩ rfl rfl hl.1 rfl (lv_room (Nat.le_of_ble_eq_true rfl)) dX10_stays_58 ⟨Nat.le_of_ble_eq_true rfl, Nat.le_of_ble_eq_true rfl⟩)) (fun r hr => ?_)
          replace hr := hr.symm
          subst hr
          refine lv_goto (tgt := 65) hx hb dX10_stays_61 (by decide) ?_
          exact L65 y11 p3 y1 ls (lv_sub hl [1, 4, 0] rfl) h
      · replace h := if_p c_7 h
        refine lv_ldc2 (v := (-1 : Int64)) hx hb hown cst_79 dX10_stays_34 ?_
        exact pr_l hx hb hr hlocks dX10_stays_37 (Option.some.inj h)

def f_X10_leftOf_L89 (M_many : Int32) (M_in : Int32) (M_streak : Int32) (M_slips : Nat → Int32) (M_lates : Nat → Int32) (M_copies : Nat → Int32) (k8 : Int64 → Int32 → Int32 → Int64 → Int32 → Int32 → Option (Int64 × Int64)) : Nat → Int64 → Int32 → Int32 → Int64 → Int32 → Int32 → Int64 → Int32 → Option (Int64 × Int64)
  | 0, _, _, _, _, _, _, _, _ => none
  | n + 1, M_below, x1, x2, x3, x5, x6, x8, x10 => (if M_many ≤ x10 then k8 M_below x1 x2 (x3 + x8) x5 (x6 + (1 : Int32)) else (if (f_X10_has M_in x10) = 0 then f_X10_leftOf_L89 M_many M_in M_streak M_slips M_lates M_copies k8 n M_below x1 x2 x3 x5 x6 x8 (x10 + (1 : Int32)) else (Option.bind (f_X10_leaderOf M_in M_copies x10) (fun y15 => (if y15 = x10 then (Option.bind (f_X10_staysOf M_streak M_slips M_lates x10 x1 x2) (fun y17 => (if x10 = x6 then f_X10_leftOf_L89 M_many M_in M_streak M_slips M_lates M_copies k8 n M_below x1 x2 x3 x5 x6 (x8 * y17) (x10 + (1 : Int32)) else (Option.bind (f_X10_tens x2) (fun y19 => f_X10_leftOf_L89 M_many M_in M_streak M_slips M_lates M_copies k8 n M_below x1 x2 x3 x5 x6 (x8 * (y19 - y17)) (x10 + (1 : Int32))))))) else f_X10_leftOf_L89 M_many M_in M_streak M_slips M_lates M_copies k8 n M_below x1 x2 x3 x5 x6 x8 (x10 + (1 : Int32)))))))
def f_X10_leftOf_L59 (M_many : Int32) (M_in : Int32) (M_streak : Int32) (M_slips : Nat → Int32) (M_lates : Nat → Int32) (M_copies : Nat → Int32) (k8 : Int64 → Int32 → Int32 → Int64 → Int32 → Int32 → Option (Int64 × Int64)) (M_below : Int64) (t0 : Int32) (t1 : Int32) (x1 : Int32) (x2 : Int32) (x3 : Int64) (x6 : Int32) (x7 : Int32) : Option (Int64 × Int64) := (if x7 = 0 then k8 M_below x1 x2 x3 (t1 + t0) (x6 + (1 : Int32)) else (Option.bind (f_X10_ledBy M_many M_in M_copies x6) (fun y9 => (Option.bind (f_X10_bits y9) (fun y10 => (if y10 ≤ (1 : Int32) then f_X10_leftOf_L89 M_many M_in M_streak M_slips M_lates M_copies k8 300 M_below x1 x2 x3 (t1 + t0) x6 (1 : Int64) (0 : Int32) else k8 M_below x1 x2 x3 (t1 + t0) (x6 + (1 : Int32))))))))
def f_X10_leftOf_L45 (M_many : Int32) (M_in : Int32) (M_streak : Int32) (M_slips : Nat → Int32) (M_lates : Nat → Int32) (M_copies : Nat → Int32) (k8 : Int64 → Int32 → Int32 → Int64 → Int32 → Int32 → Option (Int64 × Int64)) (M_below : Int64) (t0 : Int32) (x1 : Int32) (x2 : Int32) (x3 : Int64) (x5 : Int32) (x6 : Int32) : Option (Int64 × Int64) := (if t0 = 0 then f_X10_leftOf_L59 M_many M_in M_streak M_slips M_lates M_copies k8 M_below (0 : Int32) x5 x1 x2 x3 x6 t0 else f_X10_leftOf_L59 M_many M_in M_streak M_slips M_lates M_copies k8 M_below (1 : Int32) x5 x1 x2 x3 x6 t0)
def f_X10_leftOf_L44 (M_many : Int32) (M_in : Int32) (M_streak : Int32) (M_slips : Nat → Int32) (M_lates : Nat → Int32) (M_copies : Nat → Int32) (k8 : Int64 → Int32 → Int32 → Int64 → Int32 → Int32 → Option (Int64 × Int64)) (M_below : Int64) (x1 : Int32) (x2 : Int32) (x3 : Int64) (x5 : Int32) (x6 : Int32) : Option (Int64 × Int64) := f_X10_leftOf_L45 M_many M_in M_streak M_slips M_lates M_copies k8 M_below (0 : Int32) x1 x2 x3 x5 x6
def f_X10_leftOf_L8 (M_many : Int32) (M_in : Int32) (M_streak : Int32) (M_slips : Nat → Int32) (M_lates : Nat → Int32) (M_copies : Nat → Int32) : Nat → Int64 → Int32 → Int32 → Int64 → Int32 → Int32 → Option (Int64 × Int64)
  | 0, _, _, _, _, _, _ => none
  | n + 1, M_below, x1, x2, x3, x5, x6 => (if M_many ≤ x6 then (Option.bind (f_X10_tens (x2 * x5)) (fun y2 => some (x3, y2))) else (if (f_X10_has M_in x6) = 0 then f_X10_leftOf_L44 M_many M_in M_streak M_slips M_lates M_copies (f_X10_leftOf_L8 M_many M_in M_streak M_slips M_lates M_copies n) M_below x1 x2 x3 x5 x6 else (Option.bind (f_X10_leaderOf M_in M_copies x6) (fun y5 => (if y5 = x6 then f_X10_leftOf_L45 M_many M_in M_streak M_slips M_lates M_copies (f_X10_leftOf_L8 M_many M_in M_streak M_slips M_lates M_copies n) M_below (1 : Int32) x1 x2 x3 x5 x6 else f_X10_leftOf_L44 M_many M_in M_streak M_slips M_lates M_copies (f_X10_leftOf_L8 M_many M_in M_streak M_slips M_lates M_copies n) M_below x1 x2 x3 x5 x6)))))
def f_X10_leftOf (M_many : Int32) (M_in : Int32) (M_streak : Int32) (M_below : Int64) (M_slips : Nat → Int32) (M_lates : Nat → Int32) (M_copies : Nat → Int32) (p1 : Int32) (p2 : Int32) : Option (Int64 × Int64) := f_X10_leftOf_L8 M_many M_in M_streak M_slips M_lates M_copies 300 M_below p1 p2 (0 : Int64) (0 : Int32) (0 : Int32)
set_option maxHeartbeats 8000000 in
set_option maxRecDepth 100000 in
theorem c_X10_leftOf (l : Launch) (D : va_G) (cI cJ cZ cO : ClassId) (aM : Nat) (aM_slips : Nat) (aM_lates : Nat) (aM_copies : Nat) (aM_text : Nat) (aM_before : Nat) (aM_images : Nat) (aM_kept : Nat) (aM_read : Nat) (M_size : Int32) (M_many : Int32) (M_little : Int32) (M_in : Int32) (M_streak : Int32) (M_lot : Int32) (M_undos : Int32) (M_trace : Int64) (M_at : Int32) (M_begin : Int32) (M_kind : Int32) (M_value : Int64) (M_readMany : Int32) (M_readLittle : Int32) (M_below : Int64) (M_slips : Nat → Int32) (M_lates : Nat → Int32) (M_copies : Nat → Int32) (sz : Nat) (p1 : Int32) (p2 : Int32)  (y0 : Int64 × Int64) (h : f_X10_leftOf M_many M_in M_streak M_below M_slips M_lates M_copies p1 p2 = some y0) : Met l yX10_leftOf wsX10_leftOf ({ frames := 3, cells := 0, slots := 0, locals := 66 } : Room) (va_Pc [.ref aM, .int p1, .int p2] (fun U => U.heap.size = sz ∧ va_P D vwCl [(aM, .inr (10, [.ref aM_text, .int M_size, .int M_many, .ref aM_slips, .ref aM_lates, .ref aM_copies, .int M_little, .int M_in, .int M_streak, .int M_lot, .int M_undos, .ref aM_before, .ref aM_images, .ref aM_kept, .long M_trace, .int M_at, .int M_begin, .int M_kind, .long M_value, .int M_readMany, .int M_readLittle, .ref aM_read, .long M_below])), (aM_slips, .inl (cI, 6, .inl M_slips)), (aM_lates, .inl (cI, 6, .inl M_lates)), (aM_copies, .inl (cI, 6, .inl M_copies))] U.heap ∧ KK D cI cJ cZ cO U ∧ va_D (fun _ => True) [(aM, .inr (10, [.ref aM_text, .int M_size, .int M_many, .ref aM_slips, .ref aM_lates, .ref aM_copies, .int M_little, .int M_in, .int M_streak, .int M_lot, .int M_undos, .ref aM_before, .ref aM_images, .ref aM_kept, .long M_trace, .int M_at, .int M_begin, .int M_kind, .long M_value, .int M_readMany, .int M_readLittle, .ref aM_read, .long M_below])), (aM_slips, .inl (cI, 6, .inl M_slips)), (aM_lates, .inl (cI, 6, .inl M_lates)), (aM_copies, .inl (cI, 6, .inl M_copies))])) (va_Ql (fun (r : Int64) (_ : Unit) => r = y0.1) (fun (_ : Unit) t => va_P D vwCl [(aM, .inr (10, [.ref aM_text, .int M_size, .int M_many, .ref aM_slips, .ref aM_lates, .ref aM_copies, .int M_little, .int M_in, .int M_streak, .int M_lot, .int M_undos, .ref aM_before, .ref aM_images, .ref aM_kept, .long M_trace, .int M_at, .int M_begin, .int M_kind, .long M_value, .int M_readMany, .int M_readLittle, .ref aM_read, .long y0.2])), (aM_slips, .inl (cI, 6, .inl M_slips)), (aM_lates, .inl (cI, 6, .inl M_lates)), (aM_copies, .inl (cI, 6, .inl M_copies))] t.heap ∧ va_D (va_A [(aM, .inr (10, [.ref aM_text, .int M_size, .int M_many, .ref aM_slips, .ref aM_lates, .ref aM_copies, .int M_little, .int M_in, .int M_streak, .int M_lot, .int M_undos, .ref aM_before, .ref aM_images, .ref aM_kept, .long M_trace, .int M_at, .int M_begin, .int M_kind, .long M_value, .int M_readMany, .int M_readLittle, .ref aM_read, .long M_below])), (aM_slips, .inl (cI, 6, .inl M_slips)), (aM_lates, .inl (cI, 6, .inl M_lates)), (aM_copies, .inl (cI, 6, .inl M_copies))] sz) [(aM, .inr (10, [.ref aM_text, .int M_size, .int M_many, .ref aM_slips, .ref aM_lates, .ref aM_copies, .int M_little, .int M_in, .int M_streak, .int M_lot, .int M_undos, .ref aM_before, .ref aM_images, .ref aM_kept, .long M_trace, .int M_at, .int M_begin, .int M_kind, .long M_value, .int M_readMany, .int M_readLittle, .ref aM_read, .long y0.2])), (aM_slips, .inl (cI, 6, .inl M_slips)), (aM_lates, .inl (cI, 6, .inl M_lates)), (aM_copies, .inl (cI, 6, .inl M_copies))]) (va_A [(aM, .inr (10, [.ref aM_text, .int M_size, .int M_many, .ref aM_slips, .ref aM_lates, .ref aM_copies, .int M_little, .int M_in, .int M_streak, .int M_lot, .int M_undos, .ref aM_before, .ref aM_images, .ref aM_kept, .long M_trace, .int M_at, .int M_begin, .int M_kind, .long M_value, .int M_readMany, .int M_readLittle, .ref aM_read, .long M_below])), (aM_slips, .inl (cI, 6, .inl M_slips)), (aM_lates, .inl (cI, 6, .inl M_lates)), (aM_copies, .inl (cI, 6, .inl M_copies))] sz)) 0 0 (va_A [(aM, .inr (10, [.ref aM_text, .int M_size, .int M_many, .ref aM_slips, .ref aM_lates, .ref aM_copies, .int M_little, .int M_in, .int M_streak, .int M_lot, .int M_undos, .ref aM_before, .ref aM_images, .ref aM_kept, .long M_trace, .int M_at, .int M_begin, .int M_kind, .long M_value, .int M_readMany, .int M_readLittle, .ref aM_read, .long M_below])), (aM_slips, .inl (cI, 6, .inl M_slips)), (aM_lates, .inl (cI, 6, .inl M_lates)), (aM_copies, .inl (cI, 6, .inl M_copies))] sz) := by
  refine Met.ofW (cc := cX10_leftOf) (maxL := 13) (ret := (some .long)) (by decide) rfl ?_
  intro p e s m args below meth c s₁ B hml hv
  obtain ⟨rfl, hsz, hP, hKK, hD0⟩ := hv
  have hx := B.exec
  have hb := B.bytes
  have hr := B.returns
  have hts := atoms_spec (ws := wsX10_leftOf) B.pre
  have hown : s.vm.findClass RX10 = some m.cls := findClass_of_methodNamed B.named
  have hlocks := B.notSynchronized
  have hK := hKK.1
  have fl_39 := hts (.fieldLink RX10 39 "SimonSaysModel" "many" "I") (by decide +kernel)
  have fl_119 := hts (.fieldLink RX10 119 "SimonSaysModel" "in" "I") (by decide +kernel)
  have fl_165 := hts (.fieldLink RX10 165 "SimonSaysModel" "below" "J") (by decide +kernel)
  have inX10 : ∀ w ∈ wsX100, w ∈ wsX10_leftOf := by decide +kernel
  subst hsz
  have hD := hD0.self (sz := s.heap.size)
  generalize hAe : va_A [(aM, .inr (10, [.ref aM_text, .int M_size, .int M_many, .ref aM_slips, .ref aM_lates, .ref aM_copies, .int M_little, .int M_in, .int M_streak, .int M_lot, .int M_undos, .ref aM_before, .ref aM_images, .ref aM_kept, .long M_trace, .int M_at, .int M_begin, .int M_kind, .long M_value, .int M_readMany, .int M_readLittle, .ref aM_read, .long M_below])), (aM_slips, .inl (cI, 6, .inl M_slips)), (aM_lates, .inl (cI, 6, .inl M_lates)), (aM_copies, .inl (cI, 6, .inl M_copies))] s.heap.size = A at hD ⊢
  have hA : ∀ q : Nat, s.heap.size ≤ q → A q := fun q h => by rw [← hAe]; exact Or.inr h
  have hS : va_S A s.heap s.heap [] := va_S.rf
  have hl := lv_entry ([.ref aM, .int p1, .int p2]) (n := 13) (Nat.le_of_ble_eq_true rfl)
  rw [lg_entry_eq]
  generalize (lg_sl ([.ref aM, .int p1, .int p2]) ++ List.replicate (13 - (lg_sl ([.ref aM, .int p1, .int p2])).length) Slot.unset).toArray = ls at hl ⊢
  have hl : lv_has ls 13 [(0, .ref aM), (1, .int p1), (2, .int p2)] := hl
  have L89 : ∀ (k8 : Int64 → Int32 → Int32 → Int64 → Int32 → Int32 → Option (Int64 × Int64)) (_ : ∀ (M_below : Int64) (x1 : Int32) (x2 : Int32) (x3 : Int64) (x5 : Int32) (x6 : Int32), ∀ (H : Heap) (locs : List Loc), va_P D vwCl [(aM, .inr (10, [.ref aM_text, .int M_size, .int M_many, .ref aM_slips, .ref aM_lates, .ref aM_copies, .int M_little, .int M_in, .int M_streak, .int M_lot, .int M_undos, .ref aM_before, .ref aM_images, .ref aM_kept, .long M_trace, .int M_at, .int M_begin, .int M_kind, .long M_value, .int M_readMany, .int M_readLittle, .ref aM_read, .long M_below])), (aM_slips, .inl (cI, 6, .inl M_slips)), (aM_lates, .inl (cI, 6, .inl M_lates)), (aM_copies, .inl (cI, 6, .inl M_copies))] H → va_D A [(aM, .inr (10, [.ref aM_text, .int M_size, .int M_many, .ref aM_slips, .ref aM_lates, .ref aM_copies, .int M_little, .int M_in, .int M_streak, .int M_lot, .int M_undos, .ref aM_before, .ref aM_images, .ref aM_kept, .long M_trace, .int M_at, .int M_begin, .int M_kind, .long M_value, .int M_readMany, .int M_readLittle, .ref aM_read, .long M_below])), (aM_slips, .inl (cI, 6, .inl M_slips)), (aM_lates, .inl (cI, 6, .inl M_lates)), (aM_copies, .inl (cI, 6, .inl M_copies))] → va_S A s.heap H locs → ∀ (ls : Array Slot), lv_has ls 13 [(0, .ref aM), (1, .int x1), (2, .int x2), (3, .long x3), (5, .int x5), (6, .int x6)] → k8 M_below x1 x2 x3 x5 x6 = some y0 → W p l e (headSpec wsX10_leftOf ({ frames := 3, cells := 0, slots := 0, locals := 66 } : Room)).room s m ([.ref aM, .int p1, .int p2] : List Value).toArray below meth c H locs 0 0 (MQ below (va_Ql (fun (r : Int64) (_ : Unit) => r = y0.1) (fun (_ : Unit) t => va_P D vwCl [(aM, .inr (10, [.ref aM_text, .int M_size, .int M_many, .ref aM_slips, .ref aM_lates, .ref aM_copies, .int M_little, .int M_in, .int M_streak, .int M_lot, .int M_undos, .ref aM_before, .ref aM_images, .ref aM_kept, .long M_trace, .int M_at, .int M_begin, .int M_kind, .long M_value, .int M_readMany, .int M_readLittle, .ref aM_read, .long y0.2])), (aM_slips, .inl (cI, 6, .inl M_slips)), (aM_lates, .inl (cI, 6, .inl M_lates)), (aM_copies, .inl (cI, 6, .inl M_copies))] t.heap ∧ va_D A [(aM, .inr (10, [.ref aM_text, .int M_size, .int M_many, .ref aM_slips, .ref aM_lates, .ref aM_copies, .int M_little, .int M_in, .int M_streak, .int M_lot, .int M_undos, .ref aM_before, .ref aM_images, .ref aM_kept, .long M_trace, .int M_at, .int M_begin, .int M_kind, .long M_value, .int M_readMany, .int M_readLittle, .ref aM_read, .long y0.2])), (aM_slips, .inl (cI, 6, .inl M_slips)), (aM_lates, .inl (cI, 6, .inl M_lates)), (aM_copies, .inl (cI, 6, .inl M_copies))]) A) ([.ref aM, .int p1, .int p2] : List Value).toArray s 0 0 A) (F0 m 8 ls [])), ∀ (n : Nat), ∀ (M_below : Int64) (x1 : Int32) (x2 : Int32) (x3 : Int64) (x5 : Int32) (x6 : Int32) (x8 : Int64) (x10 : Int32), ∀ (H : Heap) (locs : List Loc), va_P D vwCl [(aM, .inr (10, [.ref aM_text, .int M_size, .int M_many, .ref aM_slips, .ref aM_lates, .ref aM_copies, .int M_little, .int M_in, .int M_streak, .int M_lot, .int M_undos, .ref aM_before, .ref aM_images, .ref aM_kept, .long M_trace, .int M_at, .int M_begin, .int M_kind, .long M_value, .int M_readMany, .int M_readLittle, .ref aM_read, .long M_below])), (aM_slips, .inl (cI, 6, .inl M_slips)), (aM_lates, .inl (cI, 6, .inl M_lates)), (aM_copies, .inl (cI, 6, .inl M_copies))] H → va_D A [(aM, .inr (10, [.ref aM_text, .int M_size, .int M_many, .ref aM_slips, .ref aM_lates, .ref aM_copies, .int M_little, .int M_in, .int M_streak, .int M_lot, .int M_undos, .ref aM_before, .ref aM_images, .ref aM_kept, .long M_trace, .int M_at, .int M_begin, .int M_kind, .long M_value, .int M_readMany, .int M_readLittle, .ref aM_read, .long M_below])), (aM_slips, .inl (cI, 6, .inl M_slips)), (aM_lates, .inl (cI, 6, .inl M_lates)), (aM_copies, .inl (cI, 6, .inl M_copies))] → va_S A s.heap H locs → ∀ (ls : Array Slot), lv_has ls 13 [(0, .ref aM), (1, .int x1), (2, .int x2), (3, .long x3), (5, .int x5), (6, .int x6), (8, .long x8), (10, .int x10)] → f_X10_leftOf_L89 M_many M_in M_streak M_slips M_lates M_copies k8 n M_below x1 x2 x3 x5 x6 x8 x10 = some y0 → W p l e (headSpec wsX10_leftOf ({ frames := 3, cells := 0, slots := 0, locals := 66 } : Room)).room s m ([.ref aM, .int p1, .int p2] : List Value).toArray below meth c H locs 0 0 (MQ below (va_Ql (fun (r : Int64) (_ : Unit) => r = y0.1) (fun (_ : Unit) t => va_P D vwCl [(aM, .inr (10, [.ref aM_text, .int M_size, .int M_many, .ref aM_slips, .ref aM_lates, .ref aM_copies, .int M_little, .int M_in, .int M_streak, .int M_lot, .int M_undos, .ref aM_before, .ref aM_images, .ref aM_kept, .long M_trace, .int M_at, .int M_begin, .int M_kind, .long M_value, .int M_readMany, .int M_readLittle, .ref aM_read, .long y0.2])), (aM_slips, .inl (cI, 6, .inl M_slips)), (aM_lates, .inl (cI, 6, .inl M_lates)), (aM_copies, .inl (cI, 6, .inl M_copies))] t.heap ∧ va_D A [(aM, .inr (10, [.ref aM_text, .int M_size, .int M_many, .ref aM_slips, .ref aM_lates, .ref aM_copies, .int M_little, .int M_in, .int M_streak, .int M_lot, .int M_undos, .ref aM_before, .ref aM_images, .ref aM_kept, .long M_trace, .int M_at, .int M_begin, .int M_kind, .long M_value, .int M_readMany, .int M_readLittle, .ref aM_read, .long y0.2])), (aM_slips, .inl (cI, 6, .inl M_slips)), (aM_lates, .inl (cI, 6, .inl M_lates)), (aM_copies, .inl (cI, 6, .inl M_copies))]) A) ([.ref aM, .int p1, .int p2] : List Value).toArray s 0 0 A) (F0 m 89 ls []) := by
    intro k8 hk8
    intro n
    induction n with
    | zero =>
      intro M_below x1 x2 x3 x5 x6 x8 x10 H locs hP hD hS ls hl h
      exact (ns h).elim
    | succ n ih =>
      intro M_below x1 x2 x3 x5 x6 x8 x10 H locs hP hD hS ls hl h
      unfold f_X10_leftOf_L89 at h
      refine lv_iload hx hb dX10_leftOf_89 (lv_at hl 7 rfl) ?_
      refine lv_aload_n hx hb dX10_leftOf_91 rfl (lv_at hl 0 rfl) ?_
      refine va_get (D := D) (ci := 10) (v := .int M_many) (C := RX10) (T := TX10) (N := 23) hx hb hts inX10 hown hK hP 0 rfl rfl 2 (by decide) fl_39 (fun _ h9 => h9) rfl dX10_leftOf_92 ?_
      refine lv_icmp_ge (tgt := 161) hx hb dX10_leftOf_95 (by decide) (fun c_12 => ?_) (fun c_12 => ?_)
      · replace h := if_p c_12 h
        refine lv_lload_n hx hb dX10_leftOf_161 rfl (lv_at hl 3 rfl) ?_
        refine lv_lload hx hb dX10_leftOf_162 (lv_at hl 6 rfl) ?_
        refine lv_ladd hx hb dX10_leftOf_164 ?_
        refine lv_lstore_n (lv' := [(3, .long (x3 + x8)), (0, .ref aM), (1, .int x1), (2, .int x2), (5, .int x5), (6, .int x6), (8, .long x8), (10, .int x10)]) hx hb dX10_leftOf_165 rfl hl (by decide) rfl (fun ls hl => ?_)
        refine lv_iinc (v := (x6 + (1 : Int32))) (lv' := [(6, .int (x6 + (1 : Int32))), (3, .long (x3 + x8)), (0, .ref aM), (1, .int x1), (2, .int x2), (5, .int x5), (8, .long x8), (10, .int x10)]) hx hb dX10_leftOf_166 hl (k := 5) rfl rfl (by decide) rfl (fun ls hl => ?_)
        refine lv_goto (tgt := 8) hx hb dX10_leftOf_169 (by decide) ?_
        exact hk8 M_below x1 x2 (x3 + x8) x5 (x6 + (1 : Int32)) _ _ hP hD hS ls (lv_sub hl [2, 3, 4, 1, 5, 0] rfl) h
      · replace h := if_n c_12 h
        refine lv_aload_n hx hb dX10_leftOf_98 rfl (lv_at hl 0 rfl) ?_
        refine va_get (D := D) (ci := 10) (v := .int M_in) (C := RX10) (T := TX10) (N := 23) hx hb hts inX10 hown hK hP 0 rfl rfl 7 (by decide) fl_119 (fun _ h9 => h9) rfl dX10_leftOf_99 ?_
        refine lv_iload hx hb dX10_leftOf_102 (lv_at hl 7 rfl) ?_
        have hPc : va_P D vwCl [] H := hP.sub [] rfl
        refine vp_callSi (va_Run.run (va_runS (As := [.int M_in, .int x10]) (rest := []) ⟨hx, hb, hml, hown, hts⟩ (c_X10_has l D cI cJ cZ cO M_in x10 _ rfl) (cwS 2 hts gX10_leftOf_X10_has rfl rfl rfl (by decide +kernel) ⟨Nat.le_of_ble_eq_true rfl, Nat.le_of_ble_eq_true rfl⟩) ⟨fb_p, fun U hU hW => ⟨rfl, by rw [hU]; exact hPc, KK.warm hW hKK⟩⟩ rfl rfl hl.1 rfl (lv_room (Nat.le_of_ble_eq_true rfl)) dX10_leftOf_104 ⟨Nat.le_of_ble_eq_true rfl, Nat.le_of_ble_eq_true rfl⟩)) (fun r hr => ?_)
        obtain ⟨hr, hz13⟩ := hr
        replace hr := hr.symm
        subst hr
        refine lv_if_eq (tgt := 155) hx hb dX10_leftOf_107 (by decide) (fun c_14 => ?_) (fun c_14 => ?_)
        · replace h := if_p c_14 h
          refine lv_iinc (v := (x10 + (1 : Int32))) (lv' := [(10, .int (x10 + (1 : Int32))), (0, .ref aM), (1, .int x1), (2, .int x2), (3, .long x3), (5, .int x5), (6, .int x6), (8, .long x8)]) hx hb dX10_leftOf_155 hl (k := 7) rfl rfl (by decide) rfl (fun ls hl => ?_)
          refine lv_goto (tgt := 89) hx hb dX10_leftOf_158 (by decide) ?_
          exact ih M_below x1 x2 x3 x5 x6 x8 (x10 + (1 : Int32)) _ _ hP hD hS ls (lv_sub hl [1, 2, 3, 4, 5, 6, 7, 0] rfl) h
        · replace h := if_n c_14 h
          refine lv_aload_n hx hb dX10_leftOf_110 rfl (lv_at hl 0 rfl) ?_
          refine lv_iload hx hb dX10_leftOf_111 (lv_at hl 7 rfl) ?_
          obtain ⟨y15, qy15, h⟩ := ob_some h
          have hPc : va_P D vwCl [(aM, .inr (10, [.ref aM_text, .int M_size, .int M_many, .ref aM_slips, .ref aM_lates, .ref aM_copies, .int M_little, .int M_in, .int M_streak, .int M_lot, .int M_undos, .ref aM_before, .ref aM_images, .ref aM_kept, .long M_trace, .int M_at, .int M_begin, .int M_kind, .long M_value, .int M_readMany, .int M_readLittle, .ref aM_read, .long M_below])), (aM_copies, .inl (cI, 6, .inl M_copies))] H := hP.sub [0, 3] rfl
          refine vp_callSi (va_Run.run (va_runV (As := [.int x10]) (rest := []) ⟨hx, hb, hml, hown, hts⟩ (c_X10_leaderOf l D cI cJ cZ cO aM aM_copies aM_text aM_slips aM_lates aM_before aM_images aM_kept aM_read M_size M_many M_little M_in M_streak M_lot M_undos M_trace M_at M_begin M_kind M_value M_readMany M_readLittle M_below M_copies x10 y15 qy15) (cwV 1 hts gX10_leftOf_X10_leaderOf rfl rfl rfl (by decide +kernel) ⟨Nat.le_of_ble_eq_true rfl, Nat.le_of_ble_eq_true rfl⟩) ⟨fb_p, va_recv hK hP (ci := 10) (q0 := 0) rfl rfl, fun U hU hW => ⟨rfl, by rw [hU]; exact hPc, KK.warm hW hKK⟩⟩ rfl rfl hl.1 rfl (lv_room (Nat.le_of_ble_eq_true rfl)) dX10_leftOf_113 ⟨Nat.le_of_ble_eq_true rfl, Nat.le_of_ble_eq_true rfl⟩)) (fun r hr => ?_)
          replace hr := hr.symm
          subst hr
          refine lv_iload hx hb dX10_leftOf_116 (lv_at hl 7 rfl) ?_
          refine lv_icmp_ne (tgt := 155) hx hb dX10_leftOf_118 (by decide) (fun c_16 => ?_) (fun c_16 => ?_)
          · replace h := if_n c_16 h
            refine lv_iinc (v := (x10 + (1 : Int32))) (lv' := [(10, .int (x10 + (1 : Int32))), (0, .ref aM), (1, .int x1), (2, .int x2), (3, .long x3), (5, .int x5), (6, .int x6), (8, .long x8)]) hx hb dX10_leftOf_155 hl (k := 7) rfl rfl (by decide) rfl (fun ls hl => ?_)
            refine lv_goto (tgt := 89) hx hb dX10_leftOf_158 (by decide) ?_
            exact ih M_below x1 x2 x3 x5 x6 x8 (x10 + (1 : Int32)) _ _ hP hD hS ls (lv_sub hl [1, 2, 3, 4, 5, 6, 7, 0] rfl) h
          · replace h := if_p c_16 h
            refine lv_aload_n hx hb dX10_leftOf_121 rfl (lv_at hl 0 rfl) ?_
            refine lv_iload hx hb dX10_leftOf_122 (lv_at hl 7 rfl) ?_
            refine lv_iload_n hx hb dX10_leftOf_124 rfl (lv_at hl 1 rfl) ?_
            refine lv_iload_n hx hb dX10_leftOf_125 rfl (lv_at hl 2 rfl) ?_
            obtain ⟨y17, qy17, h⟩ := ob_some h
            have hPc : va_P D vwCl [(aM, .inr (10, [.ref aM_text, .int M_size, .int M_many, .ref aM_slips, .ref aM_lates, .ref aM_copies, .int M_little, .int M_in, .int M_streak, .int M_lot, .int M_undos, .ref aM_before, .ref aM_images, .ref aM_kept, .long M_trace, .int M_at, .int M_begin, .int M_kind, .long M_value, .int M_readMany, .int M_readLittle, .ref aM_read, .long M_below])), (aM_slips, .inl (cI, 6, .inl M_slips)), (aM_lates, .inl (cI, 6, .inl M_lates))] H := hP.sub [0, 1, 2] rfl
            refine vp_callSl (va_Run.run (va_runV (As := [.int x10, .int x1, .int x2]) (rest := []) ⟨hx, hb, hml, hown, hts⟩ (c_X10_staysOf l D cI cJ cZ cO aM aM_slips aM_lates aM_text aM_copies aM_before aM_images aM_kept aM_read M_size M_many M_little M_in M_streak M_lot M_undos M_trace M_at M_begin M_kind M_value M_readMany M_readLittle M_below M_slips M_lates x10 x1 x2 y17 qy17) (cwV 3 hts gX10_leftOf_X10_staysOf rfl rfl rfl (by decide +kernel) ⟨Nat.le_of_ble_eq_true rfl, Nat.le_of_ble_eq_true rfl⟩) ⟨fb_p, va_recv hK hP (ci := 10) (q0 := 0) rfl rfl, fun U hU hW => ⟨rfl, by rw [hU]; exact hPc, KK.warm hW hKK⟩⟩ rfl rfl hl.1 rfl (lv_room (Nat.le_of_ble_eq_true rfl)) dX10_leftOf_126 ⟨Nat.le_of_ble_eq_true rfl, Nat.le_of_ble_eq_true rfl⟩)) (fun r hr => ?_)
            replace hr := hr.symm
            subst hr
            refine lv_lstore (lv' := [(11, .long y17), (0, .ref aM), (1, .int x1), (2, .int x2), (3, .long x3), (5, .int x5), (6, .int x6), (8, .long x8), (10, .int x10)]) hx hb dX10_leftOf_129 hl (by decide) rfl (fun ls hl => ?_)
            refine lv_lload hx hb dX10_leftOf_131 (lv_at hl 7 rfl) ?_
            refine lv_iload hx hb dX10_leftOf_133 (lv_at hl 8 rfl) ?_
            refine lv_iload hx hb dX10_leftOf_135 (lv_at hl 6 rfl) ?_
            refine lv_icmp_ne (tgt := 145) hx hb dX10_leftOf_137 (by decide) (fun c_18 => ?_) (fun c_18 => ?_)
            · replace h := if_n c_18 h
              refine lv_iload_n hx hb dX10_leftOf_145 rfl (lv_at hl 3 rfl) ?_
              obtain ⟨y19, qy19, h⟩ := ob_some h
              have hPc : va_P D vwCl [] H := hP.sub [] rfl
              refine vp_callSl (va_Run.run (va_runS (As := [.int x2]) (rest := [.long x8]) ⟨hx, hb, hml, hown, hts⟩ (c_X10_tens l D cI cJ cZ cO x2 y19 qy19) (cwS 1 hts gX10_leftOf_X10_tens rfl rfl rfl (by decide +kernel) ⟨Nat.le_of_ble_eq_true rfl, Nat.le_of_ble_eq_true rfl⟩) ⟨fb_p, fun U hU hW => ⟨rfl, by rw [hU]; exact hPc, KK.warm hW hKK⟩⟩ rfl rfl hl.1 rfl (lv_room (Nat.le_of_ble_eq_true rfl)) dX10_leftOf_146 ⟨Nat.le_of_ble_eq_true rfl, Nat.le_of_ble_eq_true rfl⟩)) (fun r hr => ?_)
              replace hr := hr.symm
              subst hr
              refine lv_lload hx hb dX10_leftOf_149 (lv_at hl 0 rfl) ?_
              refine lv_lsub hx hb dX10_leftOf_151 ?_
              refine lv_lmul hx hb dX10_leftOf_152 ?_
              refine lv_lstore (lv' := [(8, .long (x8 * (y19 - y17))), (11, .long y17), (0, .ref aM), (1, .int x1), (2, .int x2), (3, .long x3), (5, .int x5), (6, .int x6), (10, .int x10)]) hx hb dX10_leftOf_153 hl (by decide) rfl (fun ls hl => ?_)
              refine lv_iinc (v := (x10 + (1 : Int32))) (lv' := [(10, .int (x10 + (1 : Int32))), (8, .long (x8 * (y19 - y17))), (11, .long y17), (0, .ref aM), (1, .int x1), (2, .int x2), (3, .long x3), (5, .int x5), (6, .int x6)]) hx hb dX10_leftOf_155 hl (k := 8) rfl rfl (by decide) rfl (fun ls hl => ?_)
              refine lv_goto (tgt := 89) hx hb dX10_leftOf_158 (by decide) ?_
              exact ih M_below x1 x2 x3 x5 x6 (x8 * (y19 - y17)) (x10 + (1 : Int32)) _ _ hP hD hS ls (lv_sub hl [3, 4, 5, 6, 7, 8, 1, 0] rfl) h
            · replace h := if_p c_18 h
              refine lv_lload hx hb dX10_leftOf_140 (lv_at hl 0 rfl) ?_
              refine lv_goto (tgt := 152) hx hb dX10_leftOf_142 (by decide) ?_
              refine lv_lmul hx hb dX10_leftOf_152 ?_
              refine lv_lstore (lv' := [(8, .long (x8 * y17)), (11, .long y17), (0, .ref aM), (1, .int x1), (2, .int x2), (3, .long x3), (5, .int x5), (6, .int x6), (10, .int x10)]) hx hb dX10_leftOf_153 hl (by decide) rfl (fun ls hl => ?_)
              refine lv_iinc (v := (x10 + (1 : Int32))) (lv' := [(10, .int (x10 + (1 : Int32))), (8, .long (x8 * y17)), (11, .long y17), (0, .ref aM), (1, .int x1), (2, .int x2), (3, .long x3), (5, .int x5), (6, .int x6)]) hx hb dX10_leftOf_155 hl (k := 8) rfl rfl (by decide) rfl (fun ls hl => ?_)
              refine lv_goto (tgt := 89) hx hb dX10_leftOf_158 (by decide) ?_
              exact ih M_below x1 x2 x3 x5 x6 (x8 * y17) (x10 + (1 : Int32)) _ _ hP hD hS ls (lv_sub hl [3, 4, 5, 6, 7, 8, 1, 0] rfl) h
  have L59 : ∀ (k8 : Int64 → Int32 → Int32 → Int64 → Int32 → Int32 → Option (Int64 × Int64)) (_ : ∀ (M_below : Int64) (x1 : Int32) (x2 : Int32) (x3 : Int64) (x5 : Int32) (x6 : Int32), ∀ (H : Heap) (locs : List Loc), va_P D vwCl [(aM, .inr (10, [.ref aM_text, .int M_size, .int M_many, .ref aM_slips, .ref aM_lates, .ref aM_copies, .int M_little, .int M_in, .int M_streak, .int M_lot, .int M_undos, .ref aM_before, .ref aM_images, .ref aM_kept, .long M_trace, .int M_at, .int M_begin, .int M_kind, .long M_value, .int M_readMany, .int M_readLittle, .ref aM_read, .long M_below])), (aM_slips, .inl (cI, 6, .inl M_slips)), (aM_lates, .inl (cI, 6, .inl M_lates)), (aM_copies, .inl (cI, 6, .inl M_copies))] H → va_D A [(aM, .inr (10, [.ref aM_text, .int M_size, .int M_many, .ref aM_slips, .ref aM_lates, .ref aM_copies, .int M_little, .int M_in, .int M_streak, .int M_lot, .int M_undos, .ref aM_before, .ref aM_images, .ref aM_kept, .long M_trace, .int M_at, .int M_begin, .int M_kind, .long M_value, .int M_readMany, .int M_readLittle, .ref aM_read, .long M_below])), (aM_slips, .inl (cI, 6, .inl M_slips)), (aM_lates, .inl (cI, 6, .inl M_lates)), (aM_copies, .inl (cI, 6, .inl M_copies))] → va_S A s.heap H locs → ∀ (ls : Array Slot), lv_has ls 13 [(0, .ref aM), (1, .int x1), (2, .int x2), (3, .long x3), (5, .int x5), (6, .int x6)] → k8 M_below x1 x2 x3 x5 x6 = some y0 → W p l e (headSpec wsX10_leftOf ({ frames := 3, cells := 0, slots := 0, locals := 66 } : Room)).room s m ([.ref aM, .int p1, .int p2] : List Value).toArray below meth c H locs 0 0 (MQ below (va_Ql (fun (r : Int64) (_ : Unit) => r = y0.1) (fun (_ : Unit) t => va_P D vwCl [(aM, .inr (10, [.ref aM_text, .int M_size, .int M_many, .ref aM_slips, .ref aM_lates, .ref aM_copies, .int M_little, .int M_in, .int M_streak, .int M_lot, .int M_undos, .ref aM_before, .ref aM_images, .ref aM_kept, .long M_trace, .int M_at, .int M_begin, .int M_kind, .long M_value, .int M_readMany, .int M_readLittle, .ref aM_read, .long y0.2])), (aM_slips, .inl (cI, 6, .inl M_slips)), (aM_lates, .inl (cI, 6, .inl M_lates)), (aM_copies, .inl (cI, 6, .inl M_copies))] t.heap ∧ va_D A [(aM, .inr (10, [.ref aM_text, .int M_size, .int M_many, .ref aM_slips, .ref aM_lates, .ref aM_copies, .int M_little, .int M_in, .int M_streak, .int M_lot, .int M_undos, .ref aM_before, .ref aM_images, .ref aM_kept, .long M_trace, .int M_at, .int M_begin, .int M_kind, .long M_value, .int M_readMany, .int M_readLittle, .ref aM_read, .long y0.2])), (aM_slips, .inl (cI, 6, .inl M_slips)), (aM_lates, .inl (cI, 6, .inl M_lates)), (aM_copies, .inl (cI, 6, .inl M_copies))]) A) ([.ref aM, .int p1, .int p2] : List Value).toArray s 0 0 A) (F0 m 8 ls [])), ∀ (M_below : Int64) (t0 : Int32) (t1 : Int32) (x1 : Int32) (x2 : Int32) (x3 : Int64) (x6 : Int32) (x7 : Int32), ∀ (H : Heap) (locs : List Loc), va_P D vwCl [(aM, .inr (10, [.ref aM_text, .int M_size, .int M_many, .ref aM_slips, .ref aM_lates, .ref aM_copies, .int M_little, .int M_in, .int M_streak, .int M_lot, .int M_undos, .ref aM_before, .ref aM_images, .ref aM_kept, .long M_trace, .int M_at, .int M_begin, .int M_kind, .long M_value, .int M_readMany, .int M_readLittle, .ref aM_read, .long M_below])), (aM_slips, .inl (cI, 6, .inl M_slips)), (aM_lates, .inl (cI, 6, .inl M_lates)), (aM_copies, .inl (cI, 6, .inl M_copies))] H → va_D A [(aM, .inr (10, [.ref aM_text, .int M_size, .int M_many, .ref aM_slips, .ref aM_lates, .ref aM_copies, .int M_little, .int M_in, .int M_streak, .int M_lot, .int M_undos, .ref aM_before, .ref aM_images, .ref aM_kept, .long M_trace, .int M_at, .int M_begin, .int M_kind, .long M_value, .int M_readMany, .int M_readLittle, .ref aM_read, .long M_below])), (aM_slips, .inl (cI, 6, .inl M_slips)), (aM_lates, .inl (cI, 6, .inl M_lates)), (aM_copies, .inl (cI, 6, .inl M_copies))] → va_S A s.heap H locs → ∀ (ls : Array Slot), lv_has ls 13 [(0, .ref aM), (1, .int x1), (2, .int x2), (3, .long x3), (6, .int x6), (7, .int x7)] → f_X10_leftOf_L59 M_many M_in M_streak M_slips M_lates M_copies k8 M_below t0 t1 x1 x2 x3 x6 x7 = some y0 → W p l e (headSpec wsX10_leftOf ({ frames := 3, cells := 0, slots := 0, locals := 66 } : Room)).room s m ([.ref aM, .int p1, .int p2] : List Value).toArray below meth c H locs 0 0 (MQ below (va_Ql (fun (r : Int64) (_ : Unit) => r = y0.1) (fun (_ : Unit) t => va_P D vwCl [(aM, .inr (10, [.ref aM_text, .int M_size, .int M_many, .ref aM_slips, .ref aM_lates, .ref aM_copies, .int M_little, .int M_in, .int M_streak, .int M_lot, .int M_undos, .ref aM_before, .ref aM_images, .ref aM_kept, .long M_trace, .int M_at, .int M_begin, .int M_kind, .long M_value, .int M_readMany, .int M_readLittle, .ref aM_read, .long y0.2])), (aM_slips, .inl (cI, 6, .inl M_slips)), (aM_lates, .inl (cI, 6, .inl M_lates)), (aM_copies, .inl (cI, 6, .inl M_copies))] t.heap ∧ va_D A [(aM, .inr (10, [.ref aM_text, .int M_size, .int M_many, .ref aM_slips, .ref aM_lates, .ref aM_copies, .int M_little, .int M_in, .int M_streak, .int M_lot, .int M_undos, .ref aM_before, .ref aM_images, .ref aM_kept, .long M_trace, .int M_at, .int M_begin, .int M_kind, .long M_value, .int M_readMany, .int M_readLittle, .ref aM_read, .long y0.2])), (aM_slips, .inl (cI, 6, .inl M_slips)), (aM_lates, .inl (cI, 6, .inl M_lates)), (aM_copies, .inl (cI, 6, .inl M_copies))]) A) ([.ref aM, .int p1, .int p2] : List Value).toArray s 0 0 A) (F0 m 59 ls [.int t0, .int t1]) := by
    intro k8 hk8
    intro M_below t0 t1 x1 x2 x3 x6 x7 H locs hP hD hS ls hl h
    unfold f_X10_leftOf_L59 at h
    refine lv_iadd hx hb dX10_leftOf_59 ?_
    refine lv_istore (lv' := [(5, .int (t1 + t0)), (0, .ref aM), (1, .int x1), (2, .int x2), (3, .long x3), (6, .int x6), (7, .int x7)]) hx hb dX10_leftOf_60 hl (by decide) rfl (fun ls hl => ?_)
    refine lv_iload hx hb dX10_leftOf_62 (lv_at hl 6 rfl) ?_
    refine lv_if_eq (tgt := 166) hx hb dX10_leftOf_64 (by decide) (fun c_8 => ?_) (fun c_8 => ?_)
    · replace h := if_p c_8 h
      refine lv_iinc (v := (x6 + (1 : Int32))) (lv' := [(6, .int (x6 + (1 : Int32))), (5, .int (t1 + t0)), (0, .ref aM), (1, .int x1), (2, .int x2), (3, .long x3), (7, .int x7)]) hx hb dX10_leftOf_166 hl (k := 5) rfl rfl (by decide) rfl (fun ls hl => ?_)
      refine lv_goto (tgt := 8) hx hb dX10_leftOf_169 (by decide) ?_
      exact hk8 M_below x1 x2 x3 (t1 + t0) (x6 + (1 : Int32)) _ _ hP hD hS ls (lv_sub hl [2, 3, 4, 5, 1, 0] rfl) h
    · replace h := if_n c_8 h
      refine lv_aload_n hx hb dX10_leftOf_67 rfl (lv_at hl 1 rfl) ?_
      refine lv_iload hx hb dX10_leftOf_68 (lv_at hl 5 rfl) ?_
      obtain ⟨y9, qy9, h⟩ := ob_some h
      have hPc : va_P D vwCl [(aM, .inr (10, [.ref aM_text, .int M_size, .int M_many, .ref aM_slips, .ref aM_lates, .ref aM_copies, .int M_little, .int M_in, .int M_streak, .int M_lot, .int M_undos, .ref aM_before, .ref aM_images, .ref aM_kept, .long M_trace, .int M_at, .int M_begin, .int M_kind, .long M_value, .int M_readMany, .int M_readLittle, .ref aM_read, .long M_below])), (aM_copies, .inl (cI, 6, .inl M_copies))] H := hP.sub [0, 3] rfl
      refine vp_callSi (va_Run.run (va_runV (As := [.int x6]) (rest := []) ⟨hx, hb, hml, hown, hts⟩ (c_X10_ledBy l D cI cJ cZ cO aM aM_copies aM_text aM_slips aM_lates aM_before aM_images aM_kept aM_read M_size M_many M_little M_in M_streak M_lot M_undos M_trace M_at M_begin M_kind M_value M_readMany M_readLittle M_below M_copies x6 y9 qy9) (cwV 1 hts gX10_leftOf_X10_ledBy rfl rfl rfl (by decide +kernel) ⟨Nat.le_of_ble_eq_true rfl, Nat.le_of_ble_eq_true rfl⟩) ⟨fb_p, va_recv hK hP (ci := 10) (q0 := 0) rfl rfl, fun U hU hW => ⟨rfl, by rw [hU]; exact hPc, KK.warm hW hKK⟩⟩ rfl rfl hl.1 rfl (lv_room (Nat.le_of_ble_eq_true rfl)) dX10_leftOf_70 ⟨Nat.le_of_ble_eq_true rfl, Nat.le_of_ble_eq_true rfl⟩)) (fun r hr => ?_)
      replace hr := hr.symm
      subst hr
      obtain ⟨y10, qy10, h⟩ := ob_some h
      have hPc : va_P D vwCl [] H := hP.sub [] rfl
      refine vp_callSi (va_Run.run (va_runS (As := [.int y9]) (rest := []) ⟨hx, hb, hml, hown, hts⟩ (c_X10_bits l D cI cJ cZ cO y9 y10 qy10) (cwS 1 hts gX10_leftOf_X10_bits rfl rfl rfl (by decide +kernel) ⟨Nat.le_of_ble_eq_true rfl, Nat.le_of_ble_eq_true rfl⟩) ⟨fb_p, fun U hU hW => ⟨rfl, by rw [hU]; exact hPc, KK.warm hW hKK⟩⟩ rfl rfl hl.1 rfl (lv_room (Nat.le_of_ble_eq_true rfl)) dX10_leftOf_73 ⟨Nat.le_of_ble_eq_true rfl, Nat.le_of_ble_eq_true rfl⟩)) (fun r hr => ?_)
      replace hr := hr.symm
      subst hr
      refine lv_iconst (v := (1 : Int32)) hx hb dX10_leftOf_76 (by decide) ?_
      refine lv_icmp_le (tgt := 83) hx hb dX10_leftOf_77 (by decide) (fun c_11 => ?_) (fun c_11 => ?_)
      · replace h := if_p c_11 h
        refine lv_lconst (v := (1 : Int64)) hx hb dX10_leftOf_83 (by decide) ?_
        refine lv_lstore (lv' := [(8, .long (1 : Int64)), (5, .int (t1 + t0)), (0, .ref aM), (1, .int x1), (2, .int x2), (3, .long x3), (6, .int x6), (7, .int x7)]) hx hb dX10_leftOf_84 hl (by decide) rfl (fun ls hl => ?_)
        refine lv_iconst (v := (0 : Int32)) hx hb dX10_leftOf_86 (by decide) ?_
        refine lv_istore (lv' := [(10, .int (0 : Int32)), (8, .long (1 : Int64)), (5, .int (t1 + t0)), (0, .ref aM), (1, .int x1), (2, .int x2), (3, .long x3), (6, .int x6), (7, .int x7)]) hx hb dX10_leftOf_87 hl (by decide) rfl (fun ls hl => ?_)
        exact L89 k8 hk8 300 M_below x1 x2 x3 (t1 + t0) x6 (1 : Int64) (0 : Int32) _ _ hP hD hS ls (lv_sub hl [3, 4, 5, 6, 2, 7, 1, 0] rfl) h
      · replace h := if_n c_11 h
        refine lv_goto (tgt := 166) hx hb dX10_leftOf_80 (by decide) ?_
        refine lv_iinc (v := (x6 + (1 : Int32))) (lv' := [(6, .int (x6 + (1 : Int32))), (5, .int (t1 + t0)), (0, .ref aM), (1, .int x1), (2, .int x2), (3, .long x3), (7, .int x7)]) hx hb dX10_leftOf_166 hl (k := 5) rfl rfl (by decide) rfl (fun ls hl => ?_)
        refine lv_goto (tgt := 8) hx hb dX10_leftOf_169 (by decide) ?_
        exact hk8 M_below x1 x2 x3 (t1 + t0) (x6 + (1 : Int32)) _ _ hP hD hS ls (lv_sub hl [2, 3, 4, 5, 1, 0] rfl) h
  have L45 : ∀ (k8 : Int64 → Int32 → Int32 → Int64 → Int32 → Int32 → Option (Int64 × Int64)) (_ : ∀ (M_below : Int64) (x1 : Int32) (x2 : Int32) (x3 : Int64) (x5 : Int32) (x6 : Int32), ∀ (H : Heap) (locs : List Loc), va_P D vwCl [(aM, .inr (10, [.ref aM_text, .int M_size, .int M_many, .ref aM_slips, .ref aM_lates, .ref aM_copies, .int M_little, .int M_in, .int M_streak, .int M_lot, .int M_undos, .ref aM_before, .ref aM_images, .ref aM_kept, .long M_trace, .int M_at, .int M_begin, .int M_kind, .long M_value, .int M_readMany, .int M_readLittle, .ref aM_read, .long M_below])), (aM_slips, .inl (cI, 6, .inl M_slips)), (aM_lates, .inl (cI, 6, .inl M_lates)), (aM_copies, .inl (cI, 6, .inl M_copies))] H → va_D A [(aM, .inr (10, [.ref aM_text, .int M_size, .int M_many, .ref aM_slips, .ref aM_lates, .ref aM_copies, .int M_little, .int M_in, .int M_streak, .int M_lot, .int M_undos, .ref aM_before, .ref aM_images, .ref aM_kept, .long M_trace, .int M_at, .int M_begin, .int M_kind, .long M_value, .int M_readMany, .int M_readLittle, .ref aM_read, .long M_below])), (aM_slips, .inl (cI, 6, .inl M_slips)), (aM_lates, .inl (cI, 6, .inl M_lates)), (aM_copies, .inl (cI, 6, .inl M_copies))] → va_S A s.heap H locs → ∀ (ls : Array Slot), lv_has ls 13 [(0, .ref aM), (1, .int x1), (2, .int x2), (3, .long x3), (5, .int x5), (6, .int x6)] → k8 M_below x1 x2 x3 x5 x6 = some y0 → W p l e (headSpec wsX10_leftOf ({ frames := 3, cells := 0, slots := 0, locals := 66 } : Room)).room s m ([.ref aM, .int p1, .int p2] : List Value).toArray below meth c H locs 0 0 (MQ below (va_Ql (fun (r : Int64) (_ : Unit) => r = y0.1) (fun (_ : Unit) t => va_P D vwCl [(aM, .inr (10, [.ref aM_text, .int M_size, .int M_many, .ref aM_slips, .ref aM_lates, .ref aM_copies, .int M_little, .int M_in, .int M_streak, .int M_lot, .int M_undos, .ref aM_before, .ref aM_images, .ref aM_kept, .long M_trace, .int M_at, .int M_begin, .int M_kind, .long M_value, .int M_readMany, .int M_readLittle, .ref aM_read, .long y0.2])), (aM_slips, .inl (cI, 6, .inl M_slips)), (aM_lates, .inl (cI, 6, .inl M_lates)), (aM_copies, .inl (cI, 6, .inl M_copies))] t.heap ∧ va_D A [(aM, .inr (10, [.ref aM_text, .int M_size, .int M_many, .ref aM_slips, .ref aM_lates, .ref aM_copies, .int M_little, .int M_in, .int M_streak, .int M_lot, .int M_undos, .ref aM_before, .ref aM_images, .ref aM_kept, .long M_trace, .int M_at, .int M_begin, .int M_kind, .long M_value, .int M_readMany, .int M_readLittle, .ref aM_read, .long y0.2])), (aM_slips, .inl (cI, 6, .inl M_slips)), (aM_lates, .inl (cI, 6, .inl M_lates)), (aM_copies, .inl (cI, 6, .inl M_copies))]) A) ([.ref aM, .int p1, .int p2] : List Value).toArray s 0 0 A) (F0 m 8 ls [])), ∀ (M_below : Int64) (t0 : Int32) (x1 : Int32) (x2 : Int32) (x3 : Int64) (x5 : Int32) (x6 : Int32), ∀ (H : Heap) (locs : List Loc), va_P D vwCl [(aM, .inr (10, [.ref aM_text, .int M_size, .int M_many, .ref aM_slips, .ref aM_lates, .ref aM_copies, .int M_little, .int M_in, .int M_streak, .int M_lot, .int M_undos, .ref aM_before, .ref aM_images, .ref aM_kept, .long M_trace, .int M_at, .int M_begin, .int M_kind, .long M_value, .int M_readMany, .int M_readLittle, .ref aM_read, .long M_below])), (aM_slips, .inl (cI, 6, .inl M_slips)), (aM_lates, .inl (cI, 6, .inl M_lates)), (aM_copies, .inl (cI, 6, .inl M_copies))] H → va_D A [(aM, .inr (10, [.ref aM_text, .int M_size, .int M_many, .ref aM_slips, .ref aM_lates, .ref aM_copies, .int M_little, .int M_in, .int M_streak, .int M_lot, .int M_undos, .ref aM_before, .ref aM_images, .ref aM_kept, .long M_trace, .int M_at, .int M_begin, .int M_kind, .long M_value, .int M_readMany, .int M_readLittle, .ref aM_read, .long M_below])), (aM_slips, .inl (cI, 6, .inl M_slips)), (aM_lates, .inl (cI, 6, .inl M_lates)), (aM_copies, .inl (cI, 6, .inl M_copies))] → va_S A s.heap H locs → ∀ (ls : Array Slot), lv_has ls 13 [(0, .ref aM), (1, .int x1), (2, .int x2), (3, .long x3), (5, .int x5), (6, .int x6)] → f_X10_leftOf_L45 M_many M_in M_streak M_slips M_lates M_copies k8 M_below t0 x1 x2 x3 x5 x6 = some y0 → W p l e (headSpec wsX10_leftOf ({ frames := 3, cells := 0, slots := 0, locals := 66 } : Room)).room s m ([.ref aM, .int p1, .int p2] : List Value).toArray below meth c H locs 0 0 (MQ below (va_Ql (fun (r : Int64) (_ : Unit) => r = y0.1) (fun (_ : Unit) t => va_P D vwCl [(aM, .inr (10, [.ref aM_text, .int M_size, .int M_many, .ref aM_slips, .ref aM_lates, .ref aM_copies, .int M_little, .int M_in, .int M_streak, .int M_lot, .int M_undos, .ref aM_before, .ref aM_images, .ref aM_kept, .long M_trace, .int M_at, .int M_begin, .int M_kind, .long M_value, .int M_readMany, .int M_readLittle, .ref aM_read, .long y0.2])), (aM_slips, .inl (cI, 6, .inl M_slips)), (aM_lates, .inl (cI, 6, .inl M_lates)), (aM_copies, .inl (cI, 6, .inl M_copies))] t.heap ∧ va_D A [(aM, .inr (10, [.ref aM_text, .int M_size, .int M_many, .ref aM_slips, .ref aM_lates, .ref aM_copies, .int M_little, .int M_in, .int M_streak, .int M_lot, .int M_undos, .ref aM_before, .ref aM_images, .ref aM_kept, .long M_trace, .int M_at, .int M_begin, .int M_kind, .long M_value, .int M_readMany, .int M_readLittle, .ref aM_read, .long y0.2])), (aM_slips, .inl (cI, 6, .inl M_slips)), (aM_lates, .inl (cI, 6, .inl M_lates)), (aM_copies, .inl (cI, 6, .inl M_copies))]) A) ([.ref aM, .int p1, .int p2] : List Value).toArray s 0 0 A) (F0 m 45 ls [.int t0]) := by
    intro k8 hk8
    intro M_below t0 x1 x2 x3 x5 x6 H locs hP hD hS ls hl h
    unfold f_X10_leftOf_L45 at h
    refine lv_istore (lv' := [(7, .int t0), (0, .ref aM), (1, .int x1), (2, .int x2), (3, .long x3), (5, .int x5), (6, .int x6)]) hx hb dX10_leftOf_45 hl (by decide) rfl (fun ls hl => ?_)
    refine lv_iload hx hb dX10_leftOf_47 (lv_at hl 5 rfl) ?_
    refine lv_iload hx hb dX10_leftOf_49 (lv_at hl 0 rfl) ?_
    refine lv_if_eq (tgt := 58) hx hb dX10_leftOf_51 (by decide) (fun c_7 => ?_) (fun c_7 => ?_)
    · replace h := if_p c_7 h
      refine lv_iconst (v := (0 : Int32)) hx hb dX10_leftOf_58 (by decide) ?_
      exact L59 k8 hk8 M_below (0 : Int32) x5 x1 x2 x3 x6 t0 _ _ hP hD hS ls (lv_sub hl [1, 2, 3, 4, 6, 0] rfl) h
    · replace h := if_n c_7 h
      refine lv_iconst (v := (1 : Int32)) hx hb dX10_leftOf_54 (by decide) ?_
      refine lv_goto (tgt := 59) hx hb dX10_leftOf_55 (by decide) ?_
      exact L59 k8 hk8 M_below (1 : Int32) x5 x1 x2 x3 x6 t0 _ _ hP hD hS ls (lv_sub hl [1, 2, 3, 4, 6, 0] rfl) h
  have L44 : ∀ (k8 : Int64 → Int32 → Int32 → Int64 → Int32 → Int32 → Option (Int64 × Int64)) (_ : ∀ (M_below : Int64) (x1 : Int32) (x2 : Int32) (x3 : Int64) (x5 : Int32) (x6 : Int32), ∀ (H : Heap) (locs : List Loc), va_P D vwCl [(aM, .inr (10, [.ref aM_text, .int M_size, .int M_many, .ref aM_slips, .ref aM_lates, .ref aM_copies, .int M_little, .int M_in, .int M_streak, .int M_lot, .int M_undos, .ref aM_before, .ref aM_images, .ref aM_kept, .long M_trace, .int M_at, .int M_begin, .int M_kind, .long M_value, .int M_readMany, .int M_readLittle, .ref aM_read, .long M_below])), (aM_slips, .inl (cI, 6, .inl M_slips)), (aM_lates, .inl (cI, 6, .inl M_lates)), (aM_copies, .inl (cI, 6, .inl M_copies))] H → va_D A [(aM, .inr (10, [.ref aM_text, .int M_size, .int M_many, .ref aM_slips, .ref aM_lates, .ref aM_copies, .int M_little, .int M_in, .int M_streak, .int M_lot, .int M_undos, .ref aM_before, .ref aM_images, .ref aM_kept, .long M_trace, .int M_at, .int M_begin, .int M_kind, .long M_value, .int M_readMany, .int M_readLittle, .ref aM_read, .long M_below])), (aM_slips, .inl (cI, 6, .inl M_slips)), (aM_lates, .inl (cI, 6, .inl M_lates)), (aM_copies, .inl (cI, 6, .inl M_copies))] → va_S A s.heap H locs → ∀ (ls : Array Slot), lv_has ls 13 [(0, .ref aM), (1, .int x1), (2, .int x2), (3, .long x3), (5, .int x5), (6, .int x6)] → k8 M_below x1 x2 x3 x5 x6 = some y0 → W p l e (headSpec wsX10_leftOf ({ frames := 3, cells := 0, slots := 0, locals := 66 } : Room)).room s m ([.ref aM, .int p1, .int p2] : List Value).toArray below meth c H locs 0 0 (MQ below (va_Ql (fun (r : Int64) (_ : Unit) => r = y0.1) (fun (_ : Unit) t => va_P D vwCl [(aM, .inr (10, [.ref aM_text, .int M_size, .int M_many, .ref aM_slips, .ref aM_lates, .ref aM_copies, .int M_little, .int M_in, .int M_streak, .int M_lot, .int M_undos, .ref aM_before, .ref aM_images, .ref aM_kept, .long M_trace, .int M_at, .int M_begin, .int M_kind, .long M_value, .int M_readMany, .int M_readLittle, .ref aM_read, .long y0.2])), (aM_slips, .inl (cI, 6, .inl M_slips)), (aM_lates, .inl (cI, 6, .inl M_lates)), (aM_copies, .inl (cI, 6, .inl M_copies))] t.heap ∧ va_D A [(aM, .inr (10, [.ref aM_text, .int M_size, .int M_many, .ref aM_slips, .ref aM_lates, .ref aM_copies, .int M_little, .int M_in, .int M_streak, .int M_lot, .int M_undos, .ref aM_before, .ref aM_images, .ref aM_kept, .long M_trace, .int M_at, .int M_begin, .int M_kind, .long M_value, .int M_readMany, .int M_readLittle, .ref aM_read, .long y0.2])), (aM_slips, .inl (cI, 6, .inl M_slips)), (aM_lates, .inl (cI, 6, .inl M_lates)), (aM_copies, .inl (cI, 6, .inl M_copies))]) A) ([.ref aM, .int p1, .int p2] : List Value).toArray s 0 0 A) (F0 m 8 ls [])), ∀ (M_below : Int64) (x1 : Int32) (x2 : Int32) (x3 : Int64) (x5 : Int32) (x6 : Int32), ∀ (H : Heap) (locs : List Loc), va_P D vwCl [(aM, .inr (10, [.ref aM_text, .int M_size, .int M_many, .ref aM_slips, .ref aM_lates, .ref aM_copies, .int M_little, .int M_in, .int M_streak, .int M_lot, .int M_undos, .ref aM_before, .ref aM_images, .ref aM_kept, .long M_trace, .int M_at, .int M_begin, .int M_kind, .long M_value, .int M_readMany, .int M_readLittle, .ref aM_read, .long M_below])), (aM_slips, .inl (cI, 6, .inl M_slips)), (aM_lates, .inl (cI, 6, .inl M_lates)), (aM_copies, .inl (cI, 6, .inl M_copies))] H → va_D A [(aM, .inr (10, [.ref aM_text, .int M_size, .int M_many, .ref aM_slips, .ref aM_lates, .ref aM_copies, .int M_little, .int M_in, .int M_streak, .int M_lot, .int M_undos, .ref aM_before, .ref aM_images, .ref aM_kept, .long M_trace, .int M_at, .int M_begin, .int M_kind, .long M_value, .int M_readMany, .int M_readLittle, .ref aM_read, .long M_below])), (aM_slips, .inl (cI, 6, .inl M_slips)), (aM_lates, .inl (cI, 6, .inl M_lates)), (aM_copies, .inl (cI, 6, .inl M_copies))] → va_S A s.heap H locs → ∀ (ls : Array Slot), lv_has ls 13 [(0, .ref aM), (1, .int x1), (2, .int x2), (3, .long x3), (5, .int x5), (6, .int x6)] → f_X10_leftOf_L44 M_many M_in M_streak M_slips M_lates M_copies k8 M_below x1 x2 x3 x5 x6 = some y0 → W p l e (headSpec wsX10_leftOf ({ frames := 3, cells := 0, slots := 0, locals := 66 } : Room)).room s m ([.ref aM, .int p1, .int p2] : List Value).toArray below meth c H locs 0 0 (MQ below (va_Ql (fun (r : Int64) (_ : Unit) => r = y0.1) (fun (_ : Unit) t => va_P D vwCl [(aM, .inr (10, [.ref aM_text, .int M_size, .int M_many, .ref aM_slips, .ref aM_lates, .ref aM_copies, .int M_little, .int M_in, .int M_streak, .int M_lot, .int M_undos, .ref aM_before, .ref aM_images, .ref aM_kept, .long M_trace, .int M_at, .int M_begin, .int M_kind, .long M_value, .int M_readMany, .int M_readLittle, .ref aM_read, .long y0.2])), (aM_slips, .inl (cI, 6, .inl M_slips)), (aM_lates, .inl (cI, 6, .inl M_lates)), (aM_copies, .inl (cI, 6, .inl M_copies))] t.heap ∧ va_D A [(aM, .inr (10, [.ref aM_text, .int M_size, .int M_many, .ref aM_slips, .ref aM_lates, .ref aM_copies, .int M_little, .int M_in, .int M_streak, .int M_lot, .int M_undos, .ref aM_before, .ref aM_images, .ref aM_kept, .long M_trace, .int M_at, .int M_begin, .int M_kind, .long M_value, .int M_readMany, .int M_readLittle, .ref aM_read, .long y0.2])), (aM_slips, .inl (cI, 6, .inl M_slips)), (aM_lates, .inl (cI, 6, .inl M_lates)), (aM_copies, .inl (cI, 6, .inl M_copies))]) A) ([.ref aM, .int p1, .int p2] : List Value).toArray s 0 0 A) (F0 m 44 ls []) := by
    intro k8 hk8
    intro M_below x1 x2 x3 x5 x6 H locs hP hD hS ls hl h
    unfold f_X10_leftOf_L44 at h
    refine lv_iconst (v := (0 : Int32)) hx hb dX10_leftOf_44 (by decide) ?_
    exact L45 k8 hk8 M_below (0 : Int32) x1 x2 x3 x5 x6 _ _ hP hD hS ls (lv_sub hl [0, 1, 2, 3, 4, 5] rfl) h
  have L8 : ∀ (n : Nat), ∀ (M_below : Int64) (x1 : Int32) (x2 : Int32) (x3 : Int64) (x5 : Int32) (x6 : Int32), ∀ (H : Heap) (locs : List Loc), va_P D vwCl [(aM, .inr (10, [.ref aM_text, .int M_size, .int M_many, .ref aM_slips, .ref aM_lates, .ref aM_copies, .int M_little, .int M_in, .int M_streak, .int M_lot, .int M_undos, .ref aM_before, .ref aM_images, .ref aM_kept, .long M_trace, .int M_at, .int M_begin, .int M_kind, .long M_value, .int M_readMany, .int M_readLittle, .ref aM_read, .long M_below])), (aM_slips, .inl (cI, 6, .inl M_slips)), (aM_lates, .inl (cI, 6, .inl M_lates)), (aM_copies, .inl (cI, 6, .inl M_copies))] H → va_D A [(aM, .inr (10, [.ref aM_text, .int M_size, .int M_many, .ref aM_slips, .ref aM_lates, .ref aM_copies, .int M_little, .int M_in, .int M_streak, .int M_lot, .int M_undos, .ref aM_before, .ref aM_images, .ref aM_kept, .long M_trace, .int M_at, .int M_begin, .int M_kind, .long M_value, .int M_readMany, .int M_readLittle, .ref aM_read, .long M_below])), (aM_slips, .inl (cI, 6, .inl M_slips)), (aM_lates, .inl (cI, 6, .inl M_lates)), (aM_copies, .inl (cI, 6, .inl M_copies))] → va_S A s.heap H locs → ∀ (ls : Array Slot), lv_has ls 13 [(0, .ref aM), (1, .int x1), (2, .int x2), (3, .long x3), (5, .int x5), (6, .int x6)] → f_X10_leftOf_L8 M_many M_in M_streak M_slips M_lates M_copies n M_below x1 x2 x3 x5 x6 = some y0 → W p l e (headSpec wsX10_leftOf ({ frames := 3, cells := 0, slots := 0, locals := 66 } : Room)).room s m ([.ref aM, .int p1, .int p2] : List Value).toArray below meth c H locs 0 0 (MQ below (va_Ql (fun (r : Int64) (_ : Unit) => r = y0.1) (fun (_ : Unit) t => va_P D vwCl [(aM, .inr (10, [.ref aM_text, .int M_size, .int M_many, .ref aM_slips, .ref aM_lates, .ref aM_copies, .int M_little, .int M_in, .int M_streak, .int M_lot, .int M_undos, .ref aM_before, .ref aM_images, .ref aM_kept, .long M_trace, .int M_at, .int M_begin, .int M_kind, .long M_value, .int M_readMany, .int M_readLittle, .ref aM_read, .long y0.2])), (aM_slips, .inl (cI, 6, .inl M_slips)), (aM_lates, .inl (cI, 6, .inl M_lates)), (aM_copies, .inl (cI, 6, .inl M_copies))] t.heap ∧ va_D A [(aM, .inr (10, [.ref aM_text, .int M_size, .int M_many, .ref aM_slips, .ref aM_lates, .ref aM_copies, .int M_little, .int M_in, .int M_streak, .int M_lot, .int M_undos, .ref aM_before, .ref aM_images, .ref aM_kept, .long M_trace, .int M_at, .int M_begin, .int M_kind, .long M_value, .int M_readMany, .int M_readLittle, .ref aM_read, .long y0.2])), (aM_slips, .inl (cI, 6, .inl M_slips)), (aM_lates, .inl (cI, 6, .inl M_lates)), (aM_copies, .inl (cI, 6, .inl M_copies))]) A) ([.ref aM, .int p1, .int p2] : List Value).toArray s 0 0 A) (F0 m 8 ls []) := by
    intro n
    induction n with
    | zero =>
      intro M_below x1 x2 x3 x5 x6 H locs hP hD hS ls hl h
      exact (ns h).elim
    | succ n ih =>
      intro M_below x1 x2 x3 x5 x6 H locs hP hD hS ls hl h
      unfold f_X10_leftOf_L8 at h
      refine lv_iload hx hb dX10_leftOf_8 (lv_at hl 5 rfl) ?_
      refine lv_aload_n hx hb dX10_leftOf_10 rfl (lv_at hl 0 rfl) ?_
      refine va_get (D := D) (ci := 10) (v := .int M_many) (C := RX10) (T := TX10) (N := 23) hx hb hts inX10 hown hK hP 0 rfl rfl 2 (by decide) fl_39 (fun _ h9 => h9) rfl dX10_leftOf_11 ?_
      refine lv_icmp_ge (tgt := 172) hx hb dX10_leftOf_14 (by decide) (fun c_1 => ?_) (fun c_1 => ?_)
      · replace h := if_p c_1 h
        refine lv_aload_n hx hb dX10_leftOf_172 rfl (lv_at hl 0 rfl) ?_
        refine lv_iload_n hx hb dX10_leftOf_173 rfl (lv_at hl 2 rfl) ?_
        refine lv_iload hx hb dX10_leftOf_174 (lv_at hl 4 rfl) ?_
        refine lv_imul hx hb dX10_leftOf_176 ?_
        obtain ⟨y2, qy2, h⟩ := ob_some h
        have hPc : va_P D vwCl [] H := hP.sub [] rfl
        refine vp_callSl (va_Run.run (va_runS (As := [.int (x2 * x5)]) (rest := [.ref aM]) ⟨hx, hb, hml, hown, hts⟩ (c_X10_tens l D cI cJ cZ cO (x2 * x5) y2 qy2) (cwS 1 hts gX10_leftOf_X10_tens rfl rfl rfl (by decide +kernel) ⟨Nat.le_of_ble_eq_true rfl, Nat.le_of_ble_eq_true rfl⟩) ⟨fb_p, fun U hU hW => ⟨rfl, by rw [hU]; exact hPc, KK.warm hW hKK⟩⟩ rfl rfl hl.1 rfl (lv_room (Nat.le_of_ble_eq_true rfl)) dX10_leftOf_177 ⟨Nat.le_of_ble_eq_true rfl, Nat.le_of_ble_eq_true rfl⟩)) (fun r hr => ?_)
        replace hr := hr.symm
        subst hr
        refine va_put (D := D) (ci := 10) (v := .long y2) (ty := .long) (C := RX10) (T := TX10) (N := 23) hx hb hts inX10 tyX10 tyX10_ok nmX10 hown hK hP hD hS 0 rfl rfl 22 (by decide) fl_165 (fun _ h9 => h9) rfl (by decide +kernel) rfl rfl (Nat.le_of_ble_eq_true rfl) dX10_leftOf_180 (fun H locs hP hD hS => ?_)
        have hP : va_P D vwCl [(aM, .inr (10, [.ref aM_text, .int M_size, .int M_many, .ref aM_slips, .ref aM_lates, .ref aM_copies, .int M_little, .int M_in, .int M_streak, .int M_lot, .int M_undos, .ref aM_before, .ref aM_images, .ref aM_kept, .long M_trace, .int M_at, .int M_begin, .int M_kind, .long M_value, .int M_readMany, .int M_readLittle, .ref aM_read, .long y2])), (aM_slips, .inl (cI, 6, .inl M_slips)), (aM_lates, .inl (cI, 6, .inl M_lates)), (aM_copies, .inl (cI, 6, .inl M_copies))] H := hP
        have hD : va_D A [(aM, .inr (10, [.ref aM_text, .int M_size, .int M_many, .ref aM_slips, .ref aM_lates, .ref aM_copies, .int M_little, .int M_in, .int M_streak, .int M_lot, .int M_undos, .ref aM_before, .ref aM_images, .ref aM_kept, .long M_trace, .int M_at, .int M_begin, .int M_kind, .long M_value, .int M_readMany, .int M_readLittle, .ref aM_read, .long y2])), (aM_slips, .inl (cI, 6, .inl M_slips)), (aM_lates, .inl (cI, 6, .inl M_lates)), (aM_copies, .inl (cI, 6, .inl M_copies))] := hD
        refine lv_lload_n hx hb dX10_leftOf_183 rfl (lv_at hl 3 rfl) ?_
        have hy := Option.some.inj h
        subst hy
        exact W.lret (v := x3) hx hb hr (fun t ht hW => ⟨⟨x3, (), rfl, rfl, by rw [ht]; exact hP, hD⟩, hS.F ht⟩) hS.2.2 dX10_leftOf_184
      · replace h := if_n c_1 h
        refine lv_aload_n hx hb dX10_leftOf_17 rfl (lv_at hl 0 rfl) ?_
        refine va_get (D := D) (ci := 10) (v := .int M_in) (C := RX10) (T := TX10) (N := 23) hx hb hts inX10 hown hK hP 0 rfl rfl 7 (by decide) fl_119 (fun _ h9 => h9) rfl dX10_leftOf_18 ?_
        refine lv_iload hx hb dX10_leftOf_21 (lv_at hl 5 rfl) ?_
        have hPc : va_P D vwCl [] H := hP.sub [] rfl
        refine vp_callSi (va_Run.run (va_runS (As := [.int M_in, .int x6]) (rest := []) ⟨hx, hb, hml, hown, hts⟩ (c_X10_has l D cI cJ cZ cO M_in x6 _ rfl) (cwS 2 hts gX10_leftOf_X10_has rfl rfl rfl (by decide +kernel) ⟨Nat.le_of_ble_eq_true rfl, Nat.le_of_ble_eq_true rfl⟩) ⟨fb_p, fun U hU hW => ⟨rfl, by rw [hU]; exact hPc, KK.warm hW hKK⟩⟩ rfl rfl hl.1 rfl (lv_room (Nat.le_of_ble_eq_true rfl)) dX10_leftOf_23 ⟨Nat.le_of_ble_eq_true rfl, Nat.le_of_ble_eq_true rfl⟩)) (fun r hr => ?_)
        obtain ⟨hr, hz3⟩ := hr
        replace hr := hr.symm
        subst hr
        refine lv_if_eq (tgt := 44) hx hb dX10_leftOf_26 (by decide) (fun c_4 => ?_) (fun c_4 => ?_)
        · replace h := if_p c_4 h
          exact L44 (f_X10_leftOf_L8 M_many M_in M_streak M_slips M_lates M_copies n) ih M_below x1 x2 x3 x5 x6 _ _ hP hD hS ls (lv_sub hl [0, 1, 2, 3, 4, 5] rfl) h
        · replace h := if_n c_4 h
          refine lv_aload_n hx hb dX10_leftOf_29 rfl (lv_at hl 0 rfl) ?_
          refine lv_iload hx hb dX10_leftOf_30 (lv_at hl 5 rfl) ?_
          obtain ⟨y5, qy5, h⟩ := ob_some h
          have hPc : va_P D vwCl [(aM, .inr (10, [.ref aM_text, .int M_size, .int M_many, .ref aM_slips, .ref aM_lates, .ref aM_copies, .int M_little, .int M_in, .int M_streak, .int M_lot, .int M_undos, .ref aM_before, .ref aM_images, .ref aM_kept, .long M_trace, .int M_at, .int M_begin, .int M_kind, .long M_value, .int M_readMany, .int M_readLittle, .ref aM_read, .long M_below])), (aM_copies, .inl (cI, 6, .inl M_copies))] H := hP.sub [0, 3] rfl
          refine vp_callSi (va_Run.run (va_runV (As := [.int x6]) (rest := []) ⟨hx, hb, hml, hown, hts⟩ (c_X10_leaderOf l D cI cJ cZ cO aM aM_copies aM_text aM_slips aM_lates aM_before aM_images aM_kept aM_read M_size M_many M_little M_in M_streak M_lot M_undos M_trace M_at M_begin M_kind M_value M_readMany M_readLittle M_below M_copies x6 y5 qy5) (cwV 1 hts gX10_leftOf_X10_leaderOf rfl rfl rfl (by decide +kernel) ⟨Nat.le_of_ble_eq_true rfl, Nat.le_of_ble_eq_true rfl⟩) ⟨fb_p, va_recv hK hP (ci := 10) (q0 := 0) rfl rfl, fun U hU hW => ⟨rfl, by rw [hU]; exact hPc, KK.warm hW hKK⟩⟩ rfl rfl hl.1 rfl (lv_room (Nat.le_of_ble_eq_true rfl)) dX10_leftOf_32 ⟨Nat.le_of_ble_eq_true rfl, Nat.le_of_ble_eq_true rfl⟩)) (fun r hr => ?_)
          replace hr := hr.symm
          subst hr
          refine lv_iload hx hb dX10_leftOf_35 (lv_at hl 5 rfl) ?_
          refine lv_icmp_ne (tgt := 44) hx hb dX10_leftOf_37 (by decide) (fun c_6 => ?_) (fun c_6 => ?_)
          · replace h := if_n c_6 h
            exact L44 (f_X10_leftOf_L8 M_many M_in M_streak M_slips M_lates M_copies n) ih M_below x1 x2 x3 x5 x6 _ _ hP hD hS ls (lv_sub hl [0, 1, 2, 3, 4, 5] rfl) h
          · replace h := if_p c_6 h
            refine lv_iconst (v := (1 : Int32)) hx hb dX10_leftOf_40 (by decide) ?_
            refine lv_goto (tgt := 45) hx hb dX10_leftOf_41 (by decide) ?_
            exact L45 (f_X10_leftOf_L8 M_many M_in M_streak M_slips M_lates M_copies n) ih M_below (1 : Int32) x1 x2 x3 x5 x6 _ _ hP hD hS ls (lv_sub hl [0, 1, 2, 3, 4, 5] rfl) h
  unfold f_X10_leftOf at h
  refine lv_lconst (v := (0 : Int64)) hx hb dX10_leftOf_0 (by decide) ?_
  refine lv_lstore_n (lv' := [(3, .long (0 : Int64)), (0, .ref aM), (1, .int p1), (2, .int p2)]) hx hb dX10_leftOf_1 rfl hl (by decide) rfl (fun ls hl => ?_)
  refine lv_iconst (v := (0 : Int32)) hx hb dX10_leftOf_2 (by decide) ?_
  refine lv_istore (lv' := [(5, .int (0 : Int32)), (3, .long (0 : Int64)), (0, .ref aM), (1, .int p1), (2, .int p2)]) hx hb dX10_leftOf_3 hl (by decide) rfl (fun ls hl => ?_)
  refine lv_iconst (v := (0 : Int32)) hx hb dX10_leftOf_5 (by decide) ?_
  refine lv_istore (lv' := [(6, .int (0 : Int32)), (5, .int (0 : Int32)), (3, .long (0 : Int64)), (0, .ref aM), (1, .int p1), (2, .int p2)]) hx hb dX10_leftOf_6 hl (by decide) rfl (fun ls hl => ?_)
  exact L8 300 M_below p1 p2 (0 : Int64) (0 : Int32) (0 : Int32) _ _ hP hD hS ls (lv_sub hl [3, 4, 5, 2, 1, 0] rfl) h

def f_X10_left (M_many : Int32) (M_in : Int32) (M_streak : Int32) (M_below : Int64) (M_slips : Nat → Int32) (M_lates : Nat → Int32) (M_copies : Nat → Int32) (p1 : Int32) (p2 : Int32) : Option (Int64 × Int64) := (Option.bind (f_X10_ordersIn p1) (fun y1 => (if (f_X10_within y1.toInt64 (0 : Int64) (3 : Int64)) = 0 then some ((-1 : Int64), M_below) else (if (f_X10_isPart p2) = 0 then some ((-1 : Int64), M_below) else (Option.bind (f_X10_leftOf M_many M_in M_streak M_below M_slips M_lates M_copies p1 y1) (fun y6 => (Option.bind (f_X10_part y6.1 y6.2 p2) (fun y7 => some (y7, y6.2)))))))))
set_option maxHeartbeats 8000000 in
set_option maxRecDepth 100000 in
theorem c_X10_left (l : Launch) (D : va_G) (cI cJ cZ cO : ClassId) (aM : Nat) (aM_slips : Nat) (aM_lates : Nat) (aM_copies : Nat) (aM_text : Nat) (aM_before : Nat) (aM_images : Nat) (aM_kept : Nat) (aM_read : Nat) (M_size : Int32) (M_many : Int32) (M_little : Int32) (M_in : Int32) (M_streak : Int32) (M_lot : Int32) (M_undos : Int32) (M_trace : Int64) (M_at : Int32) (M_begin : Int32) (M_kind : Int32) (M_value : Int64) (M_readMany : Int32) (M_readLittle : Int32) (M_below : Int64) (M_slips : Nat → Int32) (M_lates : Nat → Int32) (M_copies : Nat → Int32) (sz : Nat) (p1 : Int32) (p2 : Int32)  (y0 : Int64 × Int64) (h : f_X10_left M_many M_in M_streak M_below M_slips M_lates M_copies p1 p2 = some y0) : Met l yX10_left wsX10_left ({ frames := 4, cells := 0, slots := 0, locals := 98 } : Room) (va_Pc [.ref aM, .int p1, .int p2] (fun U => U.heap.size = sz ∧ va_P D vwCl [(aM, .inr (10, [.ref aM_text, .int M_size, .int M_many, .ref aM_slips, .ref aM_lates, .ref aM_copies, .int M_little, .int M_in, .int M_streak, .int M_lot, .int M_undos, .ref aM_before, .ref aM_images, .ref aM_kept, .long M_trace, .int M_at, .int M_begin, .int M_kind, .long M_value, .int M_readMany, .int M_readLittle, .ref aM_read, .long M_below])), (aM_slips, .inl (cI, 6, .inl M_slips)), (aM_lates, .inl (cI, 6, .inl M_lates)), (aM_copies, .inl (cI, 6, .inl M_copies))] U.heap ∧ KK D cI cJ cZ cO U ∧ va_D (fun _ => True) [(aM, .inr (10, [.ref aM_text, .int M_size, .int M_many, .ref aM_slips, .ref aM_lates, .ref aM_copies, .int M_little, .int M_in, .int M_streak, .int M_lot, .int M_undos, .ref aM_before, .ref aM_images, .ref aM_kept, .long M_trace, .int M_at, .int M_begin, .int M_kind, .long M_value, .int M_readMany, .int M_readLittle, .ref aM_read, .long M_below])), (aM_slips, .inl (cI, 6, .inl M_slips)), (aM_lates, .inl (cI, 6, .inl M_lates)), (aM_copies, .inl (cI, 6, .inl M_copies))])) (va_Ql (fun (r : Int64) (_ : Unit) => r = y0.1) (fun (_ : Unit) t => va_P D vwCl [(aM, .inr (10, [.ref aM_text, .int M_size, .int M_many, .ref aM_slips, .ref aM_lates, .ref aM_copies, .int M_little, .int M_in, .int M_streak, .int M_lot, .int M_undos, .ref aM_before, .ref aM_images, .ref aM_kept, .long M_trace, .int M_at, .int M_begin, .int M_kind, .long M_value, .int M_readMany, .int M_readLittle, .ref aM_read, .long y0.2])), (aM_slips, .inl (cI, 6, .inl M_slips)), (aM_lates, .inl (cI, 6, .inl M_lates)), (aM_copies, .inl (cI, 6, .inl M_copies))] t.heap ∧ va_D (va_A [(aM, .inr (10, [.ref aM_text, .int M_size, .int M_many, .ref aM_slips, .ref aM_lates, .ref aM_copies, .int M_little, .int M_in, .int M_streak, .int M_lot, .int M_undos, .ref aM_before, .ref aM_images, .ref aM_kept, .long M_trace, .int M_at, .int M_begin, .int M_kind, .long M_value, .int M_readMany, .int M_readLittle, .ref aM_read, .long M_below])), (aM_slips, .inl (cI, 6, .inl M_slips)), (aM_lates, .inl (cI, 6, .inl M_lates)), (aM_copies, .inl (cI, 6, .inl M_copies))] sz) [(aM, .inr (10, [.ref aM_text, .int M_size, .int M_many, .ref aM_slips, .ref aM_lates, .ref aM_copies, .int M_little, .int M_in, .int M_streak, .int M_lot, .int M_undos, .ref aM_before, .ref aM_images, .ref aM_kept, .long M_trace, .int M_at, .int M_begin, .int M_kind, .long M_value, .int M_readMany, .int M_readLittle, .ref aM_read, .long y0.2])), (aM_slips, .inl (cI, 6, .inl M_slips)), (aM_lates, .inl (cI, 6, .inl M_lates)), (aM_copies, .inl (cI, 6, .inl M_copies))]) (va_A [(aM, .inr (10, [.ref aM_text, .int M_size, .int M_many, .ref aM_slips, .ref aM_lates, .ref aM_copies, .int M_little, .int M_in, .int M_streak, .int M_lot, .int M_undos, .ref aM_before, .ref aM_images, .ref aM_kept, .long M_trace, .int M_at, .int M_begin, .int M_kind, .long M_value, .int M_readMany, .int M_readLittle, .ref aM_read, .long M_below])), (aM_slips, .inl (cI, 6, .inl M_slips)), (aM_lates, .inl (cI, 6, .inl M_lates)), (aM_copies, .inl (cI, 6, .inl M_copies))] sz)) 0 0 (va_A [(aM, .inr (10, [.ref aM_text, .int M_size, .int M_many, .ref aM_slips, .ref aM_lates, .ref aM_copies, .int M_little, .int M_in, .int M_streak, .int M_lot, .int M_undos, .ref aM_before, .ref aM_images, .ref aM_kept, .long M_trace, .int M_at, .int M_begin, .int M_kind, .long M_value, .int M_readMany, .int M_readLittle, .ref aM_read, .long M_below])), (aM_slips, .inl (cI, 6, .inl M_slips)), (aM_lates, .inl (cI, 6, .inl M_lates)), (aM_copies, .inl (cI, 6, .inl M_copies))] sz) := by
  refine Met.ofW (cc := cX10_left) (maxL := 6) (ret := (some .long)) (by decide) rfl ?_
  intro p e s m args below meth c s₁ B hml hv
  obtain ⟨rfl, hsz, hP, hKK, hD0⟩ := hv
  have hx := B.exec
  have hb := B.bytes
  have hr := B.returns
  have hts := atoms_spec (ws := wsX10_left) B.pre
  have hown : s.vm.findClass RX10 = some m.cls := findClass_of_methodNamed B.named
  have hlocks := B.notSynchronized
  have hK := hKK.1
  have fl_165 := hts (.fieldLink RX10 165 "SimonSaysModel" "below" "J") (by decide +kernel)
  have cst_79 := hts (.constantLong RX10 79 (-1)) (by decide +kernel)
  have cst_198 := hts (.constantLong RX10 198 (3)) (by decide +kernel)
  have inX10 : ∀ w ∈ wsX100, w ∈ wsX10_left := by decide +kernel
  subst hsz
  have hD := hD0.self (sz := s.heap.size)
  generalize hAe : va_A [(aM, .inr (10, [.ref aM_text, .int M_size, .int M_many, .ref aM_slips, .ref aM_lates, .ref aM_copies, .int M_little, .int M_in, .int M_streak, .int M_lot, .int M_undos, .ref aM_before, .ref aM_images, .ref aM_kept, .long M_trace, .int M_at, .int M_begin, .int M_kind, .long M_value, .int M_readMany, .int M_readLittle, .ref aM_read, .long M_below])), (aM_slips, .inl (cI, 6, .inl M_slips)), (aM_lates, .inl (cI, 6, .inl M_lates)), (aM_copies, .inl (cI, 6, .inl M_copies))] s.heap.size = A at hD ⊢
  have hA : ∀ q : Nat, s.heap.size ≤ q → A q := fun q h => by rw [← hAe]; exact Or.inr h
  have hS : va_S A s.heap s.heap [] := va_S.rf
  have hl := lv_entry ([.ref aM, .int p1, .int p2]) (n := 6) (Nat.le_of_ble_eq_true rfl)
  rw [lg_entry_eq]
  generalize (lg_sl ([.ref aM, .int p1, .int p2]) ++ List.replicate (6 - (lg_sl ([.ref aM, .int p1, .int p2])).length) Slot.unset).toArray = ls at hl ⊢
  have hl : lv_has ls 6 [(0, .ref aM), (1, .int p1), (2, .int p2)] := hl
  unfold f_X10_left at h
  refine lv_iload_n hx hb dX10_left_0 rfl (lv_at hl 1 rfl) ?_
  obtain ⟨y1, qy1, h⟩ := ob_some h
  have hPc : va_P D vwCl [] s.heap := hP.sub [] rfl
  refine vp_callSi (va_Run.run (va_runS (As := [.int p1]) (rest := []) ⟨hx, hb, hml, hown, hts⟩ (c_X10_ordersIn l D cI cJ cZ cO p1 y1 qy1) (cwS 1 hts gX10_left_X10_ordersIn rfl rfl rfl (by decide +kernel) ⟨Nat.le_of_ble_eq_true rfl, Nat.le_of_ble_eq_true rfl⟩) ⟨fb_p, fun U hU hW => ⟨rfl, by rw [hU]; exact hPc, KK.warm hW hKK⟩⟩ rfl rfl hl.1 rfl (lv_room (Nat.le_of_ble_eq_true rfl)) dX10_left_1 ⟨Nat.le_of_ble_eq_true rfl, Nat.le_of_ble_eq_true rfl⟩)) (fun r hr => ?_)
  replace hr := hr.symm
  subst hr
  refine lv_istore_n (lv' := [(3, .int y1), (0, .ref aM), (1, .int p1), (2, .int p2)]) hx hb dX10_left_4 rfl hl (by decide) rfl (fun ls hl => ?_)
  refine lv_iload_n hx hb dX10_left_5 rfl (lv_at hl 0 rfl) ?_
  refine lv_i2l (v := y1.toInt64) hx hb dX10_left_6 rfl ?_
  refine lv_lconst (v := (0 : Int64)) hx hb dX10_left_7 (by decide) ?_
  refine lv_ldc2 (v := (3 : Int64)) hx hb hown cst_198 dX10_left_8 ?_
  have hPc : va_P D vwCl [] s.heap := hP.sub [] rfl
  refine vp_callSi (va_Run.run (va_runS (As := [.long y1.toInt64, .long (0 : Int64), .long (3 : Int64)]) (rest := []) ⟨hx, hb, hml, hown, hts⟩ (c_X10_within l D cI cJ cZ cO y1.toInt64 (0 : Int64) (3 : Int64) _ rfl) (cwS 3 hts gX10_left_X10_within rfl rfl rfl (by decide +kernel) ⟨Nat.le_of_ble_eq_true rfl, Nat.le_of_ble_eq_true rfl⟩) ⟨fb_p, fun U hU hW => ⟨rfl, by rw [hU]; exact hPc, KK.warm hW hKK⟩⟩ rfl rfl hl.1 rfl (lv_room (Nat.le_of_ble_eq_true rfl)) dX10_left_11 ⟨Nat.le_of_ble_eq_true rfl, Nat.le_of_ble_eq_true rfl⟩)) (fun r hr => ?_)
  obtain ⟨hr, hz2⟩ := hr
  replace hr := hr.symm
  subst hr
  refine lv_if_eq (tgt := 24) hx hb dX10_left_14 (by decide) (fun c_3 => ?_) (fun c_3 => ?_)
  · replace h := if_p c_3 h
    refine lv_ldc2 (v := (-1 : Int64)) hx hb hown cst_79 dX10_left_24 ?_
    have hy := Option.some.inj h
    subst hy
    exact W.lret (v := (-1 : Int64)) hx hb hr (fun t ht hW => ⟨⟨(-1 : Int64), (), rfl, rfl, by rw [ht]; exact hP, hD⟩, hS.F ht⟩) hS.2.2 dX10_left_27
  · replace h := if_n c_3 h
    refine lv_iload_n hx hb dX10_left_17 rfl (lv_at hl 3 rfl) ?_
    have hPc : va_P D vwCl [] s.heap := hP.sub [] rfl
    refine vp_callSi (va_Run.run (va_runS (As := [.int p2]) (rest := []) ⟨hx, hb, hml, hown, hts⟩ (c_X10_isPart l D cI cJ cZ cO p2 _ rfl) (cwS 1 hts gX10_left_X10_isPart rfl rfl rfl (by decide +kernel) ⟨Nat.le_of_ble_eq_true rfl, Nat.le_of_ble_eq_true rfl⟩) ⟨fb_p, fun U hU hW => ⟨rfl, by rw [hU]; exact hPc, KK.warm hW hKK⟩⟩ rfl rfl hl.1 rfl (lv_room (Nat.le_of_ble_eq_true rfl)) dX10_left_18 ⟨Nat.le_of_ble_eq_true rfl, Nat.le_of_ble_eq_true rfl⟩)) (fun r hr => ?_)
    obtain ⟨hr, hz4⟩ := hr
    replace hr := hr.symm
    subst hr
    refine lv_if_ne (tgt := 28) hx hb dX10_left_21 (by decide) (fun c_5 => ?_) (fun c_5 => ?_)
    · replace h := if_n c_5 h
      refine lv_aload_n hx hb dX10_left_28 rfl (lv_at hl 1 rfl) ?_
      refine lv_iload_n hx hb dX10_left_29 rfl (lv_at hl 2 rfl) ?_
      refine lv_iload_n hx hb dX10_left_30 rfl (lv_at hl 0 rfl) ?_
      obtain ⟨y6, qy6, h⟩ := ob_some h
      have hPc : va_P D vwCl [(aM, .inr (10, [.ref aM_text, .int M_size, .int M_many, .ref aM_slips, .ref aM_lates, .ref aM_copies, .int M_little, .int M_in, .int M_streak, .int M_lot, .int M_undos, .ref aM_before, .ref aM_images, .ref aM_kept, .long M_trace, .int M_at, .int M_begin, .int M_kind, .long M_value, .int M_readMany, .int M_readLittle, .ref aM_read, .long M_below])), (aM_slips, .inl (cI, 6, .inl M_slips)), (aM_lates, .inl (cI, 6, .inl M_lates)), (aM_copies, .inl (cI, 6, .inl M_copies))] s.heap := hP.sub [0, 1, 2, 3] rfl
      have hDc : va_D A [(aM, .inr (10, [.ref aM_text, .int M_size, .int M_many, .ref aM_slips, .ref aM_lates, .ref aM_copies, .int M_little, .int M_in, .int M_streak, .int M_lot, .int M_undos, .ref aM_before, .ref aM_images, .ref aM_kept, .long M_trace, .int M_at, .int M_begin, .int M_kind, .long M_value, .int M_readMany, .int M_readLittle, .ref aM_read, .long M_below])), (aM_slips, .inl (cI, 6, .inl M_slips)), (aM_lates, .inl (cI, 6, .inl M_lates)), (aM_copies, .inl (cI, 6, .inl M_copies))] := hD.sub [0, 1, 2, 3] (by decide) rfl
      have hFc := va_free (wc := [(aM, .inr (10, [.ref aM_text, .int M_size, .int M_many, .ref aM_slips, .ref aM_lates, .ref aM_copies, .int M_little, .int M_in, .int M_streak, .int M_lot, .int M_undos, .ref aM_before, .ref aM_images, .ref aM_kept, .long M_trace, .int M_at, .int M_begin, .int M_kind, .long M_value, .int M_readMany, .int M_readLittle, .ref aM_read, .long M_below])), (aM_slips, .inl (cI, 6, .inl M_slips)), (aM_lates, .inl (cI, 6, .inl M_lates)), (aM_copies, .inl (cI, 6, .inl M_copies))]) hD hS hA [0, 1, 2, 3] rfl
      refine va_calll (va_runV (As := [.int p1, .int y1]) (rest := []) ⟨hx, hb, hml, hown, hts⟩ (c_X10_leftOf l D cI cJ cZ cO aM aM_slips aM_lates aM_copies aM_text aM_before aM_images aM_kept aM_read M_size M_many M_little M_in M_streak M_lot M_undos M_trace M_at M_begin M_kind M_value M_readMany M_readLittle M_below M_slips M_lates M_copies s.heap.size p1 y1 y6 qy6) (cwV 2 hts gX10_left_X10_leftOf rfl rfl rfl (by decide +kernel) ⟨Nat.le_of_ble_eq_true rfl, Nat.le_of_ble_eq_true rfl⟩) ⟨fb_i, va_recv hK hP (ci := 10) (q0 := 0) rfl rfl, fun U hU hW => ⟨rfl, by rw [hU], by rw [hU]; exact hPc, KK.warm hW hKK, hDc.weaken (fun _ _ _ _ => trivial)⟩⟩ rfl rfl hl.1 rfl (lv_room (Nat.le_of_ble_eq_true rfl)) dX10_left_31 ⟨Nat.le_of_ble_eq_true rfl, Nat.le_of_ble_eq_true rfl⟩) hS (fun q _ h => hFc q h) hFc (fun r u t H1 locs ht hvm hw hB hz1 hk1 hS => ?_)
      obtain ⟨hP1, hD1⟩ := hB
      rw [ht] at hP1
      replace hw := hw.symm
      subst hw
      obtain ⟨hP, hD⟩ := va_join (wr := []) (w1 := [(aM, .inr (10, [.ref aM_text, .int M_size, .int M_many, .ref aM_slips, .ref aM_lates, .ref aM_copies, .int M_little, .int M_in, .int M_streak, .int M_lot, .int M_undos, .ref aM_before, .ref aM_images, .ref aM_kept, .long M_trace, .int M_at, .int M_begin, .int M_kind, .long M_value, .int M_readMany, .int M_readLittle, .ref aM_read, .long y6.2])), (aM_slips, .inl (cI, 6, .inl M_slips)), (aM_lates, .inl (cI, 6, .inl M_lates)), (aM_copies, .inl (cI, 6, .inl M_copies))]) hP hD [0, 1, 2, 3] [] rfl rfl (by decide) (by decide) hk1 hFc hP1 hD1
      generalize H1 = H at hP hS ⊢
      have hP : va_P D vwCl [(aM, .inr (10, [.ref aM_text, .int M_size, .int M_many, .ref aM_slips, .ref aM_lates, .ref aM_copies, .int M_little, .int M_in, .int M_streak, .int M_lot, .int M_undos, .ref aM_before, .ref aM_images, .ref aM_kept, .long M_trace, .int M_at, .int M_begin, .int M_kind, .long M_value, .int M_readMany, .int M_readLittle, .ref aM_read, .long y6.2])), (aM_slips, .inl (cI, 6, .inl M_slips)), (aM_lates, .inl (cI, 6, .inl M_lates)), (aM_copies, .inl (cI, 6, .inl M_copies))] H := hP.sub [0, 1, 2, 3] rfl
      have hD : va_D A [(aM, .inr (10, [.ref aM_text, .int M_size, .int M_many, .ref aM_slips, .ref aM_lates, .ref aM_copies, .int M_little, .int M_in, .int M_streak, .int M_lot, .int M_undos, .ref aM_before, .ref aM_images, .ref aM_kept, .long M_trace, .int M_at, .int M_begin, .int M_kind, .long M_value, .int M_readMany, .int M_readLittle, .ref aM_read, .long y6.2])), (aM_slips, .inl (cI, 6, .inl M_slips)), (aM_lates, .inl (cI, 6, .inl M_lates)), (aM_copies, .inl (cI, 6, .inl M_copies))] := hD.sub [0, 1, 2, 3] (by decide) rfl
      refine lv_lstore (lv' := [(4, .long y6.1), (3, .int y1), (0, .ref aM), (1, .int p1), (2, .int p2)]) hx hb dX10_left_34 hl (by decide) rfl (fun ls hl => ?_)
      refine lv_lload hx hb dX10_left_36 (lv_at hl 0 rfl) ?_
      refine lv_aload_n hx hb dX10_left_38 rfl (lv_at hl 2 rfl) ?_
      refine va_get (D := D) (ci := 10) (v := .long y6.2) (C := RX10) (T := TX10) (N := 23) hx hb hts inX10 hown hK hP 0 rfl rfl 22 (by decide) fl_165 (fun _ h9 => h9) rfl dX10_left_39 ?_
      refine lv_iload_n hx hb dX10_left_42 rfl (lv_at hl 4 rfl) ?_
      obtain ⟨y7, qy7, h⟩ := ob_some h
      have hPc : va_P D vwCl [] H := hP.sub [] rfl
      refine vp_callSl (va_Run.run (va_runS (As := [.long y6.1, .long y6.2, .int p2]) (rest := []) ⟨hx, hb, hml, hown, hts⟩ (c_X10_part l D cI cJ cZ cO y6.1 y6.2 p2 y7 qy7) (cwS 3 hts gX10_left_X10_part rfl rfl rfl (by decide +kernel) ⟨Nat.le_of_ble_eq_true rfl, Nat.le_of_ble_eq_true rfl⟩) ⟨fb_p, fun U hU hW => ⟨rfl, by rw [hU]; exact hPc, KK.warm hW hKK⟩⟩ rfl rfl hl.1 rfl (lv_room (Nat.le_of_ble_eq_true rfl)) dX10_left_43 ⟨Nat.le_of_ble_eq_true rfl, Nat.le_of_ble_eq_true rfl⟩)) (fun r hr => ?_)
      replace hr := hr.symm
      subst hr
      have hy := Option.some.inj h
      subst hy
      exact W.lret (v := y7) hx hb hr (fun t ht hW => ⟨⟨y7, (), rfl, rfl, by rw [ht]; exact hP, hD⟩, hS.F ht⟩) hS.2.2 dX10_left_46
    · replace h := if_p c_5 h
      refine lv_ldc2 (v := (-1 : Int64)) hx hb hown cst_79 dX10_left_24 ?_
      have hy := Option.some.inj h
      subst hy
      exact W.lret (v := (-1 : Int64)) hx hb hr (fun t ht hW => ⟨⟨(-1 : Int64), (), rfl, rfl, by rw [ht]; exact hP, hD⟩, hS.F ht⟩) hS.2.2 dX10_left_27

def f_X10_best_L65 (M_many : Int32) (M_in : Int32) (M_streak : Int32) (M_slips : Nat → Int32) (M_lates : Nat → Int32) (M_copies : Nat → Int32) (k23 : Int64 → Int32 → Int32 → Int64 → Int32 → Option (Int32 × Int64)) (M_below : Int64) (t0 : Int32) (x1 : Int32) (x3 : Int64) (x5 : Int32) (x6 : Int64) : Option (Int32 × Int64) := (if (lg_cmp x6 x3) ≤ 0 then k23 M_below x1 t0 x3 (x5 + (1 : Int32)) else k23 M_below x1 t0 x6 (x5 + (1 : Int32)))
def f_X10_best_L23 (M_many : Int32) (M_in : Int32) (M_streak : Int32) (M_slips : Nat → Int32) (M_lates : Nat → Int32) (M_copies : Nat → Int32) : Nat → Int64 → Int32 → Int32 → Int64 → Int32 → Option (Int32 × Int64)
  | 0, _, _, _, _, _ => none
  | n + 1, M_below, x1, x2, x3, x5 => (if (445 : Int32) ≤ x5 then some (x2, M_below) else (Option.bind (f_X10_ordersIn x5) (fun y4 => (if y4 = x1 then (Option.bind (f_X10_leftOf M_many M_in M_streak M_below M_slips M_lates M_copies x5 x1) (fun y6 => (if (lg_cmp y6.1 x3) ≤ 0 then f_X10_best_L65 M_many M_in M_streak M_slips M_lates M_copies (f_X10_best_L23 M_many M_in M_streak M_slips M_lates M_copies n) y6.2 x2 x1 x3 x5 y6.1 else f_X10_best_L65 M_many M_in M_streak M_slips M_lates M_copies (f_X10_best_L23 M_many M_in M_streak M_slips M_lates M_copies n) y6.2 x5 x1 x3 x5 y6.1))) else f_X10_best_L23 M_many M_in M_streak M_slips M_lates M_copies n M_below x1 x2 x3 (x5 + (1 : Int32))))))
def f_X10_best (M_many : Int32) (M_in : Int32) (M_streak : Int32) (M_below : Int64) (M_slips : Nat → Int32) (M_lates : Nat → Int32) (M_copies : Nat → Int32) (p1 : Int32) : Option (Int32 × Int64) := (if (f_X10_within p1.toInt64 (0 : Int64) (3 : Int64)) = 0 then some ((-1 : Int32), M_below) else f_X10_best_L23 M_many M_in M_streak M_slips M_lates M_copies 600 M_below p1 (0 : Int32) (-1 : Int64) (0 : Int32))
set_option maxHeartbeats 8000000 in
set_option maxRecDepth 100000 in
theorem c_X10_best (l : Launch) (D : va_G) (cI cJ cZ cO : ClassId) (aM : Nat) (aM_slips : Nat) (aM_lates : Nat) (aM_copies : Nat) (aM_text : Nat) (aM_before : Nat) (aM_images : Nat) (aM_kept : Nat) (aM_read : Nat) (M_size : Int32) (M_many : Int32) (M_little : Int32) (M_in : Int32) (M_streak : Int32) (M_lot : Int32) (M_undos : Int32) (M_trace : Int64) (M_at : Int32) (M_begin : Int32) (M_kind : Int32) (M_value : Int64) (M_readMany : Int32) (M_readLittle : Int32) (M_below : Int64) (M_slips : Nat → Int32) (M_lates : Nat → Int32) (M_copies : Nat → Int32) (sz : Nat) (p1 : Int32)  (y0 : Int32 × Int64) (h : f_X10_best M_many M_in M_streak M_below M_slips M_lates M_copies p1 = some y0) : Met l yX10_best wsX10_best ({ frames := 4, cells := 0, slots := 0, locals := 98 } : Room) (va_Pc [.ref aM, .int p1] (fun U => U.heap.size = sz ∧ va_P D vwCl [(aM, .inr (10, [.ref aM_text, .int M_size, .int M_many, .ref aM_slips, .ref aM_lates, .ref aM_copies, .int M_little, .int M_in, .int M_streak, .int M_lot, .int M_undos, .ref aM_before, .ref aM_images, .ref aM_kept, .long M_trace, .int M_at, .int M_begin, .int M_kind, .long M_value, .int M_readMany, .int M_readLittle, .ref aM_read, .long M_below])), (aM_slips, .inl (cI, 6, .inl M_slips)), (aM_lates, .inl (cI, 6, .inl M_lates)), (aM_copies, .inl (cI, 6, .inl M_copies))] U.heap ∧ KK D cI cJ cZ cO U ∧ va_D (fun _ => True) [(aM, .inr (10, [.ref aM_text, .int M_size, .int M_many, .ref aM_slips, .ref aM_lates, .ref aM_copies, .int M_little, .int M_in, .int M_streak, .int M_lot, .int M_undos, .ref aM_before, .ref aM_images, .ref aM_kept, .long M_trace, .int M_at, .int M_begin, .int M_kind, .long M_value, .int M_readMany, .int M_readLittle, .ref aM_read, .long M_below])), (aM_slips, .inl (cI, 6, .inl M_slips)), (aM_lates, .inl (cI, 6, .inl M_lates)), (aM_copies, .inl (cI, 6, .inl M_copies))])) (va_Qi (fun (r : Int32) (_ : Unit) => r = y0.1) (fun (_ : Unit) t => va_P D vwCl [(aM, .inr (10, [.ref aM_text, .int M_size, .int M_many, .ref aM_slips, .ref aM_lates, .ref aM_copies, .int M_little, .int M_in, .int M_streak, .int M_lot, .int M_undos, .ref aM_before, .ref aM_images, .ref aM_kept, .long M_trace, .int M_at, .int M_begin, .int M_kind, .long M_value, .int M_readMany, .int M_readLittle, .ref aM_read, .long y0.2])), (aM_slips, .inl (cI, 6, .inl M_slips)), (aM_lates, .inl (cI, 6, .inl M_lates)), (aM_copies, .inl (cI, 6, .inl M_copies))] t.heap ∧ va_D (va_A [(aM, .inr (10, [.ref aM_text, .int M_size, .int M_many, .ref aM_slips, .ref aM_lates, .ref aM_copies, .int M_little, .int M_in, .int M_streak, .int M_lot, .int M_undos, .ref aM_before, .ref aM_images, .ref aM_kept, .long M_trace, .int M_at, .int M_begin, .int M_kind, .long M_value, .int M_readMany, .int M_readLittle, .ref aM_read, .long M_below])), (aM_slips, .inl (cI, 6, .inl M_slips)), (aM_lates, .inl (cI, 6, .inl M_lates)), (aM_copies, .inl (cI, 6, .inl M_copies))] sz) [(aM, .inr (10, [.ref aM_text, .int M_size, .int M_many, .ref aM_slips, .ref aM_lates, .ref aM_copies, .int M_little, .int M_in, .int M_streak, .int M_lot, .int M_undos, .ref aM_before, .ref aM_images, .ref aM_kept, .long M_trace, .int M_at, .int M_begin, .int M_kind, .long M_value, .int M_readMany, .int M_readLittle, .ref aM_read, .long y0.2])), (aM_slips, .inl (cI, 6, .inl M_slips)), (aM_lates, .inl (cI, 6, .inl M_lates)), (aM_copies, .inl (cI, 6, .inl M_copies))]) (va_A [(aM, .inr (10, [.ref aM_text, .int M_size, .int M_many, .ref aM_slips, .ref aM_lates, .ref aM_copies, .int M_little, .int M_in, .int M_streak, .int M_lot, .int M_undos, .ref aM_before, .ref aM_images, .ref aM_kept, .long M_trace, .int M_at, .int M_begin, .int M_kind, .long M_value, .int M_readMany, .int M_readLittle, .ref aM_read, .long M_below])), (aM_slips, .inl (cI, 6, .inl M_slips)), (aM_lates, .inl (cI, 6, .inl M_lates)), (aM_copies, .inl (cI, 6, .inl M_copies))] sz)) 0 0 (va_A [(aM, .inr (10, [.ref aM_text, .int M_size, .int M_many, .ref aM_slips, .ref aM_lates, .ref aM_copies, .int M_little, .int M_in, .int M_streak, .int M_lot, .int M_undos, .ref aM_before, .ref aM_images, .ref aM_kept, .long M_trace, .int M_at, .int M_begin, .int M_kind, .long M_value, .int M_readMany, .int M_readLittle, .ref aM_read, .long M_below])), (aM_slips, .inl (cI, 6, .inl M_slips)), (aM_lates, .inl (cI, 6, .inl M_lates)), (aM_copies, .inl (cI, 6, .inl M_copies))] sz) := by
  refine Met.ofW (cc := cX10_best) (maxL := 8) (ret := (some .int)) (by decide) rfl ?_
  intro p e s m args below meth c s₁ B hml hv
  obtain ⟨rfl, hsz, hP, hKK, hD0⟩ := hv
  have hx := B.exec
  have hb := B.bytes
  have hr := B.returns
  have hts := atoms_spec (ws := wsX10_best) B.pre
  have hown : s.vm.findClass RX10 = some m.cls := findClass_of_methodNamed B.named
  have hlocks := B.notSynchronized
  have hK := hKK.1
  have cst_79 := hts (.constantLong RX10 79 (-1)) (by decide +kernel)
  have cst_198 := hts (.constantLong RX10 198 (3)) (by decide +kernel)
  subst hsz
  have hD := hD0.self (sz := s.heap.size)
  generalize hAe : va_A [(aM, .inr (10, [.ref aM_text, .int M_size, .int M_many, .ref aM_slips, .ref aM_lates, .ref aM_copies, .int M_little, .int M_in, .int M_streak, .int M_lot, .int M_undos, .ref aM_before, .ref aM_images, .ref aM_kept, .long M_trace, .int M_at, .int M_begin, .int M_kind, .long M_value, .int M_readMany, .int M_readLittle, .ref aM_read, .long M_below])), (aM_slips, .inl (cI, 6, .inl M_slips)), (aM_lates, .inl (cI, 6, .inl M_lates)), (aM_copies, .inl (cI, 6, .inl M_copies))] s.heap.size = A at hD ⊢
  have hA : ∀ q : Nat, s.heap.size ≤ q → A q := fun q h => by rw [← hAe]; exact Or.inr h
  have hS : va_S A s.heap s.heap [] := va_S.rf
  have hl := lv_entry ([.ref aM, .int p1]) (n := 8) (Nat.le_of_ble_eq_true rfl)
  rw [lg_entry_eq]
  generalize (lg_sl ([.ref aM, .int p1]) ++ List.replicate (8 - (lg_sl ([.ref aM, .int p1])).length) Slot.unset).toArray = ls at hl ⊢
  have hl : lv_has ls 8 [(0, .ref aM), (1, .int p1)] := hl
  have L65 : ∀ (k23 : Int64 → Int32 → Int32 → Int64 → Int32 → Option (Int32 × Int64)) (_ : ∀ (M_below : Int64) (x1 : Int32) (x2 : Int32) (x3 : Int64) (x5 : Int32), ∀ (H : Heap) (locs : List Loc), va_P D vwCl [(aM, .inr (10, [.ref aM_text, .int M_size, .int M_many, .ref aM_slips, .ref aM_lates, .ref aM_copies, .int M_little, .int M_in, .int M_streak, .int M_lot, .int M_undos, .ref aM_before, .ref aM_images, .ref aM_kept, .long M_trace, .int M_at, .int M_begin, .int M_kind, .long M_value, .int M_readMany, .int M_readLittle, .ref aM_read, .long M_below])), (aM_slips, .inl (cI, 6, .inl M_slips)), (aM_lates, .inl (cI, 6, .inl M_lates)), (aM_copies, .inl (cI, 6, .inl M_copies))] H → va_D A [(aM, .inr (10, [.ref aM_text, .int M_size, .int M_many, .ref aM_slips, .ref aM_lates, .ref aM_copies, .int M_little, .int M_in, .int M_streak, .int M_lot, .int M_undos, .ref aM_before, .ref aM_images, .ref aM_kept, .long M_trace, .int M_at, .int M_begin, .int M_kind, .long M_value, .int M_readMany, .int M_readLittle, .ref aM_read, .long M_below])), (aM_slips, .inl (cI, 6, .inl M_slips)), (aM_lates, .inl (cI, 6, .inl M_lates)), (aM_copies, .inl (cI, 6, .inl M_copies))] → va_S A s.heap H locs → ∀ (ls : Array Slot), lv_has ls 8 [(0, .ref aM), (1, .int x1), (2, .int x2), (3, .long x3), (5, .int x5)] → k23 M_below x1 x2 x3 x5 = some y0 → W p l e (headSpec wsX10_best ({ frames := 4, cells := 0, slots := 0, locals := 98 } : Room)).room s m ([.ref aM, .int p1] : List Value).toArray below meth c H locs 0 0 (MQ below (va_Qi (fun (r : Int32) (_ : Unit) => r = y0.1) (fun (_ : Unit) t => va_P D vwCl [(aM, .inr (10, [.ref aM_text, .int M_size, .int M_many, .ref aM_slips, .ref aM_lates, .ref aM_copies, .int M_little, .int M_in, .int M_streak, .int M_lot, .int M_undos, .ref aM_before, .ref aM_images, .ref aM_kept, .long M_trace, .int M_at, .int M_begin, .int M_kind, .long M_value, .int M_readMany, .int M_readLittle, .ref aM_read, .long y0.2])), (aM_slips, .inl (cI, 6, .inl M_slips)), (aM_lates, .inl (cI, 6, .inl M_lates)), (aM_copies, .inl (cI, 6, .inl M_copies))] t.heap ∧ va_D A [(aM, .inr (10, [.ref aM_text, .int M_size, .int M_many, .ref aM_slips, .ref aM_lates, .ref aM_copies, .int M_little, .int M_in, .int M_streak, .int M_lot, .int M_undos, .ref aM_before, .ref aM_images, .ref aM_kept, .long M_trace, .int M_at, .int M_begin, .int M_kind, .long M_value, .int M_readMany, .int M_readLittle, .ref aM_read, .long y0.2])), (aM_slips, .inl (cI, 6, .inl M_slips)), (aM_lates, .inl (cI, 6, .inl M_lates)), (aM_copies, .inl (cI, 6, .inl M_copies))]) A) ([.ref aM, .int p1] : List Value).toArray s 0 0 A) (F0 m 23 ls [])), ∀ (M_below : Int64) (t0 : Int32) (x1 : Int32) (x3 : Int64) (x5 : Int32) (x6 : Int64), ∀ (H : Heap) (locs : List Loc), va_P D vwCl [(aM, .inr (10, [.ref aM_text, .int M_size, .int M_many, .ref aM_slips, .ref aM_lates, .ref aM_copies, .int M_little, .int M_in, .int M_streak, .int M_lot, .int M_undos, .ref aM_before, .ref aM_images, .ref aM_kept, .long M_trace, .int M_at, .int M_begin, .int M_kind, .long M_value, .int M_readMany, .int M_readLittle, .ref aM_read, .long M_below])), (aM_slips, .inl (cI, 6, .inl M_slips)), (aM_lates, .inl (cI, 6, .inl M_lates)), (aM_copies, .inl (cI, 6, .inl M_copies))] H → va_D A [(aM, .inr (10, [.ref aM_text, .int M_size, .int M_many, .ref aM_slips, .ref aM_lates, .ref aM_copies, .int M_little, .int M_in, .int M_streak, .int M_lot, .int M_undos, .ref aM_before, .ref aM_images, .ref aM_kept, .long M_trace, .int M_at, .int M_begin, .int M_kind, .long M_value, .int M_readMany, .int M_readLittle, .ref aM_read, .long M_below])), (aM_slips, .inl (cI, 6, .inl M_slips)), (aM_lates, .inl (cI, 6, .inl M_lates)), (aM_copies, .inl (cI, 6, .inl M_copies))] → va_S A s.heap H locs → ∀ (ls : Array Slot), lv_has ls 8 [(0, .ref aM), (1, .int x1), (3, .long x3), (5, .int x5), (6, .long x6)] → f_X10_best_L65 M_many M_in M_streak M_slips M_lates M_copies k23 M_below t0 x1 x3 x5 x6 = some y0 → W p l e (headSpec wsX10_best ({ frames := 4, cells := 0, slots := 0, locals := 98 } : Room)).room s m ([.ref aM, .int p1] : List Value).toArray below meth c H locs 0 0 (MQ below (va_Qi (fun (r : Int32) (_ : Unit) => r = y0.1) (fun (_ : Unit) t => va_P D vwCl [(aM, .inr (10, [.ref aM_text, .int M_size, .int M_many, .ref aM_slips, .ref aM_lates, .ref aM_copies, .int M_little, .int M_in, .int M_streak, .int M_lot, .int M_undos, .ref aM_before, .ref aM_images, .ref aM_kept, .long M_trace, .int M_at, .int M_begin, .int M_kind, .long M_value, .int M_readMany, .int M_readLittle, .ref aM_read, .long y0.2])), (aM_slips, .inl (cI, 6, .inl M_slips)), (aM_lates, .inl (cI, 6, .inl M_lates)), (aM_copies, .inl (cI, 6, .inl M_copies))] t.heap ∧ va_D A [(aM, .inr (10, [.ref aM_text, .int M_size, .int M_many, .ref aM_slips, .ref aM_lates, .ref aM_copies, .int M_little, .int M_in, .int M_streak, .int M_lot, .int M_undos, .ref aM_before, .ref aM_images, .ref aM_kept, .long M_trace, .int M_at, .int M_begin, .int M_kind, .long M_value, .int M_readMany, .int M_readLittle, .ref aM_read, .long y0.2])), (aM_slips, .inl (cI, 6, .inl M_slips)), (aM_lates, .inl (cI, 6, .inl M_lates)), (aM_copies, .inl (cI, 6, .inl M_copies))]) A) ([.ref aM, .int p1] : List Value).toArray s 0 0 A) (F0 m 65 ls [.int t0]) := by
    intro k23 hk23
    intro M_below t0 x1 x3 x5 x6 H locs hP hD hS ls hl h
    unfold f_X10_best_L65 at h
    refine lv_istore_n (lv' := [(2, .int t0), (0, .ref aM), (1, .int x1), (3, .long x3), (5, .int x5), (6, .long x6)]) hx hb dX10_best_65 rfl hl (by decide) rfl (fun ls hl => ?_)
    refine lv_lload hx hb dX10_best_66 (lv_at hl 5 rfl) ?_
    refine lv_lload_n hx hb dX10_best_68 rfl (lv_at hl 3 rfl) ?_
    refine W.lcmp hx hb dX10_best_69 ?_
    refine lv_if_le (tgt := 78) hx hb dX10_best_70 (by decide) (fun c_8 => ?_) (fun c_8 => ?_)
    · replace h := if_p c_8 h
      refine lv_lload_n hx hb dX10_best_78 rfl (lv_at hl 3 rfl) ?_
      refine lv_lstore_n (lv' := [(3, .long x3), (2, .int t0), (0, .ref aM), (1, .int x1), (5, .int x5), (6, .long x6)]) hx hb dX10_best_79 rfl hl (by decide) rfl (fun ls hl => ?_)
      refine lv_iinc (v := (x5 + (1 : Int32))) (lv' := [(5, .int (x5 + (1 : Int32))), (3, .long x3), (2, .int t0), (0, .ref aM), (1, .int x1), (6, .long x6)]) hx hb dX10_best_80 hl (k := 4) rfl rfl (by decide) rfl (fun ls hl => ?_)
      refine lv_goto (tgt := 23) hx hb dX10_best_83 (by decide) ?_
      exact hk23 M_below x1 t0 x3 (x5 + (1 : Int32)) _ _ hP hD hS ls (lv_sub hl [3, 4, 2, 1, 0] rfl) h
    · replace h := if_n c_8 h
      refine lv_lload hx hb dX10_best_73 (lv_at hl 5 rfl) ?_
      refine lv_goto (tgt := 79) hx hb dX10_best_75 (by decide) ?_
      refine lv_lstore_n (lv' := [(3, .long x6), (2, .int t0), (0, .ref aM), (1, .int x1), (5, .int x5), (6, .long x6)]) hx hb dX10_best_79 rfl hl (by decide) rfl (fun ls hl => ?_)
      refine lv_iinc (v := (x5 + (1 : Int32))) (lv' := [(5, .int (x5 + (1 : Int32))), (3, .long x6), (2, .int t0), (0, .ref aM), (1, .int x1), (6, .long x6)]) hx hb dX10_best_80 hl (k := 4) rfl rfl (by decide) rfl (fun ls hl => ?_)
      refine lv_goto (tgt := 23) hx hb dX10_best_83 (by decide) ?_
      exact hk23 M_below x1 t0 x6 (x5 + (1 : Int32)) _ _ hP hD hS ls (lv_sub hl [3, 4, 2, 1, 0] rfl) h
  have L23 : ∀ (n : Nat), ∀ (M_below : Int64) (x1 : Int32) (x2 : Int32) (x3 : Int64) (x5 : Int32), ∀ (H : Heap) (locs : List Loc), va_P D vwCl [(aM, .inr (10, [.ref aM_text, .int M_size, .int M_many, .ref aM_slips, .ref aM_lates, .ref aM_copies, .int M_little, .int M_in, .int M_streak, .int M_lot, .int M_undos, .ref aM_before, .ref aM_images, .ref aM_kept, .long M_trace, .int M_at, .int M_begin, .int M_kind, .long M_value, .int M_readMany, .int M_readLittle, .ref aM_read, .long M_below])), (aM_slips, .inl (cI, 6, .inl M_slips)), (aM_lates, .inl (cI, 6, .inl M_lates)), (aM_copies, .inl (cI, 6, .inl M_copies))] H → va_D A [(aM, .inr (10, [.ref aM_text, .int M_size, .int M_many, .ref aM_slips, .ref aM_lates, .ref aM_copies, .int M_little, .int M_in, .int M_streak, .int M_lot, .int M_undos, .ref aM_before, .ref aM_images, .ref aM_kept, .long M_trace, .int M_at, .int M_begin, .int M_kind, .long M_value, .int M_readMany, .int M_readLittle, .ref aM_read, .long M_below])), (aM_slips, .inl (cI, 6, .inl M_slips)), (aM_lates, .inl (cI, 6, .inl M_lates)), (aM_copies, .inl (cI, 6, .inl M_copies))] → va_S A s.heap H locs → ∀ (ls : Array Slot), lv_has ls 8 [(0, .ref aM), (1, .int x1), (2, .int x2), (3, .long x3), (5, .int x5)] → f_X10_best_L23 M_many M_in M_streak M_slips M_lates M_copies n M_below x1 x2 x3 x5 = some y0 → W p l e (headSpec wsX10_best ({ frames := 4, cells := 0, slots := 0, locals := 98 } : Room)).room s m ([.ref aM, .int p1] : List Value).toArray below meth c H locs 0 0 (MQ below (va_Qi (fun (r : Int32) (_ : Unit) => r = y0.1) (fun (_ : Unit) t => va_P D vwCl [(aM, .inr (10, [.ref aM_text, .int M_size, .int M_many, .ref aM_slips, .ref aM_lates, .ref aM_copies, .int M_little, .int M_in, .int M_streak, .int M_lot, .int M_undos, .ref aM_before, .ref aM_images, .ref aM_kept, .long M_trace, .int M_at, .int M_begin, .int M_kind, .long M_value, .int M_readMany, .int M_readLittle, .ref aM_read, .long y0.2])), (aM_slips, .inl (cI, 6, .inl M_slips)), (aM_lates, .inl (cI, 6, .inl M_lates)), (aM_copies, .inl (cI, 6, .inl M_copies))] t.heap ∧ va_D A [(aM, .inr (10, [.ref aM_text, .int M_size, .int M_many, .ref aM_slips, .ref aM_lates, .ref aM_copies, .int M_little, .int M_in, .int M_streak, .int M_lot, .int M_undos, .ref aM_before, .ref aM_images, .ref aM_kept, .long M_trace, .int M_at, .int M_begin, .int M_kind, .long M_value, .int M_readMany, .int M_readLittle, .ref aM_read, .long y0.2])), (aM_slips, .inl (cI, 6, .inl M_slips)), (aM_lates, .inl (cI, 6, .inl M_lates)), (aM_copies, .inl (cI, 6, .inl M_copies))]) A) ([.ref aM, .int p1] : List Value).toArray s 0 0 A) (F0 m 23 ls []) := by
    intro n
    induction n with
    | zero =>
      intro M_below x1 x2 x3 x5 H locs hP hD hS ls hl h
      exact (ns h).elim
    | succ n ih =>
      intro M_below x1 x2 x3 x5 H locs hP hD hS ls hl h
      unfold f_X10_best_L23 at h
      refine lv_iload hx hb dX10_best_23 (lv_at hl 4 rfl) ?_
      refine lv_sipush (v := (445 : Int32)) hx hb dX10_best_25 (by decide) ?_
      refine lv_icmp_ge (tgt := 86) hx hb dX10_best_28 (by decide) (fun c_3 => ?_) (fun c_3 => ?_)
      · replace h := if_p c_3 h
        refine lv_iload_n hx hb dX10_best_86 rfl (lv_at hl 2 rfl) ?_
        have hy := Option.some.inj h
        subst hy
        exact W.iret (v := x2) hx hb hr (fun t ht hW => ⟨⟨x2, (), rfl, rfl, by rw [ht]; exact hP, hD⟩, hS.F ht⟩) hS.2.2 dX10_best_87
      · replace h := if_n c_3 h
        refine lv_iload hx hb dX10_best_31 (lv_at hl 4 rfl) ?_
        obtain ⟨y4, qy4, h⟩ := ob_some h
        have hPc : va_P D vwCl [] H := hP.sub [] rfl
        refine vp_callSi (va_Run.run (va_runS (As := [.int x5]) (rest := []) ⟨hx, hb, hml, hown, hts⟩ (c_X10_ordersIn l D cI cJ cZ cO x5 y4 qy4) (cwS 1 hts gX10_best_X10_ordersIn rfl rfl rfl (by decide +kernel) ⟨Nat.le_of_ble_eq_true rfl, Nat.le_of_ble_eq_true rfl⟩) ⟨fb_p, fun U hU hW => ⟨rfl, by rw [hU]; exact hPc, KK.warm hW hKK⟩⟩ rfl rfl hl.1 rfl (lv_room (Nat.le_of_ble_eq_true rfl)) dX10_best_33 ⟨Nat.le_of_ble_eq_true rfl, Nat.le_of_ble_eq_true rfl⟩)) (fun r hr => ?_)
        replace hr := hr.symm
        subst hr
        refine lv_iload_n hx hb dX10_best_36 rfl (lv_at hl 1 rfl) ?_
        refine lv_icmp_eq (tgt := 43) hx hb dX10_best_37 (by decide) (fun c_5 => ?_) (fun c_5 => ?_)
        · replace h := if_p c_5 h
          refine lv_aload_n hx hb dX10_best_43 rfl (lv_at hl 0 rfl) ?_
          refine lv_iload hx hb dX10_best_44 (lv_at hl 4 rfl) ?_
          refine lv_iload_n hx hb dX10_best_46 rfl (lv_at hl 1 rfl) ?_
          obtain ⟨y6, qy6, h⟩ := ob_some h
          have hPc : va_P D vwCl [(aM, .inr (10, [.ref aM_text, .int M_size, .int M_many, .ref aM_slips, .ref aM_lates, .ref aM_copies, .int M_little, .int M_in, .int M_streak, .int M_lot, .int M_undos, .ref aM_before, .ref aM_images, .ref aM_kept, .long M_trace, .int M_at, .int M_begin, .int M_kind, .long M_value, .int M_readMany, .int M_readLittle, .ref aM_read, .long M_below])), (aM_slips, .inl (cI, 6, .inl M_slips)), (aM_lates, .inl (cI, 6, .inl M_lates)), (aM_copies, .inl (cI, 6, .inl M_copies))] H := hP.sub [0, 1, 2, 3] rfl
          have hDc : va_D A [(aM, .inr (10, [.ref aM_text, .int M_size, .int M_many, .ref aM_slips, .ref aM_lates, .ref aM_copies, .int M_little, .int M_in, .int M_streak, .int M_lot, .int M_undos, .ref aM_before, .ref aM_images, .ref aM_kept, .long M_trace, .int M_at, .int M_begin, .int M_kind, .long M_value, .int M_readMany, .int M_readLittle, .ref aM_read, .long M_below])), (aM_slips, .inl (cI, 6, .inl M_slips)), (aM_lates, .inl (cI, 6, .inl M_lates)), (aM_copies, .inl (cI, 6, .inl M_copies))] := hD.sub [0, 1, 2, 3] (by decide) rfl
          have hFc := va_free (wc := [(aM, .inr (10, [.ref aM_text, .int M_size, .int M_many, .ref aM_slips, .ref aM_lates, .ref aM_copies, .int M_little, .int M_in, .int M_streak, .int M_lot, .int M_undos, .ref aM_before, .ref aM_images, .ref aM_kept, .long M_trace, .int M_at, .int M_begin, .int M_kind, .long M_value, .int M_readMany, .int M_readLittle, .ref aM_read, .long M_below])), (aM_slips, .inl (cI, 6, .inl M_slips)), (aM_lates, .inl (cI, 6, .inl M_lates)), (aM_copies, .inl (cI, 6, .inl M_copies))]) hD hS hA [0, 1, 2, 3] rfl
          refine va_calll (va_runV (As := [.int x5, .int x1]) (rest := []) ⟨hx, hb, hml, hown, hts⟩ (c_X10_leftOf l D cI cJ cZ cO aM aM_slips aM_lates aM_copies aM_text aM_before aM_images aM_kept aM_read M_size M_many M_little M_in M_streak M_lot M_undos M_trace M_at M_begin M_kind M_value M_readMany M_readLittle M_below M_slips M_lates M_copies H.size x5 x1 y6 qy6) (cwV 2 hts gX10_best_X10_leftOf rfl rfl rfl (by decide +kernel) ⟨Nat.le_of_ble_eq_true rfl, Nat.le_of_ble_eq_true rfl⟩) ⟨fb_i, va_recv hK hP (ci := 10) (q0 := 0) rfl rfl, fun U hU hW => ⟨rfl, by rw [hU], by rw [hU]; exact hPc, KK.warm hW hKK, hDc.weaken (fun _ _ _ _ => trivial)⟩⟩ rfl rfl hl.1 rfl (lv_room (Nat.le_of_ble_eq_true rfl)) dX10_best_47 ⟨Nat.le_of_ble_eq_true rfl, Nat.le_of_ble_eq_true rfl⟩) hS (fun q _ h => hFc q h) hFc (fun r u t H1 locs ht hvm hw hB hz1 hk1 hS => ?_)
          obtain ⟨hP1, hD1⟩ := hB
          rw [ht] at hP1
          replace hw := hw.symm
          subst hw
          obtain ⟨hP, hD⟩ := va_join (wr := []) (w1 := [(aM, .inr (10, [.ref aM_text, .int M_size, .int M_many, .ref aM_slips, .ref aM_lates, .ref aM_copies, .int M_little, .int M_in, .int M_streak, .int M_lot, .int M_undos, .ref aM_before, .ref aM_images, .ref aM_kept, .long M_trace, .int M_at, .int M_begin, .int M_kind, .long M_value, .int M_readMany, .int M_readLittle, .ref aM_read, .long y6.2])), (aM_slips, .inl (cI, 6, .inl M_slips)), (aM_lates, .inl (cI, 6, .inl M_lates)), (aM_copies, .inl (cI, 6, .inl M_copies))]) hP hD [0, 1, 2, 3] [] rfl rfl (by decide) (by decide) hk1 hFc hP1 hD1
          generalize H1 = H at hP hS ⊢
          have hP : va_P D vwCl [(aM, .inr (10, [.ref aM_text, .int M_size, .int M_many, .ref aM_slips, .ref aM_lates, .ref aM_copies, .int M_little, .int M_in, .int M_streak, .int M_lot, .int M_undos, .ref aM_before, .ref aM_images, .ref aM_kept, .long M_trace, .int M_at, .int M_begin, .int M_kind, .long M_value, .int M_readMany, .int M_readLittle, .ref aM_read, .long y6.2])), (aM_slips, .inl (cI, 6, .inl M_slips)), (aM_lates, .inl (cI, 6, .inl M_lates)), (aM_copies, .inl (cI, 6, .inl M_copies))] H := hP.sub [0, 1, 2, 3] rfl
          have hD : va_D A [(aM, .inr (10, [.ref aM_text, .int M_size, .int M_many, .ref aM_slips, .ref aM_lates, .ref aM_copies, .int M_little, .int M_in, .int M_streak, .int M_lot, .int M_undos, .ref aM_before, .ref aM_images, .ref aM_kept, .long M_trace, .int M_at, .int M_begin, .int M_kind, .long M_value, .int M_readMany, .int M_readLittle, .ref aM_read, .long y6.2])), (aM_slips, .inl (cI, 6, .inl M_slips)), (aM_lates, .inl (cI, 6, .inl M_lates)), (aM_copies, .inl (cI, 6, .inl M_copies))] := hD.sub [0, 1, 2, 3] (by decide) rfl
          refine lv_lstore (lv' := [(6, .long y6.1), (0, .ref aM), (1, .int x1), (2, .int x2), (3, .long x3), (5, .int x5)]) hx hb dX10_best_50 hl (by decide) rfl (fun ls hl => ?_)
          refine lv_lload hx hb dX10_best_52 (lv_at hl 0 rfl) ?_
          refine lv_lload_n hx hb dX10_best_54 rfl (lv_at hl 4 rfl) ?_
          refine W.lcmp hx hb dX10_best_55 ?_
          refine lv_if_le (tgt := 64) hx hb dX10_best_56 (by decide) (fun c_7 => ?_) (fun c_7 => ?_)
          · replace h := if_p c_7 h
            refine lv_iload_n hx hb dX10_best_64 rfl (lv_at hl 3 rfl) ?_
            exact L65 (f_X10_best_L23 M_many M_in M_streak M_slips M_lates M_copies n) ih y6.2 x2 x1 x3 x5 y6.1 _ _ hP hD hS ls (lv_sub hl [1, 2, 4, 5, 0] rfl) h
          · replace h := if_n c_7 h
            refine lv_iload hx hb dX10_best_59 (lv_at hl 5 rfl) ?_
            refine lv_goto (tgt := 65) hx hb dX10_best_61 (by decide) ?_
            exact L65 (f_X10_best_L23 M_many M_in M_streak M_slips M_lates M_copies n) ih y6.2 x5 x1 x3 x5 y6.1 _ _ hP hD hS ls (lv_sub hl [1, 2, 4, 5, 0] rfl) h
        · replace h := if_n c_5 h
          refine lv_goto (tgt := 80) hx hb dX10_best_40 (by decide) ?_
          refine lv_iinc (v := (x5 + (1 : Int32))) (lv' := [(5, .int (x5 + (1 : Int32))), (0, .ref aM), (1, .int x1), (2, .int x2), (3, .long x3)]) hx hb dX10_best_80 hl (k := 4) rfl rfl (by decide) rfl (fun ls hl => ?_)
          refine lv_goto (tgt := 23) hx hb dX10_best_83 (by decide) ?_
          exact ih M_below x1 x2 x3 (x5 + (1 : Int32)) _ _ hP hD hS ls (lv_sub hl [1, 2, 3, 4, 0] rfl) h
  unfold f_X10_best at h
  refine lv_iload_n hx hb dX10_best_0 rfl (lv_at hl 1 rfl) ?_
  refine lv_i2l (v := p1.toInt64) hx hb dX10_best_1 rfl ?_
  refine lv_lconst (v := (0 : Int64)) hx hb dX10_best_2 (by decide) ?_
  refine lv_ldc2 (v := (3 : Int64)) hx hb hown cst_198 dX10_best_3 ?_
  have hPc : va_P D vwCl [] s.heap := hP.sub [] rfl
  refine vp_callSi (va_Run.run (va_runS (As := [.long p1.toInt64, .long (0 : Int64), .long (3 : Int64)]) (rest := []) ⟨hx, hb, hml, hown, hts⟩ (c_X10_within l D cI cJ cZ cO p1.toInt64 (0 : Int64) (3 : Int64) _ rfl) (cwS 3 hts gX10_best_X10_within rfl rfl rfl (by decide +kernel) ⟨Nat.le_of_ble_eq_true rfl, Nat.le_of_ble_eq_true rfl⟩) ⟨fb_p, fun U hU hW => ⟨rfl, by rw [hU]; exact hPc, KK.warm hW hKK⟩⟩ rfl rfl hl.1 rfl (lv_room (Nat.le_of_ble_eq_true rfl)) dX10_best_6 ⟨Nat.le_of_ble_eq_true rfl, Nat.le_of_ble_eq_true rfl⟩)) (fun r hr => ?_)
  obtain ⟨hr, hz1⟩ := hr
  replace hr := hr.symm
  subst hr
  refine lv_if_ne (tgt := 14) hx hb dX10_best_9 (by decide) (fun c_2 => ?_) (fun c_2 => ?_)
  · replace h := if_n c_2 h
    refine lv_iconst (v := (0 : Int32)) hx hb dX10_best_14 (by decide) ?_
    refine lv_istore_n (lv' := [(2, .int (0 : Int32)), (0, .ref aM), (1, .int p1)]) hx hb dX10_best_15 rfl hl (by decide) rfl (fun ls hl => ?_)
    refine lv_ldc2 (v := (-1 : Int64)) hx hb hown cst_79 dX10_best_16 ?_
    refine lv_lstore_n (lv' := [(3, .long (-1 : Int64)), (2, .int (0 : Int32)), (0, .ref aM), (1, .int p1)]) hx hb dX10_best_19 rfl hl (by decide) rfl (fun ls hl => ?_)
    refine lv_iconst (v := (0 : Int32)) hx hb dX10_best_20 (by decide) ?_
    refine lv_istore (lv' := [(5, .int (0 : Int32)), (3, .long (-1 : Int64)), (2, .int (0 : Int32)), (0, .ref aM), (1, .int p1)]) hx hb dX10_best_21 hl (by decide) rfl (fun ls hl => ?_)
    exact L23 600 M_below p1 (0 : Int32) (-1 : Int64) (0 : Int32) _ _ hP hD hS ls (lv_sub hl [3, 4, 2, 1, 0] rfl) h
  · replace h := if_p c_2 h
    refine lv_iconst (v := (-1 : Int32)) hx hb dX10_best_12 (by decide) ?_
    have hy := Option.some.inj h
    subst hy
    exact W.iret (v := (-1 : Int32)) hx hb hr (fun t ht hW => ⟨⟨(-1 : Int32), (), rfl, rfl, by rw [ht]; exact hP, hD⟩, hS.F ht⟩) hS.2.2 dX10_best_13

def f_X10_lure_L44 (M_many : Int32) (M_in : Int32) (M_streak : Int32) (M_slips : Nat → Int32) (M_lates : Nat → Int32) (M_copies : Nat → Int32) : Nat → Int32 → Int32 → Int32 → Int32 → Option (Int32)
  | 0, _, _, _, _ => none
  | n + 1, x1, x2, x3, x4 => (if (10 : Int32) ≤ x4 then some (-9 : Int32) else (Option.bind (f_X10_leaderOf M_in M_copies x1) (fun y8 => (Option.bind (f_X10_errsOf M_slips M_lates y8 (2 : Int32) x3) (fun y9 => (if y9 < x2 then f_X10_lure_L44 M_many M_in M_streak M_slips M_lates M_copies n x1 x2 (f_X10_streakBehind x3 (1 : Int32)) (x4 + (1 : Int32)) else some x4))))))
def f_X10_lure (M_many : Int32) (M_in : Int32) (M_streak : Int32) (M_slips : Nat → Int32) (M_lates : Nat → Int32) (M_copies : Nat → Int32) (p1 : Int32) (p2 : Int32) : Option (Int32) := (if (f_X10_isChild M_many p1) = 0 then some (-1 : Int32) else (if (f_X10_within p2.toInt64 (0 : Int64) (10 : Int64)) = 0 then some (-1 : Int32) else (if (f_X10_has M_in p1) = 0 then some (-9 : Int32) else f_X10_lure_L44 M_many M_in M_streak M_slips M_lates M_copies 300 p1 p2 M_streak (0 : Int32))))
set_option maxHeartbeats 8000000 in
set_option maxRecDepth 100000 in
theorem c_X10_lure (l : Launch) (D : va_G) (cI cJ cZ cO : ClassId) (aM : Nat) (aM_slips : Nat) (aM_lates : Nat) (aM_copies : Nat) (aM_text : Nat) (aM_before : Nat) (aM_images : Nat) (aM_kept : Nat) (aM_read : Nat) (M_size : Int32) (M_many : Int32) (M_little : Int32) (M_in : Int32) (M_streak : Int32) (M_lot : Int32) (M_undos : Int32) (M_trace : Int64) (M_at : Int32) (M_begin : Int32) (M_kind : Int32) (M_value : Int64) (M_readMany : Int32) (M_readLittle : Int32) (M_below : Int64) (M_slips : Nat → Int32) (M_lates : Nat → Int32) (M_copies : Nat → Int32)  (p1 : Int32) (p2 : Int32)  (y0 : Int32) (h : f_X10_lure M_many M_in M_streak M_slips M_lates M_copies p1 p2 = some y0) : Met l yX10_lure wsX10_lure ({ frames := 2, cells := 0, slots := 0, locals := 46 } : Room) (va_Pc [.ref aM, .int p1, .int p2] (fun U => va_P D vwCl [(aM, .inr (10, [.ref aM_text, .int M_size, .int M_many, .ref aM_slips, .ref aM_lates, .ref aM_copies, .int M_little, .int M_in, .int M_streak, .int M_lot, .int M_undos, .ref aM_before, .ref aM_images, .ref aM_kept, .long M_trace, .int M_at, .int M_begin, .int M_kind, .long M_value, .int M_readMany, .int M_readLittle, .ref aM_read, .long M_below])), (aM_slips, .inl (cI, 6, .inl M_slips)), (aM_lates, .inl (cI, 6, .inl M_lates)), (aM_copies, .inl (cI, 6, .inl M_copies))] U.heap ∧ KK D cI cJ cZ cO U)) (vp_Si (fun r => r = y0)) 0 0 (fun _ => False) := by
  refine Met.ofW (cc := cX10_lure) (maxL := 5) (ret := (some .int)) (by decide) rfl ?_
  intro p e s m args below meth c s₁ B hml hv
  obtain ⟨rfl, hP, hKK⟩ := hv
  have hx := B.exec
  have hb := B.bytes
  have hr := B.returns
  have hts := atoms_spec (ws := wsX10_lure) B.pre
  have hown : s.vm.findClass RX10 = some m.cls := findClass_of_methodNamed B.named
  have hlocks := B.notSynchronized
  have hK := hKK.1
  have fl_119 := hts (.fieldLink RX10 119 "SimonSaysModel" "in" "I") (by decide +kernel)
  have fl_122 := hts (.fieldLink RX10 122 "SimonSaysModel" "streak" "I") (by decide +kernel)
  have cst_81 := hts (.constantLong RX10 81 (10)) (by decide +kernel)
  have inX10 : ∀ w ∈ wsX100, w ∈ wsX10_lure := by decide +kernel
  have hl := lv_entry ([.ref aM, .int p1, .int p2]) (n := 5) (Nat.le_of_ble_eq_true rfl)
  rw [lg_entry_eq]
  generalize (lg_sl ([.ref aM, .int p1, .int p2]) ++ List.replicate (5 - (lg_sl ([.ref aM, .int p1, .int p2])).length) Slot.unset).toArray = ls at hl ⊢
  have hl : lv_has ls 5 [(0, .ref aM), (1, .int p1), (2, .int p2)] := hl
  have L44 : ∀ (n : Nat), ∀ (x1 : Int32) (x2 : Int32) (x3 : Int32) (x4 : Int32), ∀ (ls : Array Slot), lv_has ls 5 [(0, .ref aM), (1, .int x1), (2, .int x2), (3, .int x3), (4, .int x4)] → f_X10_lure_L44 M_many M_in M_streak M_slips M_lates M_copies n x1 x2 x3 x4 = some y0 → W p l e (headSpec wsX10_lure ({ frames := 2, cells := 0, slots := 0, locals := 46 } : Room)).room s m ([.ref aM, .int p1, .int p2] : List Value).toArray below meth c s.heap [] 0 0 (MQ below (vp_Si (fun r => r = y0)) ([.ref aM, .int p1, .int p2] : List Value).toArray s 0 0 (fun _ => False)) (F0 m 44 ls []) := by
    intro n
    induction n with
    | zero =>
      intro x1 x2 x3 x4 ls hl h
      exact (ns h).elim
    | succ n ih =>
      intro x1 x2 x3 x4 ls hl h
      unfold f_X10_lure_L44 at h
      refine lv_iload hx hb dX10_lure_44 (lv_at hl 4 rfl) ?_
      refine lv_bipush (v := (10 : Int32)) hx hb dX10_lure_46 (by decide) ?_
      refine lv_icmp_ge (tgt := 81) hx hb dX10_lure_48 (by decide) (fun c_7 => ?_) (fun c_7 => ?_)
      · replace h := if_p c_7 h
        refine lv_bipush (v := (-9 : Int32)) hx hb dX10_lure_81 (by decide) ?_
        exact pr_i hx hb hr hlocks dX10_lure_83 (Option.some.inj h)
      · replace h := if_n c_7 h
        refine lv_aload_n hx hb dX10_lure_51 rfl (lv_at hl 0 rfl) ?_
        refine lv_aload_n hx hb dX10_lure_52 rfl (lv_at hl 0 rfl) ?_
        refine lv_iload_n hx hb dX10_lure_53 rfl (lv_at hl 1 rfl) ?_
        obtain ⟨y8, qy8, h⟩ := ob_some h
        have hPc : va_P D vwCl [(aM, .inr (10, [.ref aM_text, .int M_size, .int M_many, .ref aM_slips, .ref aM_lates, .ref aM_copies, .int M_little, .int M_in, .int M_streak, .int M_lot, .int M_undos, .ref aM_before, .ref aM_images, .ref aM_kept, .long M_trace, .int M_at, .int M_begin, .int M_kind, .long M_value, .int M_readMany, .int M_readLittle, .ref aM_read, .long M_below])), (aM_copies, .inl (cI, 6, .inl M_copies))] s.heap := hP.sub [0, 3] rfl
        refine vp_callSi (va_Run.run (va_runV (As := [.int x1]) (rest := [.ref aM]) ⟨hx, hb, hml, hown, hts⟩ (c_X10_leaderOf l D cI cJ cZ cO aM aM_copies aM_text aM_slips aM_lates aM_before aM_images aM_kept aM_read M_size M_many M_little M_in M_streak M_lot M_undos M_trace M_at M_begin M_kind M_value M_readMany M_readLittle M_below M_copies x1 y8 qy8) (cwV 1 hts gX10_lure_X10_leaderOf rfl rfl rfl (by decide +kernel) ⟨Nat.le_of_ble_eq_true rfl, Nat.le_of_ble_eq_true rfl⟩) ⟨fb_p, va_recv hK hP (ci := 10) (q0 := 0) rfl rfl, fun U hU hW => ⟨rfl, by rw [hU]; exact hPc, KK.warm hW hKK⟩⟩ rfl rfl hl.1 rfl (lv_room (Nat.le_of_ble_eq_true rfl)) dX10_lure_54 ⟨Nat.le_of_ble_eq_true rfl, Nat.le_of_ble_eq_true rfl⟩)) (fun r hr => ?_)
        replace hr := hr.symm
        subst hr
        refine lv_iconst (v := (2 : Int32)) hx hb dX10_lure_57 (by decide) ?_
        refine lv_iload_n hx hb dX10_lure_58 rfl (lv_at hl 3 rfl) ?_
        obtain ⟨y9, qy9, h⟩ := ob_some h
        have hPc : va_P D vwCl [(aM, .inr (10, [.ref aM_text, .int M_size, .int M_many, .ref aM_slips, .ref aM_lates, .ref aM_copies, .int M_little, .int M_in, .int M_streak, .int M_lot, .int M_undos, .ref aM_before, .ref aM_images, .ref aM_kept, .long M_trace, .int M_at, .int M_begin, .int M_kind, .long M_value, .int M_readMany, .int M_readLittle, .ref aM_read, .long M_below])), (aM_slips, .inl (cI, 6, .inl M_slips)), (aM_lates, .inl (cI, 6, .inl M_lates))] s.heap := hP.sub [0, 1, 2] rfl
        refine vp_callSi (va_Run.run (va_runV (As := [.int y8, .int (2 : Int32), .int x3]) (rest := []) ⟨hx, hb, hml, hown, hts⟩ (c_X10_errsOf l D cI cJ cZ cO aM aM_slips aM_lates aM_text aM_copies aM_before aM_images aM_kept aM_read M_size M_many M_little M_in M_streak M_lot M_undos M_trace M_at M_begin M_kind M_value M_readMany M_readLittle M_below M_slips M_lates y8 (2 : Int32) x3 y9 qy9) (cwV 3 hts gX10_lure_X10_errsOf rfl rfl rfl (by decide +kernel) ⟨Nat.le_of_ble_eq_true rfl, Nat.le_of_ble_eq_true rfl⟩) ⟨fb_p, va_recv hK hP (ci := 10) (q0 := 0) rfl rfl, fun U hU hW => ⟨rfl, by rw [hU]; exact hPc, KK.warm hW hKK⟩⟩ rfl rfl hl.1 rfl (lv_room (Nat.le_of_ble_eq_true rfl)) dX10_lure_59 ⟨Nat.le_of_ble_eq_true rfl, Nat.le_of_ble_eq_true rfl⟩)) (fun r hr => ?_)
        replace hr := hr.symm
        subst hr
        refine lv_iload_n hx hb dX10_lure_62 rfl (lv_at hl 2 rfl) ?_
        refine lv_icmp_lt (tgt := 69) hx hb dX10_lure_63 (by decide) (fun c_10 => ?_) (fun c_10 => ?_)
        · replace h := if_p c_10 h
          refine lv_iload_n hx hb dX10_lure_69 rfl (lv_at hl 3 rfl) ?_
          refine lv_iconst (v := (1 : Int32)) hx hb dX10_lure_70 (by decide) ?_
          have hPc : va_P D vwCl [] s.heap := hP.sub [] rfl
          refine vp_callSi (va_Run.run (va_runS (As := [.int x3, .int (1 : Int32)]) (rest := []) ⟨hx, hb, hml, hown, hts⟩ (c_X10_streakBehind l D cI cJ cZ cO x3 (1 : Int32) _ rfl) (cwS 2 hts gX10_lure_X10_streakBehind rfl rfl rfl (by decide +kernel) ⟨Nat.le_of_ble_eq_true rfl, Nat.le_of_ble_eq_true rfl⟩) ⟨fb_p, fun U hU hW => ⟨rfl, by rw [hU]; exact hPc, KK.warm hW hKK⟩⟩ rfl rfl hl.1 rfl (lv_room (Nat.le_of_ble_eq_true rfl)) dX10_lure_71 ⟨Nat.le_of_ble_eq_true rfl, Nat.le_of_ble_eq_true rfl⟩)) (fun r hr => ?_)
          replace hr := hr.symm
          subst hr
          refine lv_istore_n (lv' := [(3, .int (f_X10_streakBehind x3 (1 : Int32))), (0, .ref aM), (1, .int x1), (2, .int x2), (4, .int x4)]) hx hb dX10_lure_74 rfl hl (by decide) rfl (fun ls hl => ?_)
          refine lv_iinc (v := (x4 + (1 : Int32))) (lv' := [(4, .int (x4 + (1 : Int32))), (3, .int (f_X10_streakBehind x3 (1 : Int32))), (0, .ref aM), (1, .int x1), (2, .int x2)]) hx hb dX10_lure_75 hl (k := 4) rfl rfl (by decide) rfl (fun ls hl => ?_)
          refine lv_goto (tgt := 44) hx hb dX10_lure_78 (by decide) ?_
          exact ih x1 x2 (f_X10_streakBehind x3 (1 : Int32)) (x4 + (1 : Int32)) ls (lv_sub hl [2, 3, 4, 1, 0] rfl) h
        · replace h := if_n c_10 h
          refine lv_iload hx hb dX10_lure_66 (lv_at hl 4 rfl) ?_
          exact pr_i hx hb hr hlocks dX10_lure_68 (Option.some.inj h)
  unfold f_X10_lure at h
  refine lv_aload_n hx hb dX10_lure_0 rfl (lv_at hl 0 rfl) ?_
  refine lv_iload_n hx hb dX10_lure_1 rfl (lv_at hl 1 rfl) ?_
  have hPc : va_P D vwCl [(aM, .inr (10, [.ref aM_text, .int M_size, .int M_many, .ref aM_slips, .ref aM_lates, .ref aM_copies, .int M_little, .int M_in, .int M_streak, .int M_lot, .int M_undos, .ref aM_before, .ref aM_images, .ref aM_kept, .long M_trace, .int M_at, .int M_begin, .int M_kind, .long M_value, .int M_readMany, .int M_readLittle, .ref aM_read, .long M_below]))] s.heap := hP.sub [0] rfl
  refine vp_callSi (va_Run.run (va_runV (As := [.int p1]) (rest := []) ⟨hx, hb, hml, hown, hts⟩ (c_X10_isChild l D cI cJ cZ cO aM aM_text aM_slips aM_lates aM_copies aM_before aM_images aM_kept aM_read M_size M_many M_little M_in M_streak M_lot M_undos M_trace M_at M_begin M_kind M_value M_readMany M_readLittle M_below p1 _ rfl) (cwV 1 hts gX10_lure_X10_isChild rfl rfl rfl (by decide +kernel) ⟨Nat.le_of_ble_eq_true rfl, Nat.le_of_ble_eq_true rfl⟩) ⟨fb_p, va_recv hK hP (ci := 10) (q0 := 0) rfl rfl, fun U hU hW => ⟨rfl, by rw [hU]; exact hPc, KK.warm hW hKK⟩⟩ rfl rfl hl.1 rfl (lv_room (Nat.le_of_ble_eq_true rfl)) dX10_lure_2 ⟨Nat.le_of_ble_eq_true rfl, Nat.le_of_ble_eq_true rfl⟩)) (fun r hr => ?_)
  obtain ⟨hr, hz1⟩ := hr
  replace hr := hr.symm
  subst hr
  refine lv_if_eq (tgt := 20) hx hb dX10_lure_5 (by decide) (fun c_2 => ?_) (fun c_2 => ?_)
  · replace h := if_p c_2 h
    refine lv_iconst (v := (-1 : Int32)) hx hb dX10_lure_20 (by decide) ?_
    exact pr_i hx hb hr hlocks dX10_lure_21 (Option.some.inj h)
  · replace h := if_n c_2 h
    refine lv_iload_n hx hb dX10_lure_8 rfl (lv_at hl 2 rfl) ?_
    refine lv_i2l (v := p2.toInt64) hx hb dX10_lure_9 rfl ?_
    refine lv_lconst (v := (0 : Int64)) hx hb dX10_lure_10 (by decide) ?_
    refine lv_ldc2 (v := (10 : Int64)) hx hb hown cst_81 dX10_lure_11 ?_
    have hPc : va_P D vwCl [] s.heap := hP.sub [] rfl
    refine vp_callSi (va_Run.run (va_runS (As := [.long p2.toInt64, .long (0 : Int64), .long (10 : Int64)]) (rest := []) ⟨hx, hb, hml, hown, hts⟩ (c_X10_within l D cI cJ cZ cO p2.toInt64 (0 : Int64) (10 : Int64) _ rfl) (cwS 3 hts gX10_lure_X10_within rfl rfl rfl (by decide +kernel) ⟨Nat.le_of_ble_eq_true rfl, Nat.le_of_ble_eq_true rfl⟩) ⟨fb_p, fun U hU hW => ⟨rfl, by rw [hU]; exact hPc, KK.warm hW hKK⟩⟩ rfl rfl hl.1 rfl (lv_room (Nat.le_of_ble_eq_true rfl)) dX10_lure_14 ⟨Nat.le_of_ble_eq_true rfl, Nat.le_of_ble_eq_true rfl⟩)) (fun r hr => ?_)
    obtain ⟨hr, hz3⟩ := hr
    replace hr := hr.symm
    subst hr
    refine lv_if_ne (tgt := 22) hx hb dX10_lure_17 (by decide) (fun c_4 => ?_) (fun c_4 => ?_)
    · replace h := if_n c_4 h
      refine lv_aload_n hx hb dX10_lure_22 rfl (lv_at hl 0 rfl) ?_
      refine va_get (D := D) (ci := 10) (v := .int M_in) (C := RX10) (T := TX10) (N := 23) hx hb hts inX10 hown hK hP 0 rfl rfl 7 (by decide) fl_119 (fun _ h9 => h9) rfl dX10_lure_23 ?_
      refine lv_iload_n hx hb dX10_lure_26 rfl (lv_at hl 1 rfl) ?_
      have hPc : va_P D vwCl [] s.heap := hP.sub [] rfl
      refine vp_callSi (va_Run.run (va_runS (As := [.int M_in, .int p1]) (rest := []) ⟨hx, hb, hml, hown, hts⟩ (c_X10_has l D cI cJ cZ cO M_in p1 _ rfl) (cwS 2 hts gX10_lure_X10_has rfl rfl rfl (by decide +kernel) ⟨Nat.le_of_ble_eq_true rfl, Nat.le_of_ble_eq_true rfl⟩) ⟨fb_p, fun U hU hW => ⟨rfl, by rw [hU]; exact hPc, KK.warm hW hKK⟩⟩ rfl rfl hl.1 rfl (lv_room (Nat.le_of_ble_eq_true rfl)) dX10_lure_27 ⟨Nat.le_of_ble_eq_true rfl, Nat.le_of_ble_eq_true rfl⟩)) (fun r hr => ?_)
      obtain ⟨hr, hz5⟩ := hr
      replace hr := hr.symm
      subst hr
      refine lv_if_ne (tgt := 36) hx hb dX10_lure_30 (by decide) (fun c_6 => ?_) (fun c_6 => ?_)
      · replace h := if_n c_6 h
        refine lv_aload_n hx hb dX10_lure_36 rfl (lv_at hl 0 rfl) ?_
        refine va_get (D := D) (ci := 10) (v := .int M_streak) (C := RX10) (T := TX10) (N := 23) hx hb hts inX10 hown hK hP 0 rfl rfl 8 (by decide) fl_122 (fun _ h9 => h9) rfl dX10_lure_37 ?_
        refine lv_istore_n (lv' := [(3, .int M_streak), (0, .ref aM), (1, .int p1), (2, .int p2)]) hx hb dX10_lure_40 rfl hl (by decide) rfl (fun ls hl => ?_)
        refine lv_iconst (v := (0 : Int32)) hx hb dX10_lure_41 (by decide) ?_
        refine lv_istore (lv' := [(4, .int (0 : Int32)), (3, .int M_streak), (0, .ref aM), (1, .int p1), (2, .int p2)]) hx hb dX10_lure_42 hl (by decide) rfl (fun ls hl => ?_)
        exact L44 300 p1 p2 M_streak (0 : Int32) ls (lv_sub hl [2, 3, 4, 1, 0] rfl) h
      · replace h := if_p c_6 h
        refine lv_bipush (v := (-9 : Int32)) hx hb dX10_lure_33 (by decide) ?_
        exact pr_i hx hb hr hlocks dX10_lure_35 (Option.some.inj h)
    · replace h := if_p c_4 h
      refine lv_iconst (v := (-1 : Int32)) hx hb dX10_lure_20 (by decide) ?_
      exact pr_i hx hb hr hlocks dX10_lure_21 (Option.some.inj h)

def f_X10_could_L14 (M_many : Int32) (M_in : Int32) (M_streak : Int32) (M_slips : Nat → Int32) (M_lates : Nat → Int32) (M_copies : Nat → Int32) : Nat → Int64 → Int32 → Int32 → Int32 → Option (Int32 × Int64)
  | 0, _, _, _, _ => none
  | n + 1, M_below, x1, x2, x3 => (if (4 : Int32) < x3 then some (x2, M_below) else (Option.bind (f_X10_waysOf M_many M_in M_streak M_below M_slips M_lates M_copies x3 x1) (fun y4 => (if (lg_cmp y4.1 (0 : Int64)) ≤ 0 then f_X10_could_L14 M_many M_in M_streak M_slips M_lates M_copies n y4.2 x1 (x2 ||| (0 : Int32)) (x3 + (1 : Int32)) else f_X10_could_L14 M_many M_in M_streak M_slips M_lates M_copies n y4.2 x1 (x2 ||| ((1 : Int32) <<< (x3 &&& 31))) (x3 + (1 : Int32))))))
def f_X10_could (M_many : Int32) (M_in : Int32) (M_streak : Int32) (M_below : Int64) (M_slips : Nat → Int32) (M_lates : Nat → Int32) (M_copies : Nat → Int32) (p1 : Int32) : Option (Int32 × Int64) := (if (f_X10_isSet M_many p1) = 0 then some ((-1 : Int32), M_below) else f_X10_could_L14 M_many M_in M_streak M_slips M_lates M_copies 300 M_below p1 (0 : Int32) (1 : Int32))
set_option maxHeartbeats 8000000 in
set_option maxRecDepth 100000 in
theorem c_X10_could (l : Launch) (D : va_G) (cI cJ cZ cO : ClassId) (aM : Nat) (aM_slips : Nat) (aM_lates : Nat) (aM_copies : Nat) (aM_text : Nat) (aM_before : Nat) (aM_images : Nat) (aM_kept : Nat) (aM_read : Nat) (M_size : Int32) (M_many : Int32) (M_little : Int32) (M_in : Int32) (M_streak : Int32) (M_lot : Int32) (M_undos : Int32) (M_trace : Int64) (M_at : Int32) (M_begin : Int32) (M_kind : Int32) (M_value : Int64) (M_readMany : Int32) (M_readLittle : Int32) (M_below : Int64) (M_slips : Nat → Int32) (M_lates : Nat → Int32) (M_copies : Nat → Int32) (sz : Nat) (p1 : Int32)  (y0 : Int32 × Int64) (h : f_X10_could M_many M_in M_streak M_below M_slips M_lates M_copies p1 = some y0) : Met l yX10_could wsX10_could ({ frames := 4, cells := 0, slots := 0, locals := 93 } : Room) (va_Pc [.ref aM, .int p1] (fun U => U.heap.size = sz ∧ va_P D vwCl [(aM, .inr (10, [.ref aM_text, .int M_size, .int M_many, .ref aM_slips, .ref aM_lates, .ref aM_copies, .int M_little, .int M_in, .int M_streak, .int M_lot, .int M_undos, .ref aM_before, .ref aM_images, .ref aM_kept, .long M_trace, .int M_at, .int M_begin, .int M_kind, .long M_value, .int M_readMany, .int M_readLittle, .ref aM_read, .long M_below])), (aM_slips, .inl (cI, 6, .inl M_slips)), (aM_lates, .inl (cI, 6, .inl M_lates)), (aM_copies, .inl (cI, 6, .inl M_copies))] U.heap ∧ KK D cI cJ cZ cO U ∧ va_D (fun _ => True) [(aM, .inr (10, [.ref aM_text, .int M_size, .int M_many, .ref aM_slips, .ref aM_lates, .ref aM_copies, .int M_little, .int M_in, .int M_streak, .int M_lot, .int M_undos, .ref aM_before, .ref aM_images, .ref aM_kept, .long M_trace, .int M_at, .int M_begin, .int M_kind, .long M_value, .int M_readMany, .int M_readLittle, .ref aM_read, .long M_below])), (aM_slips, .inl (cI, 6, .inl M_slips)), (aM_lates, .inl (cI, 6, .inl M_lates)), (aM_copies, .inl (cI, 6, .inl M_copies))])) (va_Qi (fun (r : Int32) (_ : Unit) => r = y0.1) (fun (_ : Unit) t => va_P D vwCl [(aM, .inr (10, [.ref aM_text, .int M_size, .int M_many, .ref aM_slips, .ref aM_lates, .ref aM_copies, .int M_little, .int M_in, .int M_streak, .int M_lot, .int M_undos, .ref aM_before, .ref aM_images, .ref aM_kept, .long M_trace, .int M_at, .int M_begin, .int M_kind, .long M_value, .int M_readMany, .int M_readLittle, .ref aM_read, .long y0.2])), (aM_slips, .inl (cI, 6, .inl M_slips)), (aM_lates, .inl (cI, 6, .inl M_lates)), (aM_copies, .inl (cI, 6, .inl M_copies))] t.heap ∧ va_D (va_A [(aM, .inr (10, [.ref aM_text, .int M_size, .int M_many, .ref aM_slips, .ref aM_lates, .ref aM_copies, .int M_little, .int M_in, .int M_streak, .int M_lot, .int M_undos, .ref aM_before, .ref aM_images, .ref aM_kept, .long M_trace, .int M_at, .int M_begin, .int M_kind, .long M_value, .int M_readMany, .int M_readLittle, .ref aM_read, .long M_below])), (aM_slips, .inl (cI, 6, .inl M_slips)), (aM_lates, .inl (cI, 6, .inl M_lates)), (aM_copies, .inl (cI, 6, .inl M_copies))] sz) [(aM, .inr (10, [.ref aM_text, .int M_size, .int M_many, .ref aM_slips, .ref aM_lates, .ref aM_copies, .int M_little, .int M_in, .int M_streak, .int M_lot, .int M_undos, .ref aM_before, .ref aM_images, .ref aM_kept, .long M_trace, .int M_at, .int M_begin, .int M_kind, .long M_value, .int M_readMany, .int M_readLittle, .ref aM_read, .long y0.2])), (aM_slips, .inl (cI, 6, .inl M_slips)), (aM_lates, .inl (cI, 6, .inl M_lates)), (aM_copies, .inl (cI, 6, .inl M_copies))]) (va_A [(aM, .inr (10, [.ref aM_text, .int M_size, .int M_many, .ref aM_slips, .ref aM_lates, .ref aM_copies, .int M_little, .int M_in, .int M_streak, .int M_lot, .int M_undos, .ref aM_before, .ref aM_images, .ref aM_kept, .long M_trace, .int M_at, .int M_begin, .int M_kind, .long M_value, .int M_readMany, .int M_readLittle, .ref aM_read, .long M_below])), (aM_slips, .inl (cI, 6, .inl M_slips)), (aM_lates, .inl (cI, 6, .inl M_lates)), (aM_copies, .inl (cI, 6, .inl M_copies))] sz)) 0 0 (va_A [(aM, .inr (10, [.ref aM_text, .int M_size, .int M_many, .ref aM_slips, .ref aM_lates, .ref aM_copies, .int M_little, .int M_in, .int M_streak, .int M_lot, .int M_undos, .ref aM_before, .ref aM_images, .ref aM_kept, .long M_trace, .int M_at, .int M_begin, .int M_kind, .long M_value, .int M_readMany, .int M_readLittle, .ref aM_read, .long M_below])), (aM_slips, .inl (cI, 6, .inl M_slips)), (aM_lates, .inl (cI, 6, .inl M_lates)), (aM_copies, .inl (cI, 6, .inl M_copies))] sz) := by
  refine Met.ofW (cc := cX10_could) (maxL := 4) (ret := (some .int)) (by decide) rfl ?_
  intro p e s m args below meth c s₁ B hml hv
  obtain ⟨rfl, hsz, hP, hKK, hD0⟩ := hv
  have hx := B.exec
  have hb := B.bytes
  have hr := B.returns
  have hts := atoms_spec (ws := wsX10_could) B.pre
  have hown : s.vm.findClass RX10 = some m.cls := findClass_of_methodNamed B.named
  have hlocks := B.notSynchronized
  have hK := hKK.1
  subst hsz
  have hD := hD0.self (sz := s.heap.size)
  generalize hAe : va_A [(aM, .inr (10, [.ref aM_text, .int M_size, .int M_many, .ref aM_slips, .ref aM_lates, .ref aM_copies, .int M_little, .int M_in, .int M_streak, .int M_lot, .int M_undos, .ref aM_before, .ref aM_images, .ref aM_kept, .long M_trace, .int M_at, .int M_begin, .int M_kind, .long M_value, .int M_readMany, .int M_readLittle, .ref aM_read, .long M_below])), (aM_slips, .inl (cI, 6, .inl M_slips)), (aM_lates, .inl (cI, 6, .inl M_lates)), (aM_copies, .inl (cI, 6, .inl M_copies))] s.heap.size = A at hD ⊢
  have hA : ∀ q : Nat, s.heap.size ≤ q → A q := fun q h => by rw [← hAe]; exact Or.inr h
  have hS : va_S A s.heap s.heap [] := va_S.rf
  have hl := lv_entry ([.ref aM, .int p1]) (n := 4) (Nat.le_of_ble_eq_true rfl)
  rw [lg_entry_eq]
  generalize (lg_sl ([.ref aM, .int p1]) ++ List.replicate (4 - (lg_sl ([.ref aM, .int p1])).length) Slot.unset).toArray = ls at hl ⊢
  have hl : lv_has ls 4 [(0, .ref aM), (1, .int p1)] := hl
  have L14 : ∀ (n : Nat), ∀ (M_below : Int64) (x1 : Int32) (x2 : Int32) (x3 : Int32), ∀ (H : Heap) (locs : List Loc), va_P D vwCl [(aM, .inr (10, [.ref aM_text, .int M_size, .int M_many, .ref aM_slips, .ref aM_lates, .ref aM_copies, .int M_little, .int M_in, .int M_streak, .int M_lot, .int M_undos, .ref aM_before, .ref aM_images, .ref aM_kept, .long M_trace, .int M_at, .int M_begin, .int M_kind, .long M_value, .int M_readMany, .int M_readLittle, .ref aM_read, .long M_below])), (aM_slips, .inl (cI, 6, .inl M_slips)), (aM_lates, .inl (cI, 6, .inl M_lates)), (aM_copies, .inl (cI, 6, .inl M_copies))] H → va_D A [(aM, .inr (10, [.ref aM_text, .int M_size, .int M_many, .ref aM_slips, .ref aM_lates, .ref aM_copies, .int M_little, .int M_in, .int M_streak, .int M_lot, .int M_undos, .ref aM_before, .ref aM_images, .ref aM_kept, .long M_trace, .int M_at, .int M_begin, .int M_kind, .long M_value, .int M_readMany, .int M_readLittle, .ref aM_read, .long M_below])), (aM_slips, .inl (cI, 6, .inl M_slips)), (aM_lates, .inl (cI, 6, .inl M_lates)), (aM_copies, .inl (cI, 6, .inl M_copies))] → va_S A s.heap H locs → ∀ (ls : Array Slot), lv_has ls 4 [(0, .ref aM), (1, .int x1), (2, .int x2), (3, .int x3)] → f_X10_could_L14 M_many M_in M_streak M_slips M_lates M_copies n M_below x1 x2 x3 = some y0 → W p l e (headSpec wsX10_could ({ frames := 4, cells := 0, slots := 0, locals := 93 } : Room)).room s m ([.ref aM, .int p1] : List Value).toArray below meth c H locs 0 0 (MQ below (va_Qi (fun (r : Int32) (_ : Unit) => r = y0.1) (fun (_ : Unit) t => va_P D vwCl [(aM, .inr (10, [.ref aM_text, .int M_size, .int M_many, .ref aM_slips, .ref aM_lates, .ref aM_copies, .int M_little, .int M_in, .int M_streak, .int M_lot, .int M_undos, .ref aM_before, .ref aM_images, .ref aM_kept, .long M_trace, .int M_at, .int M_begin, .int M_kind, .long M_value, .int M_readMany, .int M_readLittle, .ref aM_read, .long y0.2])), (aM_slips, .inl (cI, 6, .inl M_slips)), (aM_lates, .inl (cI, 6, .inl M_lates)), (aM_copies, .inl (cI, 6, .inl M_copies))] t.heap ∧ va_D A [(aM, .inr (10, [.ref aM_text, .int M_size, .int M_many, .ref aM_slips, .ref aM_lates, .ref aM_copies, .int M_little, .int M_in, .int M_streak, .int M_lot, .int M_undos, .ref aM_before, .ref aM_images, .ref aM_kept, .long M_trace, .int M_at, .int M_begin, .int M_kind, .long M_value, .int M_readMany, .int M_readLittle, .ref aM_read, .long y0.2])), (aM_slips, .inl (cI, 6, .inl M_slips)), (aM_lates, .inl (cI, 6, .inl M_lates)), (aM_copies, .inl (cI, 6, .inl M_copies))]) A) ([.ref aM, .int p1] : List Value).toArray s 0 0 A) (F0 m 14 ls []) := by
    intro n
    induction n with
    | zero =>
      intro M_below x1 x2 x3 H locs hP hD hS ls hl h
      exact (ns h).elim
    | succ n ih =>
      intro M_below x1 x2 x3 H locs hP hD hS ls hl h
      unfold f_X10_could_L14 at h
      refine lv_iload_n hx hb dX10_could_14 rfl (lv_at hl 3 rfl) ?_
      refine lv_iconst (v := (4 : Int32)) hx hb dX10_could_15 (by decide) ?_
      refine lv_icmp_gt (tgt := 46) hx hb dX10_could_16 (by decide) (fun c_3 => ?_) (fun c_3 => ?_)
      · replace h := if_p c_3 h
        refine lv_iload_n hx hb dX10_could_46 rfl (lv_at hl 2 rfl) ?_
        have hy := Option.some.inj h
        subst hy
        exact W.iret (v := x2) hx hb hr (fun t ht hW => ⟨⟨x2, (), rfl, rfl, by rw [ht]; exact hP, hD⟩, hS.F ht⟩) hS.2.2 dX10_could_47
      · replace h := if_n c_3 h
        refine lv_iload_n hx hb dX10_could_19 rfl (lv_at hl 2 rfl) ?_
        refine lv_aload_n hx hb dX10_could_20 rfl (lv_at hl 0 rfl) ?_
        refine lv_iload_n hx hb dX10_could_21 rfl (lv_at hl 3 rfl) ?_
        refine lv_iload_n hx hb dX10_could_22 rfl (lv_at hl 1 rfl) ?_
        obtain ⟨y4, qy4, h⟩ := ob_some h
        have hPc : va_P D vwCl [(aM, .inr (10, [.ref aM_text, .int M_size, .int M_many, .ref aM_slips, .ref aM_lates, .ref aM_copies, .int M_little, .int M_in, .int M_streak, .int M_lot, .int M_undos, .ref aM_before, .ref aM_images, .ref aM_kept, .long M_trace, .int M_at, .int M_begin, .int M_kind, .long M_value, .int M_readMany, .int M_readLittle, .ref aM_read, .long M_below])), (aM_slips, .inl (cI, 6, .inl M_slips)), (aM_lates, .inl (cI, 6, .inl M_lates)), (aM_copies, .inl (cI, 6, .inl M_copies))] H := hP.sub [0, 1, 2, 3] rfl
        have hDc : va_D A [(aM, .inr (10, [.ref aM_text, .int M_size, .int M_many, .ref aM_slips, .ref aM_lates, .ref aM_copies, .int M_little, .int M_in, .int M_streak, .int M_lot, .int M_undos, .ref aM_before, .ref aM_images, .ref aM_kept, .long M_trace, .int M_at, .int M_begin, .int M_kind, .long M_value, .int M_readMany, .int M_readLittle, .ref aM_read, .long M_below])), (aM_slips, .inl (cI, 6, .inl M_slips)), (aM_lates, .inl (cI, 6, .inl M_lates)), (aM_copies, .inl (cI, 6, .inl M_copies))] := hD.sub [0, 1, 2, 3] (by decide) rfl
        have hFc := va_free (wc := [(aM, .inr (10, [.ref aM_text, .int M_size, .int M_many, .ref aM_slips, .ref aM_lates, .ref aM_copies, .int M_little, .int M_in, .int M_streak, .int M_lot, .int M_undos, .ref aM_before, .ref aM_images, .ref aM_kept, .long M_trace, .int M_at, .int M_begin, .int M_kind, .long M_value, .int M_readMany, .int M_readLittle, .ref aM_read, .long M_below])), (aM_slips, .inl (cI, 6, .inl M_slips)), (aM_lates, .inl (cI, 6, .inl M_lates)), (aM_copies, .inl (cI, 6, .inl M_copies))]) hD hS hA [0, 1, 2, 3] rfl
        refine va_calll (va_runV (As := [.int x3, .int x1]) (rest := [.int x2]) ⟨hx, hb, hml, hown, hts⟩ (c_X10_waysOf l D cI cJ cZ cO aM aM_slips aM_lates aM_copies aM_text aM_before aM_images aM_kept aM_read M_size M_many M_little M_in M_streak M_lot M_undos M_trace M_at M_begin M_kind M_value M_readMany M_readLittle M_below M_slips M_lates M_copies H.size x3 x1 y4 qy4) (cwV 2 hts gX10_could_X10_waysOf rfl rfl rfl (by decide +kernel) ⟨Nat.le_of_ble_eq_true rfl, Nat.le_of_ble_eq_true rfl⟩) ⟨fb_i, va_recv hK hP (ci := 10) (q0 := 0) rfl rfl, fun U hU hW => ⟨rfl, by rw [hU], by rw [hU]; exact hPc, KK.warm hW hKK, hDc.weaken (fun _ _ _ _ => trivial)⟩⟩ rfl rfl hl.1 rfl (lv_room (Nat.le_of_ble_eq_true rfl)) dX10_could_23 ⟨Nat.le_of_ble_eq_true rfl, Nat.le_of_ble_eq_true rfl⟩) hS (fun q _ h => hFc q h) hFc (fun r u t H1 locs ht hvm hw hB hz1 hk1 hS => ?_)
        obtain ⟨hP1, hD1⟩ := hB
        rw [ht] at hP1
        replace hw := hw.symm
        subst hw
        obtain ⟨hP, hD⟩ := va_join (wr := []) (w1 := [(aM, .inr (10, [.ref aM_text, .int M_size, .int M_many, .ref aM_slips, .ref aM_lates, .ref aM_copies, .int M_little, .int M_in, .int M_streak, .int M_lot, .int M_undos, .ref aM_before, .ref aM_images, .ref aM_kept, .long M_trace, .int M_at, .int M_begin, .int M_kind, .long M_value, .int M_readMany, .int M_readLittle, .ref aM_read, .long y4.2])), (aM_slips, .inl (cI, 6, .inl M_slips)), (aM_lates, .inl (cI, 6, .inl M_lates)), (aM_copies, .inl (cI, 6, .inl M_copies))]) hP hD [0, 1, 2, 3] [] rfl rfl (by decide) (by decide) hk1 hFc hP1 hD1
        generalize H1 = H at hP hS ⊢
        have hP : va_P D vwCl [(aM, .inr (10, [.ref aM_text, .int M_size, .int M_many, .ref aM_slips, .ref aM_lates, .ref aM_copies, .int M_little, .int M_in, .int M_streak, .int M_lot, .int M_undos, .ref aM_before, .ref aM_images, .ref aM_kept, .long M_trace, .int M_at, .int M_begin, .int M_kind, .long M_value, .int M_readMany, .int M_readLittle, .ref aM_read, .long y4.2])), (aM_slips, .inl (cI, 6, .inl M_slips)), (aM_lates, .inl (cI, 6, .inl M_lates)), (aM_copies, .inl (cI, 6, .inl M_copies))] H := hP.sub [0, 1, 2, 3] rfl
        have hD : va_D A [(aM, .inr (10, [.ref aM_text, .int M_size, .int M_many, .ref aM_slips, .ref aM_lates, .ref aM_copies, .int M_little, .int M_in, .int M_streak, .int M_lot, .int M_undos, .ref aM_before, .ref aM_images, .ref aM_kept, .long M_trace, .int M_at, .int M_begin, .int M_kind, .long M_value, .int M_readMany, .int M_readLittle, .ref aM_read, .long y4.2])), (aM_slips, .inl (cI, 6, .inl M_slips)), (aM_lates, .inl (cI, 6, .inl M_lates)), (aM_copies, .inl (cI, 6, .inl M_copies))] := hD.sub [0, 1, 2, 3] (by decide) rfl
        refine lv_lconst (v := (0 : Int64)) hx hb dX10_could_26 (by decide) ?_
        refine W.lcmp hx hb dX10_could_27 ?_
        refine lv_if_le (tgt := 37) hx hb dX10_could_28 (by decide) (fun c_5 => ?_) (fun c_5 => ?_)
        · replace h := if_p c_5 h
          refine lv_iconst (v := (0 : Int32)) hx hb dX10_could_37 (by decide) ?_
          refine lv_ior hx hb dX10_could_38 ?_
          refine lv_istore_n (lv' := [(2, .int (x2 ||| (0 : Int32))), (0, .ref aM), (1, .int x1), (3, .int x3)]) hx hb dX10_could_39 rfl hl (by decide) rfl (fun ls hl => ?_)
          refine lv_iinc (v := (x3 + (1 : Int32))) (lv' := [(3, .int (x3 + (1 : Int32))), (2, .int (x2 ||| (0 : Int32))), (0, .ref aM), (1, .int x1)]) hx hb dX10_could_40 hl (k := 3) rfl rfl (by decide) rfl (fun ls hl => ?_)
          refine lv_goto (tgt := 14) hx hb dX10_could_43 (by decide) ?_
          exact ih y4.2 x1 (x2 ||| (0 : Int32)) (x3 + (1 : Int32)) _ _ hP hD hS ls (lv_sub hl [2, 3, 1, 0] rfl) h
        · replace h := if_n c_5 h
          refine lv_iconst (v := (1 : Int32)) hx hb dX10_could_31 (by decide) ?_
          refine lv_iload_n hx hb dX10_could_32 rfl (lv_at hl 3 rfl) ?_
          refine lv_ishl hx hb dX10_could_33 ?_
          refine lv_goto (tgt := 38) hx hb dX10_could_34 (by decide) ?_
          refine lv_ior hx hb dX10_could_38 ?_
          refine lv_istore_n (lv' := [(2, .int (x2 ||| ((1 : Int32) <<< (x3 &&& 31)))), (0, .ref aM), (1, .int x1), (3, .int x3)]) hx hb dX10_could_39 rfl hl (by decide) rfl (fun ls hl => ?_)
          refine lv_iinc (v := (x3 + (1 : Int32))) (lv' := [(3, .int (x3 + (1 : Int32))), (2, .int (x2 ||| ((1 : Int32) <<< (x3 &&& 31)))), (0, .ref aM), (1, .int x1)]) hx hb dX10_could_40 hl (k := 3) rfl rfl (by decide) rfl (fun ls hl => ?_)
          refine lv_goto (tgt := 14) hx hb dX10_could_43 (by decide) ?_
          exact ih y4.2 x1 (x2 ||| ((1 : Int32) <<< (x3 &&& 31))) (x3 + (1 : Int32)) _ _ hP hD hS ls (lv_sub hl [2, 3, 1, 0] rfl) h
  unfold f_X10_could at h
  refine lv_aload_n hx hb dX10_could_0 rfl (lv_at hl 0 rfl) ?_
  refine lv_iload_n hx hb dX10_could_1 rfl (lv_at hl 1 rfl) ?_
  have hPc : va_P D vwCl [(aM, .inr (10, [.ref aM_text, .int M_size, .int M_many, .ref aM_slips, .ref aM_lates, .ref aM_copies, .int M_little, .int M_in, .int M_streak, .int M_lot, .int M_undos, .ref aM_before, .ref aM_images, .ref aM_kept, .long M_trace, .int M_at, .int M_begin, .int M_kind, .long M_value, .int M_readMany, .int M_readLittle, .ref aM_read, .long M_below]))] s.heap := hP.sub [0] rfl
  refine vp_callSi (va_Run.run (va_runV (As := [.int p1]) (rest := []) ⟨hx, hb, hml, hown, hts⟩ (c_X10_isSet l D cI cJ cZ cO aM aM_text aM_slips aM_lates aM_copies aM_before aM_images aM_kept aM_read M_size M_many M_little M_in M_streak M_lot M_undos M_trace M_at M_begin M_kind M_value M_readMany M_readLittle M_below p1 _ rfl) (cwV 1 hts gX10_could_X10_isSet rfl rfl rfl (by decide +kernel) ⟨Nat.le_of_ble_eq_true rfl, Nat.le_of_ble_eq_true rfl⟩) ⟨fb_p, va_recv hK hP (ci := 10) (q0 := 0) rfl rfl, fun U hU hW => ⟨rfl, by rw [hU]; exact hPc, KK.warm hW hKK⟩⟩ rfl rfl hl.1 rfl (lv_room (Nat.le_of_ble_eq_true rfl)) dX10_could_2 ⟨Nat.le_of_ble_eq_true rfl, Nat.le_of_ble_eq_true rfl⟩)) (fun r hr => ?_)
  obtain ⟨hr, hz1⟩ := hr
  replace hr := hr.symm
  subst hr
  refine lv_if_ne (tgt := 10) hx hb dX10_could_5 (by decide) (fun c_2 => ?_) (fun c_2 => ?_)
  · replace h := if_n c_2 h
    refine lv_iconst (v := (0 : Int32)) hx hb dX10_could_10 (by decide) ?_
    refine lv_istore_n (lv' := [(2, .int (0 : Int32)), (0, .ref aM), (1, .int p1)]) hx hb dX10_could_11 rfl hl (by decide) rfl (fun ls hl => ?_)
    refine lv_iconst (v := (1 : Int32)) hx hb dX10_could_12 (by decide) ?_
    refine lv_istore_n (lv' := [(3, .int (1 : Int32)), (2, .int (0 : Int32)), (0, .ref aM), (1, .int p1)]) hx hb dX10_could_13 rfl hl (by decide) rfl (fun ls hl => ?_)
    exact L14 300 M_below p1 (0 : Int32) (1 : Int32) _ _ hP hD hS ls (lv_sub hl [2, 3, 1, 0] rfl) h
  · replace h := if_p c_2 h
    refine lv_iconst (v := (-1 : Int32)) hx hb dX10_could_8 (by decide) ?_
    have hy := Option.some.inj h
    subst hy
    exact W.iret (v := (-1 : Int32)) hx hb hr (fun t ht hW => ⟨⟨(-1 : Int32), (), rfl, rfl, by rw [ht]; exact hP, hD⟩, hS.F ht⟩) hS.2.2 dX10_could_9

def f_X10_likeliest_L46 (M_many : Int32) (M_in : Int32) (M_streak : Int32) (M_slips : Nat → Int32) (M_lates : Nat → Int32) (M_copies : Nat → Int32) (k18 : Int64 → Int32 → Int32 → Int64 → Int32 → Option (Int32 × Int64)) (M_below : Int64) (t0 : Int32) (x1 : Int32) (x3 : Int64) (x5 : Int32) (x6 : Int64) : Option (Int32 × Int64) := (if (lg_cmp x6 x3) ≤ 0 then k18 M_below x1 t0 x3 (x5 + (1 : Int32)) else k18 M_below x1 t0 x6 (x5 + (1 : Int32)))
def f_X10_likeliest_L18 (M_many : Int32) (M_in : Int32) (M_streak : Int32) (M_slips : Nat → Int32) (M_lates : Nat → Int32) (M_copies : Nat → Int32) : Nat → Int64 → Int32 → Int32 → Int64 → Int32 → Option (Int32 × Int64)
  | 0, _, _, _, _, _ => none
  | n + 1, M_below, x1, x2, x3, x5 => (if (4 : Int32) < x5 then some (x2, M_below) else (Option.bind (f_X10_waysOf M_many M_in M_streak M_below M_slips M_lates M_copies x5 x1) (fun y4 => (if (lg_cmp y4.1 x3) ≤ 0 then f_X10_likeliest_L46 M_many M_in M_streak M_slips M_lates M_copies (f_X10_likeliest_L18 M_many M_in M_streak M_slips M_lates M_copies n) y4.2 x2 x1 x3 x5 y4.1 else f_X10_likeliest_L46 M_many M_in M_streak M_slips M_lates M_copies (f_X10_likeliest_L18 M_many M_in M_streak M_slips M_lates M_copies n) y4.2 x5 x1 x3 x5 y4.1))))
def f_X10_likeliest (M_many : Int32) (M_in : Int32) (M_streak : Int32) (M_below : Int64) (M_slips : Nat → Int32) (M_lates : Nat → Int32) (M_copies : Nat → Int32) (p1 : Int32) : Option (Int32 × Int64) := (if (f_X10_isSet M_many p1) = 0 then some ((-1 : Int32), M_below) else f_X10_likeliest_L18 M_many M_in M_streak M_slips M_lates M_copies 300 M_below p1 (-9 : Int32) (0 : Int64) (1 : Int32))
set_option maxHeartbeats 8000000 in
set_option maxRecDepth 100000 in
theorem c_X10_likeliest (l : Launch) (D : va_G) (cI cJ cZ cO : ClassId) (aM : Nat) (aM_slips : Nat) (aM_lates : Nat) (aM_copies : Nat) (aM_text : Nat) (aM_before : Nat) (aM_images : Nat) (aM_kept : Nat) (aM_read : Nat) (M_size : Int32) (M_many : Int32) (M_little : Int32) (M_in : Int32) (M_streak : Int32) (M_lot : Int32) (M_undos : Int32) (M_trace : Int64) (M_at : Int32) (M_begin : Int32) (M_kind : Int32) (M_value : Int64) (M_readMany : Int32) (M_readLittle : Int32) (M_below : Int64) (M_slips : Nat → Int32) (M_lates : Nat → Int32) (M_copies : Nat → Int32) (sz : Nat) (p1 : Int32)  (y0 : Int32 × Int64) (h : f_X10_likeliest M_many M_in M_streak M_below M_slips M_lates M_copies p1 = some y0) : Met l yX10_likeliest wsX10_likeliest ({ frames := 4, cells := 0, slots := 0, locals := 93 } : Room) (va_Pc [.ref aM, .int p1] (fun U => U.heap.size = sz ∧ va_P D vwCl [(aM, .inr (10, [.ref aM_text, .int M_size, .int M_many, .ref aM_slips, .ref aM_lates, .ref aM_copies, .int M_little, .int M_in, .int M_streak, .int M_lot, .int M_undos, .ref aM_before, .ref aM_images, .ref aM_kept, .long M_trace, .int M_at, .int M_begin, .int M_kind, .long M_value, .int M_readMany, .int M_readLittle, .ref aM_read, .long M_below])), (aM_slips, .inl (cI, 6, .inl M_slips)), (aM_lates, .inl (cI, 6, .inl M_lates)), (aM_copies, .inl (cI, 6, .inl M_copies))] U.heap ∧ KK D cI cJ cZ cO U ∧ va_D (fun _ => True) [(aM, .inr (10, [.ref aM_text, .int M_size, .int M_many, .ref aM_slips, .ref aM_lates, .ref aM_copies, .int M_little, .int M_in, .int M_streak, .int M_lot, .int M_undos, .ref aM_before, .ref aM_images, .ref aM_kept, .long M_trace, .int M_at, .int M_begin, .int M_kind, .long M_value, .int M_readMany, .int M_readLittle, .ref aM_read, .long M_below])), (aM_slips, .inl (cI, 6, .inl M_slips)), (aM_lates, .inl (cI, 6, .inl M_lates)), (aM_copies, .inl (cI, 6, .inl M_copies))])) (va_Qi (fun (r : Int32) (_ : Unit) => r = y0.1) (fun (_ : Unit) t => va_P D vwCl [(aM, .inr (10, [.ref aM_text, .int M_size, .int M_many, .ref aM_slips, .ref aM_lates, .ref aM_copies, .int M_little, .int M_in, .int M_streak, .int M_lot, .int M_undos, .ref aM_before, .ref aM_images, .ref aM_kept, .long M_trace, .int M_at, .int M_begin, .int M_kind, .long M_value, .int M_readMany, .int M_readLittle, .ref aM_read, .long y0.2])), (aM_slips, .inl (cI, 6, .inl M_slips)), (aM_lates, .inl (cI, 6, .inl M_lates)), (aM_copies, .inl (cI, 6, .inl M_copies))] t.heap ∧ va_D (va_A [(aM, .inr (10, [.ref aM_text, .int M_size, .int M_many, .ref aM_slips, .ref aM_lates, .ref aM_copies, .int M_little, .int M_in, .int M_streak, .int M_lot, .int M_undos, .ref aM_before, .ref aM_images, .ref aM_kept, .long M_trace, .int M_at, .int M_begin, .int M_kind, .long M_value, .int M_readMany, .int M_readLittle, .ref aM_read, .long M_below])), (aM_slips, .inl (cI, 6, .inl M_slips)), (aM_lates, .inl (cI, 6, .inl M_lates)), (aM_copies, .inl (cI, 6, .inl M_copies))] sz) [(aM, .inr (10, [.ref aM_text, .int M_size, .int M_many, .ref aM_slips, .ref aM_lates, .ref aM_copies, .int M_little, .int M_in, .int M_streak, .int M_lot, .int M_undos, .ref aM_before, .ref aM_images, .ref aM_kept, .long M_trace, .int M_at, .int M_begin, .int M_kind, .long M_value, .int M_readMany, .int M_readLittle, .ref aM_read, .long y0.2])), (aM_slips, .inl (cI, 6, .inl M_slips)), (aM_lates, .inl (cI, 6, .inl M_lates)), (aM_copies, .inl (cI, 6, .inl M_copies))]) (va_A [(aM, .inr (10, [.ref aM_text, .int M_size, .int M_many, .ref aM_slips, .ref aM_lates, .ref aM_copies, .int M_little, .int M_in, .int M_streak, .int M_lot, .int M_undos, .ref aM_before, .ref aM_images, .ref aM_kept, .long M_trace, .int M_at, .int M_begin, .int M_kind, .long M_value, .int M_readMany, .int M_readLittle, .ref aM_read, .long M_below])), (aM_slips, .inl (cI, 6, .inl M_slips)), (aM_lates, .inl (cI, 6, .inl M_lates)), (aM_copies, .inl (cI, 6, .inl M_copies))] sz)) 0 0 (va_A [(aM, .inr (10, [.ref aM_text, .int M_size, .int M_many, .ref aM_slips, .ref aM_lates, .ref aM_copies, .int M_little, .int M_in, .int M_streak, .int M_lot, .int M_undos, .ref aM_before, .ref aM_images, .ref aM_kept, .long M_trace, .int M_at, .int M_begin, .int M_kind, .long M_value, .int M_readMany, .int M_readLittle, .ref aM_read, .long M_below])), (aM_slips, .inl (cI, 6, .inl M_slips)), (aM_lates, .inl (cI, 6, .inl M_lates)), (aM_copies, .inl (cI, 6, .inl M_copies))] sz) := by
  refine Met.ofW (cc := cX10_likeliest) (maxL := 8) (ret := (some .int)) (by decide) rfl ?_
  intro p e s m args below meth c s₁ B hml hv
  obtain ⟨rfl, hsz, hP, hKK, hD0⟩ := hv
  have hx := B.exec
  have hb := B.bytes
  have hr := B.returns
  have hts := atoms_spec (ws := wsX10_likeliest) B.pre
  have hown : s.vm.findClass RX10 = some m.cls := findClass_of_methodNamed B.named
  have hlocks := B.notSynchronized
  have hK := hKK.1
  subst hsz
  have hD := hD0.self (sz := s.heap.size)
  generalize hAe : va_A [(aM, .inr (10, [.ref aM_text, .int M_size, .int M_many, .ref aM_slips, .ref aM_lates, .ref aM_copies, .int M_little, .int M_in, .int M_streak, .int M_lot, .int M_undos, .ref aM_before, .ref aM_images, .ref aM_kept, .long M_trace, .int M_at, .int M_begin, .int M_kind, .long M_value, .int M_readMany, .int M_readLittle, .ref aM_read, .long M_below])), (aM_slips, .inl (cI, 6, .inl M_slips)), (aM_lates, .inl (cI, 6, .inl M_lates)), (aM_copies, .inl (cI, 6, .inl M_copies))] s.heap.size = A at hD ⊢
  have hA : ∀ q : Nat, s.heap.size ≤ q → A q := fun q h => by rw [← hAe]; exact Or.inr h
  have hS : va_S A s.heap s.heap [] := va_S.rf
  have hl := lv_entry ([.ref aM, .int p1]) (n := 8) (Nat.le_of_ble_eq_true rfl)
  rw [lg_entry_eq]
  generalize (lg_sl ([.ref aM, .int p1]) ++ List.replicate (8 - (lg_sl ([.ref aM, .int p1])).length) Slot.unset).toArray = ls at hl ⊢
  have hl : lv_has ls 8 [(0, .ref aM), (1, .int p1)] := hl
  have L46 : ∀ (k18 : Int64 → Int32 → Int32 → Int64 → Int32 → Option (Int32 × Int64)) (_ : ∀ (M_below : Int64) (x1 : Int32) (x2 : Int32) (x3 : Int64) (x5 : Int32), ∀ (H : Heap) (locs : List Loc), va_P D vwCl [(aM, .inr (10, [.ref aM_text, .int M_size, .int M_many, .ref aM_slips, .ref aM_lates, .ref aM_copies, .int M_little, .int M_in, .int M_streak, .int M_lot, .int M_undos, .ref aM_before, .ref aM_images, .ref aM_kept, .long M_trace, .int M_at, .int M_begin, .int M_kind, .long M_value, .int M_readMany, .int M_readLittle, .ref aM_read, .long M_below])), (aM_slips, .inl (cI, 6, .inl M_slips)), (aM_lates, .inl (cI, 6, .inl M_lates)), (aM_copies, .inl (cI, 6, .inl M_copies))] H → va_D A [(aM, .inr (10, [.ref aM_text, .int M_size, .int M_many, .ref aM_slips, .ref aM_lates, .ref aM_copies, .int M_little, .int M_in, .int M_streak, .int M_lot, .int M_undos, .ref aM_before, .ref aM_images, .ref aM_kept, .long M_trace, .int M_at, .int M_begin, .int M_kind, .long M_value, .int M_readMany, .int M_readLittle, .ref aM_read, .long M_below])), (aM_slips, .inl (cI, 6, .inl M_slips)), (aM_lates, .inl (cI, 6, .inl M_lates)), (aM_copies, .inl (cI, 6, .inl M_copies))] → va_S A s.heap H locs → ∀ (ls : Array Slot), lv_has ls 8 [(0, .ref aM), (1, .int x1), (2, .int x2), (3, .long x3), (5, .int x5)] → k18 M_below x1 x2 x3 x5 = some y0 → W p l e (headSpec wsX10_likeliest ({ frames := 4, cells := 0, slots := 0, locals := 93 } : Room)).room s m ([.ref aM, .int p1] : List Value).toArray below meth c H locs 0 0 (MQ below (va_Qi (fun (r : Int32) (_ : Unit) => r = y0.1) (fun (_ : Unit) t => va_P D vwCl [(aM, .inr (10, [.ref aM_text, .int M_size, .int M_many, .ref aM_slips, .ref aM_lates, .ref aM_copies, .int M_little, .int M_in, .int M_streak, .int M_lot, .int M_undos, .ref aM_before, .ref aM_images, .ref aM_kept, .long M_trace, .int M_at, .int M_begin, .int M_kind, .long M_value, .int M_readMany, .int M_readLittle, .ref aM_read, .long y0.2])), (aM_slips, .inl (cI, 6, .inl M_slips)), (aM_lates, .inl (cI, 6, .inl M_lates)), (aM_copies, .inl (cI, 6, .inl M_copies))] t.heap ∧ va_D A [(aM, .inr (10, [.ref aM_text, .int M_size, .int M_many, .ref aM_slips, .ref aM_lates, .ref aM_copies, .int M_little, .int M_in, .int M_streak, .int M_lot, .int M_undos, .ref aM_before, .ref aM_images, .ref aM_kept, .long M_trace, .int M_at, .int M_begin, .int M_kind, .long M_value, .int M_readMany, .int M_readLittle, .ref aM_read, .long y0.2])), (aM_slips, .inl (cI, 6, .inl M_slips)), (aM_lates, .inl (cI, 6, .inl M_lates)), (aM_copies, .inl (cI, 6, .inl M_copies))]) A) ([.ref aM, .int p1] : List Value).toArray s 0 0 A) (F0 m 18 ls [])), ∀ (M_below : Int64) (t0 : Int32) (x1 : Int32) (x3 : Int64) (x5 : Int32) (x6 : Int64), ∀ (H : Heap) (locs : List Loc), va_P D vwCl [(aM, .inr (10, [.ref aM_text, .int M_size, .int M_many, .ref aM_slips, .ref aM_lates, .ref aM_copies, .int M_little, .int M_in, .int M_streak, .int M_lot, .int M_undos, .ref aM_before, .ref aM_images, .ref aM_kept, .long M_trace, .int M_at, .int M_begin, .int M_kind, .long M_value, .int M_readMany, .int M_readLittle, .ref aM_read, .long M_below])), (aM_slips, .inl (cI, 6, .inl M_slips)), (aM_lates, .inl (cI, 6, .inl M_lates)), (aM_copies, .inl (cI, 6, .inl M_copies))] H → va_D A [(aM, .inr (10, [.ref aM_text, .int M_size, .int M_many, .ref aM_slips, .ref aM_lates, .ref aM_copies, .int M_little, .int M_in, .int M_streak, .int M_lot, .int M_undos, .ref aM_before, .ref aM_images, .ref aM_kept, .long M_trace, .int M_at, .int M_begin, .int M_kind, .long M_value, .int M_readMany, .int M_readLittle, .ref aM_read, .long M_below])), (aM_slips, .inl (cI, 6, .inl M_slips)), (aM_lates, .inl (cI, 6, .inl M_lates)), (aM_copies, .inl (cI, 6, .inl M_copies))] → va_S A s.heap H locs → ∀ (ls : Array Slot), lv_has ls 8 [(0, .ref aM), (1, .int x1), (3, .long x3), (5, .int x5), (6, .long x6)] → f_X10_likeliest_L46 M_many M_in M_streak M_slips M_lates M_copies k18 M_below t0 x1 x3 x5 x6 = some y0 → W p l e (headSpec wsX10_likeliest ({ frames := 4, cells := 0, slots := 0, locals := 93 } : Room)).room s m ([.ref aM, .int p1] : List Value).toArray below meth c H locs 0 0 (MQ below (va_Qi (fun (r : Int32) (_ : Unit) => r = y0.1) (fun (_ : Unit) t => va_P D vwCl [(aM, .inr (10, [.ref aM_text, .int M_size, .int M_many, .ref aM_slips, .ref aM_lates, .ref aM_copies, .int M_little, .int M_in, .int M_streak, .int M_lot, .int M_undos, .ref aM_before, .ref aM_images, .ref aM_kept, .long M_trace, .int M_at, .int M_begin, .int M_kind, .long M_value, .int M_readMany, .int M_readLittle, .ref aM_read, .long y0.2])), (aM_slips, .inl (cI, 6, .inl M_slips)), (aM_lates, .inl (cI, 6, .inl M_lates)), (aM_copies, .inl (cI, 6, .inl M_copies))] t.heap ∧ va_D A [(aM, .inr (10, [.ref aM_text, .int M_size, .int M_many, .ref aM_slips, .ref aM_lates, .ref aM_copies, .int M_little, .int M_in, .int M_streak, .int M_lot, .int M_undos, .ref aM_before, .ref aM_images, .ref aM_kept, .long M_trace, .int M_at, .int M_begin, .int M_kind, .long M_value, .int M_readMany, .int M_readLittle, .ref aM_read, .long y0.2])), (aM_slips, .inl (cI, 6, .inl M_slips)), (aM_lates, .inl (cI, 6, .inl M_lates)), (aM_copies, .inl (cI, 6, .inl M_copies))]) A) ([.ref aM, .int p1] : List Value).toArray s 0 0 A) (F0 m 46 ls [.int t0]) := by
    intro k18 hk18
    intro M_below t0 x1 x3 x5 x6 H locs hP hD hS ls hl h
    unfold f_X10_likeliest_L46 at h
    refine lv_istore_n (lv' := [(2, .int t0), (0, .ref aM), (1, .int x1), (3, .long x3), (5, .int x5), (6, .long x6)]) hx hb dX10_likeliest_46 rfl hl (by decide) rfl (fun ls hl => ?_)
    refine lv_lload hx hb dX10_likeliest_47 (lv_at hl 5 rfl) ?_
    refine lv_lload_n hx hb dX10_likeliest_49 rfl (lv_at hl 3 rfl) ?_
    refine W.lcmp hx hb dX10_likeliest_50 ?_
    refine lv_if_le (tgt := 59) hx hb dX10_likeliest_51 (by decide) (fun c_6 => ?_) (fun c_6 => ?_)
    · replace h := if_p c_6 h
      refine lv_lload_n hx hb dX10_likeliest_59 rfl (lv_at hl 3 rfl) ?_
      refine lv_lstore_n (lv' := [(3, .long x3), (2, .int t0), (0, .ref aM), (1, .int x1), (5, .int x5), (6, .long x6)]) hx hb dX10_likeliest_60 rfl hl (by decide) rfl (fun ls hl => ?_)
      refine lv_iinc (v := (x5 + (1 : Int32))) (lv' := [(5, .int (x5 + (1 : Int32))), (3, .long x3), (2, .int t0), (0, .ref aM), (1, .int x1), (6, .long x6)]) hx hb dX10_likeliest_61 hl (k := 4) rfl rfl (by decide) rfl (fun ls hl => ?_)
      refine lv_goto (tgt := 18) hx hb dX10_likeliest_64 (by decide) ?_
      exact hk18 M_below x1 t0 x3 (x5 + (1 : Int32)) _ _ hP hD hS ls (lv_sub hl [3, 4, 2, 1, 0] rfl) h
    · replace h := if_n c_6 h
      refine lv_lload hx hb dX10_likeliest_54 (lv_at hl 5 rfl) ?_
      refine lv_goto (tgt := 60) hx hb dX10_likeliest_56 (by decide) ?_
      refine lv_lstore_n (lv' := [(3, .long x6), (2, .int t0), (0, .ref aM), (1, .int x1), (5, .int x5), (6, .long x6)]) hx hb dX10_likeliest_60 rfl hl (by decide) rfl (fun ls hl => ?_)
      refine lv_iinc (v := (x5 + (1 : Int32))) (lv' := [(5, .int (x5 + (1 : Int32))), (3, .long x6), (2, .int t0), (0, .ref aM), (1, .int x1), (6, .long x6)]) hx hb dX10_likeliest_61 hl (k := 4) rfl rfl (by decide) rfl (fun ls hl => ?_)
      refine lv_goto (tgt := 18) hx hb dX10_likeliest_64 (by decide) ?_
      exact hk18 M_below x1 t0 x6 (x5 + (1 : Int32)) _ _ hP hD hS ls (lv_sub hl [3, 4, 2, 1, 0] rfl) h
  have L18 : ∀ (n : Nat), ∀ (M_below : Int64) (x1 : Int32) (x2 : Int32) (x3 : Int64) (x5 : Int32), ∀ (H : Heap) (locs : List Loc), va_P D vwCl [(aM, .inr (10, [.ref aM_text, .int M_size, .int M_many, .ref aM_slips, .ref aM_lates, .ref aM_copies, .int M_little, .int M_in, .int M_streak, .int M_lot, .int M_undos, .ref aM_before, .ref aM_images, .ref aM_kept, .long M_trace, .int M_at, .int M_begin, .int M_kind, .long M_value, .int M_readMany, .int M_readLittle, .ref aM_read, .long M_below])), (aM_slips, .inl (cI, 6, .inl M_slips)), (aM_lates, .inl (cI, 6, .inl M_lates)), (aM_copies, .inl (cI, 6, .inl M_copies))] H → va_D A [(aM, .inr (10, [.ref aM_text, .int M_size, .int M_many, .ref aM_slips, .ref aM_lates, .ref aM_copies, .int M_little, .int M_in, .int M_streak, .int M_lot, .int M_undos, .ref aM_before, .ref aM_images, .ref aM_kept, .long M_trace, .int M_at, .int M_begin, .int M_kind, .long M_value, .int M_readMany, .int M_readLittle, .ref aM_read, .long M_below])), (aM_slips, .inl (cI, 6, .inl M_slips)), (aM_lates, .inl (cI, 6, .inl M_lates)), (aM_copies, .inl (cI, 6, .inl M_copies))] → va_S A s.heap H locs → ∀ (ls : Array Slot), lv_has ls 8 [(0, .ref aM), (1, .int x1), (2, .int x2), (3, .long x3), (5, .int x5)] → f_X10_likeliest_L18 M_many M_in M_streak M_slips M_lates M_copies n M_below x1 x2 x3 x5 = some y0 → W p l e (headSpec wsX10_likeliest ({ frames := 4, cells := 0, slots := 0, locals := 93 } : Room)).room s m ([.ref aM, .int p1] : List Value).toArray below meth c H locs 0 0 (MQ below (va_Qi (fun (r : Int32) (_ : Unit) => r = y0.1) (fun (_ : Unit) t => va_P D vwCl [(aM, .inr (10, [.ref aM_text, .int M_size, .int M_many, .ref aM_slips, .ref aM_lates, .ref aM_copies, .int M_little, .int M_in, .int M_streak, .int M_lot, .int M_undos, .ref aM_before, .ref aM_images, .ref aM_kept, .long M_trace, .int M_at, .int M_begin, .int M_kind, .long M_value, .int M_readMany, .int M_readLittle, .ref aM_read, .long y0.2])), (aM_slips, .inl (cI, 6, .inl M_slips)), (aM_lates, .inl (cI, 6, .inl M_lates)), (aM_copies, .inl (cI, 6, .inl M_copies))] t.heap ∧ va_D A [(aM, .inr (10, [.ref aM_text, .int M_size, .int M_many, .ref aM_slips, .ref aM_lates, .ref aM_copies, .int M_little, .int M_in, .int M_streak, .int M_lot, .int M_undos, .ref aM_before, .ref aM_images, .ref aM_kept, .long M_trace, .int M_at, .int M_begin, .int M_kind, .long M_value, .int M_readMany, .int M_readLittle, .ref aM_read, .long y0.2])), (aM_slips, .inl (cI, 6, .inl M_slips)), (aM_lates, .inl (cI, 6, .inl M_lates)), (aM_copies, .inl (cI, 6, .inl M_copies))]) A) ([.ref aM, .int p1] : List Value).toArray s 0 0 A) (F0 m 18 ls []) := by
    intro n
    induction n with
    | zero =>
      intro M_below x1 x2 x3 x5 H locs hP hD hS ls hl h
      exact (ns h).elim
    | succ n ih =>
      intro M_below x1 x2 x3 x5 H locs hP hD hS ls hl h
      unfold f_X10_likeliest_L18 at h
      refine lv_iload hx hb dX10_likeliest_18 (lv_at hl 4 rfl) ?_
      refine lv_iconst (v := (4 : Int32)) hx hb dX10_likeliest_20 (by decide) ?_
      refine lv_icmp_gt (tgt := 67) hx hb dX10_likeliest_21 (by decide) (fun c_3 => ?_) (fun c_3 => ?_)
      · replace h := if_p c_3 h
        refine lv_iload_n hx hb dX10_likeliest_67 rfl (lv_at hl 2 rfl) ?_
        have hy := Option.some.inj h
        subst hy
        exact W.iret (v := x2) hx hb hr (fun t ht hW => ⟨⟨x2, (), rfl, rfl, by rw [ht]; exact hP, hD⟩, hS.F ht⟩) hS.2.2 dX10_likeliest_68
      · replace h := if_n c_3 h
        refine lv_aload_n hx hb dX10_likeliest_24 rfl (lv_at hl 0 rfl) ?_
        refine lv_iload hx hb dX10_likeliest_25 (lv_at hl 4 rfl) ?_
        refine lv_iload_n hx hb dX10_likeliest_27 rfl (lv_at hl 1 rfl) ?_
        obtain ⟨y4, qy4, h⟩ := ob_some h
        have hPc : va_P D vwCl [(aM, .inr (10, [.ref aM_text, .int M_size, .int M_many, .ref aM_slips, .ref aM_lates, .ref aM_copies, .int M_little, .int M_in, .int M_streak, .int M_lot, .int M_undos, .ref aM_before, .ref aM_images, .ref aM_kept, .long M_trace, .int M_at, .int M_begin, .int M_kind, .long M_value, .int M_readMany, .int M_readLittle, .ref aM_read, .long M_below])), (aM_slips, .inl (cI, 6, .inl M_slips)), (aM_lates, .inl (cI, 6, .inl M_lates)), (aM_copies, .inl (cI, 6, .inl M_copies))] H := hP.sub [0, 1, 2, 3] rfl
        have hDc : va_D A [(aM, .inr (10, [.ref aM_text, .int M_size, .int M_many, .ref aM_slips, .ref aM_lates, .ref aM_copies, .int M_little, .int M_in, .int M_streak, .int M_lot, .int M_undos, .ref aM_before, .ref aM_images, .ref aM_kept, .long M_trace, .int M_at, .int M_begin, .int M_kind, .long M_value, .int M_readMany, .int M_readLittle, .ref aM_read, .long M_below])), (aM_slips, .inl (cI, 6, .inl M_slips)), (aM_lates, .inl (cI, 6, .inl M_lates)), (aM_copies, .inl (cI, 6, .inl M_copies))] := hD.sub [0, 1, 2, 3] (by decide) rfl
        have hFc := va_free (wc := [(aM, .inr (10, [.ref aM_text, .int M_size, .int M_many, .ref aM_slips, .ref aM_lates, .ref aM_copies, .int M_little, .int M_in, .int M_streak, .int M_lot, .int M_undos, .ref aM_before, .ref aM_images, .ref aM_kept, .long M_trace, .int M_at, .int M_begin, .int M_kind, .long M_value, .int M_readMany, .int M_readLittle, .ref aM_read, .long M_below])), (aM_slips, .inl (cI, 6, .inl M_slips)), (aM_lates, .inl (cI, 6, .inl M_lates)), (aM_copies, .inl (cI, 6, .inl M_copies))]) hD hS hA [0, 1, 2, 3] rfl
        refine va_calll (va_runV (As := [.int x5, .int x1]) (rest := []) ⟨hx, hb, hml, hown, hts⟩ (c_X10_waysOf l D cI cJ cZ cO aM aM_slips aM_lates aM_copies aM_text aM_before aM_images aM_kept aM_read M_size M_many M_little M_in M_streak M_lot M_undos M_trace M_at M_begin M_kind M_value M_readMany M_readLittle M_below M_slips M_lates M_copies H.size x5 x1 y4 qy4) (cwV 2 hts gX10_likeliest_X10_waysOf rfl rfl rfl (by decide +kernel) ⟨Nat.le_of_ble_eq_true rfl, Nat.le_of_ble_eq_true rfl⟩) ⟨fb_i, va_recv hK hP (ci := 10) (q0 := 0) rfl rfl, fun U hU hW => ⟨rfl, by rw [hU], by rw [hU]; exact hPc, KK.warm hW hKK, hDc.weaken (fun _ _ _ _ => trivial)⟩⟩ rfl rfl hl.1 rfl (lv_room (Nat.le_of_ble_eq_true rfl)) dX10_likeliest_28 ⟨Nat.le_of_ble_eq_true rfl, Nat.le_of_ble_eq_true rfl⟩) hS (fun q _ h => hFc q h) hFc (fun r u t H1 locs ht hvm hw hB hz1 hk1 hS => ?_)
        obtain ⟨hP1, hD1⟩ := hB
        rw [ht] at hP1
        replace hw := hw.symm
        subst hw
        obtain ⟨hP, hD⟩ := va_join (wr := []) (w1 := [(aM, .inr (10, [.ref aM_text, .int M_size, .int M_many, .ref aM_slips, .ref aM_lates, .ref aM_copies, .int M_little, .int M_in, .int M_streak, .int M_lot, .int M_undos, .ref aM_before, .ref aM_images, .ref aM_kept, .long M_trace, .int M_at, .int M_begin, .int M_kind, .long M_value, .int M_readMany, .int M_readLittle, .ref aM_read, .long y4.2])), (aM_slips, .inl (cI, 6, .inl M_slips)), (aM_lates, .inl (cI, 6, .inl M_lates)), (aM_copies, .inl (cI, 6, .inl M_copies))]) hP hD [0, 1, 2, 3] [] rfl rfl (by decide) (by decide) hk1 hFc hP1 hD1
        generalize H1 = H at hP hS ⊢
        have hP : va_P D vwCl [(aM, .inr (10, [.ref aM_text, .int M_size, .int M_many, .ref aM_slips, .ref aM_lates, .ref aM_copies, .int M_little, .int M_in, .int M_streak, .int M_lot, .int M_undos, .ref aM_before, .ref aM_images, .ref aM_kept, .long M_trace, .int M_at, .int M_begin, .int M_kind, .long M_value, .int M_readMany, .int M_readLittle, .ref aM_read, .long y4.2])), (aM_slips, .inl (cI, 6, .inl M_slips)), (aM_lates, .inl (cI, 6, .inl M_lates)), (aM_copies, .inl (cI, 6, .inl M_copies))] H := hP.sub [0, 1, 2, 3] rfl
        have hD : va_D A [(aM, .inr (10, [.ref aM_text, .int M_size, .int M_many, .ref aM_slips, .ref aM_lates, .ref aM_copies, .int M_little, .int M_in, .int M_streak, .int M_lot, .int M_undos, .ref aM_before, .ref aM_images, .ref aM_kept, .long M_trace, .int M_at, .int M_begin, .int M_kind, .long M_value, .int M_readMany, .int M_readLittle, .ref aM_read, .long y4.2])), (aM_slips, .inl (cI, 6, .inl M_slips)), (aM_lates, .inl (cI, 6, .inl M_lates)), (aM_copies, .inl (cI, 6, .inl M_copies))] := hD.sub [0, 1, 2, 3] (by decide) rfl
        refine lv_lstore (lv' := [(6, .long y4.1), (0, .ref aM), (1, .int x1), (2, .int x2), (3, .long x3), (5, .int x5)]) hx hb dX10_likeliest_31 hl (by decide) rfl (fun ls hl => ?_)
        refine lv_lload hx hb dX10_likeliest_33 (lv_at hl 0 rfl) ?_
        refine lv_lload_n hx hb dX10_likeliest_35 rfl (lv_at hl 4 rfl) ?_
        refine W.lcmp hx hb dX10_likeliest_36 ?_
        refine lv_if_le (tgt := 45) hx hb dX10_likeliest_37 (by decide) (fun c_5 => ?_) (fun c_5 => ?_)
        · replace h := if_p c_5 h
          refine lv_iload_n hx hb dX10_likeliest_45 rfl (lv_at hl 3 rfl) ?_
          exact L46 (f_X10_likeliest_L18 M_many M_in M_streak M_slips M_lates M_copies n) ih y4.2 x2 x1 x3 x5 y4.1 _ _ hP hD hS ls (lv_sub hl [1, 2, 4, 5, 0] rfl) h
        · replace h := if_n c_5 h
          refine lv_iload hx hb dX10_likeliest_40 (lv_at hl 5 rfl) ?_
          refine lv_goto (tgt := 46) hx hb dX10_likeliest_42 (by decide) ?_
          exact L46 (f_X10_likeliest_L18 M_many M_in M_streak M_slips M_lates M_copies n) ih y4.2 x5 x1 x3 x5 y4.1 _ _ hP hD hS ls (lv_sub hl [1, 2, 4, 5, 0] rfl) h
  unfold f_X10_likeliest at h
  refine lv_aload_n hx hb dX10_likeliest_0 rfl (lv_at hl 0 rfl) ?_
  refine lv_iload_n hx hb dX10_likeliest_1 rfl (lv_at hl 1 rfl) ?_
  have hPc : va_P D vwCl [(aM, .inr (10, [.ref aM_text, .int M_size, .int M_many, .ref aM_slips, .ref aM_lates, .ref aM_copies, .int M_little, .int M_in, .int M_streak, .int M_lot, .int M_undos, .ref aM_before, .ref aM_images, .ref aM_kept, .long M_trace, .int M_at, .int M_begin, .int M_kind, .long M_value, .int M_readMany, .int M_readLittle, .ref aM_read, .long M_below]))] s.heap := hP.sub [0] rfl
  refine vp_callSi (va_Run.run (va_runV (As := [.int p1]) (rest := []) ⟨hx, hb, hml, hown, hts⟩ (c_X10_isSet l D cI cJ cZ cO aM aM_text aM_slips aM_lates aM_copies aM_before aM_images aM_kept aM_read M_size M_many M_little M_in M_streak M_lot M_undos M_trace M_at M_begin M_kind M_value M_readMany M_readLittle M_below p1 _ rfl) (cwV 1 hts gX10_likeliest_X10_isSet rfl rfl rfl (by decide +kernel) ⟨Nat.le_of_ble_eq_true rfl, Nat.le_of_ble_eq_true rfl⟩) ⟨fb_p, va_recv hK hP (ci := 10) (q0 := 0) rfl rfl, fun U hU hW => ⟨rfl, by rw [hU]; exact hPc, KK.warm hW hKK⟩⟩ rfl rfl hl.1 rfl (lv_room (Nat.le_of_ble_eq_true rfl)) dX10_likeliest_2 ⟨Nat.le_of_ble_eq_true rfl, Nat.le_of_ble_eq_true rfl⟩)) (fun r hr => ?_)
  obtain ⟨hr, hz1⟩ := hr
  replace hr := hr.symm
  subst hr
  refine lv_if_ne (tgt := 10) hx hb dX10_likeliest_5 (by decide) (fun c_2 => ?_) (fun c_2 => ?_)
  · replace h := if_n c_2 h
    refine lv_bipush (v := (-9 : Int32)) hx hb dX10_likeliest_10 (by decide) ?_
    refine lv_istore_n (lv' := [(2, .int (-9 : Int32)), (0, .ref aM), (1, .int p1)]) hx hb dX10_likeliest_12 rfl hl (by decide) rfl (fun ls hl => ?_)
    refine lv_lconst (v := (0 : Int64)) hx hb dX10_likeliest_13 (by decide) ?_
    refine lv_lstore_n (lv' := [(3, .long (0 : Int64)), (2, .int (-9 : Int32)), (0, .ref aM), (1, .int p1)]) hx hb dX10_likeliest_14 rfl hl (by decide) rfl (fun ls hl => ?_)
    refine lv_iconst (v := (1 : Int32)) hx hb dX10_likeliest_15 (by decide) ?_
    refine lv_istore (lv' := [(5, .int (1 : Int32)), (3, .long (0 : Int64)), (2, .int (-9 : Int32)), (0, .ref aM), (1, .int p1)]) hx hb dX10_likeliest_16 hl (by decide) rfl (fun ls hl => ?_)
    exact L18 300 M_below p1 (-9 : Int32) (0 : Int64) (1 : Int32) _ _ hP hD hS ls (lv_sub hl [3, 4, 2, 1, 0] rfl) h
  · replace h := if_p c_2 h
    refine lv_iconst (v := (-1 : Int32)) hx hb dX10_likeliest_8 (by decide) ?_
    have hy := Option.some.inj h
    subst hy
    exact W.iret (v := (-1 : Int32)) hx hb hr (fun t ht hW => ⟨⟨(-1 : Int32), (), rfl, rfl, by rw [ht]; exact hP, hD⟩, hS.F ht⟩) hS.2.2 dX10_likeliest_9

def f_X10_rate_L92 (M_many : Int32) (M_in : Int32) (M_streak : Int32) (M_slips : Nat → Int32) (M_lates : Nat → Int32) (M_copies : Nat → Int32) : Nat → Int64 → Int32 → Int32 → Int32 → Int32 → Option (Int32 × Int64)
  | 0, _, _, _, _, _ => none
  | n + 1, M_trace, x1, x2, x3, x4 => (if M_many ≤ x4 then (if gIn x2 6 = true then (if gIn x2 6 = true then (if gIn x2 6 = true then (if x1 = 0 then (if gIn x2 6 = true then some ((M_slips x2.toNatClampNeg), M_trace) else none) else (if x1 = (1 : Int32) then some (((M_slips x2.toNatClampNeg) + M_streak), M_trace) else (if x1 = (2 : Int32) then some (((M_slips x2.toNatClampNeg) - (M_lates x2.toNatClampNeg)), M_trace) else (if x1 = (3 : Int32) then some (((2 : Int32) * ((M_slips x2.toNatClampNeg) + M_streak)), M_trace) else (if x1 = (4 : Int32) then some ((((M_slips x2.toNatClampNeg) - (M_lates x2.toNatClampNeg)) + x3), M_trace) else (if gIn x2 6 = true then (Option.bind (f_X10_bits M_in) (fun y20 => some (((M_slips x2.toNatClampNeg) + y20), M_trace))) else none)))))) else none) else none) else none) else (if gIn x4 6 = true then (if (M_copies x4.toNatClampNeg) = x2 then f_X10_rate_L92 M_many M_in M_streak M_slips M_lates M_copies n M_trace x1 x2 (x3 + (1 : Int32)) (x4 + (1 : Int32)) else f_X10_rate_L92 M_many M_in M_streak M_slips M_lates M_copies n M_trace x1 x2 (x3 + (0 : Int32)) (x4 + (1 : Int32))) else none))
def f_X10_rate (M_many : Int32) (M_in : Int32) (M_streak : Int32) (M_trace : Int64) (M_slips : Nat → Int32) (M_lates : Nat → Int32) (M_copies : Nat → Int32) (p1 : Int32) (p2 : Int32) : Option (Int32 × Int64) := (if (f_X10_within p1.toInt64 (0 : Int64) (5 : Int64)) = 0 then some ((-1000000 : Int32), M_trace) else (if (f_X10_isChild M_many p2) = 0 then some ((-1000000 : Int32), M_trace) else (if p1 = 0 then f_X10_rate_L92 M_many M_in M_streak M_slips M_lates M_copies 300 (M_trace + (1 : Int64)) p1 p2 (0 : Int32) (0 : Int32) else (if p1 = (1 : Int32) then f_X10_rate_L92 M_many M_in M_streak M_slips M_lates M_copies 300 (M_trace + (11 : Int64)) p1 p2 (0 : Int32) (0 : Int32) else (if p1 = (2 : Int32) then f_X10_rate_L92 M_many M_in M_streak M_slips M_lates M_copies 300 (M_trace + (101 : Int64)) p1 p2 (0 : Int32) (0 : Int32) else (if p1 = (3 : Int32) then f_X10_rate_L92 M_many M_in M_streak M_slips M_lates M_copies 300 (M_trace + (1011 : Int64)) p1 p2 (0 : Int32) (0 : Int32) else (if p1 = (4 : Int32) then f_X10_rate_L92 M_many M_in M_streak M_slips M_lates M_copies 300 (M_trace + (10101 : Int64)) p1 p2 (0 : Int32) (0 : Int32) else f_X10_rate_L92 M_many M_in M_streak M_slips M_lates M_copies 300 (M_trace + (100001 : Int64)) p1 p2 (0 : Int32) (0 : Int32))))))))
set_option maxHeartbeats 8000000 in
set_option maxRecDepth 100000 in
theorem c_X10_rate (l : Launch) (D : va_G) (cI cJ cZ cO : ClassId) (aM : Nat) (aM_slips : Nat) (aM_lates : Nat) (aM_copies : Nat) (aM_text : Nat) (aM_before : Nat) (aM_images : Nat) (aM_kept : Nat) (aM_read : Nat) (M_size : Int32) (M_many : Int32) (M_little : Int32) (M_in : Int32) (M_streak : Int32) (M_lot : Int32) (M_undos : Int32) (M_trace : Int64) (M_at : Int32) (M_begin : Int32) (M_kind : Int32) (M_value : Int64) (M_readMany : Int32) (M_readLittle : Int32) (M_below : Int64) (M_slips : Nat → Int32) (M_lates : Nat → Int32) (M_copies : Nat → Int32) (sz : Nat) (p1 : Int32) (p2 : Int32)  (y0 : Int32 × Int64) (h : f_X10_rate M_many M_in M_streak M_trace M_slips M_lates M_copies p1 p2 = some y0) : Met l yX10_rate wsX10_rate ({ frames := 2, cells := 0, slots := 0, locals := 46 } : Room) (va_Pc [.ref aM, .int p1, .int p2] (fun U => U.heap.size = sz ∧ va_P D vwCl [(aM, .inr (10, [.ref aM_text, .int M_size, .int M_many, .ref aM_slips, .ref aM_lates, .ref aM_copies, .int M_little, .int M_in, .int M_streak, .int M_lot, .int M_undos, .ref aM_before, .ref aM_images, .ref aM_kept, .long M_trace, .int M_at, .int M_begin, .int M_kind, .long M_value, .int M_readMany, .int M_readLittle, .ref aM_read, .long M_below])), (aM_slips, .inl (cI, 6, .inl M_slips)), (aM_lates, .inl (cI, 6, .inl M_lates)), (aM_copies, .inl (cI, 6, .inl M_copies))] U.heap ∧ KK D cI cJ cZ cO U ∧ va_D (fun _ => True) [(aM, .inr (10, [.ref aM_text, .int M_size, .int M_many, .ref aM_slips, .ref aM_lates, .ref aM_copies, .int M_little, .int M_in, .int M_streak, .int M_lot, .int M_undos, .ref aM_before, .ref aM_images, .ref aM_kept, .long M_trace, .int M_at, .int M_begin, .int M_kind, .long M_value, .int M_readMany, .int M_readLittle, .ref aM_read, .long M_below])), (aM_slips, .inl (cI, 6, .inl M_slips)), (aM_lates, .inl (cI, 6, .inl M_lates)), (aM_copies, .inl (cI, 6, .inl M_copies))])) (va_Qi (fun (r : Int32) (_ : Unit) => r = y0.1) (fun (_ : Unit) t => va_P D vwCl [(aM, .inr (10, [.ref aM_text, .int M_size, .int M_many, .ref aM_slips, .ref aM_lates, .ref aM_copies, .int M_little, .int M_in, .int M_streak, .int M_lot, .int M_undos, .ref aM_before, .ref aM_images, .ref aM_kept, .long y0.2, .int M_at, .int M_begin, .int M_kind, .long M_value, .int M_readMany, .int M_readLittle, .ref aM_read, .long M_below])), (aM_slips, .inl (cI, 6, .inl M_slips)), (aM_lates, .inl (cI, 6, .inl M_lates)), (aM_copies, .inl (cI, 6, .inl M_copies))] t.heap ∧ va_D (va_A [(aM, .inr (10, [.ref aM_text, .int M_size, .int M_many, .ref aM_slips, .ref aM_lates, .ref aM_copies, .int M_little, .int M_in, .int M_streak, .int M_lot, .int M_undos, .ref aM_before, .ref aM_images, .ref aM_kept, .long M_trace, .int M_at, .int M_begin, .int M_kind, .long M_value, .int M_readMany, .int M_readLittle, .ref aM_read, .long M_below])), (aM_slips, .inl (cI, 6, .inl M_slips)), (aM_lates, .inl (cI, 6, .inl M_lates)), (aM_copies, .inl (cI, 6, .inl M_copies))] sz) [(aM, .inr (10, [.ref aM_text, .int M_size, .int M_many, .ref aM_slips, .ref aM_lates, .ref aM_copies, .int M_little, .int M_in, .int M_streak, .int M_lot, .int M_undos, .ref aM_before, .ref aM_images, .ref aM_kept, .long y0.2, .int M_at, .int M_begin, .int M_kind, .long M_value, .int M_readMany, .int M_readLittle, .ref aM_read, .long M_below])), (aM_slips, .inl (cI, 6, .inl M_slips)), (aM_lates, .inl (cI, 6, .inl M_lates)), (aM_copies, .inl (cI, 6, .inl M_copies))]) (va_A [(aM, .inr (10, [.ref aM_text, .int M_size, .int M_many, .ref aM_slips, .ref aM_lates, .ref aM_copies, .int M_little, .int M_in, .int M_streak, .int M_lot, .int M_undos, .ref aM_before, .ref aM_images, .ref aM_kept, .long M_trace, .int M_at, .int M_begin, .int M_kind, .long M_value, .int M_readMany, .int M_readLittle, .ref aM_read, .long M_below])), (aM_slips, .inl (cI, 6, .inl M_slips)), (aM_lates, .inl (cI, 6, .inl M_lates)), (aM_copies, .inl (cI, 6, .inl M_copies))] sz)) 0 0 (va_A [(aM, .inr (10, [.ref aM_text, .int M_size, .int M_many, .ref aM_slips, .ref aM_lates, .ref aM_copies, .int M_little, .int M_in, .int M_streak, .int M_lot, .int M_undos, .ref aM_before, .ref aM_images, .ref aM_kept, .long M_trace, .int M_at, .int M_begin, .int M_kind, .long M_value, .int M_readMany, .int M_readLittle, .ref aM_read, .long M_below])), (aM_slips, .inl (cI, 6, .inl M_slips)), (aM_lates, .inl (cI, 6, .inl M_lates)), (aM_copies, .inl (cI, 6, .inl M_copies))] sz) := by
  refine Met.ofW (cc := cX10_rate) (maxL := 6) (ret := (some .int)) (by decide) rfl ?_
  intro p e s m args below meth c s₁ B hml hv
  obtain ⟨rfl, hsz, hP, hKK, hD0⟩ := hv
  have hx := B.exec
  have hb := B.bytes
  have hr := B.returns
  have hts := atoms_spec (ws := wsX10_rate) B.pre
  have hown : s.vm.findClass RX10 = some m.cls := findClass_of_methodNamed B.named
  have hlocks := B.notSynchronized
  have hK := hKK.1
  have fl_13 := hts (.fieldLink RX10 13 "SimonSaysModel" "slips" "[I") (by decide +kernel)
  have fl_16 := hts (.fieldLink RX10 16 "SimonSaysModel" "lates" "[I") (by decide +kernel)
  have fl_19 := hts (.fieldLink RX10 19 "SimonSaysModel" "copies" "[I") (by decide +kernel)
  have fl_39 := hts (.fieldLink RX10 39 "SimonSaysModel" "many" "I") (by decide +kernel)
  have fl_119 := hts (.fieldLink RX10 119 "SimonSaysModel" "in" "I") (by decide +kernel)
  have fl_122 := hts (.fieldLink RX10 122 "SimonSaysModel" "streak" "I") (by decide +kernel)
  have fl_204 := hts (.fieldLink RX10 204 "SimonSaysModel" "trace" "J") (by decide +kernel)
  have cst_138 := hts (.constantLong RX10 138 (5)) (by decide +kernel)
  have cst_203 := hts (.constant RX10 203 (-1000000)) (by decide +kernel)
  have cst_207 := hts (.constantLong RX10 207 (11)) (by decide +kernel)
  have cst_209 := hts (.constantLong RX10 209 (101)) (by decide +kernel)
  have cst_211 := hts (.constantLong RX10 211 (1011)) (by decide +kernel)
  have cst_213 := hts (.constantLong RX10 213 (10101)) (by decide +kernel)
  have cst_215 := hts (.constantLong RX10 215 (100001)) (by decide +kernel)
  have inX10 : ∀ w ∈ wsX100, w ∈ wsX10_rate := by decide +kernel
  subst hsz
  have hD := hD0.self (sz := s.heap.size)
  generalize hAe : va_A [(aM, .inr (10, [.ref aM_text, .int M_size, .int M_many, .ref aM_slips, .ref aM_lates, .ref aM_copies, .int M_little, .int M_in, .int M_streak, .int M_lot, .int M_undos, .ref aM_before, .ref aM_images, .ref aM_kept, .long M_trace, .int M_at, .int M_begin, .int M_kind, .long M_value, .int M_readMany, .int M_readLittle, .ref aM_read, .long M_below])), (aM_slips, .inl (cI, 6, .inl M_slips)), (aM_lates, .inl (cI, 6, .inl M_lates)), (aM_copies, .inl (cI, 6, .inl M_copies))] s.heap.size = A at hD ⊢
  have hA : ∀ q : Nat, s.heap.size ≤ q → A q := fun q h => by rw [← hAe]; exact Or.inr h
  have hS : va_S A s.heap s.heap [] := va_S.rf
  have hl := lv_entry ([.ref aM, .int p1, .int p2]) (n := 6) (Nat.le_of_ble_eq_true rfl)
  rw [lg_entry_eq]
  generalize (lg_sl ([.ref aM, .int p1, .int p2]) ++ List.replicate (6 - (lg_sl ([.ref aM, .int p1, .int p2])).length) Slot.unset).toArray = ls at hl ⊢
  have hl : lv_has ls 6 [(0, .ref aM), (1, .int p1), (2, .int p2)] := hl
  have L92 : ∀ (n : Nat), ∀ (M_trace : Int64) (x1 : Int32) (x2 : Int32) (x3 : Int32) (x4 : Int32), ∀ (H : Heap) (locs : List Loc), va_P D vwCl [(aM, .inr (10, [.ref aM_text, .int M_size, .int M_many, .ref aM_slips, .ref aM_lates, .ref aM_copies, .int M_little, .int M_in, .int M_streak, .int M_lot, .int M_undos, .ref aM_before, .ref aM_images, .ref aM_kept, .long M_trace, .int M_at, .int M_begin, .int M_kind, .long M_value, .int M_readMany, .int M_readLittle, .ref aM_read, .long M_below])), (aM_slips, .inl (cI, 6, .inl M_slips)), (aM_lates, .inl (cI, 6, .inl M_lates)), (aM_copies, .inl (cI, 6, .inl M_copies))] H → va_D A [(aM, .inr (10, [.ref aM_text, .int M_size, .int M_many, .ref aM_slips, .ref aM_lates, .ref aM_copies, .int M_little, .int M_in, .int M_streak, .int M_lot, .int M_undos, .ref aM_before, .ref aM_images, .ref aM_kept, .long M_trace, .int M_at, .int M_begin, .int M_kind, .long M_value, .int M_readMany, .int M_readLittle, .ref aM_read, .long M_below])), (aM_slips, .inl (cI, 6, .inl M_slips)), (aM_lates, .inl (cI, 6, .inl M_lates)), (aM_copies, .inl (cI, 6, .inl M_copies))] → va_S A s.heap H locs → ∀ (ls : Array Slot), lv_has ls 6 [(0, .ref aM), (1, .int x1), (2, .int x2), (3, .int x3), (4, .int x4)] → f_X10_rate_L92 M_many M_in M_streak M_slips M_lates M_copies n M_trace x1 x2 x3 x4 = some y0 → W p l e (headSpec wsX10_rate ({ frames := 2, cells := 0, slots := 0, locals := 46 } : Room)).room s m ([.ref aM, .int p1, .int p2] : List Value).toArray below meth c H locs 0 0 (MQ below (va_Qi (fun (r : Int32) (_ : Unit) => r = y0.1) (fun (_ : Unit) t => va_P D vwCl [(aM, .inr (10, [.ref aM_text, .int M_size, .int M_many, .ref aM_slips, .ref aM_lates, .ref aM_copies, .int M_little, .int M_in, .int M_streak, .int M_lot, .int M_undos, .ref aM_before, .ref aM_images, .ref aM_kept, .long y0.2, .int M_at, .int M_begin, .int M_kind, .long M_value, .int M_readMany, .int M_readLittle, .ref aM_read, .long M_below])), (aM_slips, .inl (cI, 6, .inl M_slips)), (aM_lates, .inl (cI, 6, .inl M_lates)), (aM_copies, .inl (cI, 6, .inl M_copies))] t.heap ∧ va_D A [(aM, .inr (10, [.ref aM_text, .int M_size, .int M_many, .ref aM_slips, .ref aM_lates, .ref aM_copies, .int M_little, .int M_in, .int M_streak, .int M_lot, .int M_undos, .ref aM_before, .ref aM_images, .ref aM_kept, .long y0.2, .int M_at, .int M_begin, .int M_kind, .long M_value, .int M_readMany, .int M_readLittle, .ref aM_read, .long M_below])), (aM_slips, .inl (cI, 6, .inl M_slips)), (aM_lates, .inl (cI, 6, .inl M_lates)), (aM_copies, .inl (cI, 6, .inl M_copies))]) A) ([.ref aM, .int p1, .int p2] : List Value).toArray s 0 0 A) (F0 m 92 ls []) := by
    intro n
    induction n with
    | zero =>
      intro M_trace x1 x2 x3 x4 H locs hP hD hS ls hl h
      exact (ns h).elim
    | succ n ih =>
      intro M_trace x1 x2 x3 x4 H locs hP hD hS ls hl h
      unfold f_X10_rate_L92 at h
      refine lv_iload hx hb dX10_rate_92 (lv_at hl 4 rfl) ?_
      refine lv_aload_n hx hb dX10_rate_94 rfl (lv_at hl 0 rfl) ?_
      refine va_get (D := D) (ci := 10) (v := .int M_many) (C := RX10) (T := TX10) (N := 23) hx hb hts inX10 hown hK hP 0 rfl rfl 2 (by decide) fl_39 (fun _ h9 => h9) rfl dX10_rate_95 ?_
      refine lv_icmp_ge (tgt := 126) hx hb dX10_rate_98 (by decide) (fun c_10 => ?_) (fun c_10 => ?_)
      · replace h := if_p c_10 h
        refine lv_aload_n hx hb dX10_rate_126 rfl (lv_at hl 0 rfl) ?_
        refine va_get (D := D) (ci := 10) (v := .ref aM_slips) (C := RX10) (T := TX10) (N := 23) hx hb hts inX10 hown hK hP 0 rfl rfl 3 (by decide) fl_13 (fun _ h9 => h9) rfl dX10_rate_127 ?_
        refine lv_iload_n hx hb dX10_rate_130 rfl (lv_at hl 2 rfl) ?_
        obtain ⟨hi11, h⟩ := gd_in h
        refine va_iald hx hb hK hP 1 0 rfl rfl hi11 dX10_rate_131 ?_
        refine lv_aload_n hx hb dX10_rate_132 rfl (lv_at hl 0 rfl) ?_
        refine va_get (D := D) (ci := 10) (v := .int M_streak) (C := RX10) (T := TX10) (N := 23) hx hb hts inX10 hown hK hP 0 rfl rfl 8 (by decide) fl_122 (fun _ h9 => h9) rfl dX10_rate_133 ?_
        refine lv_iadd hx hb dX10_rate_136 ?_
        refine lv_istore (lv' := [(4, .int ((M_slips x2.toNatClampNeg) + M_streak)), (0, .ref aM), (1, .int x1), (2, .int x2), (3, .int x3)]) hx hb dX10_rate_137 hl (by decide) rfl (fun ls hl => ?_)
        refine lv_aload_n hx hb dX10_rate_139 rfl (lv_at hl 1 rfl) ?_
        refine va_get (D := D) (ci := 10) (v := .ref aM_slips) (C := RX10) (T := TX10) (N := 23) hx hb hts inX10 hown hK hP 0 rfl rfl 3 (by decide) fl_13 (fun _ h9 => h9) rfl dX10_rate_140 ?_
        refine lv_iload_n hx hb dX10_rate_143 rfl (lv_at hl 3 rfl) ?_
        obtain ⟨hi12, h⟩ := gd_in h
        refine va_iald hx hb hK hP 1 0 rfl rfl hi12 dX10_rate_144 ?_
        refine lv_aload_n hx hb dX10_rate_145 rfl (lv_at hl 1 rfl) ?_
        refine va_get (D := D) (ci := 10) (v := .ref aM_lates) (C := RX10) (T := TX10) (N := 23) hx hb hts inX10 hown hK hP 0 rfl rfl 4 (by decide) fl_16 (fun _ h9 => h9) rfl dX10_rate_146 ?_
        refine lv_iload_n hx hb dX10_rate_149 rfl (lv_at hl 3 rfl) ?_
        obtain ⟨hi13, h⟩ := gd_in h
        refine va_iald hx hb hK hP 2 0 rfl rfl hi13 dX10_rate_150 ?_
        refine lv_isub hx hb dX10_rate_151 ?_
        refine lv_istore (lv' := [(5, .int ((M_slips x2.toNatClampNeg) - (M_lates x2.toNatClampNeg))), (4, .int ((M_slips x2.toNatClampNeg) + M_streak)), (0, .ref aM), (1, .int x1), (2, .int x2), (3, .int x3)]) hx hb dX10_rate_152 hl (by decide) rfl (fun ls hl => ?_)
        refine lv_iload_n hx hb dX10_rate_154 rfl (lv_at hl 3 rfl) ?_
        refine lv_if_ne (tgt := 167) hx hb dX10_rate_155 (by decide) (fun c_14 => ?_) (fun c_14 => ?_)
        · replace h := if_n c_14 h
          refine lv_iload_n hx hb dX10_rate_167 rfl (lv_at hl 3 rfl) ?_
          refine lv_iconst (v := (1 : Int32)) hx hb dX10_rate_168 (by decide) ?_
          refine lv_icmp_ne (tgt := 177) hx hb dX10_rate_169 (by decide) (fun c_15 => ?_) (fun c_15 => ?_)
          · replace h := if_n c_15 h
            refine lv_iload_n hx hb dX10_rate_177 rfl (lv_at hl 3 rfl) ?_
            refine lv_iconst (v := (2 : Int32)) hx hb dX10_rate_178 (by decide) ?_
            refine lv_icmp_ne (tgt := 187) hx hb dX10_rate_179 (by decide) (fun c_16 => ?_) (fun c_16 => ?_)
            · replace h := if_n c_16 h
              refine lv_iload_n hx hb dX10_rate_187 rfl (lv_at hl 3 rfl) ?_
              refine lv_iconst (v := (3 : Int32)) hx hb dX10_rate_188 (by decide) ?_
              refine lv_icmp_ne (tgt := 199) hx hb dX10_rate_189 (by decide) (fun c_17 => ?_) (fun c_17 => ?_)
              · replace h := if_n c_17 h
                refine lv_iload_n hx hb dX10_rate_199 rfl (lv_at hl 3 rfl) ?_
                refine lv_iconst (v := (4 : Int32)) hx hb dX10_rate_200 (by decide) ?_
                refine lv_icmp_ne (tgt := 211) hx hb dX10_rate_201 (by decide) (fun c_18 => ?_) (fun c_18 => ?_)
                · replace h := if_n c_18 h
                  refine lv_aload_n hx hb dX10_rate_211 rfl (lv_at hl 2 rfl) ?_
                  refine va_get (D := D) (ci := 10) (v := .ref aM_slips) (C := RX10) (T := TX10) (N := 23) hx hb hts inX10 hown hK hP 0 rfl rfl 3 (by decide) fl_13 (fun _ h9 => h9) rfl dX10_rate_212 ?_
                  refine lv_iload_n hx hb dX10_rate_215 rfl (lv_at hl 4 rfl) ?_
                  obtain ⟨hi19, h⟩ := gd_in h
                  refine va_iald hx hb hK hP 1 0 rfl rfl hi19 dX10_rate_216 ?_
                  refine lv_aload_n hx hb dX10_rate_217 rfl (lv_at hl 2 rfl) ?_
                  refine va_get (D := D) (ci := 10) (v := .int M_in) (C := RX10) (T := TX10) (N := 23) hx hb hts inX10 hown hK hP 0 rfl rfl 7 (by decide) fl_119 (fun _ h9 => h9) rfl dX10_rate_218 ?_
                  obtain ⟨y20, qy20, h⟩ := ob_some h
                  have hPc : va_P D vwCl [] H := hP.sub [] rfl
                  refine vp_callSi (va_Run.run (va_runS (As := [.int M_in]) (rest := [.int (M_slips x2.toNatClampNeg)]) ⟨hx, hb, hml, hown, hts⟩ (c_X10_bits l D cI cJ cZ cO M_in y20 qy20) (cwS 1 hts gX10_rate_X10_bits rfl rfl rfl (by decide +kernel) ⟨Nat.le_of_ble_eq_true rfl, Nat.le_of_ble_eq_true rfl⟩) ⟨fb_p, fun U hU hW => ⟨rfl, by rw [hU]; exact hPc, KK.warm hW hKK⟩⟩ rfl rfl hl.1 rfl (lv_room (Nat.le_of_ble_eq_true rfl)) dX10_rate_221 ⟨Nat.le_of_ble_eq_true rfl, Nat.le_of_ble_eq_true rfl⟩)) (fun r hr => ?_)
                  replace hr := hr.symm
                  subst hr
                  refine lv_iadd hx hb dX10_rate_224 ?_
                  have hy := Option.some.inj h
                  subst hy
                  exact W.iret (v := ((M_slips x2.toNatClampNeg) + y20)) hx hb hr (fun t ht hW => ⟨⟨((M_slips x2.toNatClampNeg) + y20), (), rfl, rfl, by rw [ht]; exact hP, hD⟩, hS.F ht⟩) hS.2.2 dX10_rate_225
                · replace h := if_p c_18 h
                  refine lv_iload hx hb dX10_rate_204 (lv_at hl 0 rfl) ?_
                  refine lv_iload_n hx hb dX10_rate_206 rfl (lv_at hl 5 rfl) ?_
                  refine lv_iadd hx hb dX10_rate_207 ?_
                  refine lv_goto (tgt := 225) hx hb dX10_rate_208 (by decide) ?_
                  have hy := Option.some.inj h
                  subst hy
                  exact W.iret (v := (((M_slips x2.toNatClampNeg) - (M_lates x2.toNatClampNeg)) + x3)) hx hb hr (fun t ht hW => ⟨⟨(((M_slips x2.toNatClampNeg) - (M_lates x2.toNatClampNeg)) + x3), (), rfl, rfl, by rw [ht]; exact hP, hD⟩, hS.F ht⟩) hS.2.2 dX10_rate_225
              · replace h := if_p c_17 h
                refine lv_iconst (v := (2 : Int32)) hx hb dX10_rate_192 (by decide) ?_
                refine lv_iload hx hb dX10_rate_193 (lv_at hl 1 rfl) ?_
                refine lv_imul hx hb dX10_rate_195 ?_
                refine lv_goto (tgt := 225) hx hb dX10_rate_196 (by decide) ?_
                have hy := Option.some.inj h
                subst hy
                exact W.iret (v := ((2 : Int32) * ((M_slips x2.toNatClampNeg) + M_streak))) hx hb hr (fun t ht hW => ⟨⟨((2 : Int32) * ((M_slips x2.toNatClampNeg) + M_streak)), (), rfl, rfl, by rw [ht]; exact hP, hD⟩, hS.F ht⟩) hS.2.2 dX10_rate_225
            · replace h := if_p c_16 h
              refine lv_iload hx hb dX10_rate_182 (lv_at hl 0 rfl) ?_
              refine lv_goto (tgt := 225) hx hb dX10_rate_184 (by decide) ?_
              have hy := Option.some.inj h
              subst hy
              exact W.iret (v := ((M_slips x2.toNatClampNeg) - (M_lates x2.toNatClampNeg))) hx hb hr (fun t ht hW => ⟨⟨((M_slips x2.toNatClampNeg) - (M_lates x2.toNatClampNeg)), (), rfl, rfl, by rw [ht]; exact hP, hD⟩, hS.F ht⟩) hS.2.2 dX10_rate_225
          · replace h := if_p c_15 h
            refine lv_iload hx hb dX10_rate_172 (lv_at hl 1 rfl) ?_
            refine lv_goto (tgt := 225) hx hb dX10_rate_174 (by decide) ?_
            have hy := Option.some.inj h
            subst hy
            exact W.iret (v := ((M_slips x2.toNatClampNeg) + M_streak)) hx hb hr (fun t ht hW => ⟨⟨((M_slips x2.toNatClampNeg) + M_streak), (), rfl, rfl, by rw [ht]; exact hP, hD⟩, hS.F ht⟩) hS.2.2 dX10_rate_225
        · replace h := if_p c_14 h
          refine lv_aload_n hx hb dX10_rate_158 rfl (lv_at hl 2 rfl) ?_
          refine va_get (D := D) (ci := 10) (v := .ref aM_slips) (C := RX10) (T := TX10) (N := 23) hx hb hts inX10 hown hK hP 0 rfl rfl 3 (by decide) fl_13 (fun _ h9 => h9) rfl dX10_rate_159 ?_
          refine lv_iload_n hx hb dX10_rate_162 rfl (lv_at hl 4 rfl) ?_
          obtain ⟨hi21, h⟩ := gd_in h
          refine va_iald hx hb hK hP 1 0 rfl rfl hi21 dX10_rate_163 ?_
          refine lv_goto (tgt := 225) hx hb dX10_rate_164 (by decide) ?_
          have hy := Option.some.inj h
          subst hy
          exact W.iret (v := (M_slips x2.toNatClampNeg)) hx hb hr (fun t ht hW => ⟨⟨(M_slips x2.toNatClampNeg), (), rfl, rfl, by rw [ht]; exact hP, hD⟩, hS.F ht⟩) hS.2.2 dX10_rate_225
      · replace h := if_n c_10 h
        refine lv_iload_n hx hb dX10_rate_101 rfl (lv_at hl 3 rfl) ?_
        refine lv_aload_n hx hb dX10_rate_102 rfl (lv_at hl 0 rfl) ?_
        refine va_get (D := D) (ci := 10) (v := .ref aM_copies) (C := RX10) (T := TX10) (N := 23) hx hb hts inX10 hown hK hP 0 rfl rfl 5 (by decide) fl_19 (fun _ h9 => h9) rfl dX10_rate_103 ?_
        refine lv_iload hx hb dX10_rate_106 (lv_at hl 4 rfl) ?_
        obtain ⟨hi22, h⟩ := gd_in h
        refine va_iald hx hb hK hP 3 0 rfl rfl hi22 dX10_rate_108 ?_
        refine lv_iload_n hx hb dX10_rate_109 rfl (lv_at hl 2 rfl) ?_
        refine lv_icmp_ne (tgt := 117) hx hb dX10_rate_110 (by decide) (fun c_23 => ?_) (fun c_23 => ?_)
        · replace h := if_n c_23 h
          refine lv_iconst (v := (0 : Int32)) hx hb dX10_rate_117 (by decide) ?_
          refine lv_iadd hx hb dX10_rate_118 ?_
          refine lv_istore_n (lv' := [(3, .int (x3 + (0 : Int32))), (0, .ref aM), (1, .int x1), (2, .int x2), (4, .int x4)]) hx hb dX10_rate_119 rfl hl (by decide) rfl (fun ls hl => ?_)
          refine lv_iinc (v := (x4 + (1 : Int32))) (lv' := [(4, .int (x4 + (1 : Int32))), (3, .int (x3 + (0 : Int32))), (0, .ref aM), (1, .int x1), (2, .int x2)]) hx hb dX10_rate_120 hl (k := 4) rfl rfl (by decide) rfl (fun ls hl => ?_)
          refine lv_goto (tgt := 92) hx hb dX10_rate_123 (by decide) ?_
          exact ih M_trace x1 x2 (x3 + (0 : Int32)) (x4 + (1 : Int32)) _ _ hP hD hS ls (lv_sub hl [2, 3, 4, 1, 0] rfl) h
        · replace h := if_p c_23 h
          refine lv_iconst (v := (1 : Int32)) hx hb dX10_rate_113 (by decide) ?_
          refine lv_goto (tgt := 118) hx hb dX10_rate_114 (by decide) ?_
          refine lv_iadd hx hb dX10_rate_118 ?_
          refine lv_istore_n (lv' := [(3, .int (x3 + (1 : Int32))), (0, .ref aM), (1, .int x1), (2, .int x2), (4, .int x4)]) hx hb dX10_rate_119 rfl hl (by decide) rfl (fun ls hl => ?_)
          refine lv_iinc (v := (x4 + (1 : Int32))) (lv' := [(4, .int (x4 + (1 : Int32))), (3, .int (x3 + (1 : Int32))), (0, .ref aM), (1, .int x1), (2, .int x2)]) hx hb dX10_rate_120 hl (k := 4) rfl rfl (by decide) rfl (fun ls hl => ?_)
          refine lv_goto (tgt := 92) hx hb dX10_rate_123 (by decide) ?_
          exact ih M_trace x1 x2 (x3 + (1 : Int32)) (x4 + (1 : Int32)) _ _ hP hD hS ls (lv_sub hl [2, 3, 4, 1, 0] rfl) h
  unfold f_X10_rate at h
  refine lv_iload_n hx hb dX10_rate_0 rfl (lv_at hl 1 rfl) ?_
  refine lv_i2l (v := p1.toInt64) hx hb dX10_rate_1 rfl ?_
  refine lv_lconst (v := (0 : Int64)) hx hb dX10_rate_2 (by decide) ?_
  refine lv_ldc2 (v := (5 : Int64)) hx hb hown cst_138 dX10_rate_3 ?_
  have hPc : va_P D vwCl [] s.heap := hP.sub [] rfl
  refine vp_callSi (va_Run.run (va_runS (As := [.long p1.toInt64, .long (0 : Int64), .long (5 : Int64)]) (rest := []) ⟨hx, hb, hml, hown, hts⟩ (c_X10_within l D cI cJ cZ cO p1.toInt64 (0 : Int64) (5 : Int64) _ rfl) (cwS 3 hts gX10_rate_X10_within rfl rfl rfl (by decide +kernel) ⟨Nat.le_of_ble_eq_true rfl, Nat.le_of_ble_eq_true rfl⟩) ⟨fb_p, fun U hU hW => ⟨rfl, by rw [hU]; exact hPc, KK.warm hW hKK⟩⟩ rfl rfl hl.1 rfl (lv_room (Nat.le_of_ble_eq_true rfl)) dX10_rate_6 ⟨Nat.le_of_ble_eq_true rfl, Nat.le_of_ble_eq_true rfl⟩)) (fun r hr => ?_)
  obtain ⟨hr, hz1⟩ := hr
  replace hr := hr.symm
  subst hr
  refine lv_if_eq (tgt := 20) hx hb dX10_rate_9 (by decide) (fun c_2 => ?_) (fun c_2 => ?_)
  · replace h := if_p c_2 h
    refine lv_ldc (v := (-1000000 : Int32)) hx hb hown cst_203 dX10_rate_20 ?_
    have hy := Option.some.inj h
    subst hy
    exact W.iret (v := (-1000000 : Int32)) hx hb hr (fun t ht hW => ⟨⟨(-1000000 : Int32), (), rfl, rfl, by rw [ht]; exact hP, hD⟩, hS.F ht⟩) hS.2.2 dX10_rate_22
  · replace h := if_n c_2 h
    refine lv_aload_n hx hb dX10_rate_12 rfl (lv_at hl 0 rfl) ?_
    refine lv_iload_n hx hb dX10_rate_13 rfl (lv_at hl 2 rfl) ?_
    have hPc : va_P D vwCl [(aM, .inr (10, [.ref aM_text, .int M_size, .int M_many, .ref aM_slips, .ref aM_lates, .ref aM_copies, .int M_little, .int M_in, .int M_streak, .int M_lot, .int M_undos, .ref aM_before, .ref aM_images, .ref aM_kept, .long M_trace, .int M_at, .int M_begin, .int M_kind, .long M_value, .int M_readMany, .int M_readLittle, .ref aM_read, .long M_below]))] s.heap := hP.sub [0] rfl
    refine vp_callSi (va_Run.run (va_runV (As := [.int p2]) (rest := []) ⟨hx, hb, hml, hown, hts⟩ (c_X10_isChild l D cI cJ cZ cO aM aM_text aM_slips aM_lates aM_copies aM_before aM_images aM_kept aM_read M_size M_many M_little M_in M_streak M_lot M_undos M_trace M_at M_begin M_kind M_value M_readMany M_readLittle M_below p2 _ rfl) (cwV 1 hts gX10_rate_X10_isChild rfl rfl rfl (by decide +kernel) ⟨Nat.le_of_ble_eq_true rfl, Nat.le_of_ble_eq_true rfl⟩) ⟨fb_p, va_recv hK hP (ci := 10) (q0 := 0) rfl rfl, fun U hU hW => ⟨rfl, by rw [hU]; exact hPc, KK.warm hW hKK⟩⟩ rfl rfl hl.1 rfl (lv_room (Nat.le_of_ble_eq_true rfl)) dX10_rate_14 ⟨Nat.le_of_ble_eq_true rfl, Nat.le_of_ble_eq_true rfl⟩)) (fun r hr => ?_)
    obtain ⟨hr, hz3⟩ := hr
    replace hr := hr.symm
    subst hr
    refine lv_if_ne (tgt := 23) hx hb dX10_rate_17 (by decide) (fun c_4 => ?_) (fun c_4 => ?_)
    · replace h := if_n c_4 h
      refine lv_aload_n hx hb dX10_rate_23 rfl (lv_at hl 0 rfl) ?_
      refine lv_dup hx hb dX10_rate_24 rfl ?_
      refine va_get (D := D) (ci := 10) (v := .long M_trace) (C := RX10) (T := TX10) (N := 23) hx hb hts inX10 hown hK hP 0 rfl rfl 14 (by decide) fl_204 (fun _ h9 => h9) rfl dX10_rate_25 ?_
      refine lv_iload_n hx hb dX10_rate_28 rfl (lv_at hl 1 rfl) ?_
      refine lv_if_ne (tgt := 36) hx hb dX10_rate_29 (by decide) (fun c_5 => ?_) (fun c_5 => ?_)
      · replace h := if_n c_5 h
        refine lv_iload_n hx hb dX10_rate_36 rfl (lv_at hl 1 rfl) ?_
        refine lv_iconst (v := (1 : Int32)) hx hb dX10_rate_37 (by decide) ?_
        refine lv_icmp_ne (tgt := 47) hx hb dX10_rate_38 (by decide) (fun c_6 => ?_) (fun c_6 => ?_)
        · replace h := if_n c_6 h
          refine lv_iload_n hx hb dX10_rate_47 rfl (lv_at hl 1 rfl) ?_
          refine lv_iconst (v := (2 : Int32)) hx hb dX10_rate_48 (by decide) ?_
          refine lv_icmp_ne (tgt := 58) hx hb dX10_rate_49 (by decide) (fun c_7 => ?_) (fun c_7 => ?_)
          · replace h := if_n c_7 h
            refine lv_iload_n hx hb dX10_rate_58 rfl (lv_at hl 1 rfl) ?_
            refine lv_iconst (v := (3 : Int32)) hx hb dX10_rate_59 (by decide) ?_
            refine lv_icmp_ne (tgt := 69) hx hb dX10_rate_60 (by decide) (fun c_8 => ?_) (fun c_8 => ?_)
            · replace h := if_n c_8 h
              refine lv_iload_n hx hb dX10_rate_69 rfl (lv_at hl 1 rfl) ?_
              refine lv_iconst (v := (4 : Int32)) hx hb dX10_rate_70 (by decide) ?_
              refine lv_icmp_ne (tgt := 80) hx hb dX10_rate_71 (by decide) (fun c_9 => ?_) (fun c_9 => ?_)
              · replace h := if_n c_9 h
                refine lv_ldc2 (v := (100001 : Int64)) hx hb hown cst_215 dX10_rate_80 ?_
                refine lv_ladd hx hb dX10_rate_83 ?_
                refine va_put (D := D) (ci := 10) (v := .long (M_trace + (100001 : Int64))) (ty := .long) (C := RX10) (T := TX10) (N := 23) hx hb hts inX10 tyX10 tyX10_ok nmX10 hown hK hP hD hS 0 rfl rfl 14 (by decide) fl_204 (fun _ h9 => h9) rfl (by decide +kernel) rfl rfl (Nat.le_of_ble_eq_true rfl) dX10_rate_84 (fun H locs hP hD hS => ?_)
                have hP : va_P D vwCl [(aM, .inr (10, [.ref aM_text, .int M_size, .int M_many, .ref aM_slips, .ref aM_lates, .ref aM_copies, .int M_little, .int M_in, .int M_streak, .int M_lot, .int M_undos, .ref aM_before, .ref aM_images, .ref aM_kept, .long (M_trace + (100001 : Int64)), .int M_at, .int M_begin, .int M_kind, .long M_value, .int M_readMany, .int M_readLittle, .ref aM_read, .long M_below])), (aM_slips, .inl (cI, 6, .inl M_slips)), (aM_lates, .inl (cI, 6, .inl M_lates)), (aM_copies, .inl (cI, 6, .inl M_copies))] H := hP
                have hD : va_D A [(aM, .inr (10, [.ref aM_text, .int M_size, .int M_many, .ref aM_slips, .ref aM_lates, .ref aM_copies, .int M_little, .int M_in, .int M_streak, .int M_lot, .int M_undos, .ref aM_before, .ref aM_images, .ref aM_kept, .long (M_trace + (100001 : Int64)), .int M_at, .int M_begin, .int M_kind, .long M_value, .int M_readMany, .int M_readLittle, .ref aM_read, .long M_below])), (aM_slips, .inl (cI, 6, .inl M_slips)), (aM_lates, .inl (cI, 6, .inl M_lates)), (aM_copies, .inl (cI, 6, .inl M_copies))] := hD
                refine lv_iconst (v := (0 : Int32)) hx hb dX10_rate_87 (by decide) ?_
                refine lv_istore_n (lv' := [(3, .int (0 : Int32)), (0, .ref aM), (1, .int p1), (2, .int p2)]) hx hb dX10_rate_88 rfl hl (by decide) rfl (fun ls hl => ?_)
                refine lv_iconst (v := (0 : Int32)) hx hb dX10_rate_89 (by decide) ?_
                refine lv_istore (lv' := [(4, .int (0 : Int32)), (3, .int (0 : Int32)), (0, .ref aM), (1, .int p1), (2, .int p2)]) hx hb dX10_rate_90 hl (by decide) rfl (fun ls hl => ?_)
                exact L92 300 (M_trace + (100001 : Int64)) p1 p2 (0 : Int32) (0 : Int32) _ _ hP hD hS ls (lv_sub hl [2, 3, 4, 1, 0] rfl) h
              · replace h := if_p c_9 h
                refine lv_ldc2 (v := (10101 : Int64)) hx hb hown cst_213 dX10_rate_74 ?_
                refine lv_goto (tgt := 83) hx hb dX10_rate_77 (by decide) ?_
                refine lv_ladd hx hb dX10_rate_83 ?_
                refine va_put (D := D) (ci := 10) (v := .long (M_trace + (10101 : Int64))) (ty := .long) (C := RX10) (T := TX10) (N := 23) hx hb hts inX10 tyX10 tyX10_ok nmX10 hown hK hP hD hS 0 rfl rfl 14 (by decide) fl_204 (fun _ h9 => h9) rfl (by decide +kernel) rfl rfl (Nat.le_of_ble_eq_true rfl) dX10_rate_84 (fun H locs hP hD hS => ?_)
                have hP : va_P D vwCl [(aM, .inr (10, [.ref aM_text, .int M_size, .int M_many, .ref aM_slips, .ref aM_lates, .ref aM_copies, .int M_little, .int M_in, .int M_streak, .int M_lot, .int M_undos, .ref aM_before, .ref aM_images, .ref aM_kept, .long (M_trace + (10101 : Int64)), .int M_at, .int M_begin, .int M_kind, .long M_value, .int M_readMany, .int M_readLittle, .ref aM_read, .long M_below])), (aM_slips, .inl (cI, 6, .inl M_slips)), (aM_lates, .inl (cI, 6, .inl M_lates)), (aM_copies, .inl (cI, 6, .inl M_copies))] H := hP
                have hD : va_D A [(aM, .inr (10, [.ref aM_text, .int M_size, .int M_many, .ref aM_slips, .ref aM_lates, .ref aM_copies, .int M_little, .int M_in, .int M_streak, .int M_lot, .int M_undos, .ref aM_before, .ref aM_images, .ref aM_kept, .long (M_trace + (10101 : Int64)), .int M_at, .int M_begin, .int M_kind, .long M_value, .int M_readMany, .int M_readLittle, .ref aM_read, .long M_below])), (aM_slips, .inl (cI, 6, .inl M_slips)), (aM_lates, .inl (cI, 6, .inl M_lates)), (aM_copies, .inl (cI, 6, .inl M_copies))] := hD
                refine lv_iconst (v := (0 : Int32)) hx hb dX10_rate_87 (by decide) ?_
                refine lv_istore_n (lv' := [(3, .int (0 : Int32)), (0, .ref aM), (1, .int p1), (2, .int p2)]) hx hb dX10_rate_88 rfl hl (by decide) rfl (fun ls hl => ?_)
                refine lv_iconst (v := (0 : Int32)) hx hb dX10_rate_89 (by decide) ?_
                refine lv_istore (lv' := [(4, .int (0 : Int32)), (3, .int (0 : Int32)), (0, .ref aM), (1, .int p1), (2, .int p2)]) hx hb dX10_rate_90 hl (by decide) rfl (fun ls hl => ?_)
                exact L92 300 (M_trace + (10101 : Int64)) p1 p2 (0 : Int32) (0 : Int32) _ _ hP hD hS ls (lv_sub hl [2, 3, 4, 1, 0] rfl) h
            · replace h := if_p c_8 h
              refine lv_ldc2 (v := (1011 : Int64)) hx hb hown cst_211 dX10_rate_63 ?_
              refine lv_goto (tgt := 83) hx hb dX10_rate_66 (by decide) ?_
              refine lv_ladd hx hb dX10_rate_83 ?_
              refine va_put (D := D) (ci := 10) (v := .long (M_trace + (1011 : Int64))) (ty := .long) (C := RX10) (T := TX10) (N := 23) hx hb hts inX10 tyX10 tyX10_ok nmX10 hown hK hP hD hS 0 rfl rfl 14 (by decide) fl_204 (fun _ h9 => h9) rfl (by decide +kernel) rfl rfl (Nat.le_of_ble_eq_true rfl) dX10_rate_84 (fun H locs hP hD hS => ?_)
              have hP : va_P D vwCl [(aM, .inr (10, [.ref aM_text, .int M_size, .int M_many, .ref aM_slips, .ref aM_lates, .ref aM_copies, .int M_little, .int M_in, .int M_streak, .int M_lot, .int M_undos, .ref aM_before, .ref aM_images, .ref aM_kept, .long (M_trace + (1011 : Int64)), .int M_at, .int M_begin, .int M_kind, .long M_value, .int M_readMany, .int M_readLittle, .ref aM_read, .long M_below])), (aM_slips, .inl (cI, 6, .inl M_slips)), (aM_lates, .inl (cI, 6, .inl M_lates)), (aM_copies, .inl (cI, 6, .inl M_copies))] H := hP
              have hD : va_D A [(aM, .inr (10, [.ref aM_text, .int M_size, .int M_many, .ref aM_slips, .ref aM_lates, .ref aM_copies, .int M_little, .int M_in, .int M_streak, .int M_lot, .int M_undos, .ref aM_before, .ref aM_images, .ref aM_kept, .long (M_trace + (1011 : Int64)), .int M_at, .int M_begin, .int M_kind, .long M_value, .int M_readMany, .int M_readLittle, .ref aM_read, .long M_below])), (aM_slips, .inl (cI, 6, .inl M_slips)), (aM_lates, .inl (cI, 6, .inl M_lates)), (aM_copies, .inl (cI, 6, .inl M_copies))] := hD
              refine lv_iconst (v := (0 : Int32)) hx hb dX10_rate_87 (by decide) ?_
              refine lv_istore_n (lv' := [(3, .int (0 : Int32)), (0, .ref aM), (1, .int p1), (2, .int p2)]) hx hb dX10_rate_88 rfl hl (by decide) rfl (fun ls hl => ?_)
              refine lv_iconst (v := (0 : Int32)) hx hb dX10_rate_89 (by decide) ?_
              refine lv_istore (lv' := [(4, .int (0 : Int32)), (3, .int (0 : Int32)), (0, .ref aM), (1, .int p1), (2, .int p2)]) hx hb dX10_rate_90 hl (by decide) rfl (fun ls hl => ?_)
              exact L92 300 (M_trace + (1011 : Int64)) p1 p2 (0 : Int32) (0 : Int32) _ _ hP hD hS ls (lv_sub hl [2, 3, 4, 1, 0] rfl) h
          · replace h := if_p c_7 h
            refine lv_ldc2 (v := (101 : Int64)) hx hb hown cst_209 dX10_rate_52 ?_
            refine lv_goto (tgt := 83) hx hb dX10_rate_55 (by decide) ?_
            refine lv_ladd hx hb dX10_rate_83 ?_
            refine va_put (D := D) (ci := 10) (v := .long (M_trace + (101 : Int64))) (ty := .long) (C := RX10) (T := TX10) (N := 23) hx hb hts inX10 tyX10 tyX10_ok nmX10 hown hK hP hD hS 0 rfl rfl 14 (by decide) fl_204 (fun _ h9 => h9) rfl (by decide +kernel) rfl rfl (Nat.le_of_ble_eq_true rfl) dX10_rate_84 (fun H locs hP hD hS => ?_)
            have hP : va_P D vwCl [(aM, .inr (10, [.ref aM_text, .int M_size, .int M_many, .ref aM_slips, .ref aM_lates, .ref aM_copies, .int M_little, .int M_in, .int M_streak, .int M_lot, .int M_undos, .ref aM_before, .ref aM_images, .ref aM_kept, .long (M_trace + (101 : Int64)), .int M_at, .int M_begin, .int M_kind, .long M_value, .int M_readMany, .int M_readLittle, .ref aM_read, .long M_below])), (aM_slips, .inl (cI, 6, .inl M_slips)), (aM_lates, .inl (cI, 6, .inl M_lates)), (aM_copies, .inl (cI, 6, .inl M_copies))] H := hP
            have hD : va_D A [(aM, .inr (10, [.ref aM_text, .int M_size, .int M_many, .ref aM_slips, .ref aM_lates, .ref aM_copies, .int M_little, .int M_in, .int M_streak, .int M_lot, .int M_undos, .ref aM_before, .ref aM_images, .ref aM_kept, .long (M_trace + (101 : Int64)), .int M_at, .int M_begin, .int M_kind, .long M_value, .int M_readMany, .int M_readLittle, .ref aM_read, .long M_below])), (aM_slips, .inl (cI, 6, .inl M_slips)), (aM_lates, .inl (cI, 6, .inl M_lates)), (aM_copies, .inl (cI, 6, .inl M_copies))] := hD
            refine lv_iconst (v := (0 : Int32)) hx hb dX10_rate_87 (by decide) ?_
            refine lv_istore_n (lv' := [(3, .int (0 : Int32)), (0, .ref aM), (1, .int p1), (2, .int p2)]) hx hb dX10_rate_88 rfl hl (by decide) rfl (fun ls hl => ?_)
            refine lv_iconst (v := (0 : Int32)) hx hb dX10_rate_89 (by decide) ?_
            refine lv_istore (lv' := [(4, .int (0 : Int32)), (3, .int (0 : Int32)), (0, .ref aM), (1, .int p1), (2, .int p2)]) hx hb dX10_rate_90 hl (by decide) rfl (fun ls hl => ?_)
            exact L92 300 (M_trace + (101 : Int64)) p1 p2 (0 : Int32) (0 : Int32) _ _ hP hD hS ls (lv_sub hl [2, 3, 4, 1, 0] rfl) h
        · replace h := if_p c_6 h
          refine lv_ldc2 (v := (11 : Int64)) hx hb hown cst_207 dX10_rate_41 ?_
          refine lv_goto (tgt := 83) hx hb dX10_rate_44 (by decide) ?_
          refine lv_ladd hx hb dX10_rate_83 ?_
          refine va_put (D := D) (ci := 10) (v := .long (M_trace + (11 : Int64))) (ty := .long) (C := RX10) (T := TX10) (N := 23) hx hb hts inX10 tyX10 tyX10_ok nmX10 hown hK hP hD hS 0 rfl rfl 14 (by decide) fl_204 (fun _ h9 => h9) rfl (by decide +kernel) rfl rfl (Nat.le_of_ble_eq_true rfl) dX10_rate_84 (fun H locs hP hD hS => ?_)
          have hP : va_P D vwCl [(aM, .inr (10, [.ref aM_text, .int M_size, .int M_many, .ref aM_slips, .ref aM_lates, .ref aM_copies, .int M_little, .int M_in, .int M_streak, .int M_lot, .int M_undos, .ref aM_before, .ref aM_images, .ref aM_kept, .long (M_trace + (11 : Int64)), .int M_at, .int M_begin, .int M_kind, .long M_value, .int M_readMany, .int M_readLittle, .ref aM_read, .long M_below])), (aM_slips, .inl (cI, 6, .inl M_slips)), (aM_lates, .inl (cI, 6, .inl M_lates)), (aM_copies, .inl (cI, 6, .inl M_copies))] H := hP
          have hD : va_D A [(aM, .inr (10, [.ref aM_text, .int M_size, .int M_many, .ref aM_slips, .ref aM_lates, .ref aM_copies, .int M_little, .int M_in, .int M_streak, .int M_lot, .int M_undos, .ref aM_before, .ref aM_images, .ref aM_kept, .long (M_trace + (11 : Int64)), .int M_at, .int M_begin, .int M_kind, .long M_value, .int M_readMany, .int M_readLittle, .ref aM_read, .long M_below])), (aM_slips, .inl (cI, 6, .inl M_slips)), (aM_lates, .inl (cI, 6, .inl M_lates)), (aM_copies, .inl (cI, 6, .inl M_copies))] := hD
          refine lv_iconst (v := (0 : Int32)) hx hb dX10_rate_87 (by decide) ?_
          refine lv_istore_n (lv' := [(3, .int (0 : Int32)), (0, .ref aM), (1, .int p1), (2, .int p2)]) hx hb dX10_rate_88 rfl hl (by decide) rfl (fun ls hl => ?_)
          refine lv_iconst (v := (0 : Int32)) hx hb dX10_rate_89 (by decide) ?_
          refine lv_istore (lv' := [(4, .int (0 : Int32)), (3, .int (0 : Int32)), (0, .ref aM), (1, .int p1), (2, .int p2)]) hx hb dX10_rate_90 hl (by decide) rfl (fun ls hl => ?_)
          exact L92 300 (M_trace + (11 : Int64)) p1 p2 (0 : Int32) (0 : Int32) _ _ hP hD hS ls (lv_sub hl [2, 3, 4, 1, 0] rfl) h
      · replace h := if_p c_5 h
        refine lv_lconst (v := (1 : Int64)) hx hb dX10_rate_32 (by decide) ?_
        refine lv_goto (tgt := 83) hx hb dX10_rate_33 (by decide) ?_
        refine lv_ladd hx hb dX10_rate_83 ?_
        refine va_put (D := D) (ci := 10) (v := .long (M_trace + (1 : Int64))) (ty := .long) (C := RX10) (T := TX10) (N := 23) hx hb hts inX10 tyX10 tyX10_ok nmX10 hown hK hP hD hS 0 rfl rfl 14 (by decide) fl_204 (fun _ h9 => h9) rfl (by decide +kernel) rfl rfl (Nat.le_of_ble_eq_true rfl) dX10_rate_84 (fun H locs hP hD hS => ?_)
        have hP : va_P D vwCl [(aM, .inr (10, [.ref aM_text, .int M_size, .int M_many, .ref aM_slips, .ref aM_lates, .ref aM_copies, .int M_little, .int M_in, .int M_streak, .int M_lot, .int M_undos, .ref aM_before, .ref aM_images, .ref aM_kept, .long (M_trace + (1 : Int64)), .int M_at, .int M_begin, .int M_kind, .long M_value, .int M_readMany, .int M_readLittle, .ref aM_read, .long M_below])), (aM_slips, .inl (cI, 6, .inl M_slips)), (aM_lates, .inl (cI, 6, .inl M_lates)), (aM_copies, .inl (cI, 6, .inl M_copies))] H := hP
        have hD : va_D A [(aM, .inr (10, [.ref aM_text, .int M_size, .int M_many, .ref aM_slips, .ref aM_lates, .ref aM_copies, .int M_little, .int M_in, .int M_streak, .int M_lot, .int M_undos, .ref aM_before, .ref aM_images, .ref aM_kept, .long (M_trace + (1 : Int64)), .int M_at, .int M_begin, .int M_kind, .long M_value, .int M_readMany, .int M_readLittle, .ref aM_read, .long M_below])), (aM_slips, .inl (cI, 6, .inl M_slips)), (aM_lates, .inl (cI, 6, .inl M_lates)), (aM_copies, .inl (cI, 6, .inl M_copies))] := hD
        refine lv_iconst (v := (0 : Int32)) hx hb dX10_rate_87 (by decide) ?_
        refine lv_istore_n (lv' := [(3, .int (0 : Int32)), (0, .ref aM), (1, .int p1), (2, .int p2)]) hx hb dX10_rate_88 rfl hl (by decide) rfl (fun ls hl => ?_)
        refine lv_iconst (v := (0 : Int32)) hx hb dX10_rate_89 (by decide) ?_
        refine lv_istore (lv' := [(4, .int (0 : Int32)), (3, .int (0 : Int32)), (0, .ref aM), (1, .int p1), (2, .int p2)]) hx hb dX10_rate_90 hl (by decide) rfl (fun ls hl => ?_)
        exact L92 300 (M_trace + (1 : Int64)) p1 p2 (0 : Int32) (0 : Int32) _ _ hP hD hS ls (lv_sub hl [2, 3, 4, 1, 0] rfl) h
    · replace h := if_p c_4 h
      refine lv_ldc (v := (-1000000 : Int32)) hx hb hown cst_203 dX10_rate_20 ?_
      have hy := Option.some.inj h
      subst hy
      exact W.iret (v := (-1000000 : Int32)) hx hb hr (fun t ht hW => ⟨⟨(-1000000 : Int32), (), rfl, rfl, by rw [ht]; exact hP, hD⟩, hS.F ht⟩) hS.2.2 dX10_rate_22

def f_X10_keep (M_in : Int32) (M_streak : Int32) (M_lot : Int32) (M_images : Nat → Int32) (M_kept : Nat → Int32) (p1 : Int32) : Option (Int32 × (Nat → Int32) × (Nat → Int32)) := (if (f_X10_within p1.toInt64 (0 : Int64) (1 : Int64)) = 0 then some ((-1 : Int32), M_images, M_kept) else (if gIn ((3 : Int32) * p1) 6 = true then (if gIn (((3 : Int32) * p1) + (1 : Int32)) 6 = true then (if gIn (((3 : Int32) * p1) + (2 : Int32)) 6 = true then (if gIn p1 2 = true then (Option.bind (f_X10_bits M_in) (fun y7 => some (y7, (upd (upd (upd M_images ((3 : Int32) * p1).toNatClampNeg M_in) (((3 : Int32) * p1) + (1 : Int32)).toNatClampNeg M_streak) (((3 : Int32) * p1) + (2 : Int32)).toNatClampNeg M_lot), (upd M_kept p1.toNatClampNeg (vp_nar .boolean (1 : Int32)))))) else none) else none) else none) else none))
set_option maxHeartbeats 8000000 in
set_option maxRecDepth 100000 in
theorem c_X10_keep (l : Launch) (D : va_G) (cI cJ cZ cO : ClassId) (aM : Nat) (aM_images : Nat) (aM_kept : Nat) (aM_text : Nat) (aM_slips : Nat) (aM_lates : Nat) (aM_copies : Nat) (aM_before : Nat) (aM_read : Nat) (M_size : Int32) (M_many : Int32) (M_little : Int32) (M_in : Int32) (M_streak : Int32) (M_lot : Int32) (M_undos : Int32) (M_trace : Int64) (M_at : Int32) (M_begin : Int32) (M_kind : Int32) (M_value : Int64) (M_readMany : Int32) (M_readLittle : Int32) (M_below : Int64) (M_images : Nat → Int32) (M_kept : Nat → Int32) (sz : Nat) (p1 : Int32)  (y0 : Int32 × (Nat → Int32) × (Nat → Int32)) (h : f_X10_keep M_in M_streak M_lot M_images M_kept p1 = some y0) : Met l yX10_keep wsX10_keep ({ frames := 1, cells := 0, slots := 0, locals := 25 } : Room) (va_Pc [.ref aM, .int p1] (fun U => U.heap.size = sz ∧ va_P D vwCl [(aM, .inr (10, [.ref aM_text, .int M_size, .int M_many, .ref aM_slips, .ref aM_lates, .ref aM_copies, .int M_little, .int M_in, .int M_streak, .int M_lot, .int M_undos, .ref aM_before, .ref aM_images, .ref aM_kept, .long M_trace, .int M_at, .int M_begin, .int M_kind, .long M_value, .int M_readMany, .int M_readLittle, .ref aM_read, .long M_below])), (aM_images, .inl (cI, 6, .inl M_images)), (aM_kept, .inl (cZ, 2, .inl M_kept))] U.heap ∧ KK D cI cJ cZ cO U ∧ va_D (fun _ => True) [(aM, .inr (10, [.ref aM_text, .int M_size, .int M_many, .ref aM_slips, .ref aM_lates, .ref aM_copies, .int M_little, .int M_in, .int M_streak, .int M_lot, .int M_undos, .ref aM_before, .ref aM_images, .ref aM_kept, .long M_trace, .int M_at, .int M_begin, .int M_kind, .long M_value, .int M_readMany, .int M_readLittle, .ref aM_read, .long M_below])), (aM_images, .inl (cI, 6, .inl M_images)), (aM_kept, .inl (cZ, 2, .inl M_kept))])) (va_Qi (fun (r : Int32) (_ : Unit) => r = y0.1) (fun (_ : Unit) t => va_P D vwCl [(aM, .inr (10, [.ref aM_text, .int M_size, .int M_many, .ref aM_slips, .ref aM_lates, .ref aM_copies, .int M_little, .int M_in, .int M_streak, .int M_lot, .int M_undos, .ref aM_before, .ref aM_images, .ref aM_kept, .long M_trace, .int M_at, .int M_begin, .int M_kind, .long M_value, .int M_readMany, .int M_readLittle, .ref aM_read, .long M_below])), (aM_images, .inl (cI, 6, .inl y0.2.1)), (aM_kept, .inl (cZ, 2, .inl y0.2.2))] t.heap ∧ va_D (va_A [(aM, .inr (10, [.ref aM_text, .int M_size, .int M_many, .ref aM_slips, .ref aM_lates, .ref aM_copies, .int M_little, .int M_in, .int M_streak, .int M_lot, .int M_undos, .ref aM_before, .ref aM_images, .ref aM_kept, .long M_trace, .int M_at, .int M_begin, .int M_kind, .long M_value, .int M_readMany, .int M_readLittle, .ref aM_read, .long M_below])), (aM_images, .inl (cI, 6, .inl M_images)), (aM_kept, .inl (cZ, 2, .inl M_kept))] sz) [(aM, .inr (10, [.ref aM_text, .int M_size, .int M_many, .ref aM_slips, .ref aM_lates, .ref aM_copies, .int M_little, .int M_in, .int M_streak, .int M_lot, .int M_undos, .ref aM_before, .ref aM_images, .ref aM_kept, .long M_trace, .int M_at, .int M_begin, .int M_kind, .long M_value, .int M_readMany, .int M_readLittle, .ref aM_read, .long M_below])), (aM_images, .inl (cI, 6, .inl y0.2.1)), (aM_kept, .inl (cZ, 2, .inl y0.2.2))]) (va_A [(aM, .inr (10, [.ref aM_text, .int M_size, .int M_many, .ref aM_slips, .ref aM_lates, .ref aM_copies, .int M_little, .int M_in, .int M_streak, .int M_lot, .int M_undos, .ref aM_before, .ref aM_images, .ref aM_kept, .long M_trace, .int M_at, .int M_begin, .int M_kind, .long M_value, .int M_readMany, .int M_readLittle, .ref aM_read, .long M_below])), (aM_images, .inl (cI, 6, .inl M_images)), (aM_kept, .inl (cZ, 2, .inl M_kept))] sz)) 0 0 (va_A [(aM, .inr (10, [.ref aM_text, .int M_size, .int M_many, .ref aM_slips, .ref aM_lates, .ref aM_copies, .int M_little, .int M_in, .int M_streak, .int M_lot, .int M_undos, .ref aM_before, .ref aM_images, .ref aM_kept, .long M_trace, .int M_at, .int M_begin, .int M_kind, .long M_value, .int M_readMany, .int M_readLittle, .ref aM_read, .long M_below])), (aM_images, .inl (cI, 6, .inl M_images)), (aM_kept, .inl (cZ, 2, .inl M_kept))] sz) := by
  refine Met.ofW (cc := cX10_keep) (maxL := 2) (ret := (some .int)) (by decide) rfl ?_
  intro p e s m args below meth c s₁ B hml hv
  obtain ⟨rfl, hsz, hP, hKK, hD0⟩ := hv
  have hx := B.exec
  have hb := B.bytes
  have hr := B.returns
  have hts := atoms_spec (ws := wsX10_keep) B.pre
  have hown : s.vm.findClass RX10 = some m.cls := findClass_of_methodNamed B.named
  have hlocks := B.notSynchronized
  have hK := hKK.1
  have fl_22 := hts (.fieldLink RX10 22 "SimonSaysModel" "lot" "I") (by decide +kernel)
  have fl_29 := hts (.fieldLink RX10 29 "SimonSaysModel" "images" "[I") (by decide +kernel)
  have fl_32 := hts (.fieldLink RX10 32 "SimonSaysModel" "kept" "[Z") (by decide +kernel)
  have fl_119 := hts (.fieldLink RX10 119 "SimonSaysModel" "in" "I") (by decide +kernel)
  have fl_122 := hts (.fieldLink RX10 122 "SimonSaysModel" "streak" "I") (by decide +kernel)
  have inX10 : ∀ w ∈ wsX100, w ∈ wsX10_keep := by decide +kernel
  subst hsz
  have hD := hD0.self (sz := s.heap.size)
  generalize hAe : va_A [(aM, .inr (10, [.ref aM_text, .int M_size, .int M_many, .ref aM_slips, .ref aM_lates, .ref aM_copies, .int M_little, .int M_in, .int M_streak, .int M_lot, .int M_undos, .ref aM_before, .ref aM_images, .ref aM_kept, .long M_trace, .int M_at, .int M_begin, .int M_kind, .long M_value, .int M_readMany, .int M_readLittle, .ref aM_read, .long M_below])), (aM_images, .inl (cI, 6, .inl M_images)), (aM_kept, .inl (cZ, 2, .inl M_kept))] s.heap.size = A at hD ⊢
  have hA : ∀ q : Nat, s.heap.size ≤ q → A q := fun q h => by rw [← hAe]; exact Or.inr h
  have hS : va_S A s.heap s.heap [] := va_S.rf
  have hl := lv_entry ([.ref aM, .int p1]) (n := 2) (Nat.le_of_ble_eq_true rfl)
  rw [lg_entry_eq]
  generalize (lg_sl ([.ref aM, .int p1]) ++ List.replicate (2 - (lg_sl ([.ref aM, .int p1])).length) Slot.unset).toArray = ls at hl ⊢
  have hl : lv_has ls 2 [(0, .ref aM), (1, .int p1)] := hl
  unfold f_X10_keep at h
  refine lv_iload_n hx hb dX10_keep_0 rfl (lv_at hl 1 rfl) ?_
  refine lv_i2l (v := p1.toInt64) hx hb dX10_keep_1 rfl ?_
  refine lv_lconst (v := (0 : Int64)) hx hb dX10_keep_2 (by decide) ?_
  refine lv_lconst (v := (1 : Int64)) hx hb dX10_keep_3 (by decide) ?_
  have hPc : va_P D vwCl [] s.heap := hP.sub [] rfl
  refine vp_callSi (va_Run.run (va_runS (As := [.long p1.toInt64, .long (0 : Int64), .long (1 : Int64)]) (rest := []) ⟨hx, hb, hml, hown, hts⟩ (c_X10_within l D cI cJ cZ cO p1.toInt64 (0 : Int64) (1 : Int64) _ rfl) (cwS 3 hts gX10_keep_X10_within rfl rfl rfl (by decide +kernel) ⟨Nat.le_of_ble_eq_true rfl, Nat.le_of_ble_eq_true rfl⟩) ⟨fb_p, fun U hU hW => ⟨rfl, by rw [hU]; exact hPc, KK.warm hW hKK⟩⟩ rfl rfl hl.1 rfl (lv_room (Nat.le_of_ble_eq_true rfl)) dX10_keep_4 ⟨Nat.le_of_ble_eq_true rfl, Nat.le_of_ble_eq_true rfl⟩)) (fun r hr => ?_)
  obtain ⟨hr, hz1⟩ := hr
  replace hr := hr.symm
  subst hr
  refine lv_if_ne (tgt := 12) hx hb dX10_keep_7 (by decide) (fun c_2 => ?_) (fun c_2 => ?_)
  · replace h := if_n c_2 h
    refine lv_aload_n hx hb dX10_keep_12 rfl (lv_at hl 0 rfl) ?_
    refine va_get (D := D) (ci := 10) (v := .ref aM_images) (C := RX10) (T := TX10) (N := 23) hx hb hts inX10 hown hK hP 0 rfl rfl 12 (by decide) fl_29 (fun _ h9 => h9) rfl dX10_keep_13 ?_
    refine lv_iconst (v := (3 : Int32)) hx hb dX10_keep_16 (by decide) ?_
    refine lv_iload_n hx hb dX10_keep_17 rfl (lv_at hl 1 rfl) ?_
    refine lv_imul hx hb dX10_keep_18 ?_
    refine lv_aload_n hx hb dX10_keep_19 rfl (lv_at hl 0 rfl) ?_
    refine va_get (D := D) (ci := 10) (v := .int M_in) (C := RX10) (T := TX10) (N := 23) hx hb hts inX10 hown hK hP 0 rfl rfl 7 (by decide) fl_119 (fun _ h9 => h9) rfl dX10_keep_20 ?_
    obtain ⟨hi3, h⟩ := gd_in h
    refine va_iast hx hb hK hP hD hS 1 0 rfl rfl hi3 dX10_keep_23 (fun H locs hP hD hS => ?_)
    have hP : va_P D vwCl [(aM, .inr (10, [.ref aM_text, .int M_size, .int M_many, .ref aM_slips, .ref aM_lates, .ref aM_copies, .int M_little, .int M_in, .int M_streak, .int M_lot, .int M_undos, .ref aM_before, .ref aM_images, .ref aM_kept, .long M_trace, .int M_at, .int M_begin, .int M_kind, .long M_value, .int M_readMany, .int M_readLittle, .ref aM_read, .long M_below])), (aM_images, .inl (cI, 6, .inl (upd M_images ((3 : Int32) * p1).toNatClampNeg M_in))), (aM_kept, .inl (cZ, 2, .inl M_kept))] H := hP
    have hD : va_D A [(aM, .inr (10, [.ref aM_text, .int M_size, .int M_many, .ref aM_slips, .ref aM_lates, .ref aM_copies, .int M_little, .int M_in, .int M_streak, .int M_lot, .int M_undos, .ref aM_before, .ref aM_images, .ref aM_kept, .long M_trace, .int M_at, .int M_begin, .int M_kind, .long M_value, .int M_readMany, .int M_readLittle, .ref aM_read, .long M_below])), (aM_images, .inl (cI, 6, .inl (upd M_images ((3 : Int32) * p1).toNatClampNeg M_in))), (aM_kept, .inl (cZ, 2, .inl M_kept))] := hD
    refine lv_aload_n hx hb dX10_keep_24 rfl (lv_at hl 0 rfl) ?_
    refine va_get (D := D) (ci := 10) (v := .ref aM_images) (C := RX10) (T := TX10) (N := 23) hx hb hts inX10 hown hK hP 0 rfl rfl 12 (by decide) fl_29 (fun _ h9 => h9) rfl dX10_keep_25 ?_
    refine lv_iconst (v := (3 : Int32)) hx hb dX10_keep_28 (by decide) ?_
    refine lv_iload_n hx hb dX10_keep_29 rfl (lv_at hl 1 rfl) ?_
    refine lv_imul hx hb dX10_keep_30 ?_
    refine lv_iconst (v := (1 : Int32)) hx hb dX10_keep_31 (by decide) ?_
    refine lv_iadd hx hb dX10_keep_32 ?_
    refine lv_aload_n hx hb dX10_keep_33 rfl (lv_at hl 0 rfl) ?_
    refine va_get (D := D) (ci := 10) (v := .int M_streak) (C := RX10) (T := TX10) (N := 23) hx hb hts inX10 hown hK hP 0 rfl rfl 8 (by decide) fl_122 (fun _ h9 => h9) rfl dX10_keep_34 ?_
    obtain ⟨hi4, h⟩ := gd_in h
    refine va_iast hx hb hK hP hD hS 1 0 rfl rfl hi4 dX10_keep_37 (fun H locs hP hD hS => ?_)
    have hP : va_P D vwCl [(aM, .inr (10, [.ref aM_text, .int M_size, .int M_many, .ref aM_slips, .ref aM_lates, .ref aM_copies, .int M_little, .int M_in, .int M_streak, .int M_lot, .int M_undos, .ref aM_before, .ref aM_images, .ref aM_kept, .long M_trace, .int M_at, .int M_begin, .int M_kind, .long M_value, .int M_readMany, .int M_readLittle, .ref aM_read, .long M_below])), (aM_images, .inl (cI, 6, .inl (upd (upd M_images ((3 : Int32) * p1).toNatClampNeg M_in) (((3 : Int32) * p1) + (1 : Int32)).toNatClampNeg M_streak))), (aM_kept, .inl (cZ, 2, .inl M_kept))] H := hP
    have hD : va_D A [(aM, .inr (10, [.ref aM_text, .int M_size, .int M_many, .ref aM_slips, .ref aM_lates, .ref aM_copies, .int M_little, .int M_in, .int M_streak, .int M_lot, .int M_undos, .ref aM_before, .ref aM_images, .ref aM_kept, .long M_trace, .int M_at, .int M_begin, .int M_kind, .long M_value, .int M_readMany, .int M_readLittle, .ref aM_read, .long M_below])), (aM_images, .inl (cI, 6, .inl (upd (upd M_images ((3 : Int32) * p1).toNatClampNeg M_in) (((3 : Int32) * p1) + (1 : Int32)).toNatClampNeg M_streak))), (aM_kept, .inl (cZ, 2, .inl M_kept))] := hD
    refine lv_aload_n hx hb dX10_keep_38 rfl (lv_at hl 0 rfl) ?_
    refine va_get (D := D) (ci := 10) (v := .ref aM_images) (C := RX10) (T := TX10) (N := 23) hx hb hts inX10 hown hK hP 0 rfl rfl 12 (by decide) fl_29 (fun _ h9 => h9) rfl dX10_keep_39 ?_
    refine lv_iconst (v := (3 : Int32)) hx hb dX10_keep_42 (by decide) ?_
    refine lv_iload_n hx hb dX10_keep_43 rfl (lv_at hl 1 rfl) ?_
    refine lv_imul hx hb dX10_keep_44 ?_
    refine lv_iconst (v := (2 : Int32)) hx hb dX10_keep_45 (by decide) ?_
    refine lv_iadd hx hb dX10_keep_46 ?_
    refine lv_aload_n hx hb dX10_keep_47 rfl (lv_at hl 0 rfl) ?_
    refine va_get (D := D) (ci := 10) (v := .int M_lot) (C := RX10) (T := TX10) (N := 23) hx hb hts inX10 hown hK hP 0 rfl rfl 9 (by decide) fl_22 (fun _ h9 => h9) rfl dX10_keep_48 ?_
    obtain ⟨hi5, h⟩ := gd_in h
    refine va_iast hx hb hK hP hD hS 1 0 rfl rfl hi5 dX10_keep_51 (fun H locs hP hD hS => ?_)
    have hP : va_P D vwCl [(aM, .inr (10, [.ref aM_text, .int M_size, .int M_many, .ref aM_slips, .ref aM_lates, .ref aM_copies, .int M_little, .int M_in, .int M_streak, .int M_lot, .int M_undos, .ref aM_before, .ref aM_images, .ref aM_kept, .long M_trace, .int M_at, .int M_begin, .int M_kind, .long M_value, .int M_readMany, .int M_readLittle, .ref aM_read, .long M_below])), (aM_images, .inl (cI, 6, .inl (upd (upd (upd M_images ((3 : Int32) * p1).toNatClampNeg M_in) (((3 : Int32) * p1) + (1 : Int32)).toNatClampNeg M_streak) (((3 : Int32) * p1) + (2 : Int32)).toNatClampNeg M_lot))), (aM_kept, .inl (cZ, 2, .inl M_kept))] H := hP
    have hD : va_D A [(aM, .inr (10, [.ref aM_text, .int M_size, .int M_many, .ref aM_slips, .ref aM_lates, .ref aM_copies, .int M_little, .int M_in, .int M_streak, .int M_lot, .int M_undos, .ref aM_before, .ref aM_images, .ref aM_kept, .long M_trace, .int M_at, .int M_begin, .int M_kind, .long M_value, .int M_readMany, .int M_readLittle, .ref aM_read, .long M_below])), (aM_images, .inl (cI, 6, .inl (upd (upd (upd M_images ((3 : Int32) * p1).toNatClampNeg M_in) (((3 : Int32) * p1) + (1 : Int32)).toNatClampNeg M_streak) (((3 : Int32) * p1) + (2 : Int32)).toNatClampNeg M_lot))), (aM_kept, .inl (cZ, 2, .inl M_kept))] := hD
    refine lv_aload_n hx hb dX10_keep_52 rfl (lv_at hl 0 rfl) ?_
    refine va_get (D := D) (ci := 10) (v := .ref aM_kept) (C := RX10) (T := TX10) (N := 23) hx hb hts inX10 hown hK hP 0 rfl rfl 13 (by decide) fl_32 (fun _ h9 => h9) rfl dX10_keep_53 ?_
    refine lv_iload_n hx hb dX10_keep_56 rfl (lv_at hl 1 rfl) ?_
    refine lv_iconst (v := (1 : Int32)) hx hb dX10_keep_57 (by decide) ?_
    obtain ⟨hi6, h⟩ := gd_in h
    refine va_zast hx hb hK hP hD hS 2 2 rfl rfl hi6 dX10_keep_58 (fun H locs hP hD hS => ?_)
    have hP : va_P D vwCl [(aM, .inr (10, [.ref aM_text, .int M_size, .int M_many, .ref aM_slips, .ref aM_lates, .ref aM_copies, .int M_little, .int M_in, .int M_streak, .int M_lot, .int M_undos, .ref aM_before, .ref aM_images, .ref aM_kept, .long M_trace, .int M_at, .int M_begin, .int M_kind, .long M_value, .int M_readMany, .int M_readLittle, .ref aM_read, .long M_below])), (aM_images, .inl (cI, 6, .inl (upd (upd (upd M_images ((3 : Int32) * p1).toNatClampNeg M_in) (((3 : Int32) * p1) + (1 : Int32)).toNatClampNeg M_streak) (((3 : Int32) * p1) + (2 : Int32)).toNatClampNeg M_lot))), (aM_kept, .inl (cZ, 2, .inl (upd M_kept p1.toNatClampNeg (vp_nar .boolean (1 : Int32)))))] H := hP
    have hD : va_D A [(aM, .inr (10, [.ref aM_text, .int M_size, .int M_many, .ref aM_slips, .ref aM_lates, .ref aM_copies, .int M_little, .int M_in, .int M_streak, .int M_lot, .int M_undos, .ref aM_before, .ref aM_images, .ref aM_kept, .long M_trace, .int M_at, .int M_begin, .int M_kind, .long M_value, .int M_readMany, .int M_readLittle, .ref aM_read, .long M_below])), (aM_images, .inl (cI, 6, .inl (upd (upd (upd M_images ((3 : Int32) * p1).toNatClampNeg M_in) (((3 : Int32) * p1) + (1 : Int32)).toNatClampNeg M_streak) (((3 : Int32) * p1) + (2 : Int32)).toNatClampNeg M_lot))), (aM_kept, .inl (cZ, 2, .inl (upd M_kept p1.toNatClampNeg (vp_nar .boolean (1 : Int32)))))] := hD
    refine lv_aload_n hx hb dX10_keep_59 rfl (lv_at hl 0 rfl) ?_
    refine va_get (D := D) (ci := 10) (v := .int M_in) (C := RX10) (T := TX10) (N := 23) hx hb hts inX10 hown hK hP 0 rfl rfl 7 (by decide) fl_119 (fun _ h9 => h9) rfl dX10_keep_60 ?_
    obtain ⟨y7, qy7, h⟩ := ob_some h
    have hPc : va_P D vwCl [] H := hP.sub [] rfl
    refine vp_callSi (va_Run.run (va_runS (As := [.int M_in]) (rest := []) ⟨hx, hb, hml, hown, hts⟩ (c_X10_bits l D cI cJ cZ cO M_in y7 qy7) (cwS 1 hts gX10_keep_X10_bits rfl rfl rfl (by decide +kernel) ⟨Nat.le_of_ble_eq_true rfl, Nat.le_of_ble_eq_true rfl⟩) ⟨fb_p, fun U hU hW => ⟨rfl, by rw [hU]; exact hPc, KK.warm hW hKK⟩⟩ rfl rfl hl.1 rfl (lv_room (Nat.le_of_ble_eq_true rfl)) dX10_keep_63 ⟨Nat.le_of_ble_eq_true rfl, Nat.le_of_ble_eq_true rfl⟩)) (fun r hr => ?_)
    replace hr := hr.symm
    subst hr
    have hy := Option.some.inj h
    subst hy
    exact W.iret (v := y7) hx hb hr (fun t ht hW => ⟨⟨y7, (), rfl, rfl, by rw [ht]; exact hP, hD⟩, hS.F ht⟩) hS.2.2 dX10_keep_66
  · replace h := if_p c_2 h
    refine lv_iconst (v := (-1 : Int32)) hx hb dX10_keep_10 (by decide) ?_
    have hy := Option.some.inj h
    subst hy
    exact W.iret (v := (-1 : Int32)) hx hb hr (fun t ht hW => ⟨⟨(-1 : Int32), (), rfl, rfl, by rw [ht]; exact hP, hD⟩, hS.F ht⟩) hS.2.2 dX10_keep_11

def f_X10_back (M_in : Int32) (M_streak : Int32) (M_lot : Int32) (M_undos : Int32) (M_images : Nat → Int32) (M_kept : Nat → Int32) (p1 : Int32) : Option (Int32 × Int32 × Int32 × Int32 × Int32) := (if (f_X10_within p1.toInt64 (0 : Int64) (1 : Int64)) = 0 then some ((-1 : Int32), M_in, M_streak, M_lot, M_undos) else (if gIn p1 2 = true then (if (M_kept p1.toNatClampNeg) = 0 then some ((-2 : Int32), M_in, M_streak, M_lot, M_undos) else (if gIn ((3 : Int32) * p1) 6 = true then (if gIn (((3 : Int32) * p1) + (1 : Int32)) 6 = true then (if gIn (((3 : Int32) * p1) + (2 : Int32)) 6 = true then (Option.bind (f_X10_bits (M_images ((3 : Int32) * p1).toNatClampNeg)) (fun y8 => some (y8, (M_images ((3 : Int32) * p1).toNatClampNeg), (M_images (((3 : Int32) * p1) + (1 : Int32)).toNatClampNeg), (M_images (((3 : Int32) * p1) + (2 : Int32)).toNatClampNeg), (0 : Int32)))) else none) else none) else none)) else none))
set_option maxHeartbeats 8000000 in
set_option maxRecDepth 100000 in
theorem c_X10_back (l : Launch) (D : va_G) (cI cJ cZ cO : ClassId) (aM : Nat) (aM_images : Nat) (aM_kept : Nat) (aM_text : Nat) (aM_slips : Nat) (aM_lates : Nat) (aM_copies : Nat) (aM_before : Nat) (aM_read : Nat) (M_size : Int32) (M_many : Int32) (M_little : Int32) (M_in : Int32) (M_streak : Int32) (M_lot : Int32) (M_undos : Int32) (M_trace : Int64) (M_at : Int32) (M_begin : Int32) (M_kind : Int32) (M_value : Int64) (M_readMany : Int32) (M_readLittle : Int32) (M_below : Int64) (M_images : Nat → Int32) (M_kept : Nat → Int32) (sz : Nat) (p1 : Int32)  (y0 : Int32 × Int32 × Int32 × Int32 × Int32) (h : f_X10_back M_in M_streak M_lot M_undos M_images M_kept p1 = some y0) : Met l yX10_back wsX10_back ({ frames := 1, cells := 0, slots := 0, locals := 25 } : Room) (va_Pc [.ref aM, .int p1] (fun U => U.heap.size = sz ∧ va_P D vwCl [(aM, .inr (10, [.ref aM_text, .int M_size, .int M_many, .ref aM_slips, .ref aM_lates, .ref aM_copies, .int M_little, .int M_in, .int M_streak, .int M_lot, .int M_undos, .ref aM_before, .ref aM_images, .ref aM_kept, .long M_trace, .int M_at, .int M_begin, .int M_kind, .long M_value, .int M_readMany, .int M_readLittle, .ref aM_read, .long M_below])), (aM_images, .inl (cI, 6, .inl M_images)), (aM_kept, .inl (cZ, 2, .inl M_kept))] U.heap ∧ KK D cI cJ cZ cO U ∧ va_D (fun _ => True) [(aM, .inr (10, [.ref aM_text, .int M_size, .int M_many, .ref aM_slips, .ref aM_lates, .ref aM_copies, .int M_little, .int M_in, .int M_streak, .int M_lot, .int M_undos, .ref aM_before, .ref aM_images, .ref aM_kept, .long M_trace, .int M_at, .int M_begin, .int M_kind, .long M_value, .int M_readMany, .int M_readLittle, .ref aM_read, .long M_below])), (aM_images, .inl (cI, 6, .inl M_images)), (aM_kept, .inl (cZ, 2, .inl M_kept))])) (va_Qi (fun (r : Int32) (_ : Unit) => r = y0.1) (fun (_ : Unit) t => va_P D vwCl [(aM, .inr (10, [.ref aM_text, .int M_size, .int M_many, .ref aM_slips, .ref aM_lates, .ref aM_copies, .int M_little, .int y0.2.1, .int y0.2.2.1, .int y0.2.2.2.1, .int y0.2.2.2.2, .ref aM_before, .ref aM_images, .ref aM_kept, .long M_trace, .int M_at, .int M_begin, .int M_kind, .long M_value, .int M_readMany, .int M_readLittle, .ref aM_read, .long M_below])), (aM_images, .inl (cI, 6, .inl M_images)), (aM_kept, .inl (cZ, 2, .inl M_kept))] t.heap ∧ va_D (va_A [(aM, .inr (10, [.ref aM_text, .int M_size, .int M_many, .ref aM_slips, .ref aM_lates, .ref aM_copies, .int M_little, .int M_in, .int M_streak, .int M_lot, .int M_undos, .ref aM_before, .ref aM_images, .ref aM_kept, .long M_trace, .int M_at, .int M_begin, .int M_kind, .long M_value, .int M_readMany, .int M_readLittle, .ref aM_read, .long M_below])), (aM_images, .inl (cI, 6, .inl M_images)), (aM_kept, .inl (cZ, 2, .inl M_kept))] sz) [(aM, .inr (10, [.ref aM_text, .int M_size, .int M_many, .ref aM_slips, .ref aM_lates, .ref aM_copies, .int M_little, .int y0.2.1, .int y0.2.2.1, .int y0.2.2.2.1, .int y0.2.2.2.2, .ref aM_before, .ref aM_images, .ref aM_kept, .long M_trace, .int M_at, .int M_begin, .int M_kind, .long M_value, .int M_readMany, .int M_readLittle, .ref aM_read, .long M_below])), (aM_images, .inl (cI, 6, .inl M_images)), (aM_kept, .inl (cZ, 2, .inl M_kept))]) (va_A [(aM, .inr (10, [.ref aM_text, .int M_size, .int M_many, .ref aM_slips, .ref aM_lates, .ref aM_copies, .int M_little, .int M_in, .int M_streak, .int M_lot, .int M_undos, .ref aM_before, .ref aM_images, .ref aM_kept, .long M_trace, .int M_at, .int M_begin, .int M_kind, .long M_value, .int M_readMany, .int M_readLittle, .ref aM_read, .long M_below])), (aM_images, .inl (cI, 6, .inl M_images)), (aM_kept, .inl (cZ, 2, .inl M_kept))] sz)) 0 0 (va_A [(aM, .inr (10, [.ref aM_text, .int M_size, .int M_many, .ref aM_slips, .ref aM_lates, .ref aM_copies, .int M_little, .int M_in, .int M_streak, .int M_lot, .int M_undos, .ref aM_before, .ref aM_images, .ref aM_kept, .long M_trace, .int M_at, .int M_begin, .int M_kind, .long M_value, .int M_readMany, .int M_readLittle, .ref aM_read, .long M_below])), (aM_images, .inl (cI, 6, .inl M_images)), (aM_kept, .inl (cZ, 2, .inl M_kept))] sz) := by
  refine Met.ofW (cc := cX10_back) (maxL := 2) (ret := (some .int)) (by decide) rfl ?_
  intro p e s m args below meth c s₁ B hml hv
  obtain ⟨rfl, hsz, hP, hKK, hD0⟩ := hv
  have hx := B.exec
  have hb := B.bytes
  have hr := B.returns
  have hts := atoms_spec (ws := wsX10_back) B.pre
  have hown : s.vm.findClass RX10 = some m.cls := findClass_of_methodNamed B.named
  have hlocks := B.notSynchronized
  have hK := hKK.1
  have fl_22 := hts (.fieldLink RX10 22 "SimonSaysModel" "lot" "I") (by decide +kernel)
  have fl_29 := hts (.fieldLink RX10 29 "SimonSaysModel" "images" "[I") (by decide +kernel)
  have fl_32 := hts (.fieldLink RX10 32 "SimonSaysModel" "kept" "[Z") (by decide +kernel)
  have fl_119 := hts (.fieldLink RX10 119 "SimonSaysModel" "in" "I") (by decide +kernel)
  have fl_122 := hts (.fieldLink RX10 122 "SimonSaysModel" "streak" "I") (by decide +kernel)
  have fl_125 := hts (.fieldLink RX10 125 "SimonSaysModel" "undos" "I") (by decide +kernel)
  have inX10 : ∀ w ∈ wsX100, w ∈ wsX10_back := by decide +kernel
  subst hsz
  have hD := hD0.self (sz := s.heap.size)
  generalize hAe : va_A [(aM, .inr (10, [.ref aM_text, .int M_size, .int M_many, .ref aM_slips, .ref aM_lates, .ref aM_copies, .int M_little, .int M_in, .int M_streak, .int M_lot, .int M_undos, .ref aM_before, .ref aM_images, .ref aM_kept, .long M_trace, .int M_at, .int M_begin, .int M_kind, .long M_value, .int M_readMany, .int M_readLittle, .ref aM_read, .long M_below])), (aM_images, .inl (cI, 6, .inl M_images)), (aM_kept, .inl (cZ, 2, .inl M_kept))] s.heap.size = A at hD ⊢
  have hA : ∀ q : Nat, s.heap.size ≤ q → A q := fun q h => by rw [← hAe]; exact Or.inr h
  have hS : va_S A s.heap s.heap [] := va_S.rf
  have hl := lv_entry ([.ref aM, .int p1]) (n := 2) (Nat.le_of_ble_eq_true rfl)
  rw [lg_entry_eq]
  generalize (lg_sl ([.ref aM, .int p1]) ++ List.replicate (2 - (lg_sl ([.ref aM, .int p1])).length) Slot.unset).toArray = ls at hl ⊢
  have hl : lv_has ls 2 [(0, .ref aM), (1, .int p1)] := hl
  unfold f_X10_back at h
  refine lv_iload_n hx hb dX10_back_0 rfl (lv_at hl 1 rfl) ?_
  refine lv_i2l (v := p1.toInt64) hx hb dX10_back_1 rfl ?_
  refine lv_lconst (v := (0 : Int64)) hx hb dX10_back_2 (by decide) ?_
  refine lv_lconst (v := (1 : Int64)) hx hb dX10_back_3 (by decide) ?_
  have hPc : va_P D vwCl [] s.heap := hP.sub [] rfl
  refine vp_callSi (va_Run.run (va_runS (As := [.long p1.toInt64, .long (0 : Int64), .long (1 : Int64)]) (rest := []) ⟨hx, hb, hml, hown, hts⟩ (c_X10_within l D cI cJ cZ cO p1.toInt64 (0 : Int64) (1 : Int64) _ rfl) (cwS 3 hts gX10_back_X10_within rfl rfl rfl (by decide +kernel) ⟨Nat.le_of_ble_eq_true rfl, Nat.le_of_ble_eq_true rfl⟩) ⟨fb_p, fun U hU hW => ⟨rfl, by rw [hU]; exact hPc, KK.warm hW hKK⟩⟩ rfl rfl hl.1 rfl (lv_room (Nat.le_of_ble_eq_true rfl)) dX10_back_4 ⟨Nat.le_of_ble_eq_true rfl, Nat.le_of_ble_eq_true rfl⟩)) (fun r hr => ?_)
  obtain ⟨hr, hz1⟩ := hr
  replace hr := hr.symm
  subst hr
  refine lv_if_ne (tgt := 12) hx hb dX10_back_7 (by decide) (fun c_2 => ?_) (fun c_2 => ?_)
  · replace h := if_n c_2 h
    refine lv_aload_n hx hb dX10_back_12 rfl (lv_at hl 0 rfl) ?_
    refine va_get (D := D) (ci := 10) (v := .ref aM_kept) (C := RX10) (T := TX10) (N := 23) hx hb hts inX10 hown hK hP 0 rfl rfl 13 (by decide) fl_32 (fun _ h9 => h9) rfl dX10_back_13 ?_
    refine lv_iload_n hx hb dX10_back_16 rfl (lv_at hl 1 rfl) ?_
    obtain ⟨hi3, h⟩ := gd_in h
    refine va_zald hx hb hK hP 2 2 rfl rfl hi3 dX10_back_17 ?_
    refine lv_if_ne (tgt := 24) hx hb dX10_back_18 (by decide) (fun c_4 => ?_) (fun c_4 => ?_)
    · replace h := if_n c_4 h
      refine lv_aload_n hx hb dX10_back_24 rfl (lv_at hl 0 rfl) ?_
      refine lv_aload_n hx hb dX10_back_25 rfl (lv_at hl 0 rfl) ?_
      refine va_get (D := D) (ci := 10) (v := .ref aM_images) (C := RX10) (T := TX10) (N := 23) hx hb hts inX10 hown hK hP 0 rfl rfl 12 (by decide) fl_29 (fun _ h9 => h9) rfl dX10_back_26 ?_
      refine lv_iconst (v := (3 : Int32)) hx hb dX10_back_29 (by decide) ?_
      refine lv_iload_n hx hb dX10_back_30 rfl (lv_at hl 1 rfl) ?_
      refine lv_imul hx hb dX10_back_31 ?_
      obtain ⟨hi5, h⟩ := gd_in h
      refine va_iald hx hb hK hP 1 0 rfl rfl hi5 dX10_back_32 ?_
      refine va_put (D := D) (ci := 10) (v := .int (M_images ((3 : Int32) * p1).toNatClampNeg)) (ty := .int) (C := RX10) (T := TX10) (N := 23) hx hb hts inX10 tyX10 tyX10_ok nmX10 hown hK hP hD hS 0 rfl rfl 7 (by decide) fl_119 (fun _ h9 => h9) rfl (by decide +kernel) rfl rfl (Nat.le_of_ble_eq_true rfl) dX10_back_33 (fun H locs hP hD hS => ?_)
      have hP : va_P D vwCl [(aM, .inr (10, [.ref aM_text, .int M_size, .int M_many, .ref aM_slips, .ref aM_lates, .ref aM_copies, .int M_little, .int (M_images ((3 : Int32) * p1).toNatClampNeg), .int M_streak, .int M_lot, .int M_undos, .ref aM_before, .ref aM_images, .ref aM_kept, .long M_trace, .int M_at, .int M_begin, .int M_kind, .long M_value, .int M_readMany, .int M_readLittle, .ref aM_read, .long M_below])), (aM_images, .inl (cI, 6, .inl M_images)), (aM_kept, .inl (cZ, 2, .inl M_kept))] H := hP
      have hD : va_D A [(aM, .inr (10, [.ref aM_text, .int M_size, .int M_many, .ref aM_slips, .ref aM_lates, .ref aM_copies, .int M_little, .int (M_images ((3 : Int32) * p1).toNatClampNeg), .int M_streak, .int M_lot, .int M_undos, .ref aM_before, .ref aM_images, .ref aM_kept, .long M_trace, .int M_at, .int M_begin, .int M_kind, .long M_value, .int M_readMany, .int M_readLittle, .ref aM_read, .long M_below])), (aM_images, .inl (cI, 6, .inl M_images)), (aM_kept, .inl (cZ, 2, .inl M_kept))] := hD
      refine lv_aload_n hx hb dX10_back_36 rfl (lv_at hl 0 rfl) ?_
      refine lv_aload_n hx hb dX10_back_37 rfl (lv_at hl 0 rfl) ?_
      refine va_get (D := D) (ci := 10) (v := .ref aM_images) (C := RX10) (T := TX10) (N := 23) hx hb hts inX10 hown hK hP 0 rfl rfl 12 (by decide) fl_29 (fun _ h9 => h9) rfl dX10_back_38 ?_
      refine lv_iconst (v := (3 : Int32)) hx hb dX10_back_41 (by decide) ?_
      refine lv_iload_n hx hb dX10_back_42 rfl (lv_at hl 1 rfl) ?_
      refine lv_imul hx hb dX10_back_43 ?_
      refine lv_iconst (v := (1 : Int32)) hx hb dX10_back_44 (by decide) ?_
      refine lv_iadd hx hb dX10_back_45 ?_
      obtain ⟨hi6, h⟩ := gd_in h
      refine va_iald hx hb hK hP 1 0 rfl rfl hi6 dX10_back_46 ?_
      refine va_put (D := D) (ci := 10) (v := .int (M_images (((3 : Int32) * p1) + (1 : Int32)).toNatClampNeg)) (ty := .int) (C := RX10) (T := TX10) (N := 23) hx hb hts inX10 tyX10 tyX10_ok nmX10 hown hK hP hD hS 0 rfl rfl 8 (by decide) fl_122 (fun _ h9 => h9) rfl (by decide +kernel) rfl rfl (Nat.le_of_ble_eq_true rfl) dX10_back_47 (fun H locs hP hD hS => ?_)
      have hP : va_P D vwCl [(aM, .inr (10, [.ref aM_text, .int M_size, .int M_many, .ref aM_slips, .ref aM_lates, .ref aM_copies, .int M_little, .int (M_images ((3 : Int32) * p1).toNatClampNeg), .int (M_images (((3 : Int32) * p1) + (1 : Int32)).toNatClampNeg), .int M_lot, .int M_undos, .ref aM_before, .ref aM_images, .ref aM_kept, .long M_trace, .int M_at, .int M_begin, .int M_kind, .long M_value, .int M_readMany, .int M_readLittle, .ref aM_read, .long M_below])), (aM_images, .inl (cI, 6, .inl M_images)), (aM_kept, .inl (cZ, 2, .inl M_kept))] H := hP
      have hD : va_D A [(aM, .inr (10, [.ref aM_text, .int M_size, .int M_many, .ref aM_slips, .ref aM_lates, .ref aM_copies, .int M_little, .int (M_images ((3 : Int32) * p1).toNatClampNeg), .int (M_images (((3 : Int32) * p1) + (1 : Int32)).toNatClampNeg), .int M_lot, .int M_undos, .ref aM_before, .ref aM_images, .ref aM_kept, .long M_trace, .int M_at, .int M_begin, .int M_kind, .long M_value, .int M_readMany, .int M_readLittle, .ref aM_read, .long M_below])), (aM_images, .inl (cI, 6, .inl M_images)), (aM_kept, .inl (cZ, 2, .inl M_kept))] := hD
      refine lv_aload_n hx hb dX10_back_50 rfl (lv_at hl 0 rfl) ?_
      refine lv_aload_n hx hb dX10_back_51 rfl (lv_at hl 0 rfl) ?_
      refine va_get (D := D) (ci := 10) (v := .ref aM_images) (C := RX10) (T := TX10) (N := 23) hx hb hts inX10 hown hK hP 0 rfl rfl 12 (by decide) fl_29 (fun _ h9 => h9) rfl dX10_back_52 ?_
      refine lv_iconst (v := (3 : Int32)) hx hb dX10_back_55 (by decide) ?_
      refine lv_iload_n hx hb dX10_back_56 rfl (lv_at hl 1 rfl) ?_
      refine lv_imul hx hb dX10_back_57 ?_
      refine lv_iconst (v := (2 : Int32)) hx hb dX10_back_58 (by decide) ?_
      refine lv_iadd hx hb dX10_back_59 ?_
      obtain ⟨hi7, h⟩ := gd_in h
      refine va_iald hx hb hK hP 1 0 rfl rfl hi7 dX10_back_60 ?_
      refine va_put (D := D) (ci := 10) (v := .int (M_images (((3 : Int32) * p1) + (2 : Int32)).toNatClampNeg)) (ty := .int) (C := RX10) (T := TX10) (N := 23) hx hb hts inX10 tyX10 tyX10_ok nmX10 hown hK hP hD hS 0 rfl rfl 9 (by decide) fl_22 (fun _ h9 => h9) rfl (by decide +kernel) rfl rfl (Nat.le_of_ble_eq_true rfl) dX10_back_61 (fun H locs hP hD hS => ?_)
      have hP : va_P D vwCl [(aM, .inr (10, [.ref aM_text, .int M_size, .int M_many, .ref aM_slips, .ref aM_lates, .ref aM_copies, .int M_little, .int (M_images ((3 : Int32) * p1).toNatClampNeg), .int (M_images (((3 : Int32) * p1) + (1 : Int32)).toNatClampNeg), .int (M_images (((3 : Int32) * p1) + (2 : Int32)).toNatClampNeg), .int M_undos, .ref aM_before, .ref aM_images, .ref aM_kept, .long M_trace, .int M_at, .int M_begin, .int M_kind, .long M_value, .int M_readMany, .int M_readLittle, .ref aM_read, .long M_below])), (aM_images, .inl (cI, 6, .inl M_images)), (aM_kept, .inl (cZ, 2, .inl M_kept))] H := hP
      have hD : va_D A [(aM, .inr (10, [.ref aM_text, .int M_size, .int M_many, .ref aM_slips, .ref aM_lates, .ref aM_copies, .int M_little, .int (M_images ((3 : Int32) * p1).toNatClampNeg), .int (M_images (((3 : Int32) * p1) + (1 : Int32)).toNatClampNeg), .int (M_images (((3 : Int32) * p1) + (2 : Int32)).toNatClampNeg), .int M_undos, .ref aM_before, .ref aM_images, .ref aM_kept, .long M_trace, .int M_at, .int M_begin, .int M_kind, .long M_value, .int M_readMany, .int M_readLittle, .ref aM_read, .long M_below])), (aM_images, .inl (cI, 6, .inl M_images)), (aM_kept, .inl (cZ, 2, .inl M_kept))] := hD
      refine lv_aload_n hx hb dX10_back_64 rfl (lv_at hl 0 rfl) ?_
      refine lv_iconst (v := (0 : Int32)) hx hb dX10_back_65 (by decide) ?_
      refine va_put (D := D) (ci := 10) (v := .int (0 : Int32)) (ty := .int) (C := RX10) (T := TX10) (N := 23) hx hb hts inX10 tyX10 tyX10_ok nmX10 hown hK hP hD hS 0 rfl rfl 10 (by decide) fl_125 (fun _ h9 => h9) rfl (by decide +kernel) rfl rfl (Nat.le_of_ble_eq_true rfl) dX10_back_66 (fun H locs hP hD hS => ?_)
      have hP : va_P D vwCl [(aM, .inr (10, [.ref aM_text, .int M_size, .int M_many, .ref aM_slips, .ref aM_lates, .ref aM_copies, .int M_little, .int (M_images ((3 : Int32) * p1).toNatClampNeg), .int (M_images (((3 : Int32) * p1) + (1 : Int32)).toNatClampNeg), .int (M_images (((3 : Int32) * p1) + (2 : Int32)).toNatClampNeg), .int (0 : Int32), .ref aM_before, .ref aM_images, .ref aM_kept, .long M_trace, .int M_at, .int M_begin, .int M_kind, .long M_value, .int M_readMany, .int M_readLittle, .ref aM_read, .long M_below])), (aM_images, .inl (cI, 6, .inl M_images)), (aM_kept, .inl (cZ, 2, .inl M_kept))] H := hP
      have hD : va_D A [(aM, .inr (10, [.ref aM_text, .int M_size, .int M_many, .ref aM_slips, .ref aM_lates, .ref aM_copies, .int M_little, .int (M_images ((3 : Int32) * p1).toNatClampNeg), .int (M_images (((3 : Int32) * p1) + (1 : Int32)).toNatClampNeg), .int (M_images (((3 : Int32) * p1) + (2 : Int32)).toNatClampNeg), .int (0 : Int32), .ref aM_before, .ref aM_images, .ref aM_kept, .long M_trace, .int M_at, .int M_begin, .int M_kind, .long M_value, .int M_readMany, .int M_readLittle, .ref aM_read, .long M_below])), (aM_images, .inl (cI, 6, .inl M_images)), (aM_kept, .inl (cZ, 2, .inl M_kept))] := hD
      refine lv_aload_n hx hb dX10_back_69 rfl (lv_at hl 0 rfl) ?_
      refine va_get (D := D) (ci := 10) (v := .int (M_images ((3 : Int32) * p1).toNatClampNeg)) (C := RX10) (T := TX10) (N := 23) hx hb hts inX10 hown hK hP 0 rfl rfl 7 (by decide) fl_119 (fun _ h9 => h9) rfl dX10_back_70 ?_
      obtain ⟨y8, qy8, h⟩ := ob_some h
      have hPc : va_P D vwCl [] H := hP.sub [] rfl
      refine vp_callSi (va_Run.run (va_runS (As := [.int (M_images ((3 : Int32) * p1).toNatClampNeg)]) (rest := []) ⟨hx, hb, hml, hown, hts⟩ (c_X10_bits l D cI cJ cZ cO (M_images ((3 : Int32) * p1).toNatClampNeg) y8 qy8) (cwS 1 hts gX10_back_X10_bits rfl rfl rfl (by decide +kernel) ⟨Nat.le_of_ble_eq_true rfl, Nat.le_of_ble_eq_true rfl⟩) ⟨fb_p, fun U hU hW => ⟨rfl, by rw [hU]; exact hPc, KK.warm hW hKK⟩⟩ rfl rfl hl.1 rfl (lv_room (Nat.le_of_ble_eq_true rfl)) dX10_back_73 ⟨Nat.le_of_ble_eq_true rfl, Nat.le_of_ble_eq_true rfl⟩)) (fun r hr => ?_)
      replace hr := hr.symm
      subst hr
      have hy := Option.some.inj h
      subst hy
      exact W.iret (v := y8) hx hb hr (fun t ht hW => ⟨⟨y8, (), rfl, rfl, by rw [ht]; exact hP, hD⟩, hS.F ht⟩) hS.2.2 dX10_back_76
    · replace h := if_p c_4 h
      refine lv_bipush (v := (-2 : Int32)) hx hb dX10_back_21 (by decide) ?_
      have hy := Option.some.inj h
      subst hy
      exact W.iret (v := (-2 : Int32)) hx hb hr (fun t ht hW => ⟨⟨(-2 : Int32), (), rfl, rfl, by rw [ht]; exact hP, hD⟩, hS.F ht⟩) hS.2.2 dX10_back_23
  · replace h := if_p c_2 h
    refine lv_iconst (v := (-1 : Int32)) hx hb dX10_back_10 (by decide) ?_
    have hy := Option.some.inj h
    subst hy
    exact W.iret (v := (-1 : Int32)) hx hb hr (fun t ht hW => ⟨⟨(-1 : Int32), (), rfl, rfl, by rw [ht]; exact hP, hD⟩, hS.F ht⟩) hS.2.2 dX10_back_11

def f_X10_count (M_size : Int32) (M_many : Int32) (M_little : Int32) (M_in : Int32) (p1 : Int32) : Option (Int32) := (if p1 = 0 then some M_many else (if p1 = (1 : Int32) then (Option.bind (f_X10_bits M_little) (fun y6 => some y6)) else (if p1 = (2 : Int32) then (Option.bind (f_X10_bits M_in) (fun y5 => some y5)) else (if p1 = (3 : Int32) then some M_size else some (-1 : Int32)))))
set_option maxHeartbeats 8000000 in
set_option maxRecDepth 100000 in
theorem c_X10_count (l : Launch) (D : va_G) (cI cJ cZ cO : ClassId) (aM : Nat) (aM_text : Nat) (aM_slips : Nat) (aM_lates : Nat) (aM_copies : Nat) (aM_before : Nat) (aM_images : Nat) (aM_kept : Nat) (aM_read : Nat) (M_size : Int32) (M_many : Int32) (M_little : Int32) (M_in : Int32) (M_streak : Int32) (M_lot : Int32) (M_undos : Int32) (M_trace : Int64) (M_at : Int32) (M_begin : Int32) (M_kind : Int32) (M_value : Int64) (M_readMany : Int32) (M_readLittle : Int32) (M_below : Int64)  (p1 : Int32)  (y0 : Int32) (h : f_X10_count M_size M_many M_little M_in p1 = some y0) : Met l yX10_count wsX10_count ({ frames := 1, cells := 0, slots := 0, locals := 22 } : Room) (va_Pc [.ref aM, .int p1] (fun U => va_P D vwCl [(aM, .inr (10, [.ref aM_text, .int M_size, .int M_many, .ref aM_slips, .ref aM_lates, .ref aM_copies, .int M_little, .int M_in, .int M_streak, .int M_lot, .int M_undos, .ref aM_before, .ref aM_images, .ref aM_kept, .long M_trace, .int M_at, .int M_begin, .int M_kind, .long M_value, .int M_readMany, .int M_readLittle, .ref aM_read, .long M_below]))] U.heap ∧ KK D cI cJ cZ cO U)) (vp_Si (fun r => r = y0)) 0 0 (fun _ => False) := by
  refine Met.ofW (cc := cX10_count) (maxL := 2) (ret := (some .int)) (by decide) rfl ?_
  intro p e s m args below meth c s₁ B hml hv
  obtain ⟨rfl, hP, hKK⟩ := hv
  have hx := B.exec
  have hb := B.bytes
  have hr := B.returns
  have hts := atoms_spec (ws := wsX10_count) B.pre
  have hown : s.vm.findClass RX10 = some m.cls := findClass_of_methodNamed B.named
  have hlocks := B.notSynchronized
  have hK := hKK.1
  have fl_39 := hts (.fieldLink RX10 39 "SimonSaysModel" "many" "I") (by decide +kernel)
  have fl_50 := hts (.fieldLink RX10 50 "SimonSaysModel" "size" "I") (by decide +kernel)
  have fl_116 := hts (.fieldLink RX10 116 "SimonSaysModel" "little" "I") (by decide +kernel)
  have fl_119 := hts (.fieldLink RX10 119 "SimonSaysModel" "in" "I") (by decide +kernel)
  have inX10 : ∀ w ∈ wsX100, w ∈ wsX10_count := by decide +kernel
  have hl := lv_entry ([.ref aM, .int p1]) (n := 2) (Nat.le_of_ble_eq_true rfl)
  rw [lg_entry_eq]
  generalize (lg_sl ([.ref aM, .int p1]) ++ List.replicate (2 - (lg_sl ([.ref aM, .int p1])).length) Slot.unset).toArray = ls at hl ⊢
  have hl : lv_has ls 2 [(0, .ref aM), (1, .int p1)] := hl
  unfold f_X10_count at h
  refine lv_iload_n hx hb dX10_count_0 rfl (lv_at hl 1 rfl) ?_
  refine lv_if_ne (tgt := 11) hx hb dX10_count_1 (by decide) (fun c_1 => ?_) (fun c_1 => ?_)
  · replace h := if_n c_1 h
    refine lv_iload_n hx hb dX10_count_11 rfl (lv_at hl 1 rfl) ?_
    refine lv_iconst (v := (1 : Int32)) hx hb dX10_count_12 (by decide) ?_
    refine lv_icmp_ne (tgt := 26) hx hb dX10_count_13 (by decide) (fun c_2 => ?_) (fun c_2 => ?_)
    · replace h := if_n c_2 h
      refine lv_iload_n hx hb dX10_count_26 rfl (lv_at hl 1 rfl) ?_
      refine lv_iconst (v := (2 : Int32)) hx hb dX10_count_27 (by decide) ?_
      refine lv_icmp_ne (tgt := 41) hx hb dX10_count_28 (by decide) (fun c_3 => ?_) (fun c_3 => ?_)
      · replace h := if_n c_3 h
        refine lv_iload_n hx hb dX10_count_41 rfl (lv_at hl 1 rfl) ?_
        refine lv_iconst (v := (3 : Int32)) hx hb dX10_count_42 (by decide) ?_
        refine lv_icmp_ne (tgt := 53) hx hb dX10_count_43 (by decide) (fun c_4 => ?_) (fun c_4 => ?_)
        · replace h := if_n c_4 h
          refine lv_iconst (v := (-1 : Int32)) hx hb dX10_count_53 (by decide) ?_
          exact pr_i hx hb hr hlocks dX10_count_54 (Option.some.inj h)
        · replace h := if_p c_4 h
          refine lv_aload_n hx hb dX10_count_46 rfl (lv_at hl 0 rfl) ?_
          refine va_get (D := D) (ci := 10) (v := .int M_size) (C := RX10) (T := TX10) (N := 23) hx hb hts inX10 hown hK hP 0 rfl rfl 1 (by decide) fl_50 (fun _ h9 => h9) rfl dX10_count_47 ?_
          refine lv_goto (tgt := 54) hx hb dX10_count_50 (by decide) ?_
          exact pr_i hx hb hr hlocks dX10_count_54 (Option.some.inj h)
      · replace h := if_p c_3 h
        refine lv_aload_n hx hb dX10_count_31 rfl (lv_at hl 0 rfl) ?_
        refine va_get (D := D) (ci := 10) (v := .int M_in) (C := RX10) (T := TX10) (N := 23) hx hb hts inX10 hown hK hP 0 rfl rfl 7 (by decide) fl_119 (fun _ h9 => h9) rfl dX10_count_32 ?_
        obtain ⟨y5, qy5, h⟩ := ob_some h
        have hPc : va_P D vwCl [] s.heap := hP.sub [] rfl
        refine vp_callSi (va_Run.run (va_runS (As := [.int M_in]) (rest := []) ⟨hx, hb, hml, hown, hts⟩ (c_X10_bits l D cI cJ cZ cO M_in y5 qy5) (cwS 1 hts gX10_count_X10_bits rfl rfl rfl (by decide +kernel) ⟨Nat.le_of_ble_eq_true rfl, Nat.le_of_ble_eq_true rfl⟩) ⟨fb_p, fun U hU hW => ⟨rfl, by rw [hU]; exact hPc, KK.warm hW hKK⟩⟩ rfl rfl hl.1 rfl (lv_room (Nat.le_of_ble_eq_true rfl)) dX10_count_35 ⟨Nat.le_of_ble_eq_true rfl, Nat.le_of_ble_eq_true rfl⟩)) (fun r hr => ?_)
        replace hr := hr.symm
        subst hr
        refine lv_goto (tgt := 54) hx hb dX10_count_38 (by decide) ?_
        exact pr_i hx hb hr hlocks dX10_count_54 (Option.some.inj h)
    · replace h := if_p c_2 h
      refine lv_aload_n hx hb dX10_count_16 rfl (lv_at hl 0 rfl) ?_
      refine va_get (D := D) (ci := 10) (v := .int M_little) (C := RX10) (T := TX10) (N := 23) hx hb hts inX10 hown hK hP 0 rfl rfl 6 (by decide) fl_116 (fun _ h9 => h9) rfl dX10_count_17 ?_
      obtain ⟨y6, qy6, h⟩ := ob_some h
      have hPc : va_P D vwCl [] s.heap := hP.sub [] rfl
      refine vp_callSi (va_Run.run (va_runS (As := [.int M_little]) (rest := []) ⟨hx, hb, hml, hown, hts⟩ (c_X10_bits l D cI cJ cZ cO M_little y6 qy6) (cwS 1 hts gX10_count_X10_bits rfl rfl rfl (by decide +kernel) ⟨Nat.le_of_ble_eq_true rfl, Nat.le_of_ble_eq_true rfl⟩) ⟨fb_p, fun U hU hW => ⟨rfl, by rw [hU]; exact hPc, KK.warm hW hKK⟩⟩ rfl rfl hl.1 rfl (lv_room (Nat.le_of_ble_eq_true rfl)) dX10_count_20 ⟨Nat.le_of_ble_eq_true rfl, Nat.le_of_ble_eq_true rfl⟩)) (fun r hr => ?_)
      replace hr := hr.symm
      subst hr
      refine lv_goto (tgt := 54) hx hb dX10_count_23 (by decide) ?_
      exact pr_i hx hb hr hlocks dX10_count_54 (Option.some.inj h)
  · replace h := if_p c_1 h
    refine lv_aload_n hx hb dX10_count_4 rfl (lv_at hl 0 rfl) ?_
    refine va_get (D := D) (ci := 10) (v := .int M_many) (C := RX10) (T := TX10) (N := 23) hx hb hts inX10 hown hK hP 0 rfl rfl 2 (by decide) fl_39 (fun _ h9 => h9) rfl dX10_count_5 ?_
    refine lv_goto (tgt := 54) hx hb dX10_count_8 (by decide) ?_
    exact pr_i hx hb hr hlocks dX10_count_54 (Option.some.inj h)

def f_X10_trace (M_trace : Int64) : Int64 := M_trace
set_option maxHeartbeats 8000000 in
set_option maxRecDepth 100000 in
theorem c_X10_trace (l : Launch) (D : va_G) (cI cJ cZ cO : ClassId) (aM : Nat) (aM_text : Nat) (aM_slips : Nat) (aM_lates : Nat) (aM_copies : Nat) (aM_before : Nat) (aM_images : Nat) (aM_kept : Nat) (aM_read : Nat) (M_size : Int32) (M_many : Int32) (M_little : Int32) (M_in : Int32) (M_streak : Int32) (M_lot : Int32) (M_undos : Int32) (M_trace : Int64) (M_at : Int32) (M_begin : Int32) (M_kind : Int32) (M_value : Int64) (M_readMany : Int32) (M_readLittle : Int32) (M_below : Int64)    (y0 : Int64) (h : f_X10_trace M_trace = y0) : Met l yX10_trace wsX10_trace ({ frames := 0, cells := 0, slots := 0, locals := 0 } : Room) (va_Pc [.ref aM] (fun U => va_P D vwCl [(aM, .inr (10, [.ref aM_text, .int M_size, .int M_many, .ref aM_slips, .ref aM_lates, .ref aM_copies, .int M_little, .int M_in, .int M_streak, .int M_lot, .int M_undos, .ref aM_before, .ref aM_images, .ref aM_kept, .long M_trace, .int M_at, .int M_begin, .int M_kind, .long M_value, .int M_readMany, .int M_readLittle, .ref aM_read, .long M_below]))] U.heap ∧ KK D cI cJ cZ cO U)) (vp_Sl (fun r => r = y0)) 0 0 (fun _ => False) := by
  refine Met.ofW (cc := cX10_trace) (maxL := 1) (ret := (some .long)) (by decide) rfl ?_
  intro p e s m args below meth c s₁ B hml hv
  obtain ⟨rfl, hP, hKK⟩ := hv
  have hx := B.exec
  have hb := B.bytes
  have hr := B.returns
  have hts := atoms_spec (ws := wsX10_trace) B.pre
  have hown : s.vm.findClass RX10 = some m.cls := findClass_of_methodNamed B.named
  have hlocks := B.notSynchronized
  have hK := hKK.1
  have fl_204 := hts (.fieldLink RX10 204 "SimonSaysModel" "trace" "J") (by decide +kernel)
  have inX10 : ∀ w ∈ wsX100, w ∈ wsX10_trace := by decide +kernel
  have hl := lv_entry ([.ref aM]) (n := 1) (Nat.le_of_ble_eq_true rfl)
  rw [lg_entry_eq]
  generalize (lg_sl ([.ref aM]) ++ List.replicate (1 - (lg_sl ([.ref aM])).length) Slot.unset).toArray = ls at hl ⊢
  have hl : lv_has ls 1 [(0, .ref aM)] := hl
  unfold f_X10_trace at h
  refine lv_aload_n hx hb dX10_trace_0 rfl (lv_at hl 0 rfl) ?_
  refine va_get (D := D) (ci := 10) (v := .long M_trace) (C := RX10) (T := TX10) (N := 23) hx hb hts inX10 hown hK hP 0 rfl rfl 14 (by decide) fl_204 (fun _ h9 => h9) rfl dX10_trace_1 ?_
  exact pr_l hx hb hr hlocks dX10_trace_4 h
