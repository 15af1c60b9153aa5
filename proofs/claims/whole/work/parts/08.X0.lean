def f_X0_lower_L4 (R_in : Int32) (T_size : Int32) (T_copied : Nat → Int32) : Nat → Int32 → Int32 → Int32 → Option (Int64)
  | 0, _, _, _ => none
  | n + 1, x1, x2, x3 => (if (f_X1_size T_size) ≤ x3 then (Option.bind (f_X9_powerOfTen (x2 * x1)) (fun y2 => some y2)) else (Option.bind (f_X6_isLeader R_in T_size T_copied x3) (fun y3 => (if y3 = 0 then f_X0_lower_L4 R_in T_size T_copied n x1 x2 (x3 + (1 : Int32)) else f_X0_lower_L4 R_in T_size T_copied n x1 (x2 + (1 : Int32)) (x3 + (1 : Int32))))))
def f_X0_lower (R_in : Int32) (T_size : Int32) (T_copied : Nat → Int32) (p1 : Int32) : Option (Int64) := f_X0_lower_L4 R_in T_size T_copied 300 p1 (0 : Int32) (0 : Int32)
set_option maxHeartbeats 8000000 in
set_option maxRecDepth 100000 in
theorem c_X0_lower (l : Launch) (D : va_G) (cI cJ cZ cO : ClassId) (aR : Nat) (aT : Nat) (aT_copied : Nat) (aC : Nat) (aT_slips : Nat) (aT_lates : Nat) (aW : Nat) (aC_byNumber : Nat) (R_in : Int32) (R_streak : Int32) (R_lot : Int32) (T_size : Int32) (T_littleOnes : Int32) (T_copied : Nat → Int32)  (p1 : Int32)  (y0 : Int64) (h : f_X0_lower R_in T_size T_copied p1 = some y0) : Met l yX0_lower wsX0_lower ({ frames := 4, cells := 0, slots := 0, locals := 87 } : Room) (va_Pc [.ref aC, .int p1] (fun U => va_P D vwCl [(aR, .inr (6, [.ref aT, .int R_in, .int R_streak, .int R_lot])), (aT, .inr (1, [.ref aT_slips, .ref aT_lates, .ref aT_copied, .int T_size, .int T_littleOnes])), (aT_copied, .inl (cI, 6, .inl T_copied)), (aC, .inr (0, [.ref aT, .ref aR, .ref aW, .ref aC_byNumber]))] U.heap ∧ KK D cI cJ cZ cO U)) (vp_Sl (fun r => r = y0)) 0 0 (fun _ => False) := by
  refine Met.ofW (cc := cX0_lower) (maxL := 4) (ret := (some .long)) (by decide) rfl ?_
  intro p e s m args below meth c s₁ B hml hv
  obtain ⟨rfl, hP, hKK⟩ := hv
  have hx := B.exec
  have hb := B.bytes
  have hr := B.returns
  have hts := atoms_spec (ws := wsX0_lower) B.pre
  have hown : s.vm.findClass RX0 = some m.cls := findClass_of_methodNamed B.named
  have hlocks := B.notSynchronized
  have hK := hKK.1
  have fl_9 := hts (.fieldLink RX0 9 "SimonSays$Chances" "told" "LSimonSays$Children;") (by decide +kernel)
  have fl_15 := hts (.fieldLink RX0 15 "SimonSays$Chances" "round" "LSimonSays$Round;") (by decide +kernel)
  have ini_X9 := hts (.initialized RX9) (by decide +kernel)
  have sta_X9_powerOfTen := hts (.static yX9_powerOfTen) (by decide +kernel)
  have inX0 : ∀ w ∈ wsX00, w ∈ wsX0_lower := by decide +kernel
  have hl := lv_entry ([.ref aC, .int p1]) (n := 4) (Nat.le_of_ble_eq_true rfl)
  rw [lg_entry_eq]
  generalize (lg_sl ([.ref aC, .int p1]) ++ List.replicate (4 - (lg_sl ([.ref aC, .int p1])).length) Slot.unset).toArray = ls at hl ⊢
  have hl : lv_has ls 4 [(0, .ref aC), (1, .int p1)] := hl
  have L4 : ∀ (n : Nat), ∀ (x1 : Int32) (x2 : Int32) (x3 : Int32), ∀ (ls : Array Slot), lv_has ls 4 [(0, .ref aC), (1, .int x1), (2, .int x2), (3, .int x3)] → f_X0_lower_L4 R_in T_size T_copied n x1 x2 x3 = some y0 → W p l e (headSpec wsX0_lower ({ frames := 4, cells := 0, slots := 0, locals := 87 } : Room)).room s m ([.ref aC, .int p1] : List Value).toArray below meth c s.heap [] 0 0 (MQ below (vp_Sl (fun r => r = y0)) ([.ref aC, .int p1] : List Value).toArray s 0 0 (fun _ => False)) (F0 m 4 ls []) := by
    intro n
    induction n with
    | zero =>
      intro x1 x2 x3 ls hl h
      exact (ns h).elim
    | succ n ih =>
      intro x1 x2 x3 ls hl h
      unfold f_X0_lower_L4 at h
      refine lv_iload_n hx hb dX0_lower_4 rfl (lv_at hl 3 rfl) ?_
      refine lv_aload_n hx hb dX0_lower_5 rfl (lv_at hl 0 rfl) ?_
      refine va_get (D := D) (ci := 0) (v := .ref aT) (C := RX0) (T := TX0) (N := 4) hx hb hts inX0 hown hK hP 3 rfl rfl 0 (by decide) fl_9 (fun _ h9 => h9) rfl dX0_lower_6 ?_
      have hPc : va_P D vwCl [(aT, .inr (1, [.ref aT_slips, .ref aT_lates, .ref aT_copied, .int T_size, .int T_littleOnes]))] s.heap := hP.sub [1] rfl
      refine vp_callSi (va_Run.run (va_runV (As := []) (rest := [.int x3]) ⟨hx, hb, hml, hown, hts⟩ (c_X1_size l D cI cJ cZ cO aT aT_slips aT_lates aT_copied T_size T_littleOnes _ rfl) (cwV 0 hts gX0_lower_X1_size rfl rfl rfl (by decide +kernel) ⟨Nat.le_of_ble_eq_true rfl, Nat.le_of_ble_eq_true rfl⟩) ⟨fb_p, va_recv hK hP (ci := 1) (q0 := 1) rfl rfl, fun U hU hW => ⟨rfl, by rw [hU]; exact hPc, KK.warm hW hKK⟩⟩ rfl rfl hl.1 rfl (lv_room (Nat.le_of_ble_eq_true rfl)) dX0_lower_9 ⟨Nat.le_of_ble_eq_true rfl, Nat.le_of_ble_eq_true rfl⟩)) (fun r hr => ?_)
      replace hr := hr.symm
      subst hr
      refine lv_icmp_ge (tgt := 35) hx hb dX0_lower_12 (by decide) (fun c_1 => ?_) (fun c_1 => ?_)
      · replace h := if_p c_1 h
        refine lv_iload_n hx hb dX0_lower_35 rfl (lv_at hl 2 rfl) ?_
        refine lv_iload_n hx hb dX0_lower_36 rfl (lv_at hl 1 rfl) ?_
        refine lv_imul hx hb dX0_lower_37 ?_
        obtain ⟨y2, qy2, h⟩ := ob_some h
        have hPc : va_P D vwCl [] s.heap := hP.sub [] rfl
        refine vp_callSl (va_Run.run (va_runSN (As := [.int (x2 * x1)]) (rest := []) ⟨hx, hb, hml, hown, hts⟩ (c_X9_powerOfTen l D cI cJ cZ cO (x2 * x1) y2 qy2) ⟨va_cnB (host := "SimonSays") 1 hts gX0_lower_X9_powerOfTen_n39 rfl rfl rfl (gN_X0_39 hKK.2) ini_X9 (by decide +kernel) ⟨Nat.le_of_ble_eq_true rfl, Nat.le_of_ble_eq_true rfl⟩, sta_X9_powerOfTen, trivial⟩ ⟨fb_p, fun U hU hW => ⟨rfl, by rw [hU]; exact hPc, KK.warm hW hKK⟩⟩ rfl rfl hl.1 rfl (lv_room (Nat.le_of_ble_eq_true rfl)) dX0_lower_38 ⟨Nat.le_of_ble_eq_true rfl, Nat.le_of_ble_eq_true rfl⟩)) (fun r hr => ?_)
        replace hr := hr.symm
        subst hr
        exact pr_l hx hb hr hlocks dX0_lower_41 (Option.some.inj h)
      · replace h := if_n c_1 h
        refine lv_aload_n hx hb dX0_lower_15 rfl (lv_at hl 0 rfl) ?_
        refine va_get (D := D) (ci := 0) (v := .ref aR) (C := RX0) (T := TX0) (N := 4) hx hb hts inX0 hown hK hP 3 rfl rfl 1 (by decide) fl_15 (fun _ h9 => h9) rfl dX0_lower_16 ?_
        refine lv_iload_n hx hb dX0_lower_19 rfl (lv_at hl 3 rfl) ?_
        obtain ⟨y3, qy3, h⟩ := ob_some h
        have hPc : va_P D vwCl [(aR, .inr (6, [.ref aT, .int R_in, .int R_streak, .int R_lot])), (aT, .inr (1, [.ref aT_slips, .ref aT_lates, .ref aT_copied, .int T_size, .int T_littleOnes])), (aT_copied, .inl (cI, 6, .inl T_copied))] s.heap := hP.sub [0, 1, 2] rfl
        refine vp_callSi (va_Run.run (va_runV (As := [.int x3]) (rest := []) ⟨hx, hb, hml, hown, hts⟩ (c_X6_isLeader l D cI cJ cZ cO aR aT aT_copied aT_slips aT_lates R_in R_streak R_lot T_size T_littleOnes T_copied x3 y3 qy3) (cwV 1 hts gX0_lower_X6_isLeader rfl rfl rfl (by decide +kernel) ⟨Nat.le_of_ble_eq_true rfl, Nat.le_of_ble_eq_true rfl⟩) ⟨fb_p, va_recv hK hP (ci := 6) (q0 := 0) rfl rfl, fun U hU hW => ⟨rfl, by rw [hU]; exact hPc, KK.warm hW hKK⟩⟩ rfl rfl hl.1 rfl (lv_room (Nat.le_of_ble_eq_true rfl)) dX0_lower_20 ⟨Nat.le_of_ble_eq_true rfl, Nat.le_of_ble_eq_true rfl⟩)) (fun r hr => ?_)
        obtain ⟨hr, hz4⟩ := hr
        replace hr := hr.symm
        subst hr
        refine lv_if_eq (tgt := 29) hx hb dX0_lower_23 (by decide) (fun c_5 => ?_) (fun c_5 => ?_)
        · replace h := if_p c_5 h
          refine lv_iinc (v := (x3 + (1 : Int32))) (lv' := [(3, .int (x3 + (1 : Int32))), (0, .ref aC), (1, .int x1), (2, .int x2)]) hx hb dX0_lower_29 hl (k := 3) rfl rfl (by decide) rfl (fun ls hl => ?_)
          refine lv_goto (tgt := 4) hx hb dX0_lower_32 (by decide) ?_
          exact ih x1 x2 (x3 + (1 : Int32)) ls (lv_sub hl [1, 2, 3, 0] rfl) h
        · replace h := if_n c_5 h
          refine lv_iinc (v := (x2 + (1 : Int32))) (lv' := [(2, .int (x2 + (1 : Int32))), (0, .ref aC), (1, .int x1), (3, .int x3)]) hx hb dX0_lower_26 hl (k := 2) rfl rfl (by decide) rfl (fun ls hl => ?_)
          refine lv_iinc (v := (x3 + (1 : Int32))) (lv' := [(3, .int (x3 + (1 : Int32))), (2, .int (x2 + (1 : Int32))), (0, .ref aC), (1, .int x1)]) hx hb dX0_lower_29 hl (k := 3) rfl rfl (by decide) rfl (fun ls hl => ?_)
          refine lv_goto (tgt := 4) hx hb dX0_lower_32 (by decide) ?_
          exact ih x1 (x2 + (1 : Int32)) (x3 + (1 : Int32)) ls (lv_sub hl [2, 3, 1, 0] rfl) h
  unfold f_X0_lower at h
  refine lv_iconst (v := (0 : Int32)) hx hb dX0_lower_0 (by decide) ?_
  refine lv_istore_n (lv' := [(2, .int (0 : Int32)), (0, .ref aC), (1, .int p1)]) hx hb dX0_lower_1 rfl hl (by decide) rfl (fun ls hl => ?_)
  refine lv_iconst (v := (0 : Int32)) hx hb dX0_lower_2 (by decide) ?_
  refine lv_istore_n (lv' := [(3, .int (0 : Int32)), (2, .int (0 : Int32)), (0, .ref aC), (1, .int p1)]) hx hb dX0_lower_3 rfl hl (by decide) rfl (fun ls hl => ?_)
  exact L4 300 p1 (0 : Int32) (0 : Int32) ls (lv_sub hl [2, 3, 1, 0] rfl) h

def f_X0_setFalls_L21 (R_in : Int32) (R_streak : Int32) (T_size : Int32) (T_slips : Nat → Int32) (T_lates : Nat → Int32) (T_copied : Nat → Int32) : Nat → Int32 → Int32 → Int64 → Int32 → Option (Int64)
  | 0, _, _, _, _ => none
  | n + 1, x1, x2, x3, x5 => (if (f_X1_size T_size) ≤ x5 then some x3 else (Option.bind (f_X6_isLeader R_in T_size T_copied x5) (fun y3 => (if y3 = 0 then f_X0_setFalls_L21 R_in R_streak T_size T_slips T_lates T_copied n x1 x2 x3 (x5 + (1 : Int32)) else (Option.bind (f_X6_groupOf R_in T_size T_copied x5) (fun y6 => (Option.bind (f_X1_errsOf T_size T_slips T_lates x5 x1 (f_X6_streak R_streak)) (fun y7 => (if (y6 &&& x2) = y6 then f_X0_setFalls_L21 R_in R_streak T_size T_slips T_lates T_copied n x1 x2 (x3 * y7.toInt64) (x5 + (1 : Int32)) else (if (y6 &&& x2) = 0 then f_X0_setFalls_L21 R_in R_streak T_size T_slips T_lates T_copied n x1 x2 (x3 * (((10 : Int32) - y7).toInt64)) (x5 + (1 : Int32)) else f_X0_setFalls_L21 R_in R_streak T_size T_slips T_lates T_copied n x1 x2 (x3 * (0 : Int64)) (x5 + (1 : Int32))))))))))))
def f_X0_setFalls (R_in : Int32) (R_streak : Int32) (T_size : Int32) (T_slips : Nat → Int32) (T_lates : Nat → Int32) (T_copied : Nat → Int32) (p1 : Int32) (p2 : Int32) : Option (Int64) := (if (p2 &&& ((f_X6_whoIsIn R_in) ^^^ (-1 : Int32))) = 0 then f_X0_setFalls_L21 R_in R_streak T_size T_slips T_lates T_copied 300 p1 p2 (1 : Int64) (0 : Int32) else some (0 : Int64))
set_option maxHeartbeats 8000000 in
set_option maxRecDepth 100000 in
theorem c_X0_setFalls (l : Launch) (D : va_G) (cI cJ cZ cO : ClassId) (aR : Nat) (aT : Nat) (aT_slips : Nat) (aT_lates : Nat) (aT_copied : Nat) (aC : Nat) (aW : Nat) (aC_byNumber : Nat) (R_in : Int32) (R_streak : Int32) (R_lot : Int32) (T_size : Int32) (T_littleOnes : Int32) (T_slips : Nat → Int32) (T_lates : Nat → Int32) (T_copied : Nat → Int32)  (p1 : Int32) (p2 : Int32)  (y0 : Int64) (h : f_X0_setFalls R_in R_streak T_size T_slips T_lates T_copied p1 p2 = some y0) : Met l yX0_setFalls wsX0_setFalls ({ frames := 4, cells := 0, slots := 0, locals := 89 } : Room) (va_Pc [.ref aC, .int p1, .int p2] (fun U => va_P D vwCl [(aR, .inr (6, [.ref aT, .int R_in, .int R_streak, .int R_lot])), (aT, .inr (1, [.ref aT_slips, .ref aT_lates, .ref aT_copied, .int T_size, .int T_littleOnes])), (aT_slips, .inl (cI, 6, .inl T_slips)), (aT_lates, .inl (cI, 6, .inl T_lates)), (aT_copied, .inl (cI, 6, .inl T_copied)), (aC, .inr (0, [.ref aT, .ref aR, .ref aW, .ref aC_byNumber]))] U.heap ∧ KK D cI cJ cZ cO U)) (vp_Sl (fun r => r = y0)) 0 0 (fun _ => False) := by
  refine Met.ofW (cc := cX0_setFalls) (maxL := 8) (ret := (some .long)) (by decide) rfl ?_
  intro p e s m args below meth c s₁ B hml hv
  obtain ⟨rfl, hP, hKK⟩ := hv
  have hx := B.exec
  have hb := B.bytes
  have hr := B.returns
  have hts := atoms_spec (ws := wsX0_setFalls) B.pre
  have hown : s.vm.findClass RX0 = some m.cls := findClass_of_methodNamed B.named
  have hlocks := B.notSynchronized
  have hK := hKK.1
  have fl_9 := hts (.fieldLink RX0 9 "SimonSays$Chances" "told" "LSimonSays$Children;") (by decide +kernel)
  have fl_15 := hts (.fieldLink RX0 15 "SimonSays$Chances" "round" "LSimonSays$Round;") (by decide +kernel)
  have inX0 : ∀ w ∈ wsX00, w ∈ wsX0_setFalls := by decide +kernel
  have hl := lv_entry ([.ref aC, .int p1, .int p2]) (n := 8) (Nat.le_of_ble_eq_true rfl)
  rw [lg_entry_eq]
  generalize (lg_sl ([.ref aC, .int p1, .int p2]) ++ List.replicate (8 - (lg_sl ([.ref aC, .int p1, .int p2])).length) Slot.unset).toArray = ls at hl ⊢
  have hl : lv_has ls 8 [(0, .ref aC), (1, .int p1), (2, .int p2)] := hl
  have L21 : ∀ (n : Nat), ∀ (x1 : Int32) (x2 : Int32) (x3 : Int64) (x5 : Int32), ∀ (ls : Array Slot), lv_has ls 8 [(0, .ref aC), (1, .int x1), (2, .int x2), (3, .long x3), (5, .int x5)] → f_X0_setFalls_L21 R_in R_streak T_size T_slips T_lates T_copied n x1 x2 x3 x5 = some y0 → W p l e (headSpec wsX0_setFalls ({ frames := 4, cells := 0, slots := 0, locals := 89 } : Room)).room s m ([.ref aC, .int p1, .int p2] : List Value).toArray below meth c s.heap [] 0 0 (MQ below (vp_Sl (fun r => r = y0)) ([.ref aC, .int p1, .int p2] : List Value).toArray s 0 0 (fun _ => False)) (F0 m 21 ls []) := by
    intro n
    induction n with
    | zero =>
      intro x1 x2 x3 x5 ls hl h
      exact (ns h).elim
    | succ n ih =>
      intro x1 x2 x3 x5 ls hl h
      unfold f_X0_setFalls_L21 at h
      refine lv_iload hx hb dX0_setFalls_21 (lv_at hl 4 rfl) ?_
      refine lv_aload_n hx hb dX0_setFalls_23 rfl (lv_at hl 0 rfl) ?_
      refine va_get (D := D) (ci := 0) (v := .ref aT) (C := RX0) (T := TX0) (N := 4) hx hb hts inX0 hown hK hP 5 rfl rfl 0 (by decide) fl_9 (fun _ h9 => h9) rfl dX0_setFalls_24 ?_
      have hPc : va_P D vwCl [(aT, .inr (1, [.ref aT_slips, .ref aT_lates, .ref aT_copied, .int T_size, .int T_littleOnes]))] s.heap := hP.sub [1] rfl
      refine vp_callSi (va_Run.run (va_runV (As := []) (rest := [.int x5]) ⟨hx, hb, hml, hown, hts⟩ (c_X1_size l D cI cJ cZ cO aT aT_slips aT_lates aT_copied T_size T_littleOnes _ rfl) (cwV 0 hts gX0_setFalls_X1_size rfl rfl rfl (by decide +kernel) ⟨Nat.le_of_ble_eq_true rfl, Nat.le_of_ble_eq_true rfl⟩) ⟨fb_p, va_recv hK hP (ci := 1) (q0 := 1) rfl rfl, fun U hU hW => ⟨rfl, by rw [hU]; exact hPc, KK.warm hW hKK⟩⟩ rfl rfl hl.1 rfl (lv_room (Nat.le_of_ble_eq_true rfl)) dX0_setFalls_27 ⟨Nat.le_of_ble_eq_true rfl, Nat.le_of_ble_eq_true rfl⟩)) (fun r hr => ?_)
      replace hr := hr.symm
      subst hr
      refine lv_icmp_ge (tgt := 119) hx hb dX0_setFalls_30 (by decide) (fun c_2 => ?_) (fun c_2 => ?_)
      · replace h := if_p c_2 h
        refine lv_lload_n hx hb dX0_setFalls_119 rfl (lv_at hl 3 rfl) ?_
        exact pr_l hx hb hr hlocks dX0_setFalls_120 (Option.some.inj h)
      · replace h := if_n c_2 h
        refine lv_aload_n hx hb dX0_setFalls_33 rfl (lv_at hl 0 rfl) ?_
        refine va_get (D := D) (ci := 0) (v := .ref aR) (C := RX0) (T := TX0) (N := 4) hx hb hts inX0 hown hK hP 5 rfl rfl 1 (by decide) fl_15 (fun _ h9 => h9) rfl dX0_setFalls_34 ?_
        refine lv_iload hx hb dX0_setFalls_37 (lv_at hl 4 rfl) ?_
        obtain ⟨y3, qy3, h⟩ := ob_some h
        have hPc : va_P D vwCl [(aR, .inr (6, [.ref aT, .int R_in, .int R_streak, .int R_lot])), (aT, .inr (1, [.ref aT_slips, .ref aT_lates, .ref aT_copied, .int T_size, .int T_littleOnes])), (aT_copied, .inl (cI, 6, .inl T_copied))] s.heap := hP.sub [0, 1, 4] rfl
        refine vp_callSi (va_Run.run (va_runV (As := [.int x5]) (rest := []) ⟨hx, hb, hml, hown, hts⟩ (c_X6_isLeader l D cI cJ cZ cO aR aT aT_copied aT_slips aT_lates R_in R_streak R_lot T_size T_littleOnes T_copied x5 y3 qy3) (cwV 1 hts gX0_setFalls_X6_isLeader rfl rfl rfl (by decide +kernel) ⟨Nat.le_of_ble_eq_true rfl, Nat.le_of_ble_eq_true rfl⟩) ⟨fb_p, va_recv hK hP (ci := 6) (q0 := 0) rfl rfl, fun U hU hW => ⟨rfl, by rw [hU]; exact hPc, KK.warm hW hKK⟩⟩ rfl rfl hl.1 rfl (lv_room (Nat.le_of_ble_eq_true rfl)) dX0_setFalls_39 ⟨Nat.le_of_ble_eq_true rfl, Nat.le_of_ble_eq_true rfl⟩)) (fun r hr => ?_)
        obtain ⟨hr, hz4⟩ := hr
        replace hr := hr.symm
        subst hr
        refine lv_if_eq (tgt := 113) hx hb dX0_setFalls_42 (by decide) (fun c_5 => ?_) (fun c_5 => ?_)
        · replace h := if_p c_5 h
          refine lv_iinc (v := (x5 + (1 : Int32))) (lv' := [(5, .int (x5 + (1 : Int32))), (0, .ref aC), (1, .int x1), (2, .int x2), (3, .long x3)]) hx hb dX0_setFalls_113 hl (k := 4) rfl rfl (by decide) rfl (fun ls hl => ?_)
          refine lv_goto (tgt := 21) hx hb dX0_setFalls_116 (by decide) ?_
          exact ih x1 x2 x3 (x5 + (1 : Int32)) ls (lv_sub hl [1, 2, 3, 4, 0] rfl) h
        · replace h := if_n c_5 h
          refine lv_aload_n hx hb dX0_setFalls_45 rfl (lv_at hl 0 rfl) ?_
          refine va_get (D := D) (ci := 0) (v := .ref aR) (C := RX0) (T := TX0) (N := 4) hx hb hts inX0 hown hK hP 5 rfl rfl 1 (by decide) fl_15 (fun _ h9 => h9) rfl dX0_setFalls_46 ?_
          refine lv_iload hx hb dX0_setFalls_49 (lv_at hl 4 rfl) ?_
          obtain ⟨y6, qy6, h⟩ := ob_some h
          have hPc : va_P D vwCl [(aR, .inr (6, [.ref aT, .int R_in, .int R_streak, .int R_lot])), (aT, .inr (1, [.ref aT_slips, .ref aT_lates, .ref aT_copied, .int T_size, .int T_littleOnes])), (aT_copied, .inl (cI, 6, .inl T_copied))] s.heap := hP.sub [0, 1, 4] rfl
          refine vp_callSi (va_Run.run (va_runV (As := [.int x5]) (rest := []) ⟨hx, hb, hml, hown, hts⟩ (c_X6_groupOf l D cI cJ cZ cO aR aT aT_copied aT_slips aT_lates R_in R_streak R_lot T_size T_littleOnes T_copied x5 y6 qy6) (cwV 1 hts gX0_setFalls_X6_groupOf rfl rfl rfl (by decide +kernel) ⟨Nat.le_of_ble_eq_true rfl, Nat.le_of_ble_eq_true rfl⟩) ⟨fb_p, va_recv hK hP (ci := 6) (q0 := 0) rfl rfl, fun U hU hW => ⟨rfl, by rw [hU]; exact hPc, KK.warm hW hKK⟩⟩ rfl rfl hl.1 rfl (lv_room (Nat.le_of_ble_eq_true rfl)) dX0_setFalls_51 ⟨Nat.le_of_ble_eq_true rfl, Nat.le_of_ble_eq_true rfl⟩)) (fun r hr => ?_)
          replace hr := hr.symm
          subst hr
          refine lv_istore (lv' := [(6, .int y6), (0, .ref aC), (1, .int x1), (2, .int x2), (3, .long x3), (5, .int x5)]) hx hb dX0_setFalls_54 hl (by decide) rfl (fun ls hl => ?_)
          refine lv_aload_n hx hb dX0_setFalls_56 rfl (lv_at hl 1 rfl) ?_
          refine va_get (D := D) (ci := 0) (v := .ref aT) (C := RX0) (T := TX0) (N := 4) hx hb hts inX0 hown hK hP 5 rfl rfl 0 (by decide) fl_9 (fun _ h9 => h9) rfl dX0_setFalls_57 ?_
          refine lv_iload hx hb dX0_setFalls_60 (lv_at hl 5 rfl) ?_
          refine lv_iload_n hx hb dX0_setFalls_62 rfl (lv_at hl 2 rfl) ?_
          refine lv_aload_n hx hb dX0_setFalls_63 rfl (lv_at hl 1 rfl) ?_
          refine va_get (D := D) (ci := 0) (v := .ref aR) (C := RX0) (T := TX0) (N := 4) hx hb hts inX0 hown hK hP 5 rfl rfl 1 (by decide) fl_15 (fun _ h9 => h9) rfl dX0_setFalls_64 ?_
          have hPc : va_P D vwCl [(aR, .inr (6, [.ref aT, .int R_in, .int R_streak, .int R_lot]))] s.heap := hP.sub [0] rfl
          refine vp_callSi (va_Run.run (va_runV (As := []) (rest := [.int x1, .int x5, .ref aT]) ⟨hx, hb, hml, hown, hts⟩ (c_X6_streak l D cI cJ cZ cO aR aT R_in R_streak R_lot _ rfl) (cwV 0 hts gX0_setFalls_X6_streak rfl rfl rfl (by decide +kernel) ⟨Nat.le_of_ble_eq_true rfl, Nat.le_of_ble_eq_true rfl⟩) ⟨fb_p, va_recv hK hP (ci := 6) (q0 := 0) rfl rfl, fun U hU hW => ⟨rfl, by rw [hU]; exact hPc, KK.warm hW hKK⟩⟩ rfl rfl hl.1 rfl (lv_room (Nat.le_of_ble_eq_true rfl)) dX0_setFalls_67 ⟨Nat.le_of_ble_eq_true rfl, Nat.le_of_ble_eq_true rfl⟩)) (fun r hr => ?_)
          replace hr := hr.symm
          subst hr
          obtain ⟨y7, qy7, h⟩ := ob_some h
          have hPc : va_P D vwCl [(aT, .inr (1, [.ref aT_slips, .ref aT_lates, .ref aT_copied, .int T_size, .int T_littleOnes])), (aT_slips, .inl (cI, 6, .inl T_slips)), (aT_lates, .inl (cI, 6, .inl T_lates))] s.heap := hP.sub [1, 2, 3] rfl
          refine vp_callSi (va_Run.run (va_runV (As := [.int x5, .int x1, .int (f_X6_streak R_streak)]) (rest := []) ⟨hx, hb, hml, hown, hts⟩ (c_X1_errsOf l D cI cJ cZ cO aT aT_slips aT_lates aT_copied T_size T_littleOnes T_slips T_lates x5 x1 (f_X6_streak R_streak) y7 qy7) (cwV 3 hts gX0_setFalls_X1_errsOf rfl rfl rfl (by decide +kernel) ⟨Nat.le_of_ble_eq_true rfl, Nat.le_of_ble_eq_true rfl⟩) ⟨fb_p, va_recv hK hP (ci := 1) (q0 := 1) rfl rfl, fun U hU hW => ⟨rfl, by rw [hU]; exact hPc, KK.warm hW hKK⟩⟩ rfl rfl hl.1 rfl (lv_room (Nat.le_of_ble_eq_true rfl)) dX0_setFalls_70 ⟨Nat.le_of_ble_eq_true rfl, Nat.le_of_ble_eq_true rfl⟩)) (fun r hr => ?_)
          replace hr := hr.symm
          subst hr
          refine lv_istore (lv' := [(7, .int y7), (6, .int y6), (0, .ref aC), (1, .int x1), (2, .int x2), (3, .long x3), (5, .int x5)]) hx hb dX0_setFalls_73 hl (by decide) rfl (fun ls hl => ?_)
          refine lv_iload hx hb dX0_setFalls_75 (lv_at hl 1 rfl) ?_
          refine lv_iload_n hx hb dX0_setFalls_77 rfl (lv_at hl 4 rfl) ?_
          refine lv_iand hx hb dX0_setFalls_78 ?_
          refine lv_iload hx hb dX0_setFalls_79 (lv_at hl 1 rfl) ?_
          refine lv_icmp_ne (tgt := 93) hx hb dX0_setFalls_81 (by decide) (fun c_8 => ?_) (fun c_8 => ?_)
          · replace h := if_n c_8 h
            refine lv_lload_n hx hb dX0_setFalls_93 rfl (lv_at hl 5 rfl) ?_
            refine lv_iload hx hb dX0_setFalls_94 (lv_at hl 1 rfl) ?_
            refine lv_iload_n hx hb dX0_setFalls_96 rfl (lv_at hl 4 rfl) ?_
            refine lv_iand hx hb dX0_setFalls_97 ?_
            refine lv_if_ne (tgt := 110) hx hb dX0_setFalls_98 (by decide) (fun c_9 => ?_) (fun c_9 => ?_)
            · replace h := if_n c_9 h
              refine lv_lconst (v := (0 : Int64)) hx hb dX0_setFalls_110 (by decide) ?_
              refine lv_lmul hx hb dX0_setFalls_111 ?_
              refine lv_lstore_n (lv' := [(3, .long (x3 * (0 : Int64))), (7, .int y7), (6, .int y6), (0, .ref aC), (1, .int x1), (2, .int x2), (5, .int x5)]) hx hb dX0_setFalls_112 rfl hl (by decide) rfl (fun ls hl => ?_)
              refine lv_iinc (v := (x5 + (1 : Int32))) (lv' := [(5, .int (x5 + (1 : Int32))), (3, .long (x3 * (0 : Int64))), (7, .int y7), (6, .int y6), (0, .ref aC), (1, .int x1), (2, .int x2)]) hx hb dX0_setFalls_113 hl (k := 6) rfl rfl (by decide) rfl (fun ls hl => ?_)
              refine lv_goto (tgt := 21) hx hb dX0_setFalls_116 (by decide) ?_
              exact ih x1 x2 (x3 * (0 : Int64)) (x5 + (1 : Int32)) ls (lv_sub hl [4, 5, 6, 1, 0] rfl) h
            · replace h := if_p c_9 h
              refine lv_bipush (v := (10 : Int32)) hx hb dX0_setFalls_101 (by decide) ?_
              refine lv_iload hx hb dX0_setFalls_103 (lv_at hl 0 rfl) ?_
              refine lv_isub hx hb dX0_setFalls_105 ?_
              refine lv_i2l (v := ((10 : Int32) - y7).toInt64) hx hb dX0_setFalls_106 rfl ?_
              refine lv_goto (tgt := 111) hx hb dX0_setFalls_107 (by decide) ?_
              refine lv_lmul hx hb dX0_setFalls_111 ?_
              refine lv_lstore_n (lv' := [(3, .long (x3 * (((10 : Int32) - y7).toInt64))), (7, .int y7), (6, .int y6), (0, .ref aC), (1, .int x1), (2, .int x2), (5, .int x5)]) hx hb dX0_setFalls_112 rfl hl (by decide) rfl (fun ls hl => ?_)
              refine lv_iinc (v := (x5 + (1 : Int32))) (lv' := [(5, .int (x5 + (1 : Int32))), (3, .long (x3 * (((10 : Int32) - y7).toInt64))), (7, .int y7), (6, .int y6), (0, .ref aC), (1, .int x1), (2, .int x2)]) hx hb dX0_setFalls_113 hl (k := 6) rfl rfl (by decide) rfl (fun ls hl => ?_)
              refine lv_goto (tgt := 21) hx hb dX0_setFalls_116 (by decide) ?_
              exact ih x1 x2 (x3 * (((10 : Int32) - y7).toInt64)) (x5 + (1 : Int32)) ls (lv_sub hl [4, 5, 6, 1, 0] rfl) h
          · replace h := if_p c_8 h
            refine lv_lload_n hx hb dX0_setFalls_84 rfl (lv_at hl 5 rfl) ?_
            refine lv_iload hx hb dX0_setFalls_85 (lv_at hl 0 rfl) ?_
            refine lv_i2l (v := y7.toInt64) hx hb dX0_setFalls_87 rfl ?_
            refine lv_lmul hx hb dX0_setFalls_88 ?_
            refine lv_lstore_n (lv' := [(3, .long (x3 * y7.toInt64)), (7, .int y7), (6, .int y6), (0, .ref aC), (1, .int x1), (2, .int x2), (5, .int x5)]) hx hb dX0_setFalls_89 rfl hl (by decide) rfl (fun ls hl => ?_)
            refine lv_goto (tgt := 113) hx hb dX0_setFalls_90 (by decide) ?_
            refine lv_iinc (v := (x5 + (1 : Int32))) (lv' := [(5, .int (x5 + (1 : Int32))), (3, .long (x3 * y7.toInt64)), (7, .int y7), (6, .int y6), (0, .ref aC), (1, .int x1), (2, .int x2)]) hx hb dX0_setFalls_113 hl (k := 6) rfl rfl (by decide) rfl (fun ls hl => ?_)
            refine lv_goto (tgt := 21) hx hb dX0_setFalls_116 (by decide) ?_
            exact ih x1 x2 (x3 * y7.toInt64) (x5 + (1 : Int32)) ls (lv_sub hl [4, 5, 6, 1, 0] rfl) h
  unfold f_X0_setFalls at h
  refine lv_iload_n hx hb dX0_setFalls_0 rfl (lv_at hl 2 rfl) ?_
  refine lv_aload_n hx hb dX0_setFalls_1 rfl (lv_at hl 0 rfl) ?_
  refine va_get (D := D) (ci := 0) (v := .ref aR) (C := RX0) (T := TX0) (N := 4) hx hb hts inX0 hown hK hP 5 rfl rfl 1 (by decide) fl_15 (fun _ h9 => h9) rfl dX0_setFalls_2 ?_
  have hPc : va_P D vwCl [(aR, .inr (6, [.ref aT, .int R_in, .int R_streak, .int R_lot]))] s.heap := hP.sub [0] rfl
  refine vp_callSi (va_Run.run (va_runV (As := []) (rest := [.int p2]) ⟨hx, hb, hml, hown, hts⟩ (c_X6_whoIsIn l D cI cJ cZ cO aR aT R_in R_streak R_lot _ rfl) (cwV 0 hts gX0_setFalls_X6_whoIsIn rfl rfl rfl (by decide +kernel) ⟨Nat.le_of_ble_eq_true rfl, Nat.le_of_ble_eq_true rfl⟩) ⟨fb_p, va_recv hK hP (ci := 6) (q0 := 0) rfl rfl, fun U hU hW => ⟨rfl, by rw [hU]; exact hPc, KK.warm hW hKK⟩⟩ rfl rfl hl.1 rfl (lv_room (Nat.le_of_ble_eq_true rfl)) dX0_setFalls_5 ⟨Nat.le_of_ble_eq_true rfl, Nat.le_of_ble_eq_true rfl⟩)) (fun r hr => ?_)
  replace hr := hr.symm
  subst hr
  refine lv_iconst (v := (-1 : Int32)) hx hb dX0_setFalls_8 (by decide) ?_
  refine lv_ixor hx hb dX0_setFalls_9 ?_
  refine lv_iand hx hb dX0_setFalls_10 ?_
  refine lv_if_eq (tgt := 16) hx hb dX0_setFalls_11 (by decide) (fun c_1 => ?_) (fun c_1 => ?_)
  · replace h := if_p c_1 h
    refine lv_lconst (v := (1 : Int64)) hx hb dX0_setFalls_16 (by decide) ?_
    refine lv_lstore_n (lv' := [(3, .long (1 : Int64)), (0, .ref aC), (1, .int p1), (2, .int p2)]) hx hb dX0_setFalls_17 rfl hl (by decide) rfl (fun ls hl => ?_)
    refine lv_iconst (v := (0 : Int32)) hx hb dX0_setFalls_18 (by decide) ?_
    refine lv_istore (lv' := [(5, .int (0 : Int32)), (3, .long (1 : Int64)), (0, .ref aC), (1, .int p1), (2, .int p2)]) hx hb dX0_setFalls_19 hl (by decide) rfl (fun ls hl => ?_)
    exact L21 300 p1 p2 (1 : Int64) (0 : Int32) ls (lv_sub hl [2, 3, 4, 1, 0] rfl) h
  · replace h := if_n c_1 h
    refine lv_lconst (v := (0 : Int64)) hx hb dX0_setFalls_14 (by decide) ?_
    exact pr_l hx hb hr hlocks dX0_setFalls_15 (Option.some.inj h)

def f_X0_addGroup_L24 (k3 : (Nat → Int64) → Int32 → Int32 → Int32 → Option ((Nat → Int64))) (C_byNumber : Nat → Int64) (t0 : Int64) (x1 : Int32) (x2 : Int32) (x3 : Int32) : Option ((Nat → Int64)) := (if gIn x3 7 = true then (if gIn x3 7 = true then k3 (vp_updL C_byNumber x3.toNatClampNeg (((C_byNumber x3.toNatClampNeg) * (((10 : Int32) - x2).toInt64)) + (t0 * x2.toInt64))) x1 x2 (x3 + (-1 : Int32)) else none) else none)
def f_X0_addGroup_L3  : Nat → (Nat → Int64) → Int32 → Int32 → Int32 → Option ((Nat → Int64))
  | 0, _, _, _, _ => none
  | n + 1, C_byNumber, x1, x2, x3 => (if x3 < 0 then some C_byNumber else (if x3 < x1 then f_X0_addGroup_L24 (f_X0_addGroup_L3 n) C_byNumber (0 : Int64) x1 x2 x3 else (if gIn (x3 - x1) 7 = true then f_X0_addGroup_L24 (f_X0_addGroup_L3 n) C_byNumber (C_byNumber (x3 - x1).toNatClampNeg) x1 x2 x3 else none)))
def f_X0_addGroup (C_byNumber : Nat → Int64) (p1 : Int32) (p2 : Int32) : Option ((Nat → Int64)) := f_X0_addGroup_L3 300 C_byNumber p1 p2 (6 : Int32)
set_option maxHeartbeats 8000000 in
set_option maxRecDepth 100000 in
theorem c_X0_addGroup (l : Launch) (D : va_G) (cI cJ cZ cO : ClassId) (aC : Nat) (aC_byNumber : Nat) (aT : Nat) (aR : Nat) (aW : Nat) (C_byNumber : Nat → Int64) (sz : Nat) (p1 : Int32) (p2 : Int32)  (y0 : (Nat → Int64)) (h : f_X0_addGroup C_byNumber p1 p2 = some y0) : Met l yX0_addGroup wsX0_addGroup ({ frames := 0, cells := 0, slots := 0, locals := 0 } : Room) (va_Pc [.ref aC, .int p1, .int p2] (fun U => U.heap.size = sz ∧ va_P D vwCl [(aC, .inr (0, [.ref aT, .ref aR, .ref aW, .ref aC_byNumber])), (aC_byNumber, .inl (cJ, 7, .inr (.inl C_byNumber)))] U.heap ∧ KK D cI cJ cZ cO U ∧ va_D (fun _ => True) [(aC, .inr (0, [.ref aT, .ref aR, .ref aW, .ref aC_byNumber])), (aC_byNumber, .inl (cJ, 7, .inr (.inl C_byNumber)))])) (va_Qv (fun (_ : Unit) => True) (fun (_ : Unit) t => va_P D vwCl [(aC, .inr (0, [.ref aT, .ref aR, .ref aW, .ref aC_byNumber])), (aC_byNumber, .inl (cJ, 7, .inr (.inl y0)))] t.heap ∧ va_D (va_A [(aC, .inr (0, [.ref aT, .ref aR, .ref aW, .ref aC_byNumber])), (aC_byNumber, .inl (cJ, 7, .inr (.inl C_byNumber)))] sz) [(aC, .inr (0, [.ref aT, .ref aR, .ref aW, .ref aC_byNumber])), (aC_byNumber, .inl (cJ, 7, .inr (.inl y0)))]) (va_A [(aC, .inr (0, [.ref aT, .ref aR, .ref aW, .ref aC_byNumber])), (aC_byNumber, .inl (cJ, 7, .inr (.inl C_byNumber)))] sz)) 0 0 (va_A [(aC, .inr (0, [.ref aT, .ref aR, .ref aW, .ref aC_byNumber])), (aC_byNumber, .inl (cJ, 7, .inr (.inl C_byNumber)))] sz) := by
  refine Met.ofW (cc := cX0_addGroup) (maxL := 6) (ret := none) (by decide) rfl ?_
  intro p e s m args below meth c s₁ B hml hv
  obtain ⟨rfl, hsz, hP, hKK, hD0⟩ := hv
  have hx := B.exec
  have hb := B.bytes
  have hr := B.returns
  have hts := atoms_spec (ws := wsX0_addGroup) B.pre
  have hown : s.vm.findClass RX0 = some m.cls := findClass_of_methodNamed B.named
  have hlocks := B.notSynchronized
  have hK := hKK.1
  have fl_23 := hts (.fieldLink RX0 23 "SimonSays$Chances" "byNumber" "[J") (by decide +kernel)
  have inX0 : ∀ w ∈ wsX00, w ∈ wsX0_addGroup := by decide +kernel
  subst hsz
  have hD := hD0.self (sz := s.heap.size)
  generalize hAe : va_A [(aC, .inr (0, [.ref aT, .ref aR, .ref aW, .ref aC_byNumber])), (aC_byNumber, .inl (cJ, 7, .inr (.inl C_byNumber)))] s.heap.size = A at hD ⊢
  have hA : ∀ q : Nat, s.heap.size ≤ q → A q := fun q h => by rw [← hAe]; exact Or.inr h
  have hS : va_S A s.heap s.heap [] := va_S.rf
  have hl := lv_entry ([.ref aC, .int p1, .int p2]) (n := 6) (Nat.le_of_ble_eq_true rfl)
  rw [lg_entry_eq]
  generalize (lg_sl ([.ref aC, .int p1, .int p2]) ++ List.replicate (6 - (lg_sl ([.ref aC, .int p1, .int p2])).length) Slot.unset).toArray = ls at hl ⊢
  have hl : lv_has ls 6 [(0, .ref aC), (1, .int p1), (2, .int p2)] := hl
  have L24 : ∀ (k3 : (Nat → Int64) → Int32 → Int32 → Int32 → Option ((Nat → Int64))) (_ : ∀ (C_byNumber : Nat → Int64) (x1 : Int32) (x2 : Int32) (x3 : Int32), ∀ (H : Heap) (locs : List Loc), va_P D vwCl [(aC, .inr (0, [.ref aT, .ref aR, .ref aW, .ref aC_byNumber])), (aC_byNumber, .inl (cJ, 7, .inr (.inl C_byNumber)))] H → va_D A [(aC, .inr (0, [.ref aT, .ref aR, .ref aW, .ref aC_byNumber])), (aC_byNumber, .inl (cJ, 7, .inr (.inl C_byNumber)))] → va_S A s.heap H locs → ∀ (ls : Array Slot), lv_has ls 6 [(0, .ref aC), (1, .int x1), (2, .int x2), (3, .int x3)] → k3 C_byNumber x1 x2 x3 = some y0 → W p l e (headSpec wsX0_addGroup ({ frames := 0, cells := 0, slots := 0, locals := 0 } : Room)).room s m ([.ref aC, .int p1, .int p2] : List Value).toArray below meth c H locs 0 0 (MQ below (va_Qv (fun (_ : Unit) => True) (fun (_ : Unit) t => va_P D vwCl [(aC, .inr (0, [.ref aT, .ref aR, .ref aW, .ref aC_byNumber])), (aC_byNumber, .inl (cJ, 7, .inr (.inl y0)))] t.heap ∧ va_D A [(aC, .inr (0, [.ref aT, .ref aR, .ref aW, .ref aC_byNumber])), (aC_byNumber, .inl (cJ, 7, .inr (.inl y0)))]) A) ([.ref aC, .int p1, .int p2] : List Value).toArray s 0 0 A) (F0 m 3 ls [])), ∀ (C_byNumber : Nat → Int64) (t0 : Int64) (x1 : Int32) (x2 : Int32) (x3 : Int32), ∀ (H : Heap) (locs : List Loc), va_P D vwCl [(aC, .inr (0, [.ref aT, .ref aR, .ref aW, .ref aC_byNumber])), (aC_byNumber, .inl (cJ, 7, .inr (.inl C_byNumber)))] H → va_D A [(aC, .inr (0, [.ref aT, .ref aR, .ref aW, .ref aC_byNumber])), (aC_byNumber, .inl (cJ, 7, .inr (.inl C_byNumber)))] → va_S A s.heap H locs → ∀ (ls : Array Slot), lv_has ls 6 [(0, .ref aC), (1, .int x1), (2, .int x2), (3, .int x3)] → f_X0_addGroup_L24 k3 C_byNumber t0 x1 x2 x3 = some y0 → W p l e (headSpec wsX0_addGroup ({ frames := 0, cells := 0, slots := 0, locals := 0 } : Room)).room s m ([.ref aC, .int p1, .int p2] : List Value).toArray below meth c H locs 0 0 (MQ below (va_Qv (fun (_ : Unit) => True) (fun (_ : Unit) t => va_P D vwCl [(aC, .inr (0, [.ref aT, .ref aR, .ref aW, .ref aC_byNumber])), (aC_byNumber, .inl (cJ, 7, .inr (.inl y0)))] t.heap ∧ va_D A [(aC, .inr (0, [.ref aT, .ref aR, .ref aW, .ref aC_byNumber])), (aC_byNumber, .inl (cJ, 7, .inr (.inl y0)))]) A) ([.ref aC, .int p1, .int p2] : List Value).toArray s 0 0 A) (F0 m 24 ls [.long t0]) := by
    intro k3 hk3
    intro C_byNumber t0 x1 x2 x3 H locs hP hD hS ls hl h
    unfold f_X0_addGroup_L24 at h
    refine lv_lstore (lv' := [(4, .long t0), (0, .ref aC), (1, .int x1), (2, .int x2), (3, .int x3)]) hx hb dX0_addGroup_24 hl (by decide) rfl (fun ls hl => ?_)
    refine lv_aload_n hx hb dX0_addGroup_26 rfl (lv_at hl 1 rfl) ?_
    refine va_get (D := D) (ci := 0) (v := .ref aC_byNumber) (C := RX0) (T := TX0) (N := 4) hx hb hts inX0 hown hK hP 0 rfl rfl 3 (by decide) fl_23 (fun _ h9 => h9) rfl dX0_addGroup_27 ?_
    refine lv_iload_n hx hb dX0_addGroup_30 rfl (lv_at hl 4 rfl) ?_
    refine lv_aload_n hx hb dX0_addGroup_31 rfl (lv_at hl 1 rfl) ?_
    refine va_get (D := D) (ci := 0) (v := .ref aC_byNumber) (C := RX0) (T := TX0) (N := 4) hx hb hts inX0 hown hK hP 0 rfl rfl 3 (by decide) fl_23 (fun _ h9 => h9) rfl dX0_addGroup_32 ?_
    refine lv_iload_n hx hb dX0_addGroup_35 rfl (lv_at hl 4 rfl) ?_
    obtain ⟨hi4, h⟩ := gd_in h
    refine va_lald hx hb hK hP 1 1 rfl rfl hi4 dX0_addGroup_36 ?_
    refine lv_bipush (v := (10 : Int32)) hx hb dX0_addGroup_37 (by decide) ?_
    refine lv_iload_n hx hb dX0_addGroup_39 rfl (lv_at hl 3 rfl) ?_
    refine lv_isub hx hb dX0_addGroup_40 ?_
    refine lv_i2l (v := ((10 : Int32) - x2).toInt64) hx hb dX0_addGroup_41 rfl ?_
    refine lv_lmul hx hb dX0_addGroup_42 ?_
    refine lv_lload hx hb dX0_addGroup_43 (lv_at hl 0 rfl) ?_
    refine lv_iload_n hx hb dX0_addGroup_45 rfl (lv_at hl 3 rfl) ?_
    refine lv_i2l (v := x2.toInt64) hx hb dX0_addGroup_46 rfl ?_
    refine lv_lmul hx hb dX0_addGroup_47 ?_
    refine lv_ladd hx hb dX0_addGroup_48 ?_
    obtain ⟨hi5, h⟩ := gd_in h
    refine va_last hx hb hK hP hD hS 1 1 rfl rfl hi5 dX0_addGroup_49 (fun H locs hP hD hS => ?_)
    have hP : va_P D vwCl [(aC, .inr (0, [.ref aT, .ref aR, .ref aW, .ref aC_byNumber])), (aC_byNumber, .inl (cJ, 7, .inr (.inl (vp_updL C_byNumber x3.toNatClampNeg (((C_byNumber x3.toNatClampNeg) * (((10 : Int32) - x2).toInt64)) + (t0 * x2.toInt64))))))] H := hP
    have hD : va_D A [(aC, .inr (0, [.ref aT, .ref aR, .ref aW, .ref aC_byNumber])), (aC_byNumber, .inl (cJ, 7, .inr (.inl (vp_updL C_byNumber x3.toNatClampNeg (((C_byNumber x3.toNatClampNeg) * (((10 : Int32) - x2).toInt64)) + (t0 * x2.toInt64))))))] := hD
    refine lv_iinc (v := (x3 + (-1 : Int32))) (lv' := [(3, .int (x3 + (-1 : Int32))), (4, .long t0), (0, .ref aC), (1, .int x1), (2, .int x2)]) hx hb dX0_addGroup_50 hl (k := 4) rfl rfl (by decide) rfl (fun ls hl => ?_)
    refine lv_goto (tgt := 3) hx hb dX0_addGroup_53 (by decide) ?_
    exact hk3 (vp_updL C_byNumber x3.toNatClampNeg (((C_byNumber x3.toNatClampNeg) * (((10 : Int32) - x2).toInt64)) + (t0 * x2.toInt64))) x1 x2 (x3 + (-1 : Int32)) _ _ hP hD hS ls (lv_sub hl [2, 3, 4, 0] rfl) h
  have L3 : ∀ (n : Nat), ∀ (C_byNumber : Nat → Int64) (x1 : Int32) (x2 : Int32) (x3 : Int32), ∀ (H : Heap) (locs : List Loc), va_P D vwCl [(aC, .inr (0, [.ref aT, .ref aR, .ref aW, .ref aC_byNumber])), (aC_byNumber, .inl (cJ, 7, .inr (.inl C_byNumber)))] H → va_D A [(aC, .inr (0, [.ref aT, .ref aR, .ref aW, .ref aC_byNumber])), (aC_byNumber, .inl (cJ, 7, .inr (.inl C_byNumber)))] → va_S A s.heap H locs → ∀ (ls : Array Slot), lv_has ls 6 [(0, .ref aC), (1, .int x1), (2, .int x2), (3, .int x3)] → f_X0_addGroup_L3 n C_byNumber x1 x2 x3 = some y0 → W p l e (headSpec wsX0_addGroup ({ frames := 0, cells := 0, slots := 0, locals := 0 } : Room)).room s m ([.ref aC, .int p1, .int p2] : List Value).toArray below meth c H locs 0 0 (MQ below (va_Qv (fun (_ : Unit) => True) (fun (_ : Unit) t => va_P D vwCl [(aC, .inr (0, [.ref aT, .ref aR, .ref aW, .ref aC_byNumber])), (aC_byNumber, .inl (cJ, 7, .inr (.inl y0)))] t.heap ∧ va_D A [(aC, .inr (0, [.ref aT, .ref aR, .ref aW, .ref aC_byNumber])), (aC_byNumber, .inl (cJ, 7, .inr (.inl y0)))]) A) ([.ref aC, .int p1, .int p2] : List Value).toArray s 0 0 A) (F0 m 3 ls []) := by
    intro n
    induction n with
    | zero =>
      intro C_byNumber x1 x2 x3 H locs hP hD hS ls hl h
      exact (ns h).elim
    | succ n ih =>
      intro C_byNumber x1 x2 x3 H locs hP hD hS ls hl h
      unfold f_X0_addGroup_L3 at h
      refine lv_iload_n hx hb dX0_addGroup_3 rfl (lv_at hl 3 rfl) ?_
      refine lv_if_lt (tgt := 56) hx hb dX0_addGroup_4 (by decide) (fun c_1 => ?_) (fun c_1 => ?_)
      · replace h := if_p c_1 h
        have hy := Option.some.inj h
        subst hy
        exact W.vret hx hb hr (fun t ht hW => ⟨⟨(), rfl, trivial, by rw [ht]; exact hP, hD⟩, hS.F ht⟩) hS.2.2 dX0_addGroup_56
      · replace h := if_n c_1 h
        refine lv_iload_n hx hb dX0_addGroup_7 rfl (lv_at hl 3 rfl) ?_
        refine lv_iload_n hx hb dX0_addGroup_8 rfl (lv_at hl 1 rfl) ?_
        refine lv_icmp_lt (tgt := 23) hx hb dX0_addGroup_9 (by decide) (fun c_2 => ?_) (fun c_2 => ?_)
        · replace h := if_p c_2 h
          refine lv_lconst (v := (0 : Int64)) hx hb dX0_addGroup_23 (by decide) ?_
          exact L24 (f_X0_addGroup_L3 n) ih C_byNumber (0 : Int64) x1 x2 x3 _ _ hP hD hS ls (lv_sub hl [0, 1, 2, 3] rfl) h
        · replace h := if_n c_2 h
          refine lv_aload_n hx hb dX0_addGroup_12 rfl (lv_at hl 0 rfl) ?_
          refine va_get (D := D) (ci := 0) (v := .ref aC_byNumber) (C := RX0) (T := TX0) (N := 4) hx hb hts inX0 hown hK hP 0 rfl rfl 3 (by decide) fl_23 (fun _ h9 => h9) rfl dX0_addGroup_13 ?_
          refine lv_iload_n hx hb dX0_addGroup_16 rfl (lv_at hl 3 rfl) ?_
          refine lv_iload_n hx hb dX0_addGroup_17 rfl (lv_at hl 1 rfl) ?_
          refine lv_isub hx hb dX0_addGroup_18 ?_
          obtain ⟨hi3, h⟩ := gd_in h
          refine va_lald hx hb hK hP 1 1 rfl rfl hi3 dX0_addGroup_19 ?_
          refine lv_goto (tgt := 24) hx hb dX0_addGroup_20 (by decide) ?_
          exact L24 (f_X0_addGroup_L3 n) ih C_byNumber (C_byNumber (x3 - x1).toNatClampNeg) x1 x2 x3 _ _ hP hD hS ls (lv_sub hl [0, 1, 2, 3] rfl) h
  unfold f_X0_addGroup at h
  refine lv_bipush (v := (6 : Int32)) hx hb dX0_addGroup_0 (by decide) ?_
  refine lv_istore_n (lv' := [(3, .int (6 : Int32)), (0, .ref aC), (1, .int p1), (2, .int p2)]) hx hb dX0_addGroup_2 rfl hl (by decide) rfl (fun ls hl => ?_)
  exact L3 300 C_byNumber p1 p2 (6 : Int32) _ _ hP hD hS ls (lv_sub hl [1, 2, 3, 0] rfl) h

def f_X0_numberFalls_L31 (R_in : Int32) (R_streak : Int32) (T_size : Int32) (T_slips : Nat → Int32) (T_lates : Nat → Int32) (T_copied : Nat → Int32) : Nat → (Nat → Int64) → Int32 → Int32 → Int32 → Option (Int64 × (Nat → Int64))
  | 0, _, _, _, _ => none
  | n + 1, C_byNumber, x1, x2, x3 => (if (f_X1_size T_size) ≤ x3 then (if x2 < 0 then some ((0 : Int64), C_byNumber) else (if (6 : Int32) < x2 then some ((0 : Int64), C_byNumber) else (if gIn x2 7 = true then some ((C_byNumber x2.toNatClampNeg), C_byNumber) else none))) else (Option.bind (f_X6_isLeader R_in T_size T_copied x3) (fun y9 => (if y9 = 0 then f_X0_numberFalls_L31 R_in R_streak T_size T_slips T_lates T_copied n C_byNumber x1 x2 (x3 + (1 : Int32)) else (Option.bind (f_X6_groupOf R_in T_size T_copied x3) (fun y12 => (Option.bind (f_X1_errsOf T_size T_slips T_lates x3 x1 (f_X6_streak R_streak)) (fun y13 => (Option.bind (f_X0_addGroup C_byNumber (f_J6_bitCount_0f7a4 y12) y13) (fun y14 => f_X0_numberFalls_L31 R_in R_streak T_size T_slips T_lates T_copied n y14 x1 x2 (x3 + (1 : Int32))))))))))))
def f_X0_numberFalls_L2 (R_in : Int32) (R_streak : Int32) (T_size : Int32) (T_slips : Nat → Int32) (T_lates : Nat → Int32) (T_copied : Nat → Int32) : Nat → (Nat → Int64) → Int32 → Int32 → Int32 → Option (Int64 × (Nat → Int64))
  | 0, _, _, _, _ => none
  | n + 1, C_byNumber, x1, x2, x3 => (if (6 : Int32) < x3 then f_X0_numberFalls_L31 R_in R_streak T_size T_slips T_lates T_copied 300 C_byNumber x1 x2 (0 : Int32) else (if x3 = 0 then (if gIn x3 7 = true then f_X0_numberFalls_L2 R_in R_streak T_size T_slips T_lates T_copied n (vp_updL C_byNumber x3.toNatClampNeg (1 : Int64)) x1 x2 (x3 + (1 : Int32)) else none) else (if gIn x3 7 = true then f_X0_numberFalls_L2 R_in R_streak T_size T_slips T_lates T_copied n (vp_updL C_byNumber x3.toNatClampNeg (0 : Int64)) x1 x2 (x3 + (1 : Int32)) else none)))
def f_X0_numberFalls (R_in : Int32) (R_streak : Int32) (T_size : Int32) (T_slips : Nat → Int32) (T_lates : Nat → Int32) (T_copied : Nat → Int32) (C_byNumber : Nat → Int64) (p1 : Int32) (p2 : Int32) : Option (Int64 × (Nat → Int64)) := f_X0_numberFalls_L2 R_in R_streak T_size T_slips T_lates T_copied 300 C_byNumber p1 p2 (0 : Int32)
set_option maxHeartbeats 8000000 in
set_option maxRecDepth 100000 in
theorem c_X0_numberFalls (l : Launch) (D : va_G) (cI cJ cZ cO : ClassId) (aR : Nat) (aT : Nat) (aT_slips : Nat) (aT_lates : Nat) (aT_copied : Nat) (aC : Nat) (aC_byNumber : Nat) (aW : Nat) (R_in : Int32) (R_streak : Int32) (R_lot : Int32) (T_size : Int32) (T_littleOnes : Int32) (T_slips : Nat → Int32) (T_lates : Nat → Int32) (T_copied : Nat → Int32) (C_byNumber : Nat → Int64) (sz : Nat) (p1 : Int32) (p2 : Int32)  (y0 : Int64 × (Nat → Int64)) (h : f_X0_numberFalls R_in R_streak T_size T_slips T_lates T_copied C_byNumber p1 p2 = some y0) : Met l yX0_numberFalls wsX0_numberFalls ({ frames := 4, cells := 0, slots := 0, locals := 89 } : Room) (va_Pc [.ref aC, .int p1, .int p2] (fun U => U.heap.size = sz ∧ va_P D vwCl [(aR, .inr (6, [.ref aT, .int R_in, .int R_streak, .int R_lot])), (aT, .inr (1, [.ref aT_slips, .ref aT_lates, .ref aT_copied, .int T_size, .int T_littleOnes])), (aT_slips, .inl (cI, 6, .inl T_slips)), (aT_lates, .inl (cI, 6, .inl T_lates)), (aT_copied, .inl (cI, 6, .inl T_copied)), (aC, .inr (0, [.ref aT, .ref aR, .ref aW, .ref aC_byNumber])), (aC_byNumber, .inl (cJ, 7, .inr (.inl C_byNumber)))] U.heap ∧ KK D cI cJ cZ cO U ∧ va_D (fun _ => True) [(aR, .inr (6, [.ref aT, .int R_in, .int R_streak, .int R_lot])), (aT, .inr (1, [.ref aT_slips, .ref aT_lates, .ref aT_copied, .int T_size, .int T_littleOnes])), (aT_slips, .inl (cI, 6, .inl T_slips)), (aT_lates, .inl (cI, 6, .inl T_lates)), (aT_copied, .inl (cI, 6, .inl T_copied)), (aC, .inr (0, [.ref aT, .ref aR, .ref aW, .ref aC_byNumber])), (aC_byNumber, .inl (cJ, 7, .inr (.inl C_byNumber)))])) (va_Ql (fun (r : Int64) (_ : Unit) => r = y0.1) (fun (_ : Unit) t => va_P D vwCl [(aR, .inr (6, [.ref aT, .int R_in, .int R_streak, .int R_lot])), (aT, .inr (1, [.ref aT_slips, .ref aT_lates, .ref aT_copied, .int T_size, .int T_littleOnes])), (aT_slips, .inl (cI, 6, .inl T_slips)), (aT_lates, .inl (cI, 6, .inl T_lates)), (aT_copied, .inl (cI, 6, .inl T_copied)), (aC, .inr (0, [.ref aT, .ref aR, .ref aW, .ref aC_byNumber])), (aC_byNumber, .inl (cJ, 7, .inr (.inl y0.2)))] t.heap ∧ va_D (va_A [(aR, .inr (6, [.ref aT, .int R_in, .int R_streak, .int R_lot])), (aT, .inr (1, [.ref aT_slips, .ref aT_lates, .ref aT_copied, .int T_size, .int T_littleOnes])), (aT_slips, .inl (cI, 6, .inl T_slips)), (aT_lates, .inl (cI, 6, .inl T_lates)), (aT_copied, .inl (cI, 6, .inl T_copied)), (aC, .inr (0, [.ref aT, .ref aR, .ref aW, .ref aC_byNumber])), (aC_byNumber, .inl (cJ, 7, .inr (.inl C_byNumber)))] sz) [(aR, .inr (6, [.ref aT, .int R_in, .int R_streak, .int R_lot])), (aT, .inr (1, [.ref aT_slips, .ref aT_lates, .ref aT_copied, .int T_size, .int T_littleOnes])), (aT_slips, .inl (cI, 6, .inl T_slips)), (aT_lates, .inl (cI, 6, .inl T_lates)), (aT_copied, .inl (cI, 6, .inl T_copied)), (aC, .inr (0, [.ref aT, .ref aR, .ref aW, .ref aC_byNumber])), (aC_byNumber, .inl (cJ, 7, .inr (.inl y0.2)))]) (va_A [(aR, .inr (6, [.ref aT, .int R_in, .int R_streak, .int R_lot])), (aT, .inr (1, [.ref aT_slips, .ref aT_lates, .ref aT_copied, .int T_size, .int T_littleOnes])), (aT_slips, .inl (cI, 6, .inl T_slips)), (aT_lates, .inl (cI, 6, .inl T_lates)), (aT_copied, .inl (cI, 6, .inl T_copied)), (aC, .inr (0, [.ref aT, .ref aR, .ref aW, .ref aC_byNumber])), (aC_byNumber, .inl (cJ, 7, .inr (.inl C_byNumber)))] sz)) 0 0 (va_A [(aR, .inr (6, [.ref aT, .int R_in, .int R_streak, .int R_lot])), (aT, .inr (1, [.ref aT_slips, .ref aT_lates, .ref aT_copied, .int T_size, .int T_littleOnes])), (aT_slips, .inl (cI, 6, .inl T_slips)), (aT_lates, .inl (cI, 6, .inl T_lates)), (aT_copied, .inl (cI, 6, .inl T_copied)), (aC, .inr (0, [.ref aT, .ref aR, .ref aW, .ref aC_byNumber])), (aC_byNumber, .inl (cJ, 7, .inr (.inl C_byNumber)))] sz) := by
  refine Met.ofW (cc := cX0_numberFalls) (maxL := 4) (ret := (some .long)) (by decide) rfl ?_
  intro p e s m args below meth c s₁ B hml hv
  obtain ⟨rfl, hsz, hP, hKK, hD0⟩ := hv
  have hx := B.exec
  have hb := B.bytes
  have hr := B.returns
  have hts := atoms_spec (ws := wsX0_numberFalls) B.pre
  have hown : s.vm.findClass RX0 = some m.cls := findClass_of_methodNamed B.named
  have hlocks := B.notSynchronized
  have hK := hKK.1
  have fl_9 := hts (.fieldLink RX0 9 "SimonSays$Chances" "told" "LSimonSays$Children;") (by decide +kernel)
  have fl_15 := hts (.fieldLink RX0 15 "SimonSays$Chances" "round" "LSimonSays$Round;") (by decide +kernel)
  have fl_23 := hts (.fieldLink RX0 23 "SimonSays$Chances" "byNumber" "[J") (by decide +kernel)
  have inX0 : ∀ w ∈ wsX00, w ∈ wsX0_numberFalls := by decide +kernel
  subst hsz
  have hD := hD0.self (sz := s.heap.size)
  generalize hAe : va_A [(aR, .inr (6, [.ref aT, .int R_in, .int R_streak, .int R_lot])), (aT, .inr (1, [.ref aT_slips, .ref aT_lates, .ref aT_copied, .int T_size, .int T_littleOnes])), (aT_slips, .inl (cI, 6, .inl T_slips)), (aT_lates, .inl (cI, 6, .inl T_lates)), (aT_copied, .inl (cI, 6, .inl T_copied)), (aC, .inr (0, [.ref aT, .ref aR, .ref aW, .ref aC_byNumber])), (aC_byNumber, .inl (cJ, 7, .inr (.inl C_byNumber)))] s.heap.size = A at hD ⊢
  have hA : ∀ q : Nat, s.heap.size ≤ q → A q := fun q h => by rw [← hAe]; exact Or.inr h
  have hS : va_S A s.heap s.heap [] := va_S.rf
  have hl := lv_entry ([.ref aC, .int p1, .int p2]) (n := 4) (Nat.le_of_ble_eq_true rfl)
  rw [lg_entry_eq]
  generalize (lg_sl ([.ref aC, .int p1, .int p2]) ++ List.replicate (4 - (lg_sl ([.ref aC, .int p1, .int p2])).length) Slot.unset).toArray = ls at hl ⊢
  have hl : lv_has ls 4 [(0, .ref aC), (1, .int p1), (2, .int p2)] := hl
  have L31 : ∀ (n : Nat), ∀ (C_byNumber : Nat → Int64) (x1 : Int32) (x2 : Int32) (x3 : Int32), ∀ (H : Heap) (locs : List Loc), va_P D vwCl [(aR, .inr (6, [.ref aT, .int R_in, .int R_streak, .int R_lot])), (aT, .inr (1, [.ref aT_slips, .ref aT_lates, .ref aT_copied, .int T_size, .int T_littleOnes])), (aT_slips, .inl (cI, 6, .inl T_slips)), (aT_lates, .inl (cI, 6, .inl T_lates)), (aT_copied, .inl (cI, 6, .inl T_copied)), (aC, .inr (0, [.ref aT, .ref aR, .ref aW, .ref aC_byNumber])), (aC_byNumber, .inl (cJ, 7, .inr (.inl C_byNumber)))] H → va_D A [(aR, .inr (6, [.ref aT, .int R_in, .int R_streak, .int R_lot])), (aT, .inr (1, [.ref aT_slips, .ref aT_lates, .ref aT_copied, .int T_size, .int T_littleOnes])), (aT_slips, .inl (cI, 6, .inl T_slips)), (aT_lates, .inl (cI, 6, .inl T_lates)), (aT_copied, .inl (cI, 6, .inl T_copied)), (aC, .inr (0, [.ref aT, .ref aR, .ref aW, .ref aC_byNumber])), (aC_byNumber, .inl (cJ, 7, .inr (.inl C_byNumber)))] → va_S A s.heap H locs → ∀ (ls : Array Slot), lv_has ls 4 [(0, .ref aC), (1, .int x1), (2, .int x2), (3, .int x3)] → f_X0_numberFalls_L31 R_in R_streak T_size T_slips T_lates T_copied n C_byNumber x1 x2 x3 = some y0 → W p l e (headSpec wsX0_numberFalls ({ frames := 4, cells := 0, slots := 0, locals := 89 } : Room)).room s m ([.ref aC, .int p1, .int p2] : List Value).toArray below meth c H locs 0 0 (MQ below (va_Ql (fun (r : Int64) (_ : Unit) => r = y0.1) (fun (_ : Unit) t => va_P D vwCl [(aR, .inr (6, [.ref aT, .int R_in, .int R_streak, .int R_lot])), (aT, .inr (1, [.ref aT_slips, .ref aT_lates, .ref aT_copied, .int T_size, .int T_littleOnes])), (aT_slips, .inl (cI, 6, .inl T_slips)), (aT_lates, .inl (cI, 6, .inl T_lates)), (aT_copied, .inl (cI, 6, .inl T_copied)), (aC, .inr (0, [.ref aT, .ref aR, .ref aW, .ref aC_byNumber])), (aC_byNumber, .inl (cJ, 7, .inr (.inl y0.2)))] t.heap ∧ va_D A [(aR, .inr (6, [.ref aT, .int R_in, .int R_streak, .int R_lot])), (aT, .inr (1, [.ref aT_slips, .ref aT_lates, .ref aT_copied, .int T_size, .int T_littleOnes])), (aT_slips, .inl (cI, 6, .inl T_slips)), (aT_lates, .inl (cI, 6, .inl T_lates)), (aT_copied, .inl (cI, 6, .inl T_copied)), (aC, .inr (0, [.ref aT, .ref aR, .ref aW, .ref aC_byNumber])), (aC_byNumber, .inl (cJ, 7, .inr (.inl y0.2)))]) A) ([.ref aC, .int p1, .int p2] : List Value).toArray s 0 0 A) (F0 m 31 ls []) := by
    intro n
    induction n with
    | zero =>
      intro C_byNumber x1 x2 x3 H locs hP hD hS ls hl h
      exact (ns h).elim
    | succ n ih =>
      intro C_byNumber x1 x2 x3 H locs hP hD hS ls hl h
      unfold f_X0_numberFalls_L31 at h
      refine lv_iload_n hx hb dX0_numberFalls_31 rfl (lv_at hl 3 rfl) ?_
      refine lv_aload_n hx hb dX0_numberFalls_32 rfl (lv_at hl 0 rfl) ?_
      refine va_get (D := D) (ci := 0) (v := .ref aT) (C := RX0) (T := TX0) (N := 4) hx hb hts inX0 hown hK hP 5 rfl rfl 0 (by decide) fl_9 (fun _ h9 => h9) rfl dX0_numberFalls_33 ?_
      have hPc : va_P D vwCl [(aT, .inr (1, [.ref aT_slips, .ref aT_lates, .ref aT_copied, .int T_size, .int T_littleOnes]))] H := hP.sub [1] rfl
      refine vp_callSi (va_Run.run (va_runV (As := []) (rest := [.int x3]) ⟨hx, hb, hml, hown, hts⟩ (c_X1_size l D cI cJ cZ cO aT aT_slips aT_lates aT_copied T_size T_littleOnes _ rfl) (cwV 0 hts gX0_numberFalls_X1_size rfl rfl rfl (by decide +kernel) ⟨Nat.le_of_ble_eq_true rfl, Nat.le_of_ble_eq_true rfl⟩) ⟨fb_p, va_recv hK hP (ci := 1) (q0 := 1) rfl rfl, fun U hU hW => ⟨rfl, by rw [hU]; exact hPc, KK.warm hW hKK⟩⟩ rfl rfl hl.1 rfl (lv_room (Nat.le_of_ble_eq_true rfl)) dX0_numberFalls_36 ⟨Nat.le_of_ble_eq_true rfl, Nat.le_of_ble_eq_true rfl⟩)) (fun r hr => ?_)
      replace hr := hr.symm
      subst hr
      refine lv_icmp_ge (tgt := 90) hx hb dX0_numberFalls_39 (by decide) (fun c_5 => ?_) (fun c_5 => ?_)
      · replace h := if_p c_5 h
        refine lv_iload_n hx hb dX0_numberFalls_90 rfl (lv_at hl 2 rfl) ?_
        refine lv_if_lt (tgt := 109) hx hb dX0_numberFalls_91 (by decide) (fun c_6 => ?_) (fun c_6 => ?_)
        · replace h := if_p c_6 h
          refine lv_lconst (v := (0 : Int64)) hx hb dX0_numberFalls_109 (by decide) ?_
          have hy := Option.some.inj h
          subst hy
          exact W.lret (v := (0 : Int64)) hx hb hr (fun t ht hW => ⟨⟨(0 : Int64), (), rfl, rfl, by rw [ht]; exact hP, hD⟩, hS.F ht⟩) hS.2.2 dX0_numberFalls_110
        · replace h := if_n c_6 h
          refine lv_iload_n hx hb dX0_numberFalls_94 rfl (lv_at hl 2 rfl) ?_
          refine lv_bipush (v := (6 : Int32)) hx hb dX0_numberFalls_95 (by decide) ?_
          refine lv_icmp_gt (tgt := 109) hx hb dX0_numberFalls_97 (by decide) (fun c_7 => ?_) (fun c_7 => ?_)
          · replace h := if_p c_7 h
            refine lv_lconst (v := (0 : Int64)) hx hb dX0_numberFalls_109 (by decide) ?_
            have hy := Option.some.inj h
            subst hy
            exact W.lret (v := (0 : Int64)) hx hb hr (fun t ht hW => ⟨⟨(0 : Int64), (), rfl, rfl, by rw [ht]; exact hP, hD⟩, hS.F ht⟩) hS.2.2 dX0_numberFalls_110
          · replace h := if_n c_7 h
            refine lv_aload_n hx hb dX0_numberFalls_100 rfl (lv_at hl 0 rfl) ?_
            refine va_get (D := D) (ci := 0) (v := .ref aC_byNumber) (C := RX0) (T := TX0) (N := 4) hx hb hts inX0 hown hK hP 5 rfl rfl 3 (by decide) fl_23 (fun _ h9 => h9) rfl dX0_numberFalls_101 ?_
            refine lv_iload_n hx hb dX0_numberFalls_104 rfl (lv_at hl 2 rfl) ?_
            obtain ⟨hi8, h⟩ := gd_in h
            refine va_lald hx hb hK hP 6 1 rfl rfl hi8 dX0_numberFalls_105 ?_
            refine lv_goto (tgt := 110) hx hb dX0_numberFalls_106 (by decide) ?_
            have hy := Option.some.inj h
            subst hy
            exact W.lret (v := (C_byNumber x2.toNatClampNeg)) hx hb hr (fun t ht hW => ⟨⟨(C_byNumber x2.toNatClampNeg), (), rfl, rfl, by rw [ht]; exact hP, hD⟩, hS.F ht⟩) hS.2.2 dX0_numberFalls_110
      · replace h := if_n c_5 h
        refine lv_aload_n hx hb dX0_numberFalls_42 rfl (lv_at hl 0 rfl) ?_
        refine va_get (D := D) (ci := 0) (v := .ref aR) (C := RX0) (T := TX0) (N := 4) hx hb hts inX0 hown hK hP 5 rfl rfl 1 (by decide) fl_15 (fun _ h9 => h9) rfl dX0_numberFalls_43 ?_
        refine lv_iload_n hx hb dX0_numberFalls_46 rfl (lv_at hl 3 rfl) ?_
        obtain ⟨y9, qy9, h⟩ := ob_some h
        have hPc : va_P D vwCl [(aR, .inr (6, [.ref aT, .int R_in, .int R_streak, .int R_lot])), (aT, .inr (1, [.ref aT_slips, .ref aT_lates, .ref aT_copied, .int T_size, .int T_littleOnes])), (aT_copied, .inl (cI, 6, .inl T_copied))] H := hP.sub [0, 1, 4] rfl
        refine vp_callSi (va_Run.run (va_runV (As := [.int x3]) (rest := []) ⟨hx, hb, hml, hown, hts⟩ (c_X6_isLeader l D cI cJ cZ cO aR aT aT_copied aT_slips aT_lates R_in R_streak R_lot T_size T_littleOnes T_copied x3 y9 qy9) (cwV 1 hts gX0_numberFalls_X6_isLeader rfl rfl rfl (by decide +kernel) ⟨Nat.le_of_ble_eq_true rfl, Nat.le_of_ble_eq_true rfl⟩) ⟨fb_p, va_recv hK hP (ci := 6) (q0 := 0) rfl rfl, fun U hU hW => ⟨rfl, by rw [hU]; exact hPc, KK.warm hW hKK⟩⟩ rfl rfl hl.1 rfl (lv_room (Nat.le_of_ble_eq_true rfl)) dX0_numberFalls_47 ⟨Nat.le_of_ble_eq_true rfl, Nat.le_of_ble_eq_true rfl⟩)) (fun r hr => ?_)
        obtain ⟨hr, hz10⟩ := hr
        replace hr := hr.symm
        subst hr
        refine lv_if_eq (tgt := 84) hx hb dX0_numberFalls_50 (by decide) (fun c_11 => ?_) (fun c_11 => ?_)
        · replace h := if_p c_11 h
          refine lv_iinc (v := (x3 + (1 : Int32))) (lv' := [(3, .int (x3 + (1 : Int32))), (0, .ref aC), (1, .int x1), (2, .int x2)]) hx hb dX0_numberFalls_84 hl (k := 3) rfl rfl (by decide) rfl (fun ls hl => ?_)
          refine lv_goto (tgt := 31) hx hb dX0_numberFalls_87 (by decide) ?_
          exact ih C_byNumber x1 x2 (x3 + (1 : Int32)) _ _ hP hD hS ls (lv_sub hl [1, 2, 3, 0] rfl) h
        · replace h := if_n c_11 h
          refine lv_aload_n hx hb dX0_numberFalls_53 rfl (lv_at hl 0 rfl) ?_
          refine lv_aload_n hx hb dX0_numberFalls_54 rfl (lv_at hl 0 rfl) ?_
          refine va_get (D := D) (ci := 0) (v := .ref aR) (C := RX0) (T := TX0) (N := 4) hx hb hts inX0 hown hK hP 5 rfl rfl 1 (by decide) fl_15 (fun _ h9 => h9) rfl dX0_numberFalls_55 ?_
          refine lv_iload_n hx hb dX0_numberFalls_58 rfl (lv_at hl 3 rfl) ?_
          obtain ⟨y12, qy12, h⟩ := ob_some h
          have hPc : va_P D vwCl [(aR, .inr (6, [.ref aT, .int R_in, .int R_streak, .int R_lot])), (aT, .inr (1, [.ref aT_slips, .ref aT_lates, .ref aT_copied, .int T_size, .int T_littleOnes])), (aT_copied, .inl (cI, 6, .inl T_copied))] H := hP.sub [0, 1, 4] rfl
          refine vp_callSi (va_Run.run (va_runV (As := [.int x3]) (rest := [.ref aC]) ⟨hx, hb, hml, hown, hts⟩ (c_X6_groupOf l D cI cJ cZ cO aR aT aT_copied aT_slips aT_lates R_in R_streak R_lot T_size T_littleOnes T_copied x3 y12 qy12) (cwV 1 hts gX0_numberFalls_X6_groupOf rfl rfl rfl (by decide +kernel) ⟨Nat.le_of_ble_eq_true rfl, Nat.le_of_ble_eq_true rfl⟩) ⟨fb_p, va_recv hK hP (ci := 6) (q0 := 0) rfl rfl, fun U hU hW => ⟨rfl, by rw [hU]; exact hPc, KK.warm hW hKK⟩⟩ rfl rfl hl.1 rfl (lv_room (Nat.le_of_ble_eq_true rfl)) dX0_numberFalls_59 ⟨Nat.le_of_ble_eq_true rfl, Nat.le_of_ble_eq_true rfl⟩)) (fun r hr => ?_)
          replace hr := hr.symm
          subst hr
          have hPc : va_P D vwCl [] H := hP.sub [] rfl
          refine vp_callSi (va_Run.run (va_runS (As := [.int y12]) (rest := [.ref aC]) ⟨hx, hb, hml, hown, hts⟩ (c_J6_bitCount_0f7a4 l D cI cJ cZ cO y12 _ rfl) (va_cwS 1 hts gX0_numberFalls_J6_bitCount_0f7a4 rfl rfl rfl (by decide +kernel) ⟨Nat.le_of_ble_eq_true rfl, Nat.le_of_ble_eq_true rfl⟩) ⟨fb_p, fun U hU hW => ⟨rfl, by rw [hU]; exact hPc, KK.warm hW hKK⟩⟩ rfl rfl hl.1 rfl (lv_room (Nat.le_of_ble_eq_true rfl)) dX0_numberFalls_62 ⟨Nat.le_of_ble_eq_true rfl, Nat.le_of_ble_eq_true rfl⟩)) (fun r hr => ?_)
          replace hr := hr.symm
          subst hr
          refine lv_aload_n hx hb dX0_numberFalls_65 rfl (lv_at hl 0 rfl) ?_
          refine va_get (D := D) (ci := 0) (v := .ref aT) (C := RX0) (T := TX0) (N := 4) hx hb hts inX0 hown hK hP 5 rfl rfl 0 (by decide) fl_9 (fun _ h9 => h9) rfl dX0_numberFalls_66 ?_
          refine lv_iload_n hx hb dX0_numberFalls_69 rfl (lv_at hl 3 rfl) ?_
          refine lv_iload_n hx hb dX0_numberFalls_70 rfl (lv_at hl 1 rfl) ?_
          refine lv_aload_n hx hb dX0_numberFalls_71 rfl (lv_at hl 0 rfl) ?_
          refine va_get (D := D) (ci := 0) (v := .ref aR) (C := RX0) (T := TX0) (N := 4) hx hb hts inX0 hown hK hP 5 rfl rfl 1 (by decide) fl_15 (fun _ h9 => h9) rfl dX0_numberFalls_72 ?_
          have hPc : va_P D vwCl [(aR, .inr (6, [.ref aT, .int R_in, .int R_streak, .int R_lot]))] H := hP.sub [0] rfl
          refine vp_callSi (va_Run.run (va_runV (As := []) (rest := [.int x1, .int x3, .ref aT, .int (f_J6_bitCount_0f7a4 y12), .ref aC]) ⟨hx, hb, hml, hown, hts⟩ (c_X6_streak l D cI cJ cZ cO aR aT R_in R_streak R_lot _ rfl) (cwV 0 hts gX0_numberFalls_X6_streak rfl rfl rfl (by decide +kernel) ⟨Nat.le_of_ble_eq_true rfl, Nat.le_of_ble_eq_true rfl⟩) ⟨fb_p, va_recv hK hP (ci := 6) (q0 := 0) rfl rfl, fun U hU hW => ⟨rfl, by rw [hU]; exact hPc, KK.warm hW hKK⟩⟩ rfl rfl hl.1 rfl (lv_room (Nat.le_of_ble_eq_true rfl)) dX0_numberFalls_75 ⟨Nat.le_of_ble_eq_true rfl, Nat.le_of_ble_eq_true rfl⟩)) (fun r hr => ?_)
          replace hr := hr.symm
          subst hr
          obtain ⟨y13, qy13, h⟩ := ob_some h
          have hPc : va_P D vwCl [(aT, .inr (1, [.ref aT_slips, .ref aT_lates, .ref aT_copied, .int T_size, .int T_littleOnes])), (aT_slips, .inl (cI, 6, .inl T_slips)), (aT_lates, .inl (cI, 6, .inl T_lates))] H := hP.sub [1, 2, 3] rfl
          refine vp_callSi (va_Run.run (va_runV (As := [.int x3, .int x1, .int (f_X6_streak R_streak)]) (rest := [.int (f_J6_bitCount_0f7a4 y12), .ref aC]) ⟨hx, hb, hml, hown, hts⟩ (c_X1_errsOf l D cI cJ cZ cO aT aT_slips aT_lates aT_copied T_size T_littleOnes T_slips T_lates x3 x1 (f_X6_streak R_streak) y13 qy13) (cwV 3 hts gX0_numberFalls_X1_errsOf rfl rfl rfl (by decide +kernel) ⟨Nat.le_of_ble_eq_true rfl, Nat.le_of_ble_eq_true rfl⟩) ⟨fb_p, va_recv hK hP (ci := 1) (q0 := 1) rfl rfl, fun U hU hW => ⟨rfl, by rw [hU]; exact hPc, KK.warm hW hKK⟩⟩ rfl rfl hl.1 rfl (lv_room (Nat.le_of_ble_eq_true rfl)) dX0_numberFalls_78 ⟨Nat.le_of_ble_eq_true rfl, Nat.le_of_ble_eq_true rfl⟩)) (fun r hr => ?_)
          replace hr := hr.symm
          subst hr
          obtain ⟨y14, qy14, h⟩ := ob_some h
          have hPc : va_P D vwCl [(aC, .inr (0, [.ref aT, .ref aR, .ref aW, .ref aC_byNumber])), (aC_byNumber, .inl (cJ, 7, .inr (.inl C_byNumber)))] H := hP.sub [5, 6] rfl
          have hDc : va_D A [(aC, .inr (0, [.ref aT, .ref aR, .ref aW, .ref aC_byNumber])), (aC_byNumber, .inl (cJ, 7, .inr (.inl C_byNumber)))] := hD.sub [5, 6] (by decide) rfl
          have hFc := va_free (wc := [(aC, .inr (0, [.ref aT, .ref aR, .ref aW, .ref aC_byNumber])), (aC_byNumber, .inl (cJ, 7, .inr (.inl C_byNumber)))]) hD hS hA [5, 6] rfl
          refine va_callv (va_runV (As := [.int (f_J6_bitCount_0f7a4 y12), .int y13]) (rest := []) ⟨hx, hb, hml, hown, hts⟩ (c_X0_addGroup l D cI cJ cZ cO aC aC_byNumber aT aR aW C_byNumber H.size (f_J6_bitCount_0f7a4 y12) y13 y14 qy14) (cwV 2 hts gX0_numberFalls_X0_addGroup rfl rfl rfl (by decide +kernel) ⟨Nat.le_of_ble_eq_true rfl, Nat.le_of_ble_eq_true rfl⟩) ⟨fb_i, va_recv hK hP (ci := 0) (q0 := 5) rfl rfl, fun U hU hW => ⟨rfl, by rw [hU], by rw [hU]; exact hPc, KK.warm hW hKK, hDc.weaken (fun _ _ _ _ => trivial)⟩⟩ rfl rfl hl.1 rfl (lv_room (Nat.le_of_ble_eq_true rfl)) dX0_numberFalls_81 ⟨Nat.le_of_ble_eq_true rfl, Nat.le_of_ble_eq_true rfl⟩) hS (fun q _ h => hFc q h) hFc (fun u t H1 locs ht hvm hw hB hz1 hk1 hS => ?_)
          obtain ⟨hP1, hD1⟩ := hB
          rw [ht] at hP1
          obtain ⟨hP, hD⟩ := va_join (wr := [(aR, .inr (6, [.ref aT, .int R_in, .int R_streak, .int R_lot])), (aT, .inr (1, [.ref aT_slips, .ref aT_lates, .ref aT_copied, .int T_size, .int T_littleOnes])), (aT_slips, .inl (cI, 6, .inl T_slips)), (aT_lates, .inl (cI, 6, .inl T_lates)), (aT_copied, .inl (cI, 6, .inl T_copied))]) (w1 := [(aC, .inr (0, [.ref aT, .ref aR, .ref aW, .ref aC_byNumber])), (aC_byNumber, .inl (cJ, 7, .inr (.inl y14)))]) hP hD [5, 6] [0, 1, 2, 3, 4] rfl rfl (by decide) (by decide) hk1 hFc hP1 hD1
          generalize H1 = H at hP hS ⊢
          have hP : va_P D vwCl [(aR, .inr (6, [.ref aT, .int R_in, .int R_streak, .int R_lot])), (aT, .inr (1, [.ref aT_slips, .ref aT_lates, .ref aT_copied, .int T_size, .int T_littleOnes])), (aT_slips, .inl (cI, 6, .inl T_slips)), (aT_lates, .inl (cI, 6, .inl T_lates)), (aT_copied, .inl (cI, 6, .inl T_copied)), (aC, .inr (0, [.ref aT, .ref aR, .ref aW, .ref aC_byNumber])), (aC_byNumber, .inl (cJ, 7, .inr (.inl y14)))] H := hP.sub [0, 1, 2, 3, 4, 5, 6] rfl
          have hD : va_D A [(aR, .inr (6, [.ref aT, .int R_in, .int R_streak, .int R_lot])), (aT, .inr (1, [.ref aT_slips, .ref aT_lates, .ref aT_copied, .int T_size, .int T_littleOnes])), (aT_slips, .inl (cI, 6, .inl T_slips)), (aT_lates, .inl (cI, 6, .inl T_lates)), (aT_copied, .inl (cI, 6, .inl T_copied)), (aC, .inr (0, [.ref aT, .ref aR, .ref aW, .ref aC_byNumber])), (aC_byNumber, .inl (cJ, 7, .inr (.inl y14)))] := hD.sub [0, 1, 2, 3, 4, 5, 6] (by decide) rfl
          refine lv_iinc (v := (x3 + (1 : Int32))) (lv' := [(3, .int (x3 + (1 : Int32))), (0, .ref aC), (1, .int x1), (2, .int x2)]) hx hb dX0_numberFalls_84 hl (k := 3) rfl rfl (by decide) rfl (fun ls hl => ?_)
          refine lv_goto (tgt := 31) hx hb dX0_numberFalls_87 (by decide) ?_
          exact ih y14 x1 x2 (x3 + (1 : Int32)) _ _ hP hD hS ls (lv_sub hl [1, 2, 3, 0] rfl) h
  have L2 : ∀ (n : Nat), ∀ (C_byNumber : Nat → Int64) (x1 : Int32) (x2 : Int32) (x3 : Int32), ∀ (H : Heap) (locs : List Loc), va_P D vwCl [(aR, .inr (6, [.ref aT, .int R_in, .int R_streak, .int R_lot])), (aT, .inr (1, [.ref aT_slips, .ref aT_lates, .ref aT_copied, .int T_size, .int T_littleOnes])), (aT_slips, .inl (cI, 6, .inl T_slips)), (aT_lates, .inl (cI, 6, .inl T_lates)), (aT_copied, .inl (cI, 6, .inl T_copied)), (aC, .inr (0, [.ref aT, .ref aR, .ref aW, .ref aC_byNumber])), (aC_byNumber, .inl (cJ, 7, .inr (.inl C_byNumber)))] H → va_D A [(aR, .inr (6, [.ref aT, .int R_in, .int R_streak, .int R_lot])), (aT, .inr (1, [.ref aT_slips, .ref aT_lates, .ref aT_copied, .int T_size, .int T_littleOnes])), (aT_slips, .inl (cI, 6, .inl T_slips)), (aT_lates, .inl (cI, 6, .inl T_lates)), (aT_copied, .inl (cI, 6, .inl T_copied)), (aC, .inr (0, [.ref aT, .ref aR, .ref aW, .ref aC_byNumber])), (aC_byNumber, .inl (cJ, 7, .inr (.inl C_byNumber)))] → va_S A s.heap H locs → ∀ (ls : Array Slot), lv_has ls 4 [(0, .ref aC), (1, .int x1), (2, .int x2), (3, .int x3)] → f_X0_numberFalls_L2 R_in R_streak T_size T_slips T_lates T_copied n C_byNumber x1 x2 x3 = some y0 → W p l e (headSpec wsX0_numberFalls ({ frames := 4, cells := 0, slots := 0, locals := 89 } : Room)).room s m ([.ref aC, .int p1, .int p2] : List Value).toArray below meth c H locs 0 0 (MQ below (va_Ql (fun (r : Int64) (_ : Unit) => r = y0.1) (fun (_ : Unit) t => va_P D vwCl [(aR, .inr (6, [.ref aT, .int R_in, .int R_streak, .int R_lot])), (aT, .inr (1, [.ref aT_slips, .ref aT_lates, .ref aT_copied, .int T_size, .int T_littleOnes])), (aT_slips, .inl (cI, 6, .inl T_slips)), (aT_lates, .inl (cI, 6, .inl T_lates)), (aT_copied, .inl (cI, 6, .inl T_copied)), (aC, .inr (0, [.ref aT, .ref aR, .ref aW, .ref aC_byNumber])), (aC_byNumber, .inl (cJ, 7, .inr (.inl y0.2)))] t.heap ∧ va_D A [(aR, .inr (6, [.ref aT, .int R_in, .int R_streak, .int R_lot])), (aT, .inr (1, [.ref aT_slips, .ref aT_lates, .ref aT_copied, .int T_size, .int T_littleOnes])), (aT_slips, .inl (cI, 6, .inl T_slips)), (aT_lates, .inl (cI, 6, .inl T_lates)), (aT_copied, .inl (cI, 6, .inl T_copied)), (aC, .inr (0, [.ref aT, .ref aR, .ref aW, .ref aC_byNumber])), (aC_byNumber, .inl (cJ, 7, .inr (.inl y0.2)))]) A) ([.ref aC, .int p1, .int p2] : List Value).toArray s 0 0 A) (F0 m 2 ls []) := by
    intro n
    induction n with
    | zero =>
      intro C_byNumber x1 x2 x3 H locs hP hD hS ls hl h
      exact (ns h).elim
    | succ n ih =>
      intro C_byNumber x1 x2 x3 H locs hP hD hS ls hl h
      unfold f_X0_numberFalls_L2 at h
      refine lv_iload_n hx hb dX0_numberFalls_2 rfl (lv_at hl 3 rfl) ?_
      refine lv_bipush (v := (6 : Int32)) hx hb dX0_numberFalls_3 (by decide) ?_
      refine lv_icmp_gt (tgt := 29) hx hb dX0_numberFalls_5 (by decide) (fun c_1 => ?_) (fun c_1 => ?_)
      · replace h := if_p c_1 h
        refine lv_iconst (v := (0 : Int32)) hx hb dX0_numberFalls_29 (by decide) ?_
        refine lv_istore_n (lv' := [(3, .int (0 : Int32)), (0, .ref aC), (1, .int x1), (2, .int x2)]) hx hb dX0_numberFalls_30 rfl hl (by decide) rfl (fun ls hl => ?_)
        exact L31 300 C_byNumber x1 x2 (0 : Int32) _ _ hP hD hS ls (lv_sub hl [1, 2, 3, 0] rfl) h
      · replace h := if_n c_1 h
        refine lv_aload_n hx hb dX0_numberFalls_8 rfl (lv_at hl 0 rfl) ?_
        refine va_get (D := D) (ci := 0) (v := .ref aC_byNumber) (C := RX0) (T := TX0) (N := 4) hx hb hts inX0 hown hK hP 5 rfl rfl 3 (by decide) fl_23 (fun _ h9 => h9) rfl dX0_numberFalls_9 ?_
        refine lv_iload_n hx hb dX0_numberFalls_12 rfl (lv_at hl 3 rfl) ?_
        refine lv_iload_n hx hb dX0_numberFalls_13 rfl (lv_at hl 3 rfl) ?_
        refine lv_if_ne (tgt := 21) hx hb dX0_numberFalls_14 (by decide) (fun c_2 => ?_) (fun c_2 => ?_)
        · replace h := if_n c_2 h
          refine lv_lconst (v := (0 : Int64)) hx hb dX0_numberFalls_21 (by decide) ?_
          obtain ⟨hi3, h⟩ := gd_in h
          refine va_last hx hb hK hP hD hS 6 1 rfl rfl hi3 dX0_numberFalls_22 (fun H locs hP hD hS => ?_)
          have hP : va_P D vwCl [(aR, .inr (6, [.ref aT, .int R_in, .int R_streak, .int R_lot])), (aT, .inr (1, [.ref aT_slips, .ref aT_lates, .ref aT_copied, .int T_size, .int T_littleOnes])), (aT_slips, .inl (cI, 6, .inl T_slips)), (aT_lates, .inl (cI, 6, .inl T_lates)), (aT_copied, .inl (cI, 6, .inl T_copied)), (aC, .inr (0, [.ref aT, .ref aR, .ref aW, .ref aC_byNumber])), (aC_byNumber, .inl (cJ, 7, .inr (.inl (vp_updL C_byNumber x3.toNatClampNeg (0 : Int64)))))] H := hP
          have hD : va_D A [(aR, .inr (6, [.ref aT, .int R_in, .int R_streak, .int R_lot])), (aT, .inr (1, [.ref aT_slips, .ref aT_lates, .ref aT_copied, .int T_size, .int T_littleOnes])), (aT_slips, .inl (cI, 6, .inl T_slips)), (aT_lates, .inl (cI, 6, .inl T_lates)), (aT_copied, .inl (cI, 6, .inl T_copied)), (aC, .inr (0, [.ref aT, .ref aR, .ref aW, .ref aC_byNumber])), (aC_byNumber, .inl (cJ, 7, .inr (.inl (vp_updL C_byNumber x3.toNatClampNeg (0 : Int64)))))] := hD
          refine lv_iinc (v := (x3 + (1 : Int32))) (lv' := [(3, .int (x3 + (1 : Int32))), (0, .ref aC), (1, .int x1), (2, .int x2)]) hx hb dX0_numberFalls_23 hl (k := 3) rfl rfl (by decide) rfl (fun ls hl => ?_)
          refine lv_goto (tgt := 2) hx hb dX0_numberFalls_26 (by decide) ?_
          exact ih (vp_updL C_byNumber x3.toNatClampNeg (0 : Int64)) x1 x2 (x3 + (1 : Int32)) _ _ hP hD hS ls (lv_sub hl [1, 2, 3, 0] rfl) h
        · replace h := if_p c_2 h
          refine lv_lconst (v := (1 : Int64)) hx hb dX0_numberFalls_17 (by decide) ?_
          refine lv_goto (tgt := 22) hx hb dX0_numberFalls_18 (by decide) ?_
          obtain ⟨hi4, h⟩ := gd_in h
          refine va_last hx hb hK hP hD hS 6 1 rfl rfl hi4 dX0_numberFalls_22 (fun H locs hP hD hS => ?_)
          have hP : va_P D vwCl [(aR, .inr (6, [.ref aT, .int R_in, .int R_streak, .int R_lot])), (aT, .inr (1, [.ref aT_slips, .ref aT_lates, .ref aT_copied, .int T_size, .int T_littleOnes])), (aT_slips, .inl (cI, 6, .inl T_slips)), (aT_lates, .inl (cI, 6, .inl T_lates)), (aT_copied, .inl (cI, 6, .inl T_copied)), (aC, .inr (0, [.ref aT, .ref aR, .ref aW, .ref aC_byNumber])), (aC_byNumber, .inl (cJ, 7, .inr (.inl (vp_updL C_byNumber x3.toNatClampNeg (1 : Int64)))))] H := hP
          have hD : va_D A [(aR, .inr (6, [.ref aT, .int R_in, .int R_streak, .int R_lot])), (aT, .inr (1, [.ref aT_slips, .ref aT_lates, .ref aT_copied, .int T_size, .int T_littleOnes])), (aT_slips, .inl (cI, 6, .inl T_slips)), (aT_lates, .inl (cI, 6, .inl T_lates)), (aT_copied, .inl (cI, 6, .inl T_copied)), (aC, .inr (0, [.ref aT, .ref aR, .ref aW, .ref aC_byNumber])), (aC_byNumber, .inl (cJ, 7, .inr (.inl (vp_updL C_byNumber x3.toNatClampNeg (1 : Int64)))))] := hD
          refine lv_iinc (v := (x3 + (1 : Int32))) (lv' := [(3, .int (x3 + (1 : Int32))), (0, .ref aC), (1, .int x1), (2, .int x2)]) hx hb dX0_numberFalls_23 hl (k := 3) rfl rfl (by decide) rfl (fun ls hl => ?_)
          refine lv_goto (tgt := 2) hx hb dX0_numberFalls_26 (by decide) ?_
          exact ih (vp_updL C_byNumber x3.toNatClampNeg (1 : Int64)) x1 x2 (x3 + (1 : Int32)) _ _ hP hD hS ls (lv_sub hl [1, 2, 3, 0] rfl) h
  unfold f_X0_numberFalls at h
  refine lv_iconst (v := (0 : Int32)) hx hb dX0_numberFalls_0 (by decide) ?_
  refine lv_istore_n (lv' := [(3, .int (0 : Int32)), (0, .ref aC), (1, .int p1), (2, .int p2)]) hx hb dX0_numberFalls_1 rfl hl (by decide) rfl (fun ls hl => ?_)
  exact L2 300 C_byNumber p1 p2 (0 : Int32) _ _ hP hD hS ls (lv_sub hl [1, 2, 3, 0] rfl) h

def f_X0_leaderStays_L14 (R_streak : Int32) (T_size : Int32) (T_slips : Nat → Int32) (T_lates : Nat → Int32) (W_length : Int32) (W_figures : Nat → Int32) : Nat → Int32 → Int64 → Int32 → Int32 → Option (Int64)
  | 0, _, _, _, _ => none
  | n + 1, x1, x2, x4, x5 => (if (f_X7_length W_length) ≤ x5 then some x2 else (Option.bind (f_X7_orderAt W_length W_figures x5) (fun y2 => (Option.bind (f_X1_errsOf T_size T_slips T_lates x1 y2 x4) (fun y3 => f_X0_leaderStays_L14 R_streak T_size T_slips T_lates W_length W_figures n x1 (x2 * (((10 : Int32) - y3).toInt64)) (f_X9_streakBehind y2 x4) (x5 + (1 : Int32)))))))
def f_X0_leaderStays (R_streak : Int32) (T_size : Int32) (T_slips : Nat → Int32) (T_lates : Nat → Int32) (W_length : Int32) (W_figures : Nat → Int32) (p1 : Int32) : Option (Int64) := f_X0_leaderStays_L14 R_streak T_size T_slips T_lates W_length W_figures 300 p1 (1 : Int64) (f_X6_streak R_streak) (0 : Int32)
set_option maxHeartbeats 8000000 in
set_option maxRecDepth 100000 in
theorem c_X0_leaderStays (l : Launch) (D : va_G) (cI cJ cZ cO : ClassId) (aR : Nat) (aT : Nat) (aT_slips : Nat) (aT_lates : Nat) (aW : Nat) (aW_figures : Nat) (aC : Nat) (aT_copied : Nat) (aC_byNumber : Nat) (R_in : Int32) (R_streak : Int32) (R_lot : Int32) (T_size : Int32) (T_littleOnes : Int32) (T_slips : Nat → Int32) (T_lates : Nat → Int32) (W_length : Int32) (W_figures : Nat → Int32)  (p1 : Int32)  (y0 : Int64) (h : f_X0_leaderStays R_streak T_size T_slips T_lates W_length W_figures p1 = some y0) : Met l yX0_leaderStays wsX0_leaderStays ({ frames := 3, cells := 0, slots := 0, locals := 65 } : Room) (va_Pc [.ref aC, .int p1] (fun U => va_P D vwCl [(aR, .inr (6, [.ref aT, .int R_in, .int R_streak, .int R_lot])), (aT, .inr (1, [.ref aT_slips, .ref aT_lates, .ref aT_copied, .int T_size, .int T_littleOnes])), (aT_slips, .inl (cI, 6, .inl T_slips)), (aT_lates, .inl (cI, 6, .inl T_lates)), (aW, .inr (7, [.ref aW_figures, .int W_length])), (aW_figures, .inl (cI, 9, .inl W_figures)), (aC, .inr (0, [.ref aT, .ref aR, .ref aW, .ref aC_byNumber]))] U.heap ∧ KK D cI cJ cZ cO U)) (vp_Sl (fun r => r = y0)) 0 0 (fun _ => False) := by
  refine Met.ofW (cc := cX0_leaderStays) (maxL := 7) (ret := (some .long)) (by decide) rfl ?_
  intro p e s m args below meth c s₁ B hml hv
  obtain ⟨rfl, hP, hKK⟩ := hv
  have hx := B.exec
  have hb := B.bytes
  have hr := B.returns
  have hts := atoms_spec (ws := wsX0_leaderStays) B.pre
  have hown : s.vm.findClass RX0 = some m.cls := findClass_of_methodNamed B.named
  have hlocks := B.notSynchronized
  have hK := hKK.1
  have fl_9 := hts (.fieldLink RX0 9 "SimonSays$Chances" "told" "LSimonSays$Children;") (by decide +kernel)
  have fl_15 := hts (.fieldLink RX0 15 "SimonSays$Chances" "round" "LSimonSays$Round;") (by decide +kernel)
  have fl_19 := hts (.fieldLink RX0 19 "SimonSays$Chances" "row" "LSimonSays$Row;") (by decide +kernel)
  have ini_X9 := hts (.initialized RX9) (by decide +kernel)
  have sta_X9_streakBehind := hts (.static yX9_streakBehind) (by decide +kernel)
  have inX0 : ∀ w ∈ wsX00, w ∈ wsX0_leaderStays := by decide +kernel
  have hl := lv_entry ([.ref aC, .int p1]) (n := 7) (Nat.le_of_ble_eq_true rfl)
  rw [lg_entry_eq]
  generalize (lg_sl ([.ref aC, .int p1]) ++ List.replicate (7 - (lg_sl ([.ref aC, .int p1])).length) Slot.unset).toArray = ls at hl ⊢
  have hl : lv_has ls 7 [(0, .ref aC), (1, .int p1)] := hl
  have L14 : ∀ (n : Nat), ∀ (x1 : Int32) (x2 : Int64) (x4 : Int32) (x5 : Int32), ∀ (ls : Array Slot), lv_has ls 7 [(0, .ref aC), (1, .int x1), (2, .long x2), (4, .int x4), (5, .int x5)] → f_X0_leaderStays_L14 R_streak T_size T_slips T_lates W_length W_figures n x1 x2 x4 x5 = some y0 → W p l e (headSpec wsX0_leaderStays ({ frames := 3, cells := 0, slots := 0, locals := 65 } : Room)).room s m ([.ref aC, .int p1] : List Value).toArray below meth c s.heap [] 0 0 (MQ below (vp_Sl (fun r => r = y0)) ([.ref aC, .int p1] : List Value).toArray s 0 0 (fun _ => False)) (F0 m 14 ls []) := by
    intro n
    induction n with
    | zero =>
      intro x1 x2 x4 x5 ls hl h
      exact (ns h).elim
    | succ n ih =>
      intro x1 x2 x4 x5 ls hl h
      unfold f_X0_leaderStays_L14 at h
      refine lv_iload hx hb dX0_leaderStays_14 (lv_at hl 4 rfl) ?_
      refine lv_aload_n hx hb dX0_leaderStays_16 rfl (lv_at hl 0 rfl) ?_
      refine va_get (D := D) (ci := 0) (v := .ref aW) (C := RX0) (T := TX0) (N := 4) hx hb hts inX0 hown hK hP 6 rfl rfl 2 (by decide) fl_19 (fun _ h9 => h9) rfl dX0_leaderStays_17 ?_
      have hPc : va_P D vwCl [(aW, .inr (7, [.ref aW_figures, .int W_length]))] s.heap := hP.sub [4] rfl
      refine vp_callSi (va_Run.run (va_runV (As := []) (rest := [.int x5]) ⟨hx, hb, hml, hown, hts⟩ (c_X7_length l D cI cJ cZ cO aW aW_figures W_length _ rfl) (cwV 0 hts gX0_leaderStays_X7_length rfl rfl rfl (by decide +kernel) ⟨Nat.le_of_ble_eq_true rfl, Nat.le_of_ble_eq_true rfl⟩) ⟨fb_p, va_recv hK hP (ci := 7) (q0 := 4) rfl rfl, fun U hU hW => ⟨rfl, by rw [hU]; exact hPc, KK.warm hW hKK⟩⟩ rfl rfl hl.1 rfl (lv_room (Nat.le_of_ble_eq_true rfl)) dX0_leaderStays_20 ⟨Nat.le_of_ble_eq_true rfl, Nat.le_of_ble_eq_true rfl⟩)) (fun r hr => ?_)
      replace hr := hr.symm
      subst hr
      refine lv_icmp_ge (tgt := 71) hx hb dX0_leaderStays_23 (by decide) (fun c_1 => ?_) (fun c_1 => ?_)
      · replace h := if_p c_1 h
        refine lv_lload_n hx hb dX0_leaderStays_71 rfl (lv_at hl 2 rfl) ?_
        exact pr_l hx hb hr hlocks dX0_leaderStays_72 (Option.some.inj h)
      · replace h := if_n c_1 h
        refine lv_aload_n hx hb dX0_leaderStays_26 rfl (lv_at hl 0 rfl) ?_
        refine va_get (D := D) (ci := 0) (v := .ref aW) (C := RX0) (T := TX0) (N := 4) hx hb hts inX0 hown hK hP 6 rfl rfl 2 (by decide) fl_19 (fun _ h9 => h9) rfl dX0_leaderStays_27 ?_
        refine lv_iload hx hb dX0_leaderStays_30 (lv_at hl 4 rfl) ?_
        obtain ⟨y2, qy2, h⟩ := ob_some h
        have hPc : va_P D vwCl [(aW, .inr (7, [.ref aW_figures, .int W_length])), (aW_figures, .inl (cI, 9, .inl W_figures))] s.heap := hP.sub [4, 5] rfl
        refine vp_callSi (va_Run.run (va_runV (As := [.int x5]) (rest := []) ⟨hx, hb, hml, hown, hts⟩ (c_X7_orderAt l D cI cJ cZ cO aW aW_figures W_length W_figures x5 y2 qy2) (cwV 1 hts gX0_leaderStays_X7_orderAt rfl rfl rfl (by decide +kernel) ⟨Nat.le_of_ble_eq_true rfl, Nat.le_of_ble_eq_true rfl⟩) ⟨fb_p, va_recv hK hP (ci := 7) (q0 := 4) rfl rfl, fun U hU hW => ⟨rfl, by rw [hU]; exact hPc, KK.warm hW hKK⟩⟩ rfl rfl hl.1 rfl (lv_room (Nat.le_of_ble_eq_true rfl)) dX0_leaderStays_32 ⟨Nat.le_of_ble_eq_true rfl, Nat.le_of_ble_eq_true rfl⟩)) (fun r hr => ?_)
        replace hr := hr.symm
        subst hr
        refine lv_istore (lv' := [(6, .int y2), (0, .ref aC), (1, .int x1), (2, .long x2), (4, .int x4), (5, .int x5)]) hx hb dX0_leaderStays_35 hl (by decide) rfl (fun ls hl => ?_)
        refine lv_lload_n hx hb dX0_leaderStays_37 rfl (lv_at hl 3 rfl) ?_
        refine lv_bipush (v := (10 : Int32)) hx hb dX0_leaderStays_38 (by decide) ?_
        refine lv_aload_n hx hb dX0_leaderStays_40 rfl (lv_at hl 1 rfl) ?_
        refine va_get (D := D) (ci := 0) (v := .ref aT) (C := RX0) (T := TX0) (N := 4) hx hb hts inX0 hown hK hP 6 rfl rfl 0 (by decide) fl_9 (fun _ h9 => h9) rfl dX0_leaderStays_41 ?_
        refine lv_iload_n hx hb dX0_leaderStays_44 rfl (lv_at hl 2 rfl) ?_
        refine lv_iload hx hb dX0_leaderStays_45 (lv_at hl 0 rfl) ?_
        refine lv_iload hx hb dX0_leaderStays_47 (lv_at hl 4 rfl) ?_
        obtain ⟨y3, qy3, h⟩ := ob_some h
        have hPc : va_P D vwCl [(aT, .inr (1, [.ref aT_slips, .ref aT_lates, .ref aT_copied, .int T_size, .int T_littleOnes])), (aT_slips, .inl (cI, 6, .inl T_slips)), (aT_lates, .inl (cI, 6, .inl T_lates))] s.heap := hP.sub [1, 2, 3] rfl
        refine vp_callSi (va_Run.run (va_runV (As := [.int x1, .int y2, .int x4]) (rest := [.int (10 : Int32), .long x2]) ⟨hx, hb, hml, hown, hts⟩ (c_X1_errsOf l D cI cJ cZ cO aT aT_slips aT_lates aT_copied T_size T_littleOnes T_slips T_lates x1 y2 x4 y3 qy3) (cwV 3 hts gX0_leaderStays_X1_errsOf rfl rfl rfl (by decide +kernel) ⟨Nat.le_of_ble_eq_true rfl, Nat.le_of_ble_eq_true rfl⟩) ⟨fb_p, va_recv hK hP (ci := 1) (q0 := 1) rfl rfl, fun U hU hW => ⟨rfl, by rw [hU]; exact hPc, KK.warm hW hKK⟩⟩ rfl rfl hl.1 rfl (lv_room (Nat.le_of_ble_eq_true rfl)) dX0_leaderStays_49 ⟨Nat.le_of_ble_eq_true rfl, Nat.le_of_ble_eq_true rfl⟩)) (fun r hr => ?_)
        replace hr := hr.symm
        subst hr
        refine lv_isub hx hb dX0_leaderStays_52 ?_
        refine lv_i2l (v := ((10 : Int32) - y3).toInt64) hx hb dX0_leaderStays_53 rfl ?_
        refine lv_lmul hx hb dX0_leaderStays_54 ?_
        refine lv_lstore_n (lv' := [(2, .long (x2 * (((10 : Int32) - y3).toInt64))), (6, .int y2), (0, .ref aC), (1, .int x1), (4, .int x4), (5, .int x5)]) hx hb dX0_leaderStays_55 rfl hl (by decide) rfl (fun ls hl => ?_)
        refine lv_iload hx hb dX0_leaderStays_56 (lv_at hl 1 rfl) ?_
        refine lv_iload hx hb dX0_leaderStays_58 (lv_at hl 4 rfl) ?_
        have hPc : va_P D vwCl [] s.heap := hP.sub [] rfl
        refine vp_callSi (va_Run.run (va_runSN (As := [.int y2, .int x4]) (rest := []) ⟨hx, hb, hml, hown, hts⟩ (c_X9_streakBehind l D cI cJ cZ cO y2 x4 _ rfl) ⟨va_cnB (host := "SimonSays") 2 hts gX0_leaderStays_X9_streakBehind_n74 rfl rfl rfl (gN_X0_74 hKK.2) ini_X9 (by decide +kernel) ⟨Nat.le_of_ble_eq_true rfl, Nat.le_of_ble_eq_true rfl⟩, sta_X9_streakBehind, trivial⟩ ⟨fb_p, fun U hU hW => ⟨rfl, by rw [hU]; exact hPc, KK.warm hW hKK⟩⟩ rfl rfl hl.1 rfl (lv_room (Nat.le_of_ble_eq_true rfl)) dX0_leaderStays_60 ⟨Nat.le_of_ble_eq_true rfl, Nat.le_of_ble_eq_true rfl⟩)) (fun r hr => ?_)
        replace hr := hr.symm
        subst hr
        refine lv_istore (lv' := [(4, .int (f_X9_streakBehind y2 x4)), (2, .long (x2 * (((10 : Int32) - y3).toInt64))), (6, .int y2), (0, .ref aC), (1, .int x1), (5, .int x5)]) hx hb dX0_leaderStays_63 hl (by decide) rfl (fun ls hl => ?_)
        refine lv_iinc (v := (x5 + (1 : Int32))) (lv' := [(5, .int (x5 + (1 : Int32))), (4, .int (f_X9_streakBehind y2 x4)), (2, .long (x2 * (((10 : Int32) - y3).toInt64))), (6, .int y2), (0, .ref aC), (1, .int x1)]) hx hb dX0_leaderStays_65 hl (k := 5) rfl rfl (by decide) rfl (fun ls hl => ?_)
        refine lv_goto (tgt := 14) hx hb dX0_leaderStays_68 (by decide) ?_
        exact ih x1 (x2 * (((10 : Int32) - y3).toInt64)) (f_X9_streakBehind y2 x4) (x5 + (1 : Int32)) ls (lv_sub hl [4, 5, 2, 1, 0] rfl) h
  unfold f_X0_leaderStays at h
  refine lv_lconst (v := (1 : Int64)) hx hb dX0_leaderStays_0 (by decide) ?_
  refine lv_lstore_n (lv' := [(2, .long (1 : Int64)), (0, .ref aC), (1, .int p1)]) hx hb dX0_leaderStays_1 rfl hl (by decide) rfl (fun ls hl => ?_)
  refine lv_aload_n hx hb dX0_leaderStays_2 rfl (lv_at hl 1 rfl) ?_
  refine va_get (D := D) (ci := 0) (v := .ref aR) (C := RX0) (T := TX0) (N := 4) hx hb hts inX0 hown hK hP 6 rfl rfl 1 (by decide) fl_15 (fun _ h9 => h9) rfl dX0_leaderStays_3 ?_
  have hPc : va_P D vwCl [(aR, .inr (6, [.ref aT, .int R_in, .int R_streak, .int R_lot]))] s.heap := hP.sub [0] rfl
  refine vp_callSi (va_Run.run (va_runV (As := []) (rest := []) ⟨hx, hb, hml, hown, hts⟩ (c_X6_streak l D cI cJ cZ cO aR aT R_in R_streak R_lot _ rfl) (cwV 0 hts gX0_leaderStays_X6_streak rfl rfl rfl (by decide +kernel) ⟨Nat.le_of_ble_eq_true rfl, Nat.le_of_ble_eq_true rfl⟩) ⟨fb_p, va_recv hK hP (ci := 6) (q0 := 0) rfl rfl, fun U hU hW => ⟨rfl, by rw [hU]; exact hPc, KK.warm hW hKK⟩⟩ rfl rfl hl.1 rfl (lv_room (Nat.le_of_ble_eq_true rfl)) dX0_leaderStays_6 ⟨Nat.le_of_ble_eq_true rfl, Nat.le_of_ble_eq_true rfl⟩)) (fun r hr => ?_)
  replace hr := hr.symm
  subst hr
  refine lv_istore (lv' := [(4, .int (f_X6_streak R_streak)), (2, .long (1 : Int64)), (0, .ref aC), (1, .int p1)]) hx hb dX0_leaderStays_9 hl (by decide) rfl (fun ls hl => ?_)
  refine lv_iconst (v := (0 : Int32)) hx hb dX0_leaderStays_11 (by decide) ?_
  refine lv_istore (lv' := [(5, .int (0 : Int32)), (4, .int (f_X6_streak R_streak)), (2, .long (1 : Int64)), (0, .ref aC), (1, .int p1)]) hx hb dX0_leaderStays_12 hl (by decide) rfl (fun ls hl => ?_)
  exact L14 300 p1 (1 : Int64) (f_X6_streak R_streak) (0 : Int32) ls (lv_sub hl [3, 4, 2, 1, 0] rfl) h

def f_X0_justOneStays_L98 (R_in : Int32) (R_streak : Int32) (T_size : Int32) (T_slips : Nat → Int32) (T_lates : Nat → Int32) (T_copied : Nat → Int32) (W_length : Int32) (W_figures : Nat → Int32) (k19 : Int64 → Int64 → Int64 → Int32 → Option (Int64)) (t0 : Int64) (t1 : Int64) (x1 : Int64) (x3 : Int64) (x7 : Int32) (x10 : Int64) : Option (Int64) := k19 x1 (x3 * x10) (t1 + t0) (x7 + (1 : Int32))
def f_X0_justOneStays_L78 (R_in : Int32) (R_streak : Int32) (T_size : Int32) (T_slips : Nat → Int32) (T_lates : Nat → Int32) (T_copied : Nat → Int32) (W_length : Int32) (W_figures : Nat → Int32) (k19 : Int64 → Int64 → Int64 → Int32 → Option (Int64)) (t0 : Int32) (x1 : Int64) (x3 : Int64) (x5 : Int64) (x7 : Int32) (x8 : Int64) (x10 : Int64) : Option (Int64) := (if t0 = 0 then f_X0_justOneStays_L98 R_in R_streak T_size T_slips T_lates T_copied W_length W_figures k19 (0 : Int64) (x5 * x10) x1 x3 x7 x10 else f_X0_justOneStays_L98 R_in R_streak T_size T_slips T_lates T_copied W_length W_figures k19 (x3 * x8) (x5 * x10) x1 x3 x7 x10)
def f_X0_justOneStays_L19 (R_in : Int32) (R_streak : Int32) (T_size : Int32) (T_slips : Nat → Int32) (T_lates : Nat → Int32) (T_copied : Nat → Int32) (W_length : Int32) (W_figures : Nat → Int32) : Nat → Int64 → Int64 → Int64 → Int32 → Option (Int64)
  | 0, _, _, _, _ => none
  | n + 1, x1, x3, x5, x7 => (if (f_X1_size T_size) ≤ x7 then some x5 else (Option.bind (f_X6_isLeader R_in T_size T_copied x7) (fun y3 => (if y3 = 0 then f_X0_justOneStays_L19 R_in R_streak T_size T_slips T_lates T_copied W_length W_figures n x1 x3 x5 (x7 + (1 : Int32)) else (Option.bind (f_X0_leaderStays R_streak T_size T_slips T_lates W_length W_figures x7) (fun y6 => (Option.bind (f_X6_groupOf R_in T_size T_copied x7) (fun y7 => (if (f_J6_bitCount_0f7a4 y7) = (1 : Int32) then f_X0_justOneStays_L78 R_in R_streak T_size T_slips T_lates T_copied W_length W_figures (f_X0_justOneStays_L19 R_in R_streak T_size T_slips T_lates T_copied W_length W_figures n) (1 : Int32) x1 x3 x5 x7 y6 (x1 - y6) else f_X0_justOneStays_L78 R_in R_streak T_size T_slips T_lates T_copied W_length W_figures (f_X0_justOneStays_L19 R_in R_streak T_size T_slips T_lates T_copied W_length W_figures n) (0 : Int32) x1 x3 x5 x7 y6 (x1 - y6))))))))))
def f_X0_justOneStays (R_in : Int32) (R_streak : Int32) (T_size : Int32) (T_slips : Nat → Int32) (T_lates : Nat → Int32) (T_copied : Nat → Int32) (W_length : Int32) (W_figures : Nat → Int32) : Option (Int64) := (Option.bind (f_X9_powerOfTen (f_X7_length W_length)) (fun y1 => f_X0_justOneStays_L19 R_in R_streak T_size T_slips T_lates T_copied W_length W_figures 300 y1 (1 : Int64) (0 : Int64) (0 : Int32)))
set_option maxHeartbeats 8000000 in
set_option maxRecDepth 100000 in
theorem c_X0_justOneStays (l : Launch) (D : va_G) (cI cJ cZ cO : ClassId) (aR : Nat) (aT : Nat) (aT_slips : Nat) (aT_lates : Nat) (aT_copied : Nat) (aW : Nat) (aW_figures : Nat) (aC : Nat) (aC_byNumber : Nat) (R_in : Int32) (R_streak : Int32) (R_lot : Int32) (T_size : Int32) (T_littleOnes : Int32) (T_slips : Nat → Int32) (T_lates : Nat → Int32) (T_copied : Nat → Int32) (W_length : Int32) (W_figures : Nat → Int32)    (y0 : Int64) (h : f_X0_justOneStays R_in R_streak T_size T_slips T_lates T_copied W_length W_figures = some y0) : Met l yX0_justOneStays wsX0_justOneStays ({ frames := 4, cells := 0, slots := 0, locals := 91 } : Room) (va_Pc [.ref aC] (fun U => va_P D vwCl [(aR, .inr (6, [.ref aT, .int R_in, .int R_streak, .int R_lot])), (aT, .inr (1, [.ref aT_slips, .ref aT_lates, .ref aT_copied, .int T_size, .int T_littleOnes])), (aT_slips, .inl (cI, 6, .inl T_slips)), (aT_lates, .inl (cI, 6, .inl T_lates)), (aT_copied, .inl (cI, 6, .inl T_copied)), (aW, .inr (7, [.ref aW_figures, .int W_length])), (aW_figures, .inl (cI, 9, .inl W_figures)), (aC, .inr (0, [.ref aT, .ref aR, .ref aW, .ref aC_byNumber]))] U.heap ∧ KK D cI cJ cZ cO U)) (vp_Sl (fun r => r = y0)) 0 0 (fun _ => False) := by
  refine Met.ofW (cc := cX0_justOneStays) (maxL := 13) (ret := (some .long)) (by decide) rfl ?_
  intro p e s m args below meth c s₁ B hml hv
  obtain ⟨rfl, hP, hKK⟩ := hv
  have hx := B.exec
  have hb := B.bytes
  have hr := B.returns
  have hts := atoms_spec (ws := wsX0_justOneStays) B.pre
  have hown : s.vm.findClass RX0 = some m.cls := findClass_of_methodNamed B.named
  have hlocks := B.notSynchronized
  have hK := hKK.1
  have fl_9 := hts (.fieldLink RX0 9 "SimonSays$Chances" "told" "LSimonSays$Children;") (by decide +kernel)
  have fl_15 := hts (.fieldLink RX0 15 "SimonSays$Chances" "round" "LSimonSays$Round;") (by decide +kernel)
  have fl_19 := hts (.fieldLink RX0 19 "SimonSays$Chances" "row" "LSimonSays$Row;") (by decide +kernel)
  have ini_X9 := hts (.initialized RX9) (by decide +kernel)
  have sta_X9_powerOfTen := hts (.static yX9_powerOfTen) (by decide +kernel)
  have inX0 : ∀ w ∈ wsX00, w ∈ wsX0_justOneStays := by decide +kernel
  have hl := lv_entry ([.ref aC]) (n := 13) (Nat.le_of_ble_eq_true rfl)
  rw [lg_entry_eq]
  generalize (lg_sl ([.ref aC]) ++ List.replicate (13 - (lg_sl ([.ref aC])).length) Slot.unset).toArray = ls at hl ⊢
  have hl : lv_has ls 13 [(0, .ref aC)] := hl
  have L98 : ∀ (k19 : Int64 → Int64 → Int64 → Int32 → Option (Int64)) (_ : ∀ (x1 : Int64) (x3 : Int64) (x5 : Int64) (x7 : Int32), ∀ (ls : Array Slot), lv_has ls 13 [(0, .ref aC), (1, .long x1), (3, .long x3), (5, .long x5), (7, .int x7)] → k19 x1 x3 x5 x7 = some y0 → W p l e (headSpec wsX0_justOneStays ({ frames := 4, cells := 0, slots := 0, locals := 91 } : Room)).room s m ([.ref aC] : List Value).toArray below meth c s.heap [] 0 0 (MQ below (vp_Sl (fun r => r = y0)) ([.ref aC] : List Value).toArray s 0 0 (fun _ => False)) (F0 m 19 ls [])), ∀ (t0 : Int64) (t1 : Int64) (x1 : Int64) (x3 : Int64) (x7 : Int32) (x10 : Int64), ∀ (ls : Array Slot), lv_has ls 13 [(0, .ref aC), (1, .long x1), (3, .long x3), (7, .int x7), (10, .long x10)] → f_X0_justOneStays_L98 R_in R_streak T_size T_slips T_lates T_copied W_length W_figures k19 t0 t1 x1 x3 x7 x10 = some y0 → W p l e (headSpec wsX0_justOneStays ({ frames := 4, cells := 0, slots := 0, locals := 91 } : Room)).room s m ([.ref aC] : List Value).toArray below meth c s.heap [] 0 0 (MQ below (vp_Sl (fun r => r = y0)) ([.ref aC] : List Value).toArray s 0 0 (fun _ => False)) (F0 m 98 ls [.long t0, .long t1]) := by
    intro k19 hk19
    intro t0 t1 x1 x3 x7 x10 ls hl h
    unfold f_X0_justOneStays_L98 at h
    refine lv_ladd hx hb dX0_justOneStays_98 ?_
    refine lv_lstore (lv' := [(5, .long (t1 + t0)), (0, .ref aC), (1, .long x1), (3, .long x3), (7, .int x7), (10, .long x10)]) hx hb dX0_justOneStays_99 hl (by decide) rfl (fun ls hl => ?_)
    refine lv_lload_n hx hb dX0_justOneStays_101 rfl (lv_at hl 3 rfl) ?_
    refine lv_lload hx hb dX0_justOneStays_102 (lv_at hl 5 rfl) ?_
    refine lv_lmul hx hb dX0_justOneStays_104 ?_
    refine lv_lstore_n (lv' := [(3, .long (x3 * x10)), (5, .long (t1 + t0)), (0, .ref aC), (1, .long x1), (7, .int x7), (10, .long x10)]) hx hb dX0_justOneStays_105 rfl hl (by decide) rfl (fun ls hl => ?_)
    refine lv_iinc (v := (x7 + (1 : Int32))) (lv' := [(7, .int (x7 + (1 : Int32))), (3, .long (x3 * x10)), (5, .long (t1 + t0)), (0, .ref aC), (1, .long x1), (10, .long x10)]) hx hb dX0_justOneStays_106 hl (k := 4) rfl rfl (by decide) rfl (fun ls hl => ?_)
    refine lv_goto (tgt := 19) hx hb dX0_justOneStays_109 (by decide) ?_
    exact hk19 x1 (x3 * x10) (t1 + t0) (x7 + (1 : Int32)) ls (lv_sub hl [3, 4, 1, 2, 0] rfl) h
  have L78 : ∀ (k19 : Int64 → Int64 → Int64 → Int32 → Option (Int64)) (_ : ∀ (x1 : Int64) (x3 : Int64) (x5 : Int64) (x7 : Int32), ∀ (ls : Array Slot), lv_has ls 13 [(0, .ref aC), (1, .long x1), (3, .long x3), (5, .long x5), (7, .int x7)] → k19 x1 x3 x5 x7 = some y0 → W p l e (headSpec wsX0_justOneStays ({ frames := 4, cells := 0, slots := 0, locals := 91 } : Room)).room s m ([.ref aC] : List Value).toArray below meth c s.heap [] 0 0 (MQ below (vp_Sl (fun r => r = y0)) ([.ref aC] : List Value).toArray s 0 0 (fun _ => False)) (F0 m 19 ls [])), ∀ (t0 : Int32) (x1 : Int64) (x3 : Int64) (x5 : Int64) (x7 : Int32) (x8 : Int64) (x10 : Int64), ∀ (ls : Array Slot), lv_has ls 13 [(0, .ref aC), (1, .long x1), (3, .long x3), (5, .long x5), (7, .int x7), (8, .long x8), (10, .long x10)] → f_X0_justOneStays_L78 R_in R_streak T_size T_slips T_lates T_copied W_length W_figures k19 t0 x1 x3 x5 x7 x8 x10 = some y0 → W p l e (headSpec wsX0_justOneStays ({ frames := 4, cells := 0, slots := 0, locals := 91 } : Room)).room s m ([.ref aC] : List Value).toArray below meth c s.heap [] 0 0 (MQ below (vp_Sl (fun r => r = y0)) ([.ref aC] : List Value).toArray s 0 0 (fun _ => False)) (F0 m 78 ls [.int t0]) := by
    intro k19 hk19
    intro t0 x1 x3 x5 x7 x8 x10 ls hl h
    unfold f_X0_justOneStays_L78 at h
    refine lv_istore (lv' := [(12, .int t0), (0, .ref aC), (1, .long x1), (3, .long x3), (5, .long x5), (7, .int x7), (8, .long x8), (10, .long x10)]) hx hb dX0_justOneStays_78 hl (by decide) rfl (fun ls hl => ?_)
    refine lv_lload hx hb dX0_justOneStays_80 (lv_at hl 4 rfl) ?_
    refine lv_lload hx hb dX0_justOneStays_82 (lv_at hl 7 rfl) ?_
    refine lv_lmul hx hb dX0_justOneStays_84 ?_
    refine lv_iload hx hb dX0_justOneStays_85 (lv_at hl 0 rfl) ?_
    refine lv_if_eq (tgt := 97) hx hb dX0_justOneStays_87 (by decide) (fun c_9 => ?_) (fun c_9 => ?_)
    · replace h := if_p c_9 h
      refine lv_lconst (v := (0 : Int64)) hx hb dX0_justOneStays_97 (by decide) ?_
      exact L98 k19 hk19 (0 : Int64) (x5 * x10) x1 x3 x7 x10 ls (lv_sub hl [1, 2, 3, 5, 7] rfl) h
    · replace h := if_n c_9 h
      refine lv_lload_n hx hb dX0_justOneStays_90 rfl (lv_at hl 3 rfl) ?_
      refine lv_lload hx hb dX0_justOneStays_91 (lv_at hl 6 rfl) ?_
      refine lv_lmul hx hb dX0_justOneStays_93 ?_
      refine lv_goto (tgt := 98) hx hb dX0_justOneStays_94 (by decide) ?_
      exact L98 k19 hk19 (x3 * x8) (x5 * x10) x1 x3 x7 x10 ls (lv_sub hl [1, 2, 3, 5, 7] rfl) h
  have L19 : ∀ (n : Nat), ∀ (x1 : Int64) (x3 : Int64) (x5 : Int64) (x7 : Int32), ∀ (ls : Array Slot), lv_has ls 13 [(0, .ref aC), (1, .long x1), (3, .long x3), (5, .long x5), (7, .int x7)] → f_X0_justOneStays_L19 R_in R_streak T_size T_slips T_lates T_copied W_length W_figures n x1 x3 x5 x7 = some y0 → W p l e (headSpec wsX0_justOneStays ({ frames := 4, cells := 0, slots := 0, locals := 91 } : Room)).room s m ([.ref aC] : List Value).toArray below meth c s.heap [] 0 0 (MQ below (vp_Sl (fun r => r = y0)) ([.ref aC] : List Value).toArray s 0 0 (fun _ => False)) (F0 m 19 ls []) := by
    intro n
    induction n with
    | zero =>
      intro x1 x3 x5 x7 ls hl h
      exact (ns h).elim
    | succ n ih =>
      intro x1 x3 x5 x7 ls hl h
      unfold f_X0_justOneStays_L19 at h
      refine lv_iload hx hb dX0_justOneStays_19 (lv_at hl 4 rfl) ?_
      refine lv_aload_n hx hb dX0_justOneStays_21 rfl (lv_at hl 0 rfl) ?_
      refine va_get (D := D) (ci := 0) (v := .ref aT) (C := RX0) (T := TX0) (N := 4) hx hb hts inX0 hown hK hP 7 rfl rfl 0 (by decide) fl_9 (fun _ h9 => h9) rfl dX0_justOneStays_22 ?_
      have hPc : va_P D vwCl [(aT, .inr (1, [.ref aT_slips, .ref aT_lates, .ref aT_copied, .int T_size, .int T_littleOnes]))] s.heap := hP.sub [1] rfl
      refine vp_callSi (va_Run.run (va_runV (As := []) (rest := [.int x7]) ⟨hx, hb, hml, hown, hts⟩ (c_X1_size l D cI cJ cZ cO aT aT_slips aT_lates aT_copied T_size T_littleOnes _ rfl) (cwV 0 hts gX0_justOneStays_X1_size rfl rfl rfl (by decide +kernel) ⟨Nat.le_of_ble_eq_true rfl, Nat.le_of_ble_eq_true rfl⟩) ⟨fb_p, va_recv hK hP (ci := 1) (q0 := 1) rfl rfl, fun U hU hW => ⟨rfl, by rw [hU]; exact hPc, KK.warm hW hKK⟩⟩ rfl rfl hl.1 rfl (lv_room (Nat.le_of_ble_eq_true rfl)) dX0_justOneStays_25 ⟨Nat.le_of_ble_eq_true rfl, Nat.le_of_ble_eq_true rfl⟩)) (fun r hr => ?_)
      replace hr := hr.symm
      subst hr
      refine lv_icmp_ge (tgt := 112) hx hb dX0_justOneStays_28 (by decide) (fun c_2 => ?_) (fun c_2 => ?_)
      · replace h := if_p c_2 h
        refine lv_lload hx hb dX0_justOneStays_112 (lv_at hl 3 rfl) ?_
        exact pr_l hx hb hr hlocks dX0_justOneStays_114 (Option.some.inj h)
      · replace h := if_n c_2 h
        refine lv_aload_n hx hb dX0_justOneStays_31 rfl (lv_at hl 0 rfl) ?_
        refine va_get (D := D) (ci := 0) (v := .ref aR) (C := RX0) (T := TX0) (N := 4) hx hb hts inX0 hown hK hP 7 rfl rfl 1 (by decide) fl_15 (fun _ h9 => h9) rfl dX0_justOneStays_32 ?_
        refine lv_iload hx hb dX0_justOneStays_35 (lv_at hl 4 rfl) ?_
        obtain ⟨y3, qy3, h⟩ := ob_some h
        have hPc : va_P D vwCl [(aR, .inr (6, [.ref aT, .int R_in, .int R_streak, .int R_lot])), (aT, .inr (1, [.ref aT_slips, .ref aT_lates, .ref aT_copied, .int T_size, .int T_littleOnes])), (aT_copied, .inl (cI, 6, .inl T_copied))] s.heap := hP.sub [0, 1, 4] rfl
        refine vp_callSi (va_Run.run (va_runV (As := [.int x7]) (rest := []) ⟨hx, hb, hml, hown, hts⟩ (c_X6_isLeader l D cI cJ cZ cO aR aT aT_copied aT_slips aT_lates R_in R_streak R_lot T_size T_littleOnes T_copied x7 y3 qy3) (cwV 1 hts gX0_justOneStays_X6_isLeader rfl rfl rfl (by decide +kernel) ⟨Nat.le_of_ble_eq_true rfl, Nat.le_of_ble_eq_true rfl⟩) ⟨fb_p, va_recv hK hP (ci := 6) (q0 := 0) rfl rfl, fun U hU hW => ⟨rfl, by rw [hU]; exact hPc, KK.warm hW hKK⟩⟩ rfl rfl hl.1 rfl (lv_room (Nat.le_of_ble_eq_true rfl)) dX0_justOneStays_37 ⟨Nat.le_of_ble_eq_true rfl, Nat.le_of_ble_eq_true rfl⟩)) (fun r hr => ?_)
        obtain ⟨hr, hz4⟩ := hr
        replace hr := hr.symm
        subst hr
        refine lv_if_eq (tgt := 106) hx hb dX0_justOneStays_40 (by decide) (fun c_5 => ?_) (fun c_5 => ?_)
        · replace h := if_p c_5 h
          refine lv_iinc (v := (x7 + (1 : Int32))) (lv' := [(7, .int (x7 + (1 : Int32))), (0, .ref aC), (1, .long x1), (3, .long x3), (5, .long x5)]) hx hb dX0_justOneStays_106 hl (k := 4) rfl rfl (by decide) rfl (fun ls hl => ?_)
          refine lv_goto (tgt := 19) hx hb dX0_justOneStays_109 (by decide) ?_
          exact ih x1 x3 x5 (x7 + (1 : Int32)) ls (lv_sub hl [1, 2, 3, 4, 0] rfl) h
        · replace h := if_n c_5 h
          refine lv_aload_n hx hb dX0_justOneStays_43 rfl (lv_at hl 0 rfl) ?_
          refine lv_iload hx hb dX0_justOneStays_44 (lv_at hl 4 rfl) ?_
          obtain ⟨y6, qy6, h⟩ := ob_some h
          have hPc : va_P D vwCl [(aR, .inr (6, [.ref aT, .int R_in, .int R_streak, .int R_lot])), (aT, .inr (1, [.ref aT_slips, .ref aT_lates, .ref aT_copied, .int T_size, .int T_littleOnes])), (aT_slips, .inl (cI, 6, .inl T_slips)), (aT_lates, .inl (cI, 6, .inl T_lates)), (aW, .inr (7, [.ref aW_figures, .int W_length])), (aW_figures, .inl (cI, 9, .inl W_figures)), (aC, .inr (0, [.ref aT, .ref aR, .ref aW, .ref aC_byNumber]))] s.heap := hP.sub [0, 1, 2, 3, 5, 6, 7] rfl
          refine vp_callSl (va_Run.run (va_runV (As := [.int x7]) (rest := []) ⟨hx, hb, hml, hown, hts⟩ (c_X0_leaderStays l D cI cJ cZ cO aR aT aT_slips aT_lates aW aW_figures aC aT_copied aC_byNumber R_in R_streak R_lot T_size T_littleOnes T_slips T_lates W_length W_figures x7 y6 qy6) (cwV 1 hts gX0_justOneStays_X0_leaderStays rfl rfl rfl (by decide +kernel) ⟨Nat.le_of_ble_eq_true rfl, Nat.le_of_ble_eq_true rfl⟩) ⟨fb_p, va_recv hK hP (ci := 0) (q0 := 7) rfl rfl, fun U hU hW => ⟨rfl, by rw [hU]; exact hPc, KK.warm hW hKK⟩⟩ rfl rfl hl.1 rfl (lv_room (Nat.le_of_ble_eq_true rfl)) dX0_justOneStays_46 ⟨Nat.le_of_ble_eq_true rfl, Nat.le_of_ble_eq_true rfl⟩)) (fun r hr => ?_)
          replace hr := hr.symm
          subst hr
          refine lv_lstore (lv' := [(8, .long y6), (0, .ref aC), (1, .long x1), (3, .long x3), (5, .long x5), (7, .int x7)]) hx hb dX0_justOneStays_49 hl (by decide) rfl (fun ls hl => ?_)
          refine lv_lload_n hx hb dX0_justOneStays_51 rfl (lv_at hl 2 rfl) ?_
          refine lv_lload hx hb dX0_justOneStays_52 (lv_at hl 0 rfl) ?_
          refine lv_lsub hx hb dX0_justOneStays_54 ?_
          refine lv_lstore (lv' := [(10, .long (x1 - y6)), (8, .long y6), (0, .ref aC), (1, .long x1), (3, .long x3), (5, .long x5), (7, .int x7)]) hx hb dX0_justOneStays_55 hl (by decide) rfl (fun ls hl => ?_)
          refine lv_aload_n hx hb dX0_justOneStays_57 rfl (lv_at hl 2 rfl) ?_
          refine va_get (D := D) (ci := 0) (v := .ref aR) (C := RX0) (T := TX0) (N := 4) hx hb hts inX0 hown hK hP 7 rfl rfl 1 (by decide) fl_15 (fun _ h9 => h9) rfl dX0_justOneStays_58 ?_
          refine lv_iload hx hb dX0_justOneStays_61 (lv_at hl 6 rfl) ?_
          obtain ⟨y7, qy7, h⟩ := ob_some h
          have hPc : va_P D vwCl [(aR, .inr (6, [.ref aT, .int R_in, .int R_streak, .int R_lot])), (aT, .inr (1, [.ref aT_slips, .ref aT_lates, .ref aT_copied, .int T_size, .int T_littleOnes])), (aT_copied, .inl (cI, 6, .inl T_copied))] s.heap := hP.sub [0, 1, 4] rfl
          refine vp_callSi (va_Run.run (va_runV (As := [.int x7]) (rest := []) ⟨hx, hb, hml, hown, hts⟩ (c_X6_groupOf l D cI cJ cZ cO aR aT aT_copied aT_slips aT_lates R_in R_streak R_lot T_size T_littleOnes T_copied x7 y7 qy7) (cwV 1 hts gX0_justOneStays_X6_groupOf rfl rfl rfl (by decide +kernel) ⟨Nat.le_of_ble_eq_true rfl, Nat.le_of_ble_eq_true rfl⟩) ⟨fb_p, va_recv hK hP (ci := 6) (q0 := 0) rfl rfl, fun U hU hW => ⟨rfl, by rw [hU]; exact hPc, KK.warm hW hKK⟩⟩ rfl rfl hl.1 rfl (lv_room (Nat.le_of_ble_eq_true rfl)) dX0_justOneStays_63 ⟨Nat.le_of_ble_eq_true rfl, Nat.le_of_ble_eq_true rfl⟩)) (fun r hr => ?_)
          replace hr := hr.symm
          subst hr
          have hPc : va_P D vwCl [] s.heap := hP.sub [] rfl
          refine vp_callSi (va_Run.run (va_runS (As := [.int y7]) (rest := []) ⟨hx, hb, hml, hown, hts⟩ (c_J6_bitCount_0f7a4 l D cI cJ cZ cO y7 _ rfl) (va_cwS 1 hts gX0_justOneStays_J6_bitCount_0f7a4 rfl rfl rfl (by decide +kernel) ⟨Nat.le_of_ble_eq_true rfl, Nat.le_of_ble_eq_true rfl⟩) ⟨fb_p, fun U hU hW => ⟨rfl, by rw [hU]; exact hPc, KK.warm hW hKK⟩⟩ rfl rfl hl.1 rfl (lv_room (Nat.le_of_ble_eq_true rfl)) dX0_justOneStays_66 ⟨Nat.le_of_ble_eq_true rfl, Nat.le_of_ble_eq_true rfl⟩)) (fun r hr => ?_)
          replace hr := hr.symm
          subst hr
          refine lv_iconst (v := (1 : Int32)) hx hb dX0_justOneStays_69 (by decide) ?_
          refine lv_icmp_ne (tgt := 77) hx hb dX0_justOneStays_70 (by decide) (fun c_8 => ?_) (fun c_8 => ?_)
          · replace h := if_n c_8 h
            refine lv_iconst (v := (0 : Int32)) hx hb dX0_justOneStays_77 (by decide) ?_
            exact L78 (f_X0_justOneStays_L19 R_in R_streak T_size T_slips T_lates T_copied W_length W_figures n) ih (0 : Int32) x1 x3 x5 x7 y6 (x1 - y6) ls (lv_sub hl [2, 3, 4, 5, 6, 1, 0] rfl) h
          · replace h := if_p c_8 h
            refine lv_iconst (v := (1 : Int32)) hx hb dX0_justOneStays_73 (by decide) ?_
            refine lv_goto (tgt := 78) hx hb dX0_justOneStays_74 (by decide) ?_
            exact L78 (f_X0_justOneStays_L19 R_in R_streak T_size T_slips T_lates T_copied W_length W_figures n) ih (1 : Int32) x1 x3 x5 x7 y6 (x1 - y6) ls (lv_sub hl [2, 3, 4, 5, 6, 1, 0] rfl) h
  unfold f_X0_justOneStays at h
  refine lv_aload_n hx hb dX0_justOneStays_0 rfl (lv_at hl 0 rfl) ?_
  refine va_get (D := D) (ci := 0) (v := .ref aW) (C := RX0) (T := TX0) (N := 4) hx hb hts inX0 hown hK hP 7 rfl rfl 2 (by decide) fl_19 (fun _ h9 => h9) rfl dX0_justOneStays_1 ?_
  have hPc : va_P D vwCl [(aW, .inr (7, [.ref aW_figures, .int W_length]))] s.heap := hP.sub [5] rfl
  refine vp_callSi (va_Run.run (va_runV (As := []) (rest := []) ⟨hx, hb, hml, hown, hts⟩ (c_X7_length l D cI cJ cZ cO aW aW_figures W_length _ rfl) (cwV 0 hts gX0_justOneStays_X7_length rfl rfl rfl (by decide +kernel) ⟨Nat.le_of_ble_eq_true rfl, Nat.le_of_ble_eq_true rfl⟩) ⟨fb_p, va_recv hK hP (ci := 7) (q0 := 5) rfl rfl, fun U hU hW => ⟨rfl, by rw [hU]; exact hPc, KK.warm hW hKK⟩⟩ rfl rfl hl.1 rfl (lv_room (Nat.le_of_ble_eq_true rfl)) dX0_justOneStays_4 ⟨Nat.le_of_ble_eq_true rfl, Nat.le_of_ble_eq_true rfl⟩)) (fun r hr => ?_)
  replace hr := hr.symm
  subst hr
  obtain ⟨y1, qy1, h⟩ := ob_some h
  have hPc : va_P D vwCl [] s.heap := hP.sub [] rfl
  refine vp_callSl (va_Run.run (va_runSN (As := [.int (f_X7_length W_length)]) (rest := []) ⟨hx, hb, hml, hown, hts⟩ (c_X9_powerOfTen l D cI cJ cZ cO (f_X7_length W_length) y1 qy1) ⟨va_cnB (host := "SimonSays") 1 hts gX0_justOneStays_X9_powerOfTen_n39 rfl rfl rfl (gN_X0_39 hKK.2) ini_X9 (by decide +kernel) ⟨Nat.le_of_ble_eq_true rfl, Nat.le_of_ble_eq_true rfl⟩, sta_X9_powerOfTen, trivial⟩ ⟨fb_p, fun U hU hW => ⟨rfl, by rw [hU]; exact hPc, KK.warm hW hKK⟩⟩ rfl rfl hl.1 rfl (lv_room (Nat.le_of_ble_eq_true rfl)) dX0_justOneStays_7 ⟨Nat.le_of_ble_eq_true rfl, Nat.le_of_ble_eq_true rfl⟩)) (fun r hr => ?_)
  replace hr := hr.symm
  subst hr
  refine lv_lstore_n (lv' := [(1, .long y1), (0, .ref aC)]) hx hb dX0_justOneStays_10 rfl hl (by decide) rfl (fun ls hl => ?_)
  refine lv_lconst (v := (1 : Int64)) hx hb dX0_justOneStays_11 (by decide) ?_
  refine lv_lstore_n (lv' := [(3, .long (1 : Int64)), (1, .long y1), (0, .ref aC)]) hx hb dX0_justOneStays_12 rfl hl (by decide) rfl (fun ls hl => ?_)
  refine lv_lconst (v := (0 : Int64)) hx hb dX0_justOneStays_13 (by decide) ?_
  refine lv_lstore (lv' := [(5, .long (0 : Int64)), (3, .long (1 : Int64)), (1, .long y1), (0, .ref aC)]) hx hb dX0_justOneStays_14 hl (by decide) rfl (fun ls hl => ?_)
  refine lv_iconst (v := (0 : Int32)) hx hb dX0_justOneStays_16 (by decide) ?_
  refine lv_istore (lv' := [(7, .int (0 : Int32)), (5, .long (0 : Int64)), (3, .long (1 : Int64)), (1, .long y1), (0, .ref aC)]) hx hb dX0_justOneStays_17 hl (by decide) rfl (fun ls hl => ?_)
  exact L19 300 y1 (1 : Int64) (0 : Int64) (0 : Int32) ls (lv_sub hl [4, 3, 2, 1, 0] rfl) h

def f_X0_rowNumber_L6  : Nat → Int32 → Int32 → Int32 → Option (Int32)
  | 0, _, _, _ => none
  | n + 1, x0, x2, x3 => (if x3 < 0 then some x2 else f_X0_rowNumber_L6 n x0 (((x2 * (10 : Int32)) + ((x0 >>> (((2 : Int32) * x3) &&& 31)) &&& (3 : Int32))) + (1 : Int32)) (x3 + (-1 : Int32)))
def f_X0_rowNumber (p0 : Int32) (p1 : Int32) : Option (Int32) := f_X0_rowNumber_L6 300 p0 (0 : Int32) (p1 - (1 : Int32))
set_option maxHeartbeats 8000000 in
set_option maxRecDepth 100000 in
theorem c_X0_rowNumber (l : Launch) (D : va_G) (cI cJ cZ cO : ClassId)   (p0 : Int32) (p1 : Int32)  (y0 : Int32) (h : f_X0_rowNumber p0 p1 = some y0) : Met l yX0_rowNumber wsX0_rowNumber ({ frames := 0, cells := 0, slots := 0, locals := 0 } : Room) (va_Pc [.int p0, .int p1] (fun U => va_P D vwCl [] U.heap ∧ KK D cI cJ cZ cO U)) (vp_Si (fun r => r = y0)) 0 0 (fun _ => False) := by
  refine Met.ofW (cc := cX0_rowNumber) (maxL := 4) (ret := (some .int)) (by decide) rfl ?_
  intro p e s m args below meth c s₁ B hml hv
  obtain ⟨rfl, hP, hKK⟩ := hv
  have hx := B.exec
  have hb := B.bytes
  have hr := B.returns
  have hts := atoms_spec (ws := wsX0_rowNumber) B.pre
  have hown : s.vm.findClass RX0 = some m.cls := findClass_of_methodNamed B.named
  have hlocks := B.notSynchronized
  have hK := hKK.1
  have hl := lv_entry ([.int p0, .int p1]) (n := 4) (Nat.le_of_ble_eq_true rfl)
  rw [lg_entry_eq]
  generalize (lg_sl ([.int p0, .int p1]) ++ List.replicate (4 - (lg_sl ([.int p0, .int p1])).length) Slot.unset).toArray = ls at hl ⊢
  have hl : lv_has ls 4 [(0, .int p0), (1, .int p1)] := hl
  have L6 : ∀ (n : Nat), ∀ (x0 : Int32) (x2 : Int32) (x3 : Int32), ∀ (ls : Array Slot), lv_has ls 4 [(0, .int x0), (2, .int x2), (3, .int x3)] → f_X0_rowNumber_L6 n x0 x2 x3 = some y0 → W p l e (headSpec wsX0_rowNumber ({ frames := 0, cells := 0, slots := 0, locals := 0 } : Room)).room s m ([.int p0, .int p1] : List Value).toArray below meth c s.heap [] 0 0 (MQ below (vp_Si (fun r => r = y0)) ([.int p0, .int p1] : List Value).toArray s 0 0 (fun _ => False)) (F0 m 6 ls []) := by
    intro n
    induction n with
    | zero =>
      intro x0 x2 x3 ls hl h
      exact (ns h).elim
    | succ n ih =>
      intro x0 x2 x3 ls hl h
      unfold f_X0_rowNumber_L6 at h
      refine lv_iload_n hx hb dX0_rowNumber_6 rfl (lv_at hl 2 rfl) ?_
      refine lv_if_lt (tgt := 31) hx hb dX0_rowNumber_7 (by decide) (fun c_1 => ?_) (fun c_1 => ?_)
      · replace h := if_p c_1 h
        refine lv_iload_n hx hb dX0_rowNumber_31 rfl (lv_at hl 1 rfl) ?_
        exact pr_i hx hb hr hlocks dX0_rowNumber_32 (Option.some.inj h)
      · replace h := if_n c_1 h
        refine lv_iload_n hx hb dX0_rowNumber_10 rfl (lv_at hl 1 rfl) ?_
        refine lv_bipush (v := (10 : Int32)) hx hb dX0_rowNumber_11 (by decide) ?_
        refine lv_imul hx hb dX0_rowNumber_13 ?_
        refine lv_iload_n hx hb dX0_rowNumber_14 rfl (lv_at hl 0 rfl) ?_
        refine lv_iconst (v := (2 : Int32)) hx hb dX0_rowNumber_15 (by decide) ?_
        refine lv_iload_n hx hb dX0_rowNumber_16 rfl (lv_at hl 2 rfl) ?_
        refine lv_imul hx hb dX0_rowNumber_17 ?_
        refine lv_ishr hx hb dX0_rowNumber_18 ?_
        refine lv_iconst (v := (3 : Int32)) hx hb dX0_rowNumber_19 (by decide) ?_
        refine lv_iand hx hb dX0_rowNumber_20 ?_
        refine lv_iadd hx hb dX0_rowNumber_21 ?_
        refine lv_iconst (v := (1 : Int32)) hx hb dX0_rowNumber_22 (by decide) ?_
        refine lv_iadd hx hb dX0_rowNumber_23 ?_
        refine lv_istore_n (lv' := [(2, .int (((x2 * (10 : Int32)) + ((x0 >>> (((2 : Int32) * x3) &&& 31)) &&& (3 : Int32))) + (1 : Int32))), (0, .int x0), (3, .int x3)]) hx hb dX0_rowNumber_24 rfl hl (by decide) rfl (fun ls hl => ?_)
        refine lv_iinc (v := (x3 + (-1 : Int32))) (lv' := [(3, .int (x3 + (-1 : Int32))), (2, .int (((x2 * (10 : Int32)) + ((x0 >>> (((2 : Int32) * x3) &&& 31)) &&& (3 : Int32))) + (1 : Int32))), (0, .int x0)]) hx hb dX0_rowNumber_25 hl (k := 2) rfl rfl (by decide) rfl (fun ls hl => ?_)
        refine lv_goto (tgt := 6) hx hb dX0_rowNumber_28 (by decide) ?_
        exact ih x0 (((x2 * (10 : Int32)) + ((x0 >>> (((2 : Int32) * x3) &&& 31)) &&& (3 : Int32))) + (1 : Int32)) (x3 + (-1 : Int32)) ls (lv_sub hl [2, 1, 0] rfl) h
  unfold f_X0_rowNumber at h
  refine lv_iconst (v := (0 : Int32)) hx hb dX0_rowNumber_0 (by decide) ?_
  refine lv_istore_n (lv' := [(2, .int (0 : Int32)), (0, .int p0), (1, .int p1)]) hx hb dX0_rowNumber_1 rfl hl (by decide) rfl (fun ls hl => ?_)
  refine lv_iload_n hx hb dX0_rowNumber_2 rfl (lv_at hl 2 rfl) ?_
  refine lv_iconst (v := (1 : Int32)) hx hb dX0_rowNumber_3 (by decide) ?_
  refine lv_isub hx hb dX0_rowNumber_4 ?_
  refine lv_istore_n (lv' := [(3, .int (p1 - (1 : Int32))), (2, .int (0 : Int32)), (0, .int p0), (1, .int p1)]) hx hb dX0_rowNumber_5 rfl hl (by decide) rfl (fun ls hl => ?_)
  exact L6 300 p0 (0 : Int32) (p1 - (1 : Int32)) ls (lv_sub hl [2, 1, 0] rfl) h

def f_X0_bestRow_L9 (R_in : Int32) (R_streak : Int32) (T_size : Int32) (T_slips : Nat → Int32) (T_lates : Nat → Int32) (T_copied : Nat → Int32) : Nat → Int32 → (Nat → Int32) → Int32 → Int32 → Int64 → Int32 → Option (Int32 × Int32 × (Nat → Int32))
  | 0, _, _, _, _, _, _ => none
  | n + 1, W_length, W_figures, x1, x2, x3, x5 => (if ((1 : Int32) <<< (((2 : Int32) * x1) &&& 31)) ≤ x5 then some (x2, W_length, W_figures) else (Option.bind (f_X0_rowNumber x5 x1) (fun y2 => (Option.bind (f_X7_read W_length W_figures y2 x1) (fun y3 => (if y3.1 = 0 then f_X0_bestRow_L9 R_in R_streak T_size T_slips T_lates T_copied n y3.2.1 y3.2.2 x1 x2 x3 (x5 + (1 : Int32)) else (Option.bind (f_X0_justOneStays R_in R_streak T_size T_slips T_lates T_copied y3.2.1 y3.2.2) (fun y6 => (if (lg_cmp y6 x3) ≤ 0 then f_X0_bestRow_L9 R_in R_streak T_size T_slips T_lates T_copied n y3.2.1 y3.2.2 x1 x2 x3 (x5 + (1 : Int32)) else f_X0_bestRow_L9 R_in R_streak T_size T_slips T_lates T_copied n y3.2.1 y3.2.2 x1 y2 y6 (x5 + (1 : Int32)))))))))))
def f_X0_bestRow (R_in : Int32) (R_streak : Int32) (T_size : Int32) (T_slips : Nat → Int32) (T_lates : Nat → Int32) (T_copied : Nat → Int32) (W_length : Int32) (W_figures : Nat → Int32) (p1 : Int32) : Option (Int32 × Int32 × (Nat → Int32)) := f_X0_bestRow_L9 R_in R_streak T_size T_slips T_lates T_copied 300 W_length W_figures p1 (0 : Int32) (-1 : Int64) (0 : Int32)
set_option maxHeartbeats 8000000 in
set_option maxRecDepth 100000 in
theorem c_X0_bestRow (l : Launch) (D : va_G) (cI cJ cZ cO : ClassId) (aR : Nat) (aT : Nat) (aT_slips : Nat) (aT_lates : Nat) (aT_copied : Nat) (aW : Nat) (aW_figures : Nat) (aC : Nat) (aC_byNumber : Nat) (R_in : Int32) (R_streak : Int32) (R_lot : Int32) (T_size : Int32) (T_littleOnes : Int32) (T_slips : Nat → Int32) (T_lates : Nat → Int32) (T_copied : Nat → Int32) (W_length : Int32) (W_figures : Nat → Int32) (sz : Nat) (p1 : Int32)  (y0 : Int32 × Int32 × (Nat → Int32)) (h : f_X0_bestRow R_in R_streak T_size T_slips T_lates T_copied W_length W_figures p1 = some y0) : Met l yX0_bestRow wsX0_bestRow ({ frames := 5, cells := 0, slots := 0, locals := 123 } : Room) (va_Pc [.ref aC, .int p1] (fun U => U.heap.size = sz ∧ va_P D vwCl [(aR, .inr (6, [.ref aT, .int R_in, .int R_streak, .int R_lot])), (aT, .inr (1, [.ref aT_slips, .ref aT_lates, .ref aT_copied, .int T_size, .int T_littleOnes])), (aT_slips, .inl (cI, 6, .inl T_slips)), (aT_lates, .inl (cI, 6, .inl T_lates)), (aT_copied, .inl (cI, 6, .inl T_copied)), (aW, .inr (7, [.ref aW_figures, .int W_length])), (aW_figures, .inl (cI, 9, .inl W_figures)), (aC, .inr (0, [.ref aT, .ref aR, .ref aW, .ref aC_byNumber]))] U.heap ∧ KK D cI cJ cZ cO U ∧ va_D (fun _ => True) [(aR, .inr (6, [.ref aT, .int R_in, .int R_streak, .int R_lot])), (aT, .inr (1, [.ref aT_slips, .ref aT_lates, .ref aT_copied, .int T_size, .int T_littleOnes])), (aT_slips, .inl (cI, 6, .inl T_slips)), (aT_lates, .inl (cI, 6, .inl T_lates)), (aT_copied, .inl (cI, 6, .inl T_copied)), (aW, .inr (7, [.ref aW_figures, .int W_length])), (aW_figures, .inl (cI, 9, .inl W_figures)), (aC, .inr (0, [.ref aT, .ref aR, .ref aW, .ref aC_byNumber]))])) (va_Qi (fun (r : Int32) (_ : Unit) => r = y0.1) (fun (_ : Unit) t => va_P D vwCl [(aR, .inr (6, [.ref aT, .int R_in, .int R_streak, .int R_lot])), (aT, .inr (1, [.ref aT_slips, .ref aT_lates, .ref aT_copied, .int T_size, .int T_littleOnes])), (aT_slips, .inl (cI, 6, .inl T_slips)), (aT_lates, .inl (cI, 6, .inl T_lates)), (aT_copied, .inl (cI, 6, .inl T_copied)), (aW, .inr (7, [.ref aW_figures, .int y0.2.1])), (aW_figures, .inl (cI, 9, .inl y0.2.2)), (aC, .inr (0, [.ref aT, .ref aR, .ref aW, .ref aC_byNumber]))] t.heap ∧ va_D (va_A [(aR, .inr (6, [.ref aT, .int R_in, .int R_streak, .int R_lot])), (aT, .inr (1, [.ref aT_slips, .ref aT_lates, .ref aT_copied, .int T_size, .int T_littleOnes])), (aT_slips, .inl (cI, 6, .inl T_slips)), (aT_lates, .inl (cI, 6, .inl T_lates)), (aT_copied, .inl (cI, 6, .inl T_copied)), (aW, .inr (7, [.ref aW_figures, .int W_length])), (aW_figures, .inl (cI, 9, .inl W_figures)), (aC, .inr (0, [.ref aT, .ref aR, .ref aW, .ref aC_byNumber]))] sz) [(aR, .inr (6, [.ref aT, .int R_in, .int R_streak, .int R_lot])), (aT, .inr (1, [.ref aT_slips, .ref aT_lates, .ref aT_copied, .int T_size, .int T_littleOnes])), (aT_slips, .inl (cI, 6, .inl T_slips)), (aT_lates, .inl (cI, 6, .inl T_lates)), (aT_copied, .inl (cI, 6, .inl T_copied)), (aW, .inr (7, [.ref aW_figures, .int y0.2.1])), (aW_figures, .inl (cI, 9, .inl y0.2.2)), (aC, .inr (0, [.ref aT, .ref aR, .ref aW, .ref aC_byNumber]))]) (va_A [(aR, .inr (6, [.ref aT, .int R_in, .int R_streak, .int R_lot])), (aT, .inr (1, [.ref aT_slips, .ref aT_lates, .ref aT_copied, .int T_size, .int T_littleOnes])), (aT_slips, .inl (cI, 6, .inl T_slips)), (aT_lates, .inl (cI, 6, .inl T_lates)), (aT_copied, .inl (cI, 6, .inl T_copied)), (aW, .inr (7, [.ref aW_figures, .int W_length])), (aW_figures, .inl (cI, 9, .inl W_figures)), (aC, .inr (0, [.ref aT, .ref aR, .ref aW, .ref aC_byNumber]))] sz)) 0 0 (va_A [(aR, .inr (6, [.ref aT, .int R_in, .int R_streak, .int R_lot])), (aT, .inr (1, [.ref aT_slips, .ref aT_lates, .ref aT_copied, .int T_size, .int T_littleOnes])), (aT_slips, .inl (cI, 6, .inl T_slips)), (aT_lates, .inl (cI, 6, .inl T_lates)), (aT_copied, .inl (cI, 6, .inl T_copied)), (aW, .inr (7, [.ref aW_figures, .int W_length])), (aW_figures, .inl (cI, 9, .inl W_figures)), (aC, .inr (0, [.ref aT, .ref aR, .ref aW, .ref aC_byNumber]))] sz) := by
  refine Met.ofW (cc := cX0_bestRow) (maxL := 9) (ret := (some .int)) (by decide) rfl ?_
  intro p e s m args below meth c s₁ B hml hv
  obtain ⟨rfl, hsz, hP, hKK, hD0⟩ := hv
  have hx := B.exec
  have hb := B.bytes
  have hr := B.returns
  have hts := atoms_spec (ws := wsX0_bestRow) B.pre
  have hown : s.vm.findClass RX0 = some m.cls := findClass_of_methodNamed B.named
  have hlocks := B.notSynchronized
  have hK := hKK.1
  have fl_19 := hts (.fieldLink RX0 19 "SimonSays$Chances" "row" "LSimonSays$Row;") (by decide +kernel)
  have cst_81 := hts (.constantLong RX0 81 (-1)) (by decide +kernel)
  have inX0 : ∀ w ∈ wsX00, w ∈ wsX0_bestRow := by decide +kernel
  subst hsz
  have hD := hD0.self (sz := s.heap.size)
  generalize hAe : va_A [(aR, .inr (6, [.ref aT, .int R_in, .int R_streak, .int R_lot])), (aT, .inr (1, [.ref aT_slips, .ref aT_lates, .ref aT_copied, .int T_size, .int T_littleOnes])), (aT_slips, .inl (cI, 6, .inl T_slips)), (aT_lates, .inl (cI, 6, .inl T_lates)), (aT_copied, .inl (cI, 6, .inl T_copied)), (aW, .inr (7, [.ref aW_figures, .int W_length])), (aW_figures, .inl (cI, 9, .inl W_figures)), (aC, .inr (0, [.ref aT, .ref aR, .ref aW, .ref aC_byNumber]))] s.heap.size = A at hD ⊢
  have hA : ∀ q : Nat, s.heap.size ≤ q → A q := fun q h => by rw [← hAe]; exact Or.inr h
  have hS : va_S A s.heap s.heap [] := va_S.rf
  have hl := lv_entry ([.ref aC, .int p1]) (n := 9) (Nat.le_of_ble_eq_true rfl)
  rw [lg_entry_eq]
  generalize (lg_sl ([.ref aC, .int p1]) ++ List.replicate (9 - (lg_sl ([.ref aC, .int p1])).length) Slot.unset).toArray = ls at hl ⊢
  have hl : lv_has ls 9 [(0, .ref aC), (1, .int p1)] := hl
  have L9 : ∀ (n : Nat), ∀ (W_length : Int32) (W_figures : Nat → Int32) (x1 : Int32) (x2 : Int32) (x3 : Int64) (x5 : Int32), ∀ (H : Heap) (locs : List Loc), va_P D vwCl [(aR, .inr (6, [.ref aT, .int R_in, .int R_streak, .int R_lot])), (aT, .inr (1, [.ref aT_slips, .ref aT_lates, .ref aT_copied, .int T_size, .int T_littleOnes])), (aT_slips, .inl (cI, 6, .inl T_slips)), (aT_lates, .inl (cI, 6, .inl T_lates)), (aT_copied, .inl (cI, 6, .inl T_copied)), (aW, .inr (7, [.ref aW_figures, .int W_length])), (aW_figures, .inl (cI, 9, .inl W_figures)), (aC, .inr (0, [.ref aT, .ref aR, .ref aW, .ref aC_byNumber]))] H → va_D A [(aR, .inr (6, [.ref aT, .int R_in, .int R_streak, .int R_lot])), (aT, .inr (1, [.ref aT_slips, .ref aT_lates, .ref aT_copied, .int T_size, .int T_littleOnes])), (aT_slips, .inl (cI, 6, .inl T_slips)), (aT_lates, .inl (cI, 6, .inl T_lates)), (aT_copied, .inl (cI, 6, .inl T_copied)), (aW, .inr (7, [.ref aW_figures, .int W_length])), (aW_figures, .inl (cI, 9, .inl W_figures)), (aC, .inr (0, [.ref aT, .ref aR, .ref aW, .ref aC_byNumber]))] → va_S A s.heap H locs → ∀ (ls : Array Slot), lv_has ls 9 [(0, .ref aC), (1, .int x1), (2, .int x2), (3, .long x3), (5, .int x5)] → f_X0_bestRow_L9 R_in R_streak T_size T_slips T_lates T_copied n W_length W_figures x1 x2 x3 x5 = some y0 → W p l e (headSpec wsX0_bestRow ({ frames := 5, cells := 0, slots := 0, locals := 123 } : Room)).room s m ([.ref aC, .int p1] : List Value).toArray below meth c H locs 0 0 (MQ below (va_Qi (fun (r : Int32) (_ : Unit) => r = y0.1) (fun (_ : Unit) t => va_P D vwCl [(aR, .inr (6, [.ref aT, .int R_in, .int R_streak, .int R_lot])), (aT, .inr (1, [.ref aT_slips, .ref aT_lates, .ref aT_copied, .int T_size, .int T_littleOnes])), (aT_slips, .inl (cI, 6, .inl T_slips)), (aT_lates, .inl (cI, 6, .inl T_lates)), (aT_copied, .inl (cI, 6, .inl T_copied)), (aW, .inr (7, [.ref aW_figures, .int y0.2.1])), (aW_figures, .inl (cI, 9, .inl y0.2.2)), (aC, .inr (0, [.ref aT, .ref aR, .ref aW, .ref aC_byNumber]))] t.heap ∧ va_D A [(aR, .inr (6, [.ref aT, .int R_in, .int R_streak, .int R_lot])), (aT, .inr (1, [.ref aT_slips, .ref aT_lates, .ref aT_copied, .int T_size, .int T_littleOnes])), (aT_slips, .inl (cI, 6, .inl T_slips)), (aT_lates, .inl (cI, 6, .inl T_lates)), (aT_copied, .inl (cI, 6, .inl T_copied)), (aW, .inr (7, [.ref aW_figures, .int y0.2.1])), (aW_figures, .inl (cI, 9, .inl y0.2.2)), (aC, .inr (0, [.ref aT, .ref aR, .ref aW, .ref aC_byNumber]))]) A) ([.ref aC, .int p1] : List Value).toArray s 0 0 A) (F0 m 9 ls []) := by
    intro n
    induction n with
    | zero =>
      intro W_length W_figures x1 x2 x3 x5 H locs hP hD hS ls hl h
      exact (ns h).elim
    | succ n ih =>
      intro W_length W_figures x1 x2 x3 x5 H locs hP hD hS ls hl h
      unfold f_X0_bestRow_L9 at h
      refine lv_iload hx hb dX0_bestRow_9 (lv_at hl 4 rfl) ?_
      refine lv_iconst (v := (1 : Int32)) hx hb dX0_bestRow_11 (by decide) ?_
      refine lv_iconst (v := (2 : Int32)) hx hb dX0_bestRow_12 (by decide) ?_
      refine lv_iload_n hx hb dX0_bestRow_13 rfl (lv_at hl 1 rfl) ?_
      refine lv_imul hx hb dX0_bestRow_14 ?_
      refine lv_ishl hx hb dX0_bestRow_15 ?_
      refine lv_icmp_ge (tgt := 65) hx hb dX0_bestRow_16 (by decide) (fun c_1 => ?_) (fun c_1 => ?_)
      · replace h := if_p c_1 h
        refine lv_iload_n hx hb dX0_bestRow_65 rfl (lv_at hl 2 rfl) ?_
        have hy := Option.some.inj h
        subst hy
        exact W.iret (v := x2) hx hb hr (fun t ht hW => ⟨⟨x2, (), rfl, rfl, by rw [ht]; exact hP, hD⟩, hS.F ht⟩) hS.2.2 dX0_bestRow_66
      · replace h := if_n c_1 h
        refine lv_iload hx hb dX0_bestRow_19 (lv_at hl 4 rfl) ?_
        refine lv_iload_n hx hb dX0_bestRow_21 rfl (lv_at hl 1 rfl) ?_
        obtain ⟨y2, qy2, h⟩ := ob_some h
        have hPc : va_P D vwCl [] H := hP.sub [] rfl
        refine vp_callSi (va_Run.run (va_runS (As := [.int x5, .int x1]) (rest := []) ⟨hx, hb, hml, hown, hts⟩ (c_X0_rowNumber l D cI cJ cZ cO x5 x1 y2 qy2) (cwS 2 hts gX0_bestRow_X0_rowNumber rfl rfl rfl (by decide +kernel) ⟨Nat.le_of_ble_eq_true rfl, Nat.le_of_ble_eq_true rfl⟩) ⟨fb_p, fun U hU hW => ⟨rfl, by rw [hU]; exact hPc, KK.warm hW hKK⟩⟩ rfl rfl hl.1 rfl (lv_room (Nat.le_of_ble_eq_true rfl)) dX0_bestRow_22 ⟨Nat.le_of_ble_eq_true rfl, Nat.le_of_ble_eq_true rfl⟩)) (fun r hr => ?_)
        replace hr := hr.symm
        subst hr
        refine lv_istore (lv' := [(6, .int y2), (0, .ref aC), (1, .int x1), (2, .int x2), (3, .long x3), (5, .int x5)]) hx hb dX0_bestRow_25 hl (by decide) rfl (fun ls hl => ?_)
        refine lv_aload_n hx hb dX0_bestRow_27 rfl (lv_at hl 1 rfl) ?_
        refine va_get (D := D) (ci := 0) (v := .ref aW) (C := RX0) (T := TX0) (N := 4) hx hb hts inX0 hown hK hP 7 rfl rfl 2 (by decide) fl_19 (fun _ h9 => h9) rfl dX0_bestRow_28 ?_
        refine lv_iload hx hb dX0_bestRow_31 (lv_at hl 0 rfl) ?_
        refine lv_iload_n hx hb dX0_bestRow_33 rfl (lv_at hl 2 rfl) ?_
        obtain ⟨y3, qy3, h⟩ := ob_some h
        have hPc : va_P D vwCl [(aW, .inr (7, [.ref aW_figures, .int W_length])), (aW_figures, .inl (cI, 9, .inl W_figures))] H := hP.sub [5, 6] rfl
        have hDc : va_D A [(aW, .inr (7, [.ref aW_figures, .int W_length])), (aW_figures, .inl (cI, 9, .inl W_figures))] := hD.sub [5, 6] (by decide) rfl
        have hFc := va_free (wc := [(aW, .inr (7, [.ref aW_figures, .int W_length])), (aW_figures, .inl (cI, 9, .inl W_figures))]) hD hS hA [5, 6] rfl
        refine va_calli (va_runV (As := [.int y2, .int x1]) (rest := []) ⟨hx, hb, hml, hown, hts⟩ (c_X7_read l D cI cJ cZ cO aW aW_figures W_length W_figures H.size y2 x1 y3 qy3) (cwV 2 hts gX0_bestRow_X7_read rfl rfl rfl (by decide +kernel) ⟨Nat.le_of_ble_eq_true rfl, Nat.le_of_ble_eq_true rfl⟩) ⟨fb_i, va_recv hK hP (ci := 7) (q0 := 5) rfl rfl, fun U hU hW => ⟨rfl, by rw [hU], by rw [hU]; exact hPc, KK.warm hW hKK, hDc.weaken (fun _ _ _ _ => trivial)⟩⟩ rfl rfl hl.1 rfl (lv_room (Nat.le_of_ble_eq_true rfl)) dX0_bestRow_34 ⟨Nat.le_of_ble_eq_true rfl, Nat.le_of_ble_eq_true rfl⟩) hS (fun q _ h => hFc q h) hFc (fun r u t H1 locs ht hvm hw hB hz1 hk1 hS => ?_)
        obtain ⟨hP1, hD1⟩ := hB
        rw [ht] at hP1
        obtain ⟨hw, hz4⟩ := hw
        replace hw := hw.symm
        subst hw
        obtain ⟨hP, hD⟩ := va_join (wr := [(aR, .inr (6, [.ref aT, .int R_in, .int R_streak, .int R_lot])), (aT, .inr (1, [.ref aT_slips, .ref aT_lates, .ref aT_copied, .int T_size, .int T_littleOnes])), (aT_slips, .inl (cI, 6, .inl T_slips)), (aT_lates, .inl (cI, 6, .inl T_lates)), (aT_copied, .inl (cI, 6, .inl T_copied)), (aC, .inr (0, [.ref aT, .ref aR, .ref aW, .ref aC_byNumber]))]) (w1 := [(aW, .inr (7, [.ref aW_figures, .int y3.2.1])), (aW_figures, .inl (cI, 9, .inl y3.2.2))]) hP hD [5, 6] [0, 1, 2, 3, 4, 7] rfl rfl (by decide) (by decide) hk1 hFc hP1 hD1
        generalize H1 = H at hP hS ⊢
        have hP : va_P D vwCl [(aR, .inr (6, [.ref aT, .int R_in, .int R_streak, .int R_lot])), (aT, .inr (1, [.ref aT_slips, .ref aT_lates, .ref aT_copied, .int T_size, .int T_littleOnes])), (aT_slips, .inl (cI, 6, .inl T_slips)), (aT_lates, .inl (cI, 6, .inl T_lates)), (aT_copied, .inl (cI, 6, .inl T_copied)), (aW, .inr (7, [.ref aW_figures, .int y3.2.1])), (aW_figures, .inl (cI, 9, .inl y3.2.2)), (aC, .inr (0, [.ref aT, .ref aR, .ref aW, .ref aC_byNumber]))] H := hP.sub [0, 1, 2, 3, 4, 6, 7, 5] rfl
        have hD : va_D A [(aR, .inr (6, [.ref aT, .int R_in, .int R_streak, .int R_lot])), (aT, .inr (1, [.ref aT_slips, .ref aT_lates, .ref aT_copied, .int T_size, .int T_littleOnes])), (aT_slips, .inl (cI, 6, .inl T_slips)), (aT_lates, .inl (cI, 6, .inl T_lates)), (aT_copied, .inl (cI, 6, .inl T_copied)), (aW, .inr (7, [.ref aW_figures, .int y3.2.1])), (aW_figures, .inl (cI, 9, .inl y3.2.2)), (aC, .inr (0, [.ref aT, .ref aR, .ref aW, .ref aC_byNumber]))] := hD.sub [0, 1, 2, 3, 4, 6, 7, 5] (by decide) rfl
        refine lv_if_eq (tgt := 59) hx hb dX0_bestRow_37 (by decide) (fun c_5 => ?_) (fun c_5 => ?_)
        · replace h := if_p c_5 h
          refine lv_iinc (v := (x5 + (1 : Int32))) (lv' := [(5, .int (x5 + (1 : Int32))), (6, .int y2), (0, .ref aC), (1, .int x1), (2, .int x2), (3, .long x3)]) hx hb dX0_bestRow_59 hl (k := 5) rfl rfl (by decide) rfl (fun ls hl => ?_)
          refine lv_goto (tgt := 9) hx hb dX0_bestRow_62 (by decide) ?_
          exact ih y3.2.1 y3.2.2 x1 x2 x3 (x5 + (1 : Int32)) _ _ hP hD hS ls (lv_sub hl [2, 3, 4, 5, 0] rfl) h
        · replace h := if_n c_5 h
          refine lv_aload_n hx hb dX0_bestRow_40 rfl (lv_at hl 1 rfl) ?_
          obtain ⟨y6, qy6, h⟩ := ob_some h
          have hPc : va_P D vwCl [(aR, .inr (6, [.ref aT, .int R_in, .int R_streak, .int R_lot])), (aT, .inr (1, [.ref aT_slips, .ref aT_lates, .ref aT_copied, .int T_size, .int T_littleOnes])), (aT_slips, .inl (cI, 6, .inl T_slips)), (aT_lates, .inl (cI, 6, .inl T_lates)), (aT_copied, .inl (cI, 6, .inl T_copied)), (aW, .inr (7, [.ref aW_figures, .int y3.2.1])), (aW_figures, .inl (cI, 9, .inl y3.2.2)), (aC, .inr (0, [.ref aT, .ref aR, .ref aW, .ref aC_byNumber]))] H := hP.sub [0, 1, 2, 3, 4, 5, 6, 7] rfl
          refine vp_callSl (va_Run.run (va_runV (As := []) (rest := []) ⟨hx, hb, hml, hown, hts⟩ (c_X0_justOneStays l D cI cJ cZ cO aR aT aT_slips aT_lates aT_copied aW aW_figures aC aC_byNumber R_in R_streak R_lot T_size T_littleOnes T_slips T_lates T_copied y3.2.1 y3.2.2 y6 qy6) (cwV 0 hts gX0_bestRow_X0_justOneStays rfl rfl rfl (by decide +kernel) ⟨Nat.le_of_ble_eq_true rfl, Nat.le_of_ble_eq_true rfl⟩) ⟨fb_p, va_recv hK hP (ci := 0) (q0 := 7) rfl rfl, fun U hU hW => ⟨rfl, by rw [hU]; exact hPc, KK.warm hW hKK⟩⟩ rfl rfl hl.1 rfl (lv_room (Nat.le_of_ble_eq_true rfl)) dX0_bestRow_41 ⟨Nat.le_of_ble_eq_true rfl, Nat.le_of_ble_eq_true rfl⟩)) (fun r hr => ?_)
          replace hr := hr.symm
          subst hr
          refine lv_lstore (lv' := [(7, .long y6), (6, .int y2), (0, .ref aC), (1, .int x1), (2, .int x2), (3, .long x3), (5, .int x5)]) hx hb dX0_bestRow_44 hl (by decide) rfl (fun ls hl => ?_)
          refine lv_lload hx hb dX0_bestRow_46 (lv_at hl 0 rfl) ?_
          refine lv_lload_n hx hb dX0_bestRow_48 rfl (lv_at hl 5 rfl) ?_
          refine W.lcmp hx hb dX0_bestRow_49 ?_
          refine lv_if_le (tgt := 59) hx hb dX0_bestRow_50 (by decide) (fun c_7 => ?_) (fun c_7 => ?_)
          · replace h := if_p c_7 h
            refine lv_iinc (v := (x5 + (1 : Int32))) (lv' := [(5, .int (x5 + (1 : Int32))), (7, .long y6), (6, .int y2), (0, .ref aC), (1, .int x1), (2, .int x2), (3, .long x3)]) hx hb dX0_bestRow_59 hl (k := 6) rfl rfl (by decide) rfl (fun ls hl => ?_)
            refine lv_goto (tgt := 9) hx hb dX0_bestRow_62 (by decide) ?_
            exact ih y3.2.1 y3.2.2 x1 x2 x3 (x5 + (1 : Int32)) _ _ hP hD hS ls (lv_sub hl [3, 4, 5, 6, 0] rfl) h
          · replace h := if_n c_7 h
            refine lv_lload hx hb dX0_bestRow_53 (lv_at hl 0 rfl) ?_
            refine lv_lstore_n (lv' := [(3, .long y6), (7, .long y6), (6, .int y2), (0, .ref aC), (1, .int x1), (2, .int x2), (5, .int x5)]) hx hb dX0_bestRow_55 rfl hl (by decide) rfl (fun ls hl => ?_)
            refine lv_iload hx hb dX0_bestRow_56 (lv_at hl 2 rfl) ?_
            refine lv_istore_n (lv' := [(2, .int y2), (3, .long y6), (7, .long y6), (6, .int y2), (0, .ref aC), (1, .int x1), (5, .int x5)]) hx hb dX0_bestRow_58 rfl hl (by decide) rfl (fun ls hl => ?_)
            refine lv_iinc (v := (x5 + (1 : Int32))) (lv' := [(5, .int (x5 + (1 : Int32))), (2, .int y2), (3, .long y6), (7, .long y6), (6, .int y2), (0, .ref aC), (1, .int x1)]) hx hb dX0_bestRow_59 hl (k := 6) rfl rfl (by decide) rfl (fun ls hl => ?_)
            refine lv_goto (tgt := 9) hx hb dX0_bestRow_62 (by decide) ?_
            exact ih y3.2.1 y3.2.2 x1 y2 y6 (x5 + (1 : Int32)) _ _ hP hD hS ls (lv_sub hl [5, 6, 1, 2, 0] rfl) h
  unfold f_X0_bestRow at h
  refine lv_iconst (v := (0 : Int32)) hx hb dX0_bestRow_0 (by decide) ?_
  refine lv_istore_n (lv' := [(2, .int (0 : Int32)), (0, .ref aC), (1, .int p1)]) hx hb dX0_bestRow_1 rfl hl (by decide) rfl (fun ls hl => ?_)
  refine lv_ldc2 (v := (-1 : Int64)) hx hb hown cst_81 dX0_bestRow_2 ?_
  refine lv_lstore_n (lv' := [(3, .long (-1 : Int64)), (2, .int (0 : Int32)), (0, .ref aC), (1, .int p1)]) hx hb dX0_bestRow_5 rfl hl (by decide) rfl (fun ls hl => ?_)
  refine lv_iconst (v := (0 : Int32)) hx hb dX0_bestRow_6 (by decide) ?_
  refine lv_istore (lv' := [(5, .int (0 : Int32)), (3, .long (-1 : Int64)), (2, .int (0 : Int32)), (0, .ref aC), (1, .int p1)]) hx hb dX0_bestRow_7 hl (by decide) rfl (fun ls hl => ?_)
  exact L9 300 W_length W_figures p1 (0 : Int32) (-1 : Int64) (0 : Int32) _ _ hP hD hS ls (lv_sub hl [3, 4, 2, 1, 0] rfl) h

def f_X0_ordersThatCould_L4 (R_in : Int32) (R_streak : Int32) (T_size : Int32) (T_slips : Nat → Int32) (T_lates : Nat → Int32) (T_copied : Nat → Int32) : Nat → Int32 → Int32 → Int32 → Option (Int32)
  | 0, _, _, _ => none
  | n + 1, x1, x2, x3 => (if (4 : Int32) < x3 then some x2 else (Option.bind (f_X0_setFalls R_in R_streak T_size T_slips T_lates T_copied x3 x1) (fun y2 => (if (lg_cmp y2 (0 : Int64)) ≤ 0 then f_X0_ordersThatCould_L4 R_in R_streak T_size T_slips T_lates T_copied n x1 x2 (x3 + (1 : Int32)) else f_X0_ordersThatCould_L4 R_in R_streak T_size T_slips T_lates T_copied n x1 (x2 ||| ((1 : Int32) <<< (x3 &&& 31))) (x3 + (1 : Int32))))))
def f_X0_ordersThatCould (R_in : Int32) (R_streak : Int32) (T_size : Int32) (T_slips : Nat → Int32) (T_lates : Nat → Int32) (T_copied : Nat → Int32) (p1 : Int32) : Option (Int32) := f_X0_ordersThatCould_L4 R_in R_streak T_size T_slips T_lates T_copied 300 p1 (0 : Int32) (1 : Int32)
set_option maxHeartbeats 8000000 in
set_option maxRecDepth 100000 in
theorem c_X0_ordersThatCould (l : Launch) (D : va_G) (cI cJ cZ cO : ClassId) (aR : Nat) (aT : Nat) (aT_slips : Nat) (aT_lates : Nat) (aT_copied : Nat) (aC : Nat) (aW : Nat) (aC_byNumber : Nat) (R_in : Int32) (R_streak : Int32) (R_lot : Int32) (T_size : Int32) (T_littleOnes : Int32) (T_slips : Nat → Int32) (T_lates : Nat → Int32) (T_copied : Nat → Int32)  (p1 : Int32)  (y0 : Int32) (h : f_X0_ordersThatCould R_in R_streak T_size T_slips T_lates T_copied p1 = some y0) : Met l yX0_ordersThatCould wsX0_ordersThatCould ({ frames := 5, cells := 0, slots := 0, locals := 116 } : Room) (va_Pc [.ref aC, .int p1] (fun U => va_P D vwCl [(aR, .inr (6, [.ref aT, .int R_in, .int R_streak, .int R_lot])), (aT, .inr (1, [.ref aT_slips, .ref aT_lates, .ref aT_copied, .int T_size, .int T_littleOnes])), (aT_slips, .inl (cI, 6, .inl T_slips)), (aT_lates, .inl (cI, 6, .inl T_lates)), (aT_copied, .inl (cI, 6, .inl T_copied)), (aC, .inr (0, [.ref aT, .ref aR, .ref aW, .ref aC_byNumber]))] U.heap ∧ KK D cI cJ cZ cO U)) (vp_Si (fun r => r = y0)) 0 0 (fun _ => False) := by
  refine Met.ofW (cc := cX0_ordersThatCould) (maxL := 4) (ret := (some .int)) (by decide) rfl ?_
  intro p e s m args below meth c s₁ B hml hv
  obtain ⟨rfl, hP, hKK⟩ := hv
  have hx := B.exec
  have hb := B.bytes
  have hr := B.returns
  have hts := atoms_spec (ws := wsX0_ordersThatCould) B.pre
  have hown : s.vm.findClass RX0 = some m.cls := findClass_of_methodNamed B.named
  have hlocks := B.notSynchronized
  have hK := hKK.1
  have hl := lv_entry ([.ref aC, .int p1]) (n := 4) (Nat.le_of_ble_eq_true rfl)
  rw [lg_entry_eq]
  generalize (lg_sl ([.ref aC, .int p1]) ++ List.replicate (4 - (lg_sl ([.ref aC, .int p1])).length) Slot.unset).toArray = ls at hl ⊢
  have hl : lv_has ls 4 [(0, .ref aC), (1, .int p1)] := hl
  have L4 : ∀ (n : Nat), ∀ (x1 : Int32) (x2 : Int32) (x3 : Int32), ∀ (ls : Array Slot), lv_has ls 4 [(0, .ref aC), (1, .int x1), (2, .int x2), (3, .int x3)] → f_X0_ordersThatCould_L4 R_in R_streak T_size T_slips T_lates T_copied n x1 x2 x3 = some y0 → W p l e (headSpec wsX0_ordersThatCould ({ frames := 5, cells := 0, slots := 0, locals := 116 } : Room)).room s m ([.ref aC, .int p1] : List Value).toArray below meth c s.heap [] 0 0 (MQ below (vp_Si (fun r => r = y0)) ([.ref aC, .int p1] : List Value).toArray s 0 0 (fun _ => False)) (F0 m 4 ls []) := by
    intro n
    induction n with
    | zero =>
      intro x1 x2 x3 ls hl h
      exact (ns h).elim
    | succ n ih =>
      intro x1 x2 x3 ls hl h
      unfold f_X0_ordersThatCould_L4 at h
      refine lv_iload_n hx hb dX0_ordersThatCould_4 rfl (lv_at hl 3 rfl) ?_
      refine lv_iconst (v := (4 : Int32)) hx hb dX0_ordersThatCould_5 (by decide) ?_
      refine lv_icmp_gt (tgt := 32) hx hb dX0_ordersThatCould_6 (by decide) (fun c_1 => ?_) (fun c_1 => ?_)
      · replace h := if_p c_1 h
        refine lv_iload_n hx hb dX0_ordersThatCould_32 rfl (lv_at hl 2 rfl) ?_
        exact pr_i hx hb hr hlocks dX0_ordersThatCould_33 (Option.some.inj h)
      · replace h := if_n c_1 h
        refine lv_aload_n hx hb dX0_ordersThatCould_9 rfl (lv_at hl 0 rfl) ?_
        refine lv_iload_n hx hb dX0_ordersThatCould_10 rfl (lv_at hl 3 rfl) ?_
        refine lv_iload_n hx hb dX0_ordersThatCould_11 rfl (lv_at hl 1 rfl) ?_
        obtain ⟨y2, qy2, h⟩ := ob_some h
        have hPc : va_P D vwCl [(aR, .inr (6, [.ref aT, .int R_in, .int R_streak, .int R_lot])), (aT, .inr (1, [.ref aT_slips, .ref aT_lates, .ref aT_copied, .int T_size, .int T_littleOnes])), (aT_slips, .inl (cI, 6, .inl T_slips)), (aT_lates, .inl (cI, 6, .inl T_lates)), (aT_copied, .inl (cI, 6, .inl T_copied)), (aC, .inr (0, [.ref aT, .ref aR, .ref aW, .ref aC_byNumber]))] s.heap := hP.sub [0, 1, 2, 3, 4, 5] rfl
        refine vp_callSl (va_Run.run (va_runV (As := [.int x3, .int x1]) (rest := []) ⟨hx, hb, hml, hown, hts⟩ (c_X0_setFalls l D cI cJ cZ cO aR aT aT_slips aT_lates aT_copied aC aW aC_byNumber R_in R_streak R_lot T_size T_littleOnes T_slips T_lates T_copied x3 x1 y2 qy2) (cwV 2 hts gX0_ordersThatCould_X0_setFalls rfl rfl rfl (by decide +kernel) ⟨Nat.le_of_ble_eq_true rfl, Nat.le_of_ble_eq_true rfl⟩) ⟨fb_p, va_recv hK hP (ci := 0) (q0 := 5) rfl rfl, fun U hU hW => ⟨rfl, by rw [hU]; exact hPc, KK.warm hW hKK⟩⟩ rfl rfl hl.1 rfl (lv_room (Nat.le_of_ble_eq_true rfl)) dX0_ordersThatCould_12 ⟨Nat.le_of_ble_eq_true rfl, Nat.le_of_ble_eq_true rfl⟩)) (fun r hr => ?_)
        replace hr := hr.symm
        subst hr
        refine lv_lconst (v := (0 : Int64)) hx hb dX0_ordersThatCould_15 (by decide) ?_
        refine W.lcmp hx hb dX0_ordersThatCould_16 ?_
        refine lv_if_le (tgt := 26) hx hb dX0_ordersThatCould_17 (by decide) (fun c_3 => ?_) (fun c_3 => ?_)
        · replace h := if_p c_3 h
          refine lv_iinc (v := (x3 + (1 : Int32))) (lv' := [(3, .int (x3 + (1 : Int32))), (0, .ref aC), (1, .int x1), (2, .int x2)]) hx hb dX0_ordersThatCould_26 hl (k := 3) rfl rfl (by decide) rfl (fun ls hl => ?_)
          refine lv_goto (tgt := 4) hx hb dX0_ordersThatCould_29 (by decide) ?_
          exact ih x1 x2 (x3 + (1 : Int32)) ls (lv_sub hl [1, 2, 3, 0] rfl) h
        · replace h := if_n c_3 h
          refine lv_iload_n hx hb dX0_ordersThatCould_20 rfl (lv_at hl 2 rfl) ?_
          refine lv_iconst (v := (1 : Int32)) hx hb dX0_ordersThatCould_21 (by decide) ?_
          refine lv_iload_n hx hb dX0_ordersThatCould_22 rfl (lv_at hl 3 rfl) ?_
          refine lv_ishl hx hb dX0_ordersThatCould_23 ?_
          refine lv_ior hx hb dX0_ordersThatCould_24 ?_
          refine lv_istore_n (lv' := [(2, .int (x2 ||| ((1 : Int32) <<< (x3 &&& 31)))), (0, .ref aC), (1, .int x1), (3, .int x3)]) hx hb dX0_ordersThatCould_25 rfl hl (by decide) rfl (fun ls hl => ?_)
          refine lv_iinc (v := (x3 + (1 : Int32))) (lv' := [(3, .int (x3 + (1 : Int32))), (2, .int (x2 ||| ((1 : Int32) <<< (x3 &&& 31)))), (0, .ref aC), (1, .int x1)]) hx hb dX0_ordersThatCould_26 hl (k := 3) rfl rfl (by decide) rfl (fun ls hl => ?_)
          refine lv_goto (tgt := 4) hx hb dX0_ordersThatCould_29 (by decide) ?_
          exact ih x1 (x2 ||| ((1 : Int32) <<< (x3 &&& 31))) (x3 + (1 : Int32)) ls (lv_sub hl [2, 3, 1, 0] rfl) h
  unfold f_X0_ordersThatCould at h
  refine lv_iconst (v := (0 : Int32)) hx hb dX0_ordersThatCould_0 (by decide) ?_
  refine lv_istore_n (lv' := [(2, .int (0 : Int32)), (0, .ref aC), (1, .int p1)]) hx hb dX0_ordersThatCould_1 rfl hl (by decide) rfl (fun ls hl => ?_)
  refine lv_iconst (v := (1 : Int32)) hx hb dX0_ordersThatCould_2 (by decide) ?_
  refine lv_istore_n (lv' := [(3, .int (1 : Int32)), (2, .int (0 : Int32)), (0, .ref aC), (1, .int p1)]) hx hb dX0_ordersThatCould_3 rfl hl (by decide) rfl (fun ls hl => ?_)
  exact L4 300 p1 (0 : Int32) (1 : Int32) ls (lv_sub hl [2, 3, 1, 0] rfl) h

def f_X0_likeliestOrder_L8 (R_in : Int32) (R_streak : Int32) (T_size : Int32) (T_slips : Nat → Int32) (T_lates : Nat → Int32) (T_copied : Nat → Int32) : Nat → Int32 → Int32 → Int64 → Int32 → Option (Int32)
  | 0, _, _, _, _ => none
  | n + 1, x1, x2, x3, x5 => (if (4 : Int32) < x5 then some x2 else (Option.bind (f_X0_setFalls R_in R_streak T_size T_slips T_lates T_copied x5 x1) (fun y2 => (if (lg_cmp y2 x3) ≤ 0 then f_X0_likeliestOrder_L8 R_in R_streak T_size T_slips T_lates T_copied n x1 x2 x3 (x5 + (1 : Int32)) else f_X0_likeliestOrder_L8 R_in R_streak T_size T_slips T_lates T_copied n x1 x5 y2 (x5 + (1 : Int32))))))
def f_X0_likeliestOrder (R_in : Int32) (R_streak : Int32) (T_size : Int32) (T_slips : Nat → Int32) (T_lates : Nat → Int32) (T_copied : Nat → Int32) (p1 : Int32) : Option (Int32) := f_X0_likeliestOrder_L8 R_in R_streak T_size T_slips T_lates T_copied 300 p1 (-9 : Int32) (0 : Int64) (1 : Int32)
set_option maxHeartbeats 8000000 in
set_option maxRecDepth 100000 in
theorem c_X0_likeliestOrder (l : Launch) (D : va_G) (cI cJ cZ cO : ClassId) (aR : Nat) (aT : Nat) (aT_slips : Nat) (aT_lates : Nat) (aT_copied : Nat) (aC : Nat) (aW : Nat) (aC_byNumber : Nat) (R_in : Int32) (R_streak : Int32) (R_lot : Int32) (T_size : Int32) (T_littleOnes : Int32) (T_slips : Nat → Int32) (T_lates : Nat → Int32) (T_copied : Nat → Int32)  (p1 : Int32)  (y0 : Int32) (h : f_X0_likeliestOrder R_in R_streak T_size T_slips T_lates T_copied p1 = some y0) : Met l yX0_likeliestOrder wsX0_likeliestOrder ({ frames := 5, cells := 0, slots := 0, locals := 116 } : Room) (va_Pc [.ref aC, .int p1] (fun U => va_P D vwCl [(aR, .inr (6, [.ref aT, .int R_in, .int R_streak, .int R_lot])), (aT, .inr (1, [.ref aT_slips, .ref aT_lates, .ref aT_copied, .int T_size, .int T_littleOnes])), (aT_slips, .inl (cI, 6, .inl T_slips)), (aT_lates, .inl (cI, 6, .inl T_lates)), (aT_copied, .inl (cI, 6, .inl T_copied)), (aC, .inr (0, [.ref aT, .ref aR, .ref aW, .ref aC_byNumber]))] U.heap ∧ KK D cI cJ cZ cO U)) (vp_Si (fun r => r = y0)) 0 0 (fun _ => False) := by
  refine Met.ofW (cc := cX0_likeliestOrder) (maxL := 8) (ret := (some .int)) (by decide) rfl ?_
  intro p e s m args below meth c s₁ B hml hv
  obtain ⟨rfl, hP, hKK⟩ := hv
  have hx := B.exec
  have hb := B.bytes
  have hr := B.returns
  have hts := atoms_spec (ws := wsX0_likeliestOrder) B.pre
  have hown : s.vm.findClass RX0 = some m.cls := findClass_of_methodNamed B.named
  have hlocks := B.notSynchronized
  have hK := hKK.1
  have hl := lv_entry ([.ref aC, .int p1]) (n := 8) (Nat.le_of_ble_eq_true rfl)
  rw [lg_entry_eq]
  generalize (lg_sl ([.ref aC, .int p1]) ++ List.replicate (8 - (lg_sl ([.ref aC, .int p1])).length) Slot.unset).toArray = ls at hl ⊢
  have hl : lv_has ls 8 [(0, .ref aC), (1, .int p1)] := hl
  have L8 : ∀ (n : Nat), ∀ (x1 : Int32) (x2 : Int32) (x3 : Int64) (x5 : Int32), ∀ (ls : Array Slot), lv_has ls 8 [(0, .ref aC), (1, .int x1), (2, .int x2), (3, .long x3), (5, .int x5)] → f_X0_likeliestOrder_L8 R_in R_streak T_size T_slips T_lates T_copied n x1 x2 x3 x5 = some y0 → W p l e (headSpec wsX0_likeliestOrder ({ frames := 5, cells := 0, slots := 0, locals := 116 } : Room)).room s m ([.ref aC, .int p1] : List Value).toArray below meth c s.heap [] 0 0 (MQ below (vp_Si (fun r => r = y0)) ([.ref aC, .int p1] : List Value).toArray s 0 0 (fun _ => False)) (F0 m 8 ls []) := by
    intro n
    induction n with
    | zero =>
      intro x1 x2 x3 x5 ls hl h
      exact (ns h).elim
    | succ n ih =>
      intro x1 x2 x3 x5 ls hl h
      unfold f_X0_likeliestOrder_L8 at h
      refine lv_iload hx hb dX0_likeliestOrder_8 (lv_at hl 4 rfl) ?_
      refine lv_iconst (v := (4 : Int32)) hx hb dX0_likeliestOrder_10 (by decide) ?_
      refine lv_icmp_gt (tgt := 42) hx hb dX0_likeliestOrder_11 (by decide) (fun c_1 => ?_) (fun c_1 => ?_)
      · replace h := if_p c_1 h
        refine lv_iload_n hx hb dX0_likeliestOrder_42 rfl (lv_at hl 2 rfl) ?_
        exact pr_i hx hb hr hlocks dX0_likeliestOrder_43 (Option.some.inj h)
      · replace h := if_n c_1 h
        refine lv_aload_n hx hb dX0_likeliestOrder_14 rfl (lv_at hl 0 rfl) ?_
        refine lv_iload hx hb dX0_likeliestOrder_15 (lv_at hl 4 rfl) ?_
        refine lv_iload_n hx hb dX0_likeliestOrder_17 rfl (lv_at hl 1 rfl) ?_
        obtain ⟨y2, qy2, h⟩ := ob_some h
        have hPc : va_P D vwCl [(aR, .inr (6, [.ref aT, .int R_in, .int R_streak, .int R_lot])), (aT, .inr (1, [.ref aT_slips, .ref aT_lates, .ref aT_copied, .int T_size, .int T_littleOnes])), (aT_slips, .inl (cI, 6, .inl T_slips)), (aT_lates, .inl (cI, 6, .inl T_lates)), (aT_copied, .inl (cI, 6, .inl T_copied)), (aC, .inr (0, [.ref aT, .ref aR, .ref aW, .ref aC_byNumber]))] s.heap := hP.sub [0, 1, 2, 3, 4, 5] rfl
        refine vp_callSl (va_Run.run (va_runV (As := [.int x5, .int x1]) (rest := []) ⟨hx, hb, hml, hown, hts⟩ (c_X0_setFalls l D cI cJ cZ cO aR aT aT_slips aT_lates aT_copied aC aW aC_byNumber R_in R_streak R_lot T_size T_littleOnes T_slips T_lates T_copied x5 x1 y2 qy2) (cwV 2 hts gX0_likeliestOrder_X0_setFalls rfl rfl rfl (by decide +kernel) ⟨Nat.le_of_ble_eq_true rfl, Nat.le_of_ble_eq_true rfl⟩) ⟨fb_p, va_recv hK hP (ci := 0) (q0 := 5) rfl rfl, fun U hU hW => ⟨rfl, by rw [hU]; exact hPc, KK.warm hW hKK⟩⟩ rfl rfl hl.1 rfl (lv_room (Nat.le_of_ble_eq_true rfl)) dX0_likeliestOrder_18 ⟨Nat.le_of_ble_eq_true rfl, Nat.le_of_ble_eq_true rfl⟩)) (fun r hr => ?_)
        replace hr := hr.symm
        subst hr
        refine lv_lstore (lv' := [(6, .long y2), (0, .ref aC), (1, .int x1), (2, .int x2), (3, .long x3), (5, .int x5)]) hx hb dX0_likeliestOrder_21 hl (by decide) rfl (fun ls hl => ?_)
        refine lv_lload hx hb dX0_likeliestOrder_23 (lv_at hl 0 rfl) ?_
        refine lv_lload_n hx hb dX0_likeliestOrder_25 rfl (lv_at hl 4 rfl) ?_
        refine W.lcmp hx hb dX0_likeliestOrder_26 ?_
        refine lv_if_le (tgt := 36) hx hb dX0_likeliestOrder_27 (by decide) (fun c_3 => ?_) (fun c_3 => ?_)
        · replace h := if_p c_3 h
          refine lv_iinc (v := (x5 + (1 : Int32))) (lv' := [(5, .int (x5 + (1 : Int32))), (6, .long y2), (0, .ref aC), (1, .int x1), (2, .int x2), (3, .long x3)]) hx hb dX0_likeliestOrder_36 hl (k := 5) rfl rfl (by decide) rfl (fun ls hl => ?_)
          refine lv_goto (tgt := 8) hx hb dX0_likeliestOrder_39 (by decide) ?_
          exact ih x1 x2 x3 (x5 + (1 : Int32)) ls (lv_sub hl [2, 3, 4, 5, 0] rfl) h
        · replace h := if_n c_3 h
          refine lv_lload hx hb dX0_likeliestOrder_30 (lv_at hl 0 rfl) ?_
          refine lv_lstore_n (lv' := [(3, .long y2), (6, .long y2), (0, .ref aC), (1, .int x1), (2, .int x2), (5, .int x5)]) hx hb dX0_likeliestOrder_32 rfl hl (by decide) rfl (fun ls hl => ?_)
          refine lv_iload hx hb dX0_likeliestOrder_33 (lv_at hl 5 rfl) ?_
          refine lv_istore_n (lv' := [(2, .int x5), (3, .long y2), (6, .long y2), (0, .ref aC), (1, .int x1), (5, .int x5)]) hx hb dX0_likeliestOrder_35 rfl hl (by decide) rfl (fun ls hl => ?_)
          refine lv_iinc (v := (x5 + (1 : Int32))) (lv' := [(5, .int (x5 + (1 : Int32))), (2, .int x5), (3, .long y2), (6, .long y2), (0, .ref aC), (1, .int x1)]) hx hb dX0_likeliestOrder_36 hl (k := 5) rfl rfl (by decide) rfl (fun ls hl => ?_)
          refine lv_goto (tgt := 8) hx hb dX0_likeliestOrder_39 (by decide) ?_
          exact ih x1 x5 y2 (x5 + (1 : Int32)) ls (lv_sub hl [4, 5, 1, 2, 0] rfl) h
  unfold f_X0_likeliestOrder at h
  refine lv_bipush (v := (-9 : Int32)) hx hb dX0_likeliestOrder_0 (by decide) ?_
  refine lv_istore_n (lv' := [(2, .int (-9 : Int32)), (0, .ref aC), (1, .int p1)]) hx hb dX0_likeliestOrder_2 rfl hl (by decide) rfl (fun ls hl => ?_)
  refine lv_lconst (v := (0 : Int64)) hx hb dX0_likeliestOrder_3 (by decide) ?_
  refine lv_lstore_n (lv' := [(3, .long (0 : Int64)), (2, .int (-9 : Int32)), (0, .ref aC), (1, .int p1)]) hx hb dX0_likeliestOrder_4 rfl hl (by decide) rfl (fun ls hl => ?_)
  refine lv_iconst (v := (1 : Int32)) hx hb dX0_likeliestOrder_5 (by decide) ?_
  refine lv_istore (lv' := [(5, .int (1 : Int32)), (3, .long (0 : Int64)), (2, .int (-9 : Int32)), (0, .ref aC), (1, .int p1)]) hx hb dX0_likeliestOrder_6 hl (by decide) rfl (fun ls hl => ?_)
  exact L8 300 p1 (-9 : Int32) (0 : Int64) (1 : Int32) ls (lv_sub hl [3, 4, 2, 1, 0] rfl) h
