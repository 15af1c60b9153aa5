def f_X5_fault (D_start : Int32) : Int32 := D_start
set_option maxHeartbeats 8000000 in
set_option maxRecDepth 100000 in
theorem c_X5_fault (l : Launch) (D : va_G) (cI cJ cZ cO : ClassId) (aD : Nat) (aX : Nat) (aF : Nat) (D_token : Int32) (D_start : Int32) (D_end : Int32) (D_value : Int32)    (y0 : Int32) (h : f_X5_fault D_start = y0) : Met l yX5_fault wsX5_fault ({ frames := 0, cells := 0, slots := 0, locals := 0 } : Room) (va_Pc [.ref aD] (fun U => va_P D vwCl [(aD, .inr (5, [.ref aX, .ref aF, .int D_token, .int D_start, .int D_end, .int D_value]))] U.heap ∧ KK D cI cJ cZ cO U)) (vp_Si (fun r => r = y0)) 0 0 (fun _ => False) := by
  refine Met.ofW (cc := cX5_fault) (maxL := 1) (ret := (some .int)) (by decide) rfl ?_
  intro p e s m args below meth c s₁ B hml hv
  obtain ⟨rfl, hP, hKK⟩ := hv
  have hx := B.exec
  have hb := B.bytes
  have hr := B.returns
  have hts := atoms_spec (ws := wsX5_fault) B.pre
  have hown : s.vm.findClass RX5 = some m.cls := findClass_of_methodNamed B.named
  have hlocks := B.notSynchronized
  have hK := hKK.1
  have fl_42 := hts (.fieldLink RX5 42 "SimonSays$Reader" "start" "I") (by decide +kernel)
  have inX5 : ∀ w ∈ wsX50, w ∈ wsX5_fault := by decide +kernel
  have hl := lv_entry ([.ref aD]) (n := 1) (Nat.le_of_ble_eq_true rfl)
  rw [lg_entry_eq]
  generalize (lg_sl ([.ref aD]) ++ List.replicate (1 - (lg_sl ([.ref aD])).length) Slot.unset).toArray = ls at hl ⊢
  have hl : lv_has ls 1 [(0, .ref aD)] := hl
  unfold f_X5_fault at h
  refine lv_aload_n hx hb dX5_fault_0 rfl (lv_at hl 0 rfl) ?_
  refine va_get (D := D) (ci := 5) (v := .int D_start) (C := RX5) (T := TX5) (N := 6) hx hb hts inX5 hown hK hP 0 rfl rfl 3 (by decide) fl_42 (fun _ h9 => h9) rfl dX5_fault_1 ?_
  exact pr_i hx hb hr hlocks dX5_fault_4 h

def f_X5_found  : Unit := ()
set_option maxHeartbeats 8000000 in
set_option maxRecDepth 100000 in
theorem c_X5_found (l : Launch) (D : va_G) (cI cJ cZ cO : ClassId) (aD : Nat) (aX : Nat) (aF : Nat) (D_token : Int32) (D_start : Int32) (D_end : Int32) (D_value : Int32)     : Met l yX5_found wsX5_found ({ frames := 0, cells := 0, slots := 0, locals := 0 } : Room) (va_Pc [.ref aD] (fun U => va_P D vwCl [(aD, .inr (5, [.ref aX, .ref aF, .int D_token, .int D_start, .int D_end, .int D_value]))] U.heap ∧ KK D cI cJ cZ cO U)) (va_Sr (fun _ => True) (fun _ => .ref aF)) 0 0 (fun _ => False) := by
  refine Met.ofW (cc := cX5_found) (maxL := 1) (ret := (some (.object "SimonSays$Children"))) (by decide) rfl ?_
  intro p e s m args below meth c s₁ B hml hv
  obtain ⟨rfl, hP, hKK⟩ := hv
  have hx := B.exec
  have hb := B.bytes
  have hr := B.returns
  have hts := atoms_spec (ws := wsX5_found) B.pre
  have hown : s.vm.findClass RX5 = some m.cls := findClass_of_methodNamed B.named
  have hlocks := B.notSynchronized
  have hK := hKK.1
  have fl_18 := hts (.fieldLink RX5 18 "SimonSays$Reader" "found" "LSimonSays$Children;") (by decide +kernel)
  have inX5 : ∀ w ∈ wsX50, w ∈ wsX5_found := by decide +kernel
  have hl := lv_entry ([.ref aD]) (n := 1) (Nat.le_of_ble_eq_true rfl)
  rw [lg_entry_eq]
  generalize (lg_sl ([.ref aD]) ++ List.replicate (1 - (lg_sl ([.ref aD])).length) Slot.unset).toArray = ls at hl ⊢
  have hl : lv_has ls 1 [(0, .ref aD)] := hl
  refine lv_aload_n hx hb dX5_found_0 rfl (lv_at hl 0 rfl) ?_
  refine va_get (D := D) (ci := 5) (v := .ref aF) (C := RX5) (T := TX5) (N := 6) hx hb hts inX5 hown hK hP 0 rfl rfl 1 (by decide) fl_18 (fun _ h9 => h9) rfl dX5_found_1 ?_
  exact pr_r hx hb hr hlocks dX5_found_4

def f_X5_isLetter (p0 : Int32) : Int32 := (if p0 < (97 : Int32) then (0 : Int32) else (if (122 : Int32) < p0 then (0 : Int32) else (1 : Int32)))
set_option maxHeartbeats 8000000 in
set_option maxRecDepth 100000 in
theorem c_X5_isLetter (l : Launch) (D : va_G) (cI cJ cZ cO : ClassId)   (p0 : Int32)  (y0 : Int32) (h : f_X5_isLetter p0 = y0) : Met l yX5_isLetter wsX5_isLetter ({ frames := 0, cells := 0, slots := 0, locals := 0 } : Room) (va_Pc [.int p0] (fun U => va_P D vwCl [] U.heap ∧ KK D cI cJ cZ cO U)) (vp_Si (fun r => r = y0 ∧ zo r)) 0 0 (fun _ => False) := by
  refine Met.ofW (cc := cX5_isLetter) (maxL := 1) (ret := (some .boolean)) (by decide) rfl ?_
  intro p e s m args below meth c s₁ B hml hv
  obtain ⟨rfl, hP, hKK⟩ := hv
  have hx := B.exec
  have hb := B.bytes
  have hr := B.returns
  have hts := atoms_spec (ws := wsX5_isLetter) B.pre
  have hown : s.vm.findClass RX5 = some m.cls := findClass_of_methodNamed B.named
  have hlocks := B.notSynchronized
  have hK := hKK.1
  have hl := lv_entry ([.int p0]) (n := 1) (Nat.le_of_ble_eq_true rfl)
  rw [lg_entry_eq]
  generalize (lg_sl ([.int p0]) ++ List.replicate (1 - (lg_sl ([.int p0])).length) Slot.unset).toArray = ls at hl ⊢
  have hl : lv_has ls 1 [(0, .int p0)] := hl
  unfold f_X5_isLetter at h
  refine lv_iload_n hx hb dX5_isLetter_0 rfl (lv_at hl 0 rfl) ?_
  refine lv_bipush (v := (97 : Int32)) hx hb dX5_isLetter_1 (by decide) ?_
  refine lv_icmp_lt (tgt := 16) hx hb dX5_isLetter_3 (by decide) (fun c_1 => ?_) (fun c_1 => ?_)
  · replace h := if_p c_1 h
    refine lv_iconst (v := (0 : Int32)) hx hb dX5_isLetter_16 (by decide) ?_
    exact pr_z hx hb hr hlocks dX5_isLetter_17 h (by decide)
  · replace h := if_n c_1 h
    refine lv_iload_n hx hb dX5_isLetter_6 rfl (lv_at hl 0 rfl) ?_
    refine lv_bipush (v := (122 : Int32)) hx hb dX5_isLetter_7 (by decide) ?_
    refine lv_icmp_gt (tgt := 16) hx hb dX5_isLetter_9 (by decide) (fun c_2 => ?_) (fun c_2 => ?_)
    · replace h := if_p c_2 h
      refine lv_iconst (v := (0 : Int32)) hx hb dX5_isLetter_16 (by decide) ?_
      exact pr_z hx hb hr hlocks dX5_isLetter_17 h (by decide)
    · replace h := if_n c_2 h
      refine lv_iconst (v := (1 : Int32)) hx hb dX5_isLetter_12 (by decide) ?_
      refine lv_goto (tgt := 17) hx hb dX5_isLetter_13 (by decide) ?_
      exact pr_z hx hb hr hlocks dX5_isLetter_17 h (by decide)

def f_X5_isDigit (p0 : Int32) : Int32 := (if p0 < (48 : Int32) then (0 : Int32) else (if (57 : Int32) < p0 then (0 : Int32) else (1 : Int32)))
set_option maxHeartbeats 8000000 in
set_option maxRecDepth 100000 in
theorem c_X5_isDigit (l : Launch) (D : va_G) (cI cJ cZ cO : ClassId)   (p0 : Int32)  (y0 : Int32) (h : f_X5_isDigit p0 = y0) : Met l yX5_isDigit wsX5_isDigit ({ frames := 0, cells := 0, slots := 0, locals := 0 } : Room) (va_Pc [.int p0] (fun U => va_P D vwCl [] U.heap ∧ KK D cI cJ cZ cO U)) (vp_Si (fun r => r = y0 ∧ zo r)) 0 0 (fun _ => False) := by
  refine Met.ofW (cc := cX5_isDigit) (maxL := 1) (ret := (some .boolean)) (by decide) rfl ?_
  intro p e s m args below meth c s₁ B hml hv
  obtain ⟨rfl, hP, hKK⟩ := hv
  have hx := B.exec
  have hb := B.bytes
  have hr := B.returns
  have hts := atoms_spec (ws := wsX5_isDigit) B.pre
  have hown : s.vm.findClass RX5 = some m.cls := findClass_of_methodNamed B.named
  have hlocks := B.notSynchronized
  have hK := hKK.1
  have hl := lv_entry ([.int p0]) (n := 1) (Nat.le_of_ble_eq_true rfl)
  rw [lg_entry_eq]
  generalize (lg_sl ([.int p0]) ++ List.replicate (1 - (lg_sl ([.int p0])).length) Slot.unset).toArray = ls at hl ⊢
  have hl : lv_has ls 1 [(0, .int p0)] := hl
  unfold f_X5_isDigit at h
  refine lv_iload_n hx hb dX5_isDigit_0 rfl (lv_at hl 0 rfl) ?_
  refine lv_bipush (v := (48 : Int32)) hx hb dX5_isDigit_1 (by decide) ?_
  refine lv_icmp_lt (tgt := 16) hx hb dX5_isDigit_3 (by decide) (fun c_1 => ?_) (fun c_1 => ?_)
  · replace h := if_p c_1 h
    refine lv_iconst (v := (0 : Int32)) hx hb dX5_isDigit_16 (by decide) ?_
    exact pr_z hx hb hr hlocks dX5_isDigit_17 h (by decide)
  · replace h := if_n c_1 h
    refine lv_iload_n hx hb dX5_isDigit_6 rfl (lv_at hl 0 rfl) ?_
    refine lv_bipush (v := (57 : Int32)) hx hb dX5_isDigit_7 (by decide) ?_
    refine lv_icmp_gt (tgt := 16) hx hb dX5_isDigit_9 (by decide) (fun c_2 => ?_) (fun c_2 => ?_)
    · replace h := if_p c_2 h
      refine lv_iconst (v := (0 : Int32)) hx hb dX5_isDigit_16 (by decide) ?_
      exact pr_z hx hb hr hlocks dX5_isDigit_17 h (by decide)
    · replace h := if_n c_2 h
      refine lv_iconst (v := (1 : Int32)) hx hb dX5_isDigit_12 (by decide) ?_
      refine lv_goto (tgt := 17) hx hb dX5_isDigit_13 (by decide) ?_
      exact pr_z hx hb hr hlocks dX5_isDigit_17 h (by decide)

def f_X5_isNumberUpTo (D_token : Int32) (D_value : Int32) (p1 : Int32) : Int32 := (if D_token = (3 : Int32) then (if p1 < D_value then (0 : Int32) else (1 : Int32)) else (0 : Int32))
set_option maxHeartbeats 8000000 in
set_option maxRecDepth 100000 in
theorem c_X5_isNumberUpTo (l : Launch) (D : va_G) (cI cJ cZ cO : ClassId) (aD : Nat) (aX : Nat) (aF : Nat) (D_token : Int32) (D_start : Int32) (D_end : Int32) (D_value : Int32)  (p1 : Int32)  (y0 : Int32) (h : f_X5_isNumberUpTo D_token D_value p1 = y0) : Met l yX5_isNumberUpTo wsX5_isNumberUpTo ({ frames := 0, cells := 0, slots := 0, locals := 0 } : Room) (va_Pc [.ref aD, .int p1] (fun U => va_P D vwCl [(aD, .inr (5, [.ref aX, .ref aF, .int D_token, .int D_start, .int D_end, .int D_value]))] U.heap ∧ KK D cI cJ cZ cO U)) (vp_Si (fun r => r = y0 ∧ zo r)) 0 0 (fun _ => False) := by
  refine Met.ofW (cc := cX5_isNumberUpTo) (maxL := 2) (ret := (some .boolean)) (by decide) rfl ?_
  intro p e s m args below meth c s₁ B hml hv
  obtain ⟨rfl, hP, hKK⟩ := hv
  have hx := B.exec
  have hb := B.bytes
  have hr := B.returns
  have hts := atoms_spec (ws := wsX5_isNumberUpTo) B.pre
  have hown : s.vm.findClass RX5 = some m.cls := findClass_of_methodNamed B.named
  have hlocks := B.notSynchronized
  have hK := hKK.1
  have fl_32 := hts (.fieldLink RX5 32 "SimonSays$Reader" "token" "I") (by decide +kernel)
  have fl_53 := hts (.fieldLink RX5 53 "SimonSays$Reader" "value" "I") (by decide +kernel)
  have inX5 : ∀ w ∈ wsX50, w ∈ wsX5_isNumberUpTo := by decide +kernel
  have hl := lv_entry ([.ref aD, .int p1]) (n := 2) (Nat.le_of_ble_eq_true rfl)
  rw [lg_entry_eq]
  generalize (lg_sl ([.ref aD, .int p1]) ++ List.replicate (2 - (lg_sl ([.ref aD, .int p1])).length) Slot.unset).toArray = ls at hl ⊢
  have hl : lv_has ls 2 [(0, .ref aD), (1, .int p1)] := hl
  unfold f_X5_isNumberUpTo at h
  refine lv_aload_n hx hb dX5_isNumberUpTo_0 rfl (lv_at hl 0 rfl) ?_
  refine va_get (D := D) (ci := 5) (v := .int D_token) (C := RX5) (T := TX5) (N := 6) hx hb hts inX5 hown hK hP 0 rfl rfl 2 (by decide) fl_32 (fun _ h9 => h9) rfl dX5_isNumberUpTo_1 ?_
  refine lv_iconst (v := (3 : Int32)) hx hb dX5_isNumberUpTo_4 (by decide) ?_
  refine lv_icmp_ne (tgt := 20) hx hb dX5_isNumberUpTo_5 (by decide) (fun c_1 => ?_) (fun c_1 => ?_)
  · replace h := if_n c_1 h
    refine lv_iconst (v := (0 : Int32)) hx hb dX5_isNumberUpTo_20 (by decide) ?_
    exact pr_z hx hb hr hlocks dX5_isNumberUpTo_21 h (by decide)
  · replace h := if_p c_1 h
    refine lv_aload_n hx hb dX5_isNumberUpTo_8 rfl (lv_at hl 0 rfl) ?_
    refine va_get (D := D) (ci := 5) (v := .int D_value) (C := RX5) (T := TX5) (N := 6) hx hb hts inX5 hown hK hP 0 rfl rfl 5 (by decide) fl_53 (fun _ h9 => h9) rfl dX5_isNumberUpTo_9 ?_
    refine lv_iload_n hx hb dX5_isNumberUpTo_12 rfl (lv_at hl 1 rfl) ?_
    refine lv_icmp_gt (tgt := 20) hx hb dX5_isNumberUpTo_13 (by decide) (fun c_2 => ?_) (fun c_2 => ?_)
    · replace h := if_p c_2 h
      refine lv_iconst (v := (0 : Int32)) hx hb dX5_isNumberUpTo_20 (by decide) ?_
      exact pr_z hx hb hr hlocks dX5_isNumberUpTo_21 h (by decide)
    · replace h := if_n c_2 h
      refine lv_iconst (v := (1 : Int32)) hx hb dX5_isNumberUpTo_16 (by decide) ?_
      refine lv_goto (tgt := 21) hx hb dX5_isNumberUpTo_17 (by decide) ?_
      exact pr_z hx hb hr hlocks dX5_isNumberUpTo_21 h (by decide)

def f_X5_spells_L20 (X_length : Int32) (X_bytes : Nat → Int32) (D_start : Int32) (D_end : Int32) (kw : Nat) : Nat → Int32 → Option (Int32)
  | 0, _ => none
  | n + 1, x2 => (if (nI (sLn.getD kw 0)) ≤ x2 then some (1 : Int32) else (Option.bind (f_X8_byteAt X_length X_bytes (D_start + x2)) (fun y3 => (if gIn x2 (sLn.getD kw 0) = true then (if y3 = (sch kw x2) then f_X5_spells_L20 X_length X_bytes D_start D_end kw n (x2 + (1 : Int32)) else some (0 : Int32)) else none))))
def f_X5_spells (X_length : Int32) (X_bytes : Nat → Int32) (D_start : Int32) (D_end : Int32) (kw : Nat) : Option (Int32) := (if (D_end - D_start) = (nI (sLn.getD kw 0)) then f_X5_spells_L20 X_length X_bytes D_start D_end kw 300 (0 : Int32) else some (0 : Int32))
set_option maxHeartbeats 8000000 in
set_option maxRecDepth 100000 in
theorem c_X5_spells (l : Launch) (D : va_G) (cI cJ cZ cO : ClassId) (adK adV : Nat → Nat) (aX : Nat) (aX_bytes : Nat) (aD : Nat) (aF : Nat) (X_length : Int32) (X_bytes : Nat → Int32) (D_token : Int32) (D_start : Int32) (D_end : Int32) (D_value : Int32)  (kw : Nat) (hkw : kw < 2) (y0 : Int32) (h : f_X5_spells X_length X_bytes D_start D_end kw = some y0) : Met l yX5_spells wsX5_spells ({ frames := 4, cells := 0, slots := 0, locals := 91 } : Room) (va_Pc [.ref aD, .ref (adK kw)] (fun U => va_P D vwCl [(aX, .inr (8, [.ref aX_bytes, .int X_length])), (aX_bytes, .inl (cI, 200, .inl X_bytes)), (aD, .inr (5, [.ref aX, .ref aF, .int D_token, .int D_start, .int D_end, .int D_value]))] U.heap ∧ KK D cI cJ cZ cO U ∧ SA adK adV (fun _ => False) U U.heap)) (vp_Si (fun r => r = y0 ∧ zo r)) 0 0 (fun _ => False) := by
  refine Met.ofW (cc := cX5_spells) (maxL := 3) (ret := (some .boolean)) (by decide) rfl ?_
  intro p e s m args below meth c s₁ B hml hv
  obtain ⟨rfl, hP, hKK, hSA⟩ := hv
  have hx := B.exec
  have hb := B.bytes
  have hr := B.returns
  have hts := atoms_spec (ws := wsX5_spells) B.pre
  have hown : s.vm.findClass RX5 = some m.cls := findClass_of_methodNamed B.named
  have hlocks := B.notSynchronized
  have hK := hKK.1
  have fl_9 := hts (.fieldLink RX5 9 "SimonSays$Reader" "text" "LSimonSays$Text;") (by decide +kernel)
  have fl_25 := hts (.fieldLink RX5 25 "SimonSays$Reader" "end" "I") (by decide +kernel)
  have fl_42 := hts (.fieldLink RX5 42 "SimonSays$Reader" "start" "I") (by decide +kernel)
  have inX5 : ∀ w ∈ wsX50, w ∈ wsX5_spells := by decide +kernel
  have hl := lv_entry ([.ref aD, .ref (adK kw)]) (n := 3) (Nat.le_of_ble_eq_true rfl)
  rw [lg_entry_eq]
  generalize (lg_sl ([.ref aD, .ref (adK kw)]) ++ List.replicate (3 - (lg_sl ([.ref aD, .ref (adK kw)])).length) Slot.unset).toArray = ls at hl ⊢
  have hl : lv_has ls 3 [(0, .ref aD), (1, .ref (adK kw))] := hl
  have L20 : ∀ (n : Nat), ∀ (x2 : Int32), ∀ (ls : Array Slot), lv_has ls 3 [(0, .ref aD), (1, .ref (adK kw)), (2, .int x2)] → f_X5_spells_L20 X_length X_bytes D_start D_end kw n x2 = some y0 → W p l e (headSpec wsX5_spells ({ frames := 4, cells := 0, slots := 0, locals := 91 } : Room)).room s m ([.ref aD, .ref (adK kw)] : List Value).toArray below meth c s.heap [] 0 0 (MQ below (vp_Si (fun r => r = y0 ∧ zo r)) ([.ref aD, .ref (adK kw)] : List Value).toArray s 0 0 (fun _ => False)) (F0 m 20 ls []) := by
    intro n
    induction n with
    | zero =>
      intro x2 ls hl h
      exact (ns h).elim
    | succ n ih =>
      intro x2 ls hl h
      unfold f_X5_spells_L20 at h
      refine lv_iload_n hx hb dX5_spells_20 rfl (lv_at hl 2 rfl) ?_
      refine lv_aload_n hx hb dX5_spells_21 rfl (lv_at hl 1 rfl) ?_
      refine vp_callSi (va_Run.run (va_runV (As := []) (rest := [.int x2]) ⟨hx, hb, hml, hown, hts⟩ (c_J0_length l adK adV kw hkw) (cwV 0 hts gX5_spells_J0_length_8abf5 rfl rfl rfl (by decide +kernel) ⟨Nat.le_of_ble_eq_true rfl, Nat.le_of_ble_eq_true rfl⟩) ⟨fb_s, vk_recv hSA.2.2.1 hkw va_S.rf, fun U hU hW => ⟨rfl, SA.at hU hW hSA⟩⟩ rfl rfl hl.1 rfl (lv_room (Nat.le_of_ble_eq_true rfl)) dX5_spells_22 ⟨Nat.le_of_ble_eq_true rfl, Nat.le_of_ble_eq_true rfl⟩)) (fun r hr => ?_)
      replace hr := hr.symm
      subst hr
      refine lv_icmp_ge (tgt := 57) hx hb dX5_spells_25 (by decide) (fun c_2 => ?_) (fun c_2 => ?_)
      · replace h := if_p c_2 h
        refine lv_iconst (v := (1 : Int32)) hx hb dX5_spells_57 (by decide) ?_
        exact pr_z hx hb hr hlocks dX5_spells_58 (Option.some.inj h) (by decide)
      · replace h := if_n c_2 h
        refine lv_aload_n hx hb dX5_spells_28 rfl (lv_at hl 0 rfl) ?_
        refine va_get (D := D) (ci := 5) (v := .ref aX) (C := RX5) (T := TX5) (N := 6) hx hb hts inX5 hown hK hP 2 rfl rfl 0 (by decide) fl_9 (fun _ h9 => h9) rfl dX5_spells_29 ?_
        refine lv_aload_n hx hb dX5_spells_32 rfl (lv_at hl 0 rfl) ?_
        refine va_get (D := D) (ci := 5) (v := .int D_start) (C := RX5) (T := TX5) (N := 6) hx hb hts inX5 hown hK hP 2 rfl rfl 3 (by decide) fl_42 (fun _ h9 => h9) rfl dX5_spells_33 ?_
        refine lv_iload_n hx hb dX5_spells_36 rfl (lv_at hl 2 rfl) ?_
        refine lv_iadd hx hb dX5_spells_37 ?_
        obtain ⟨y3, qy3, h⟩ := ob_some h
        have hPc : va_P D vwCl [(aX, .inr (8, [.ref aX_bytes, .int X_length])), (aX_bytes, .inl (cI, 200, .inl X_bytes))] s.heap := hP.sub [0, 1] rfl
        refine vp_callSi (va_Run.run (va_runV (As := [.int (D_start + x2)]) (rest := []) ⟨hx, hb, hml, hown, hts⟩ (c_X8_byteAt l D cI cJ cZ cO aX aX_bytes X_length X_bytes (D_start + x2) y3 qy3) (cwV 1 hts gX5_spells_X8_byteAt rfl rfl rfl (by decide +kernel) ⟨Nat.le_of_ble_eq_true rfl, Nat.le_of_ble_eq_true rfl⟩) ⟨fb_p, va_recv hK hP (ci := 8) (q0 := 0) rfl rfl, fun U hU hW => ⟨rfl, by rw [hU]; exact hPc, KK.warm hW hKK⟩⟩ rfl rfl hl.1 rfl (lv_room (Nat.le_of_ble_eq_true rfl)) dX5_spells_38 ⟨Nat.le_of_ble_eq_true rfl, Nat.le_of_ble_eq_true rfl⟩)) (fun r hr => ?_)
        replace hr := hr.symm
        subst hr
        refine lv_aload_n hx hb dX5_spells_41 rfl (lv_at hl 1 rfl) ?_
        refine lv_iload_n hx hb dX5_spells_42 rfl (lv_at hl 2 rfl) ?_
        obtain ⟨hi4, h⟩ := gd_in h
        refine vp_callSi (va_Run.run (va_runV (As := [.int x2]) (rest := [.int y3]) ⟨hx, hb, hml, hown, hts⟩ (c_J0_charAt l adK adV kw hkw x2 hi4) (cwV 1 hts gX5_spells_J0_charAt_5068e rfl rfl rfl (by decide +kernel) ⟨Nat.le_of_ble_eq_true rfl, Nat.le_of_ble_eq_true rfl⟩) ⟨fb_s, vk_recv hSA.2.2.1 hkw va_S.rf, fun U hU hW => ⟨rfl, SA.at hU hW hSA⟩⟩ rfl rfl hl.1 rfl (lv_room (Nat.le_of_ble_eq_true rfl)) dX5_spells_43 ⟨Nat.le_of_ble_eq_true rfl, Nat.le_of_ble_eq_true rfl⟩)) (fun r hr => ?_)
        replace hr := hr.symm
        subst hr
        refine lv_icmp_eq (tgt := 51) hx hb dX5_spells_46 (by decide) (fun c_5 => ?_) (fun c_5 => ?_)
        · replace h := if_p c_5 h
          refine lv_iinc (v := (x2 + (1 : Int32))) (lv' := [(2, .int (x2 + (1 : Int32))), (0, .ref aD), (1, .ref (adK kw))]) hx hb dX5_spells_51 hl (k := 2) rfl rfl (by decide) rfl (fun ls hl => ?_)
          refine lv_goto (tgt := 20) hx hb dX5_spells_54 (by decide) ?_
          exact ih (x2 + (1 : Int32)) ls (lv_sub hl [1, 2, 0] rfl) h
        · replace h := if_n c_5 h
          refine lv_iconst (v := (0 : Int32)) hx hb dX5_spells_49 (by decide) ?_
          exact pr_z hx hb hr hlocks dX5_spells_50 (Option.some.inj h) (by decide)
  unfold f_X5_spells at h
  refine lv_aload_n hx hb dX5_spells_0 rfl (lv_at hl 0 rfl) ?_
  refine va_get (D := D) (ci := 5) (v := .int D_end) (C := RX5) (T := TX5) (N := 6) hx hb hts inX5 hown hK hP 2 rfl rfl 4 (by decide) fl_25 (fun _ h9 => h9) rfl dX5_spells_1 ?_
  refine lv_aload_n hx hb dX5_spells_4 rfl (lv_at hl 0 rfl) ?_
  refine va_get (D := D) (ci := 5) (v := .int D_start) (C := RX5) (T := TX5) (N := 6) hx hb hts inX5 hown hK hP 2 rfl rfl 3 (by decide) fl_42 (fun _ h9 => h9) rfl dX5_spells_5 ?_
  refine lv_isub hx hb dX5_spells_8 ?_
  refine lv_aload_n hx hb dX5_spells_9 rfl (lv_at hl 1 rfl) ?_
  refine vp_callSi (va_Run.run (va_runV (As := []) (rest := [.int (D_end - D_start)]) ⟨hx, hb, hml, hown, hts⟩ (c_J0_length l adK adV kw hkw) (cwV 0 hts gX5_spells_J0_length_8abf5 rfl rfl rfl (by decide +kernel) ⟨Nat.le_of_ble_eq_true rfl, Nat.le_of_ble_eq_true rfl⟩) ⟨fb_s, vk_recv hSA.2.2.1 hkw va_S.rf, fun U hU hW => ⟨rfl, SA.at hU hW hSA⟩⟩ rfl rfl hl.1 rfl (lv_room (Nat.le_of_ble_eq_true rfl)) dX5_spells_10 ⟨Nat.le_of_ble_eq_true rfl, Nat.le_of_ble_eq_true rfl⟩)) (fun r hr => ?_)
  replace hr := hr.symm
  subst hr
  refine lv_icmp_eq (tgt := 18) hx hb dX5_spells_13 (by decide) (fun c_1 => ?_) (fun c_1 => ?_)
  · replace h := if_p c_1 h
    refine lv_iconst (v := (0 : Int32)) hx hb dX5_spells_18 (by decide) ?_
    refine lv_istore_n (lv' := [(2, .int (0 : Int32)), (0, .ref aD), (1, .ref (adK kw))]) hx hb dX5_spells_19 rfl hl (by decide) rfl (fun ls hl => ?_)
    exact L20 300 (0 : Int32) ls (lv_sub hl [1, 2, 0] rfl) h
  · replace h := if_n c_1 h
    refine lv_iconst (v := (0 : Int32)) hx hb dX5_spells_16 (by decide) ?_
    exact pr_z hx hb hr hlocks dX5_spells_17 (Option.some.inj h) (by decide)

def f_X5_advanceOverWord_L44 (X_length : Int32) (X_bytes : Nat → Int32) (D_start : Int32) (D_token : Int32) (D_end : Int32) : Option (Int32 × Int32) := (Option.bind (f_X5_spells X_length X_bytes D_start D_end 0) (fun y5 => (if y5 = 0 then (Option.bind (f_X5_spells X_length X_bytes D_start D_end 1) (fun y8 => (if y8 = 0 then some ((1 : Int32), D_end) else some ((5 : Int32), D_end)))) else some ((4 : Int32), D_end))))
def f_X5_advanceOverWord_L0 (X_length : Int32) (X_bytes : Nat → Int32) (D_start : Int32) : Nat → Int32 → Int32 → Option (Int32 × Int32)
  | 0, _, _ => none
  | n + 1, D_token, D_end => (if (f_X8_length X_length) ≤ D_end then f_X5_advanceOverWord_L44 X_length X_bytes D_start D_token D_end else (Option.bind (f_X8_byteAt X_length X_bytes D_end) (fun y12 => (if (f_X5_isLetter y12) = 0 then f_X5_advanceOverWord_L44 X_length X_bytes D_start D_token D_end else f_X5_advanceOverWord_L0 X_length X_bytes D_start n D_token (D_end + (1 : Int32))))))
def f_X5_advanceOverWord (X_length : Int32) (X_bytes : Nat → Int32) (D_token : Int32) (D_start : Int32) (D_end : Int32) : Option (Int32 × Int32) := (if (f_X8_length X_length) ≤ D_end then f_X5_advanceOverWord_L44 X_length X_bytes D_start D_token D_end else (Option.bind (f_X8_byteAt X_length X_bytes D_end) (fun y2 => (if (f_X5_isLetter y2) = 0 then f_X5_advanceOverWord_L44 X_length X_bytes D_start D_token D_end else f_X5_advanceOverWord_L0 X_length X_bytes D_start 300 D_token (D_end + (1 : Int32))))))
set_option maxHeartbeats 8000000 in
set_option maxRecDepth 100000 in
theorem c_X5_advanceOverWord (l : Launch) (D : va_G) (cI cJ cZ cO : ClassId) (adK adV : Nat → Nat) (aX : Nat) (aX_bytes : Nat) (aD : Nat) (aF : Nat) (X_length : Int32) (X_bytes : Nat → Int32) (D_token : Int32) (D_start : Int32) (D_end : Int32) (D_value : Int32) (sz : Nat)   (y0 : Int32 × Int32) (h : f_X5_advanceOverWord X_length X_bytes D_token D_start D_end = some y0) : Met l yX5_advanceOverWord wsX5_advanceOverWord ({ frames := 5, cells := 0, slots := 0, locals := 113 } : Room) (va_Pc [.ref aD] (fun U => U.heap.size = sz ∧ va_P D vwCl [(aX, .inr (8, [.ref aX_bytes, .int X_length])), (aX_bytes, .inl (cI, 200, .inl X_bytes)), (aD, .inr (5, [.ref aX, .ref aF, .int D_token, .int D_start, .int D_end, .int D_value]))] U.heap ∧ KK D cI cJ cZ cO U ∧ va_D (fun _ => True) [(aX, .inr (8, [.ref aX_bytes, .int X_length])), (aX_bytes, .inl (cI, 200, .inl X_bytes)), (aD, .inr (5, [.ref aX, .ref aF, .int D_token, .int D_start, .int D_end, .int D_value]))] ∧ SA adK adV (va_A [(aX, .inr (8, [.ref aX_bytes, .int X_length])), (aX_bytes, .inl (cI, 200, .inl X_bytes)), (aD, .inr (5, [.ref aX, .ref aF, .int D_token, .int D_start, .int D_end, .int D_value]))] sz) U U.heap)) (va_Qv (fun (_ : Unit) => True) (fun (_ : Unit) t => va_P D vwCl [(aX, .inr (8, [.ref aX_bytes, .int X_length])), (aX_bytes, .inl (cI, 200, .inl X_bytes)), (aD, .inr (5, [.ref aX, .ref aF, .int y0.1, .int D_start, .int y0.2, .int D_value]))] t.heap ∧ va_D (va_A [(aX, .inr (8, [.ref aX_bytes, .int X_length])), (aX_bytes, .inl (cI, 200, .inl X_bytes)), (aD, .inr (5, [.ref aX, .ref aF, .int D_token, .int D_start, .int D_end, .int D_value]))] sz) [(aX, .inr (8, [.ref aX_bytes, .int X_length])), (aX_bytes, .inl (cI, 200, .inl X_bytes)), (aD, .inr (5, [.ref aX, .ref aF, .int y0.1, .int D_start, .int y0.2, .int D_value]))]) (va_A [(aX, .inr (8, [.ref aX_bytes, .int X_length])), (aX_bytes, .inl (cI, 200, .inl X_bytes)), (aD, .inr (5, [.ref aX, .ref aF, .int D_token, .int D_start, .int D_end, .int D_value]))] sz)) 0 0 (va_A [(aX, .inr (8, [.ref aX_bytes, .int X_length])), (aX_bytes, .inl (cI, 200, .inl X_bytes)), (aD, .inr (5, [.ref aX, .ref aF, .int D_token, .int D_start, .int D_end, .int D_value]))] sz) := by
  refine Met.ofW (cc := cX5_advanceOverWord) (maxL := 1) (ret := none) (by decide) rfl ?_
  intro p e s m args below meth c s₁ B hml hv
  obtain ⟨rfl, hsz, hP, hKK, hD0, hSA⟩ := hv
  have hx := B.exec
  have hb := B.bytes
  have hr := B.returns
  have hts := atoms_spec (ws := wsX5_advanceOverWord) B.pre
  have hown : s.vm.findClass RX5 = some m.cls := findClass_of_methodNamed B.named
  have hlocks := B.notSynchronized
  have hK := hKK.1
  have fl_9 := hts (.fieldLink RX5 9 "SimonSays$Reader" "text" "LSimonSays$Text;") (by decide +kernel)
  have fl_25 := hts (.fieldLink RX5 25 "SimonSays$Reader" "end" "I") (by decide +kernel)
  have fl_32 := hts (.fieldLink RX5 32 "SimonSays$Reader" "token" "I") (by decide +kernel)
  have inX5 : ∀ w ∈ wsX50, w ∈ wsX5_advanceOverWord := by decide +kernel
  subst hsz
  have hD := hD0.self (sz := s.heap.size)
  generalize hAe : va_A [(aX, .inr (8, [.ref aX_bytes, .int X_length])), (aX_bytes, .inl (cI, 200, .inl X_bytes)), (aD, .inr (5, [.ref aX, .ref aF, .int D_token, .int D_start, .int D_end, .int D_value]))] s.heap.size = A at hD hSA ⊢
  have hA : ∀ q : Nat, s.heap.size ≤ q → A q := fun q h => by rw [← hAe]; exact Or.inr h
  have hS : va_S A s.heap s.heap [] := va_S.rf
  have hl := lv_entry ([.ref aD]) (n := 1) (Nat.le_of_ble_eq_true rfl)
  rw [lg_entry_eq]
  generalize (lg_sl ([.ref aD]) ++ List.replicate (1 - (lg_sl ([.ref aD])).length) Slot.unset).toArray = ls at hl ⊢
  have hl : lv_has ls 1 [(0, .ref aD)] := hl
  have L44 : ∀ (D_token : Int32) (D_end : Int32), ∀ (H : Heap) (locs : List Loc), va_P D vwCl [(aX, .inr (8, [.ref aX_bytes, .int X_length])), (aX_bytes, .inl (cI, 200, .inl X_bytes)), (aD, .inr (5, [.ref aX, .ref aF, .int D_token, .int D_start, .int D_end, .int D_value]))] H → va_D A [(aX, .inr (8, [.ref aX_bytes, .int X_length])), (aX_bytes, .inl (cI, 200, .inl X_bytes)), (aD, .inr (5, [.ref aX, .ref aF, .int D_token, .int D_start, .int D_end, .int D_value]))] → va_S A s.heap H locs → ∀ (ls : Array Slot), lv_has ls 1 [(0, .ref aD)] → f_X5_advanceOverWord_L44 X_length X_bytes D_start D_token D_end = some y0 → W p l e (headSpec wsX5_advanceOverWord ({ frames := 5, cells := 0, slots := 0, locals := 113 } : Room)).room s m ([.ref aD] : List Value).toArray below meth c H locs 0 0 (MQ below (va_Qv (fun (_ : Unit) => True) (fun (_ : Unit) t => va_P D vwCl [(aX, .inr (8, [.ref aX_bytes, .int X_length])), (aX_bytes, .inl (cI, 200, .inl X_bytes)), (aD, .inr (5, [.ref aX, .ref aF, .int y0.1, .int D_start, .int y0.2, .int D_value]))] t.heap ∧ va_D A [(aX, .inr (8, [.ref aX_bytes, .int X_length])), (aX_bytes, .inl (cI, 200, .inl X_bytes)), (aD, .inr (5, [.ref aX, .ref aF, .int y0.1, .int D_start, .int y0.2, .int D_value]))]) A) ([.ref aD] : List Value).toArray s 0 0 A) (F0 m 44 ls []) := by
    intro D_token D_end H locs hP hD hS ls hl h
    unfold f_X5_advanceOverWord_L44 at h
    refine lv_aload_n hx hb dX5_advanceOverWord_44 rfl (lv_at hl 0 rfl) ?_
    refine va_ldcS hx hb hown hSA.2.2.2.1 dX5_advanceOverWord_45 ?_
    obtain ⟨y5, qy5, h⟩ := ob_some h
    have hPc : va_P D vwCl [(aX, .inr (8, [.ref aX_bytes, .int X_length])), (aX_bytes, .inl (cI, 200, .inl X_bytes)), (aD, .inr (5, [.ref aX, .ref aF, .int D_token, .int D_start, .int D_end, .int D_value]))] H := hP.sub [0, 1, 2] rfl
    refine vp_callSi (va_Run.run (va_runV (As := [.ref (adK 0)]) (rest := []) ⟨hx, hb, hml, hown, hts⟩ (c_X5_spells l D cI cJ cZ cO adK adV aX aX_bytes aD aF X_length X_bytes D_token D_start D_end D_value 0 (by decide) y5 qy5) (cwV 1 hts gX5_advanceOverWord_X5_spells rfl rfl rfl (by decide +kernel) ⟨Nat.le_of_ble_eq_true rfl, Nat.le_of_ble_eq_true rfl⟩) ⟨fb_ps, va_recv hK hP (ci := 5) (q0 := 2) rfl rfl, fun U hU hW => ⟨rfl, by rw [hU]; exact hPc, KK.warm hW hKK, SA.at hU hW ((hSA.kept hS.2.1).narrow (fun _ h => h.elim))⟩⟩ rfl rfl hl.1 rfl (lv_room (Nat.le_of_ble_eq_true rfl)) dX5_advanceOverWord_47 ⟨Nat.le_of_ble_eq_true rfl, Nat.le_of_ble_eq_true rfl⟩)) (fun r hr => ?_)
    obtain ⟨hr, hz6⟩ := hr
    replace hr := hr.symm
    subst hr
    refine lv_if_eq (tgt := 61) hx hb dX5_advanceOverWord_50 (by decide) (fun c_7 => ?_) (fun c_7 => ?_)
    · replace h := if_p c_7 h
      refine lv_aload_n hx hb dX5_advanceOverWord_61 rfl (lv_at hl 0 rfl) ?_
      refine lv_aload_n hx hb dX5_advanceOverWord_62 rfl (lv_at hl 0 rfl) ?_
      refine va_ldcS hx hb hown hSA.2.2.2.2 dX5_advanceOverWord_63 ?_
      obtain ⟨y8, qy8, h⟩ := ob_some h
      have hPc : va_P D vwCl [(aX, .inr (8, [.ref aX_bytes, .int X_length])), (aX_bytes, .inl (cI, 200, .inl X_bytes)), (aD, .inr (5, [.ref aX, .ref aF, .int D_token, .int D_start, .int D_end, .int D_value]))] H := hP.sub [0, 1, 2] rfl
      refine vp_callSi (va_Run.run (va_runV (As := [.ref (adK 1)]) (rest := [.ref aD]) ⟨hx, hb, hml, hown, hts⟩ (c_X5_spells l D cI cJ cZ cO adK adV aX aX_bytes aD aF X_length X_bytes D_token D_start D_end D_value 1 (by decide) y8 qy8) (cwV 1 hts gX5_advanceOverWord_X5_spells rfl rfl rfl (by decide +kernel) ⟨Nat.le_of_ble_eq_true rfl, Nat.le_of_ble_eq_true rfl⟩) ⟨fb_ps, va_recv hK hP (ci := 5) (q0 := 2) rfl rfl, fun U hU hW => ⟨rfl, by rw [hU]; exact hPc, KK.warm hW hKK, SA.at hU hW ((hSA.kept hS.2.1).narrow (fun _ h => h.elim))⟩⟩ rfl rfl hl.1 rfl (lv_room (Nat.le_of_ble_eq_true rfl)) dX5_advanceOverWord_65 ⟨Nat.le_of_ble_eq_true rfl, Nat.le_of_ble_eq_true rfl⟩)) (fun r hr => ?_)
      obtain ⟨hr, hz9⟩ := hr
      replace hr := hr.symm
      subst hr
      refine lv_if_eq (tgt := 75) hx hb dX5_advanceOverWord_68 (by decide) (fun c_10 => ?_) (fun c_10 => ?_)
      · replace h := if_p c_10 h
        refine lv_iconst (v := (1 : Int32)) hx hb dX5_advanceOverWord_75 (by decide) ?_
        refine va_put (D := D) (ci := 5) (v := .int (1 : Int32)) (ty := .int) (C := RX5) (T := TX5) (N := 6) hx hb hts inX5 tyX5 tyX5_ok nmX5 hown hK hP hD hS 2 rfl rfl 2 (by decide) fl_32 (fun _ h9 => h9) rfl (by decide +kernel) rfl rfl (Nat.le_of_ble_eq_true rfl) dX5_advanceOverWord_76 (fun H locs hP hD hS => ?_)
        have hP : va_P D vwCl [(aX, .inr (8, [.ref aX_bytes, .int X_length])), (aX_bytes, .inl (cI, 200, .inl X_bytes)), (aD, .inr (5, [.ref aX, .ref aF, .int (1 : Int32), .int D_start, .int D_end, .int D_value]))] H := hP
        have hD : va_D A [(aX, .inr (8, [.ref aX_bytes, .int X_length])), (aX_bytes, .inl (cI, 200, .inl X_bytes)), (aD, .inr (5, [.ref aX, .ref aF, .int (1 : Int32), .int D_start, .int D_end, .int D_value]))] := hD
        have hy := Option.some.inj h
        subst hy
        exact W.vret hx hb hr (fun t ht hW => ⟨⟨(), rfl, trivial, by rw [ht]; exact hP, hD⟩, hS.F ht⟩) hS.2.2 dX5_advanceOverWord_79
      · replace h := if_n c_10 h
        refine lv_iconst (v := (5 : Int32)) hx hb dX5_advanceOverWord_71 (by decide) ?_
        refine lv_goto (tgt := 76) hx hb dX5_advanceOverWord_72 (by decide) ?_
        refine va_put (D := D) (ci := 5) (v := .int (5 : Int32)) (ty := .int) (C := RX5) (T := TX5) (N := 6) hx hb hts inX5 tyX5 tyX5_ok nmX5 hown hK hP hD hS 2 rfl rfl 2 (by decide) fl_32 (fun _ h9 => h9) rfl (by decide +kernel) rfl rfl (Nat.le_of_ble_eq_true rfl) dX5_advanceOverWord_76 (fun H locs hP hD hS => ?_)
        have hP : va_P D vwCl [(aX, .inr (8, [.ref aX_bytes, .int X_length])), (aX_bytes, .inl (cI, 200, .inl X_bytes)), (aD, .inr (5, [.ref aX, .ref aF, .int (5 : Int32), .int D_start, .int D_end, .int D_value]))] H := hP
        have hD : va_D A [(aX, .inr (8, [.ref aX_bytes, .int X_length])), (aX_bytes, .inl (cI, 200, .inl X_bytes)), (aD, .inr (5, [.ref aX, .ref aF, .int (5 : Int32), .int D_start, .int D_end, .int D_value]))] := hD
        have hy := Option.some.inj h
        subst hy
        exact W.vret hx hb hr (fun t ht hW => ⟨⟨(), rfl, trivial, by rw [ht]; exact hP, hD⟩, hS.F ht⟩) hS.2.2 dX5_advanceOverWord_79
    · replace h := if_n c_7 h
      refine lv_aload_n hx hb dX5_advanceOverWord_53 rfl (lv_at hl 0 rfl) ?_
      refine lv_iconst (v := (4 : Int32)) hx hb dX5_advanceOverWord_54 (by decide) ?_
      refine va_put (D := D) (ci := 5) (v := .int (4 : Int32)) (ty := .int) (C := RX5) (T := TX5) (N := 6) hx hb hts inX5 tyX5 tyX5_ok nmX5 hown hK hP hD hS 2 rfl rfl 2 (by decide) fl_32 (fun _ h9 => h9) rfl (by decide +kernel) rfl rfl (Nat.le_of_ble_eq_true rfl) dX5_advanceOverWord_55 (fun H locs hP hD hS => ?_)
      have hP : va_P D vwCl [(aX, .inr (8, [.ref aX_bytes, .int X_length])), (aX_bytes, .inl (cI, 200, .inl X_bytes)), (aD, .inr (5, [.ref aX, .ref aF, .int (4 : Int32), .int D_start, .int D_end, .int D_value]))] H := hP
      have hD : va_D A [(aX, .inr (8, [.ref aX_bytes, .int X_length])), (aX_bytes, .inl (cI, 200, .inl X_bytes)), (aD, .inr (5, [.ref aX, .ref aF, .int (4 : Int32), .int D_start, .int D_end, .int D_value]))] := hD
      refine lv_goto (tgt := 79) hx hb dX5_advanceOverWord_58 (by decide) ?_
      have hy := Option.some.inj h
      subst hy
      exact W.vret hx hb hr (fun t ht hW => ⟨⟨(), rfl, trivial, by rw [ht]; exact hP, hD⟩, hS.F ht⟩) hS.2.2 dX5_advanceOverWord_79
  have L0 : ∀ (n : Nat), ∀ (D_token : Int32) (D_end : Int32), ∀ (H : Heap) (locs : List Loc), va_P D vwCl [(aX, .inr (8, [.ref aX_bytes, .int X_length])), (aX_bytes, .inl (cI, 200, .inl X_bytes)), (aD, .inr (5, [.ref aX, .ref aF, .int D_token, .int D_start, .int D_end, .int D_value]))] H → va_D A [(aX, .inr (8, [.ref aX_bytes, .int X_length])), (aX_bytes, .inl (cI, 200, .inl X_bytes)), (aD, .inr (5, [.ref aX, .ref aF, .int D_token, .int D_start, .int D_end, .int D_value]))] → va_S A s.heap H locs → ∀ (ls : Array Slot), lv_has ls 1 [(0, .ref aD)] → f_X5_advanceOverWord_L0 X_length X_bytes D_start n D_token D_end = some y0 → W p l e (headSpec wsX5_advanceOverWord ({ frames := 5, cells := 0, slots := 0, locals := 113 } : Room)).room s m ([.ref aD] : List Value).toArray below meth c H locs 0 0 (MQ below (va_Qv (fun (_ : Unit) => True) (fun (_ : Unit) t => va_P D vwCl [(aX, .inr (8, [.ref aX_bytes, .int X_length])), (aX_bytes, .inl (cI, 200, .inl X_bytes)), (aD, .inr (5, [.ref aX, .ref aF, .int y0.1, .int D_start, .int y0.2, .int D_value]))] t.heap ∧ va_D A [(aX, .inr (8, [.ref aX_bytes, .int X_length])), (aX_bytes, .inl (cI, 200, .inl X_bytes)), (aD, .inr (5, [.ref aX, .ref aF, .int y0.1, .int D_start, .int y0.2, .int D_value]))]) A) ([.ref aD] : List Value).toArray s 0 0 A) (F0 m 0 ls []) := by
    intro n
    induction n with
    | zero =>
      intro D_token D_end H locs hP hD hS ls hl h
      exact (ns h).elim
    | succ n ih =>
      intro D_token D_end H locs hP hD hS ls hl h
      unfold f_X5_advanceOverWord_L0 at h
      refine lv_aload_n hx hb dX5_advanceOverWord_0 rfl (lv_at hl 0 rfl) ?_
      refine va_get (D := D) (ci := 5) (v := .int D_end) (C := RX5) (T := TX5) (N := 6) hx hb hts inX5 hown hK hP 2 rfl rfl 4 (by decide) fl_25 (fun _ h9 => h9) rfl dX5_advanceOverWord_1 ?_
      refine lv_aload_n hx hb dX5_advanceOverWord_4 rfl (lv_at hl 0 rfl) ?_
      refine va_get (D := D) (ci := 5) (v := .ref aX) (C := RX5) (T := TX5) (N := 6) hx hb hts inX5 hown hK hP 2 rfl rfl 0 (by decide) fl_9 (fun _ h9 => h9) rfl dX5_advanceOverWord_5 ?_
      have hPc : va_P D vwCl [(aX, .inr (8, [.ref aX_bytes, .int X_length]))] H := hP.sub [0] rfl
      refine vp_callSi (va_Run.run (va_runV (As := []) (rest := [.int D_end]) ⟨hx, hb, hml, hown, hts⟩ (c_X8_length l D cI cJ cZ cO aX aX_bytes X_length _ rfl) (cwV 0 hts gX5_advanceOverWord_X8_length rfl rfl rfl (by decide +kernel) ⟨Nat.le_of_ble_eq_true rfl, Nat.le_of_ble_eq_true rfl⟩) ⟨fb_p, va_recv hK hP (ci := 8) (q0 := 0) rfl rfl, fun U hU hW => ⟨rfl, by rw [hU]; exact hPc, KK.warm hW hKK⟩⟩ rfl rfl hl.1 rfl (lv_room (Nat.le_of_ble_eq_true rfl)) dX5_advanceOverWord_8 ⟨Nat.le_of_ble_eq_true rfl, Nat.le_of_ble_eq_true rfl⟩)) (fun r hr => ?_)
      replace hr := hr.symm
      subst hr
      refine lv_icmp_ge (tgt := 44) hx hb dX5_advanceOverWord_11 (by decide) (fun c_11 => ?_) (fun c_11 => ?_)
      · replace h := if_p c_11 h
        exact L44 D_token D_end _ _ hP hD hS ls (lv_sub hl [0] rfl) h
      · replace h := if_n c_11 h
        refine lv_aload_n hx hb dX5_advanceOverWord_14 rfl (lv_at hl 0 rfl) ?_
        refine va_get (D := D) (ci := 5) (v := .ref aX) (C := RX5) (T := TX5) (N := 6) hx hb hts inX5 hown hK hP 2 rfl rfl 0 (by decide) fl_9 (fun _ h9 => h9) rfl dX5_advanceOverWord_15 ?_
        refine lv_aload_n hx hb dX5_advanceOverWord_18 rfl (lv_at hl 0 rfl) ?_
        refine va_get (D := D) (ci := 5) (v := .int D_end) (C := RX5) (T := TX5) (N := 6) hx hb hts inX5 hown hK hP 2 rfl rfl 4 (by decide) fl_25 (fun _ h9 => h9) rfl dX5_advanceOverWord_19 ?_
        obtain ⟨y12, qy12, h⟩ := ob_some h
        have hPc : va_P D vwCl [(aX, .inr (8, [.ref aX_bytes, .int X_length])), (aX_bytes, .inl (cI, 200, .inl X_bytes))] H := hP.sub [0, 1] rfl
        refine vp_callSi (va_Run.run (va_runV (As := [.int D_end]) (rest := []) ⟨hx, hb, hml, hown, hts⟩ (c_X8_byteAt l D cI cJ cZ cO aX aX_bytes X_length X_bytes D_end y12 qy12) (cwV 1 hts gX5_advanceOverWord_X8_byteAt rfl rfl rfl (by decide +kernel) ⟨Nat.le_of_ble_eq_true rfl, Nat.le_of_ble_eq_true rfl⟩) ⟨fb_p, va_recv hK hP (ci := 8) (q0 := 0) rfl rfl, fun U hU hW => ⟨rfl, by rw [hU]; exact hPc, KK.warm hW hKK⟩⟩ rfl rfl hl.1 rfl (lv_room (Nat.le_of_ble_eq_true rfl)) dX5_advanceOverWord_22 ⟨Nat.le_of_ble_eq_true rfl, Nat.le_of_ble_eq_true rfl⟩)) (fun r hr => ?_)
        replace hr := hr.symm
        subst hr
        have hPc : va_P D vwCl [] H := hP.sub [] rfl
        refine vp_callSi (va_Run.run (va_runS (As := [.int y12]) (rest := []) ⟨hx, hb, hml, hown, hts⟩ (c_X5_isLetter l D cI cJ cZ cO y12 _ rfl) (cwS 1 hts gX5_advanceOverWord_X5_isLetter rfl rfl rfl (by decide +kernel) ⟨Nat.le_of_ble_eq_true rfl, Nat.le_of_ble_eq_true rfl⟩) ⟨fb_p, fun U hU hW => ⟨rfl, by rw [hU]; exact hPc, KK.warm hW hKK⟩⟩ rfl rfl hl.1 rfl (lv_room (Nat.le_of_ble_eq_true rfl)) dX5_advanceOverWord_25 ⟨Nat.le_of_ble_eq_true rfl, Nat.le_of_ble_eq_true rfl⟩)) (fun r hr => ?_)
        obtain ⟨hr, hz13⟩ := hr
        replace hr := hr.symm
        subst hr
        refine lv_if_eq (tgt := 44) hx hb dX5_advanceOverWord_28 (by decide) (fun c_14 => ?_) (fun c_14 => ?_)
        · replace h := if_p c_14 h
          exact L44 D_token D_end _ _ hP hD hS ls (lv_sub hl [0] rfl) h
        · replace h := if_n c_14 h
          refine lv_aload_n hx hb dX5_advanceOverWord_31 rfl (lv_at hl 0 rfl) ?_
          refine lv_dup hx hb dX5_advanceOverWord_32 rfl ?_
          refine va_get (D := D) (ci := 5) (v := .int D_end) (C := RX5) (T := TX5) (N := 6) hx hb hts inX5 hown hK hP 2 rfl rfl 4 (by decide) fl_25 (fun _ h9 => h9) rfl dX5_advanceOverWord_33 ?_
          refine lv_iconst (v := (1 : Int32)) hx hb dX5_advanceOverWord_36 (by decide) ?_
          refine lv_iadd hx hb dX5_advanceOverWord_37 ?_
          refine va_put (D := D) (ci := 5) (v := .int (D_end + (1 : Int32))) (ty := .int) (C := RX5) (T := TX5) (N := 6) hx hb hts inX5 tyX5 tyX5_ok nmX5 hown hK hP hD hS 2 rfl rfl 4 (by decide) fl_25 (fun _ h9 => h9) rfl (by decide +kernel) rfl rfl (Nat.le_of_ble_eq_true rfl) dX5_advanceOverWord_38 (fun H locs hP hD hS => ?_)
          have hP : va_P D vwCl [(aX, .inr (8, [.ref aX_bytes, .int X_length])), (aX_bytes, .inl (cI, 200, .inl X_bytes)), (aD, .inr (5, [.ref aX, .ref aF, .int D_token, .int D_start, .int (D_end + (1 : Int32)), .int D_value]))] H := hP
          have hD : va_D A [(aX, .inr (8, [.ref aX_bytes, .int X_length])), (aX_bytes, .inl (cI, 200, .inl X_bytes)), (aD, .inr (5, [.ref aX, .ref aF, .int D_token, .int D_start, .int (D_end + (1 : Int32)), .int D_value]))] := hD
          refine lv_goto (tgt := 0) hx hb dX5_advanceOverWord_41 (by decide) ?_
          exact ih D_token (D_end + (1 : Int32)) _ _ hP hD hS ls (lv_sub hl [0] rfl) h
  unfold f_X5_advanceOverWord at h
  refine lv_aload_n hx hb dX5_advanceOverWord_0 rfl (lv_at hl 0 rfl) ?_
  refine va_get (D := D) (ci := 5) (v := .int D_end) (C := RX5) (T := TX5) (N := 6) hx hb hts inX5 hown hK hP 2 rfl rfl 4 (by decide) fl_25 (fun _ h9 => h9) rfl dX5_advanceOverWord_1 ?_
  refine lv_aload_n hx hb dX5_advanceOverWord_4 rfl (lv_at hl 0 rfl) ?_
  refine va_get (D := D) (ci := 5) (v := .ref aX) (C := RX5) (T := TX5) (N := 6) hx hb hts inX5 hown hK hP 2 rfl rfl 0 (by decide) fl_9 (fun _ h9 => h9) rfl dX5_advanceOverWord_5 ?_
  have hPc : va_P D vwCl [(aX, .inr (8, [.ref aX_bytes, .int X_length]))] s.heap := hP.sub [0] rfl
  refine vp_callSi (va_Run.run (va_runV (As := []) (rest := [.int D_end]) ⟨hx, hb, hml, hown, hts⟩ (c_X8_length l D cI cJ cZ cO aX aX_bytes X_length _ rfl) (cwV 0 hts gX5_advanceOverWord_X8_length rfl rfl rfl (by decide +kernel) ⟨Nat.le_of_ble_eq_true rfl, Nat.le_of_ble_eq_true rfl⟩) ⟨fb_p, va_recv hK hP (ci := 8) (q0 := 0) rfl rfl, fun U hU hW => ⟨rfl, by rw [hU]; exact hPc, KK.warm hW hKK⟩⟩ rfl rfl hl.1 rfl (lv_room (Nat.le_of_ble_eq_true rfl)) dX5_advanceOverWord_8 ⟨Nat.le_of_ble_eq_true rfl, Nat.le_of_ble_eq_true rfl⟩)) (fun r hr => ?_)
  replace hr := hr.symm
  subst hr
  refine lv_icmp_ge (tgt := 44) hx hb dX5_advanceOverWord_11 (by decide) (fun c_1 => ?_) (fun c_1 => ?_)
  · replace h := if_p c_1 h
    exact L44 D_token D_end _ _ hP hD hS ls (lv_sub hl [0] rfl) h
  · replace h := if_n c_1 h
    refine lv_aload_n hx hb dX5_advanceOverWord_14 rfl (lv_at hl 0 rfl) ?_
    refine va_get (D := D) (ci := 5) (v := .ref aX) (C := RX5) (T := TX5) (N := 6) hx hb hts inX5 hown hK hP 2 rfl rfl 0 (by decide) fl_9 (fun _ h9 => h9) rfl dX5_advanceOverWord_15 ?_
    refine lv_aload_n hx hb dX5_advanceOverWord_18 rfl (lv_at hl 0 rfl) ?_
    refine va_get (D := D) (ci := 5) (v := .int D_end) (C := RX5) (T := TX5) (N := 6) hx hb hts inX5 hown hK hP 2 rfl rfl 4 (by decide) fl_25 (fun _ h9 => h9) rfl dX5_advanceOverWord_19 ?_
    obtain ⟨y2, qy2, h⟩ := ob_some h
    have hPc : va_P D vwCl [(aX, .inr (8, [.ref aX_bytes, .int X_length])), (aX_bytes, .inl (cI, 200, .inl X_bytes))] s.heap := hP.sub [0, 1] rfl
    refine vp_callSi (va_Run.run (va_runV (As := [.int D_end]) (rest := []) ⟨hx, hb, hml, hown, hts⟩ (c_X8_byteAt l D cI cJ cZ cO aX aX_bytes X_length X_bytes D_end y2 qy2) (cwV 1 hts gX5_advanceOverWord_X8_byteAt rfl rfl rfl (by decide +kernel) ⟨Nat.le_of_ble_eq_true rfl, Nat.le_of_ble_eq_true rfl⟩) ⟨fb_p, va_recv hK hP (ci := 8) (q0 := 0) rfl rfl, fun U hU hW => ⟨rfl, by rw [hU]; exact hPc, KK.warm hW hKK⟩⟩ rfl rfl hl.1 rfl (lv_room (Nat.le_of_ble_eq_true rfl)) dX5_advanceOverWord_22 ⟨Nat.le_of_ble_eq_true rfl, Nat.le_of_ble_eq_true rfl⟩)) (fun r hr => ?_)
    replace hr := hr.symm
    subst hr
    have hPc : va_P D vwCl [] s.heap := hP.sub [] rfl
    refine vp_callSi (va_Run.run (va_runS (As := [.int y2]) (rest := []) ⟨hx, hb, hml, hown, hts⟩ (c_X5_isLetter l D cI cJ cZ cO y2 _ rfl) (cwS 1 hts gX5_advanceOverWord_X5_isLetter rfl rfl rfl (by decide +kernel) ⟨Nat.le_of_ble_eq_true rfl, Nat.le_of_ble_eq_true rfl⟩) ⟨fb_p, fun U hU hW => ⟨rfl, by rw [hU]; exact hPc, KK.warm hW hKK⟩⟩ rfl rfl hl.1 rfl (lv_room (Nat.le_of_ble_eq_true rfl)) dX5_advanceOverWord_25 ⟨Nat.le_of_ble_eq_true rfl, Nat.le_of_ble_eq_true rfl⟩)) (fun r hr => ?_)
    obtain ⟨hr, hz3⟩ := hr
    replace hr := hr.symm
    subst hr
    refine lv_if_eq (tgt := 44) hx hb dX5_advanceOverWord_28 (by decide) (fun c_4 => ?_) (fun c_4 => ?_)
    · replace h := if_p c_4 h
      exact L44 D_token D_end _ _ hP hD hS ls (lv_sub hl [0] rfl) h
    · replace h := if_n c_4 h
      refine lv_aload_n hx hb dX5_advanceOverWord_31 rfl (lv_at hl 0 rfl) ?_
      refine lv_dup hx hb dX5_advanceOverWord_32 rfl ?_
      refine va_get (D := D) (ci := 5) (v := .int D_end) (C := RX5) (T := TX5) (N := 6) hx hb hts inX5 hown hK hP 2 rfl rfl 4 (by decide) fl_25 (fun _ h9 => h9) rfl dX5_advanceOverWord_33 ?_
      refine lv_iconst (v := (1 : Int32)) hx hb dX5_advanceOverWord_36 (by decide) ?_
      refine lv_iadd hx hb dX5_advanceOverWord_37 ?_
      refine va_put (D := D) (ci := 5) (v := .int (D_end + (1 : Int32))) (ty := .int) (C := RX5) (T := TX5) (N := 6) hx hb hts inX5 tyX5 tyX5_ok nmX5 hown hK hP hD hS 2 rfl rfl 4 (by decide) fl_25 (fun _ h9 => h9) rfl (by decide +kernel) rfl rfl (Nat.le_of_ble_eq_true rfl) dX5_advanceOverWord_38 (fun H locs hP hD hS => ?_)
      have hP : va_P D vwCl [(aX, .inr (8, [.ref aX_bytes, .int X_length])), (aX_bytes, .inl (cI, 200, .inl X_bytes)), (aD, .inr (5, [.ref aX, .ref aF, .int D_token, .int D_start, .int (D_end + (1 : Int32)), .int D_value]))] H := hP
      have hD : va_D A [(aX, .inr (8, [.ref aX_bytes, .int X_length])), (aX_bytes, .inl (cI, 200, .inl X_bytes)), (aD, .inr (5, [.ref aX, .ref aF, .int D_token, .int D_start, .int (D_end + (1 : Int32)), .int D_value]))] := hD
      refine lv_goto (tgt := 0) hx hb dX5_advanceOverWord_41 (by decide) ?_
      exact L0 300 D_token (D_end + (1 : Int32)) _ _ hP hD hS ls (lv_sub hl [0] rfl) h

def f_X5_advanceOverNumber_L119 (X_length : Int32) (X_bytes : Nat → Int32) (D_start : Int32) (D_token : Int32) (D_end : Int32) (D_value : Int32) (t0 : Int32) : Option (Int32 × Int32 × Int32) := (if (99 : Int32) < D_value then some ((1 : Int32), D_end, D_value) else (if t0 = 0 then some ((3 : Int32), D_end, D_value) else some ((1 : Int32), D_end, D_value)))
def f_X5_advanceOverNumber_L118 (X_length : Int32) (X_bytes : Nat → Int32) (D_start : Int32) (D_token : Int32) (D_end : Int32) (D_value : Int32) : Option (Int32 × Int32 × Int32) := f_X5_advanceOverNumber_L119 X_length X_bytes D_start D_token D_end D_value (0 : Int32)
def f_X5_advanceOverNumber_L95 (X_length : Int32) (X_bytes : Nat → Int32) (D_start : Int32) (D_token : Int32) (D_end : Int32) (D_value : Int32) (x1 : Int32) : Option (Int32 × Int32 × Int32) := (if x1 = (48 : Int32) then (if (D_end - D_start) ≤ (1 : Int32) then f_X5_advanceOverNumber_L118 X_length X_bytes D_start D_token D_end D_value else f_X5_advanceOverNumber_L119 X_length X_bytes D_start D_token D_end D_value (1 : Int32)) else f_X5_advanceOverNumber_L118 X_length X_bytes D_start D_token D_end D_value)
def f_X5_advanceOverNumber_L20 (X_length : Int32) (X_bytes : Nat → Int32) (D_start : Int32) : Nat → Int32 → Int32 → Int32 → Int32 → Option (Int32 × Int32 × Int32)
  | 0, _, _, _, _ => none
  | n + 1, D_token, D_end, D_value, x1 => (if (f_X8_length X_length) ≤ D_end then f_X5_advanceOverNumber_L95 X_length X_bytes D_start D_token D_end D_value x1 else (Option.bind (f_X8_byteAt X_length X_bytes D_end) (fun y3 => (if (f_X5_isDigit y3) = 0 then f_X5_advanceOverNumber_L95 X_length X_bytes D_start D_token D_end D_value x1 else (Option.bind (f_X8_byteAt X_length X_bytes D_end) (fun y6 => f_X5_advanceOverNumber_L20 X_length X_bytes D_start n D_token (D_end + (1 : Int32)) (if (((D_value * (10 : Int32)) + y6) - (48 : Int32)) < (100 : Int32) then (((D_value * (10 : Int32)) + y6) - (48 : Int32)) else (100 : Int32)) x1))))))
def f_X5_advanceOverNumber (X_length : Int32) (X_bytes : Nat → Int32) (D_token : Int32) (D_start : Int32) (D_end : Int32) (D_value : Int32) : Option (Int32 × Int32 × Int32) := (Option.bind (f_X8_byteAt X_length X_bytes D_start) (fun y1 => f_X5_advanceOverNumber_L20 X_length X_bytes D_start 300 D_token D_end (y1 - (48 : Int32)) y1))
set_option maxHeartbeats 8000000 in
set_option maxRecDepth 100000 in
theorem c_X5_advanceOverNumber (l : Launch) (D : va_G) (cI cJ cZ cO : ClassId) (aX : Nat) (aX_bytes : Nat) (aD : Nat) (aF : Nat) (X_length : Int32) (X_bytes : Nat → Int32) (D_token : Int32) (D_start : Int32) (D_end : Int32) (D_value : Int32) (sz : Nat)   (y0 : Int32 × Int32 × Int32) (h : f_X5_advanceOverNumber X_length X_bytes D_token D_start D_end D_value = some y0) : Met l yX5_advanceOverNumber wsX5_advanceOverNumber ({ frames := 1, cells := 0, slots := 0, locals := 24 } : Room) (va_Pc [.ref aD] (fun U => U.heap.size = sz ∧ va_P D vwCl [(aX, .inr (8, [.ref aX_bytes, .int X_length])), (aX_bytes, .inl (cI, 200, .inl X_bytes)), (aD, .inr (5, [.ref aX, .ref aF, .int D_token, .int D_start, .int D_end, .int D_value]))] U.heap ∧ KK D cI cJ cZ cO U ∧ va_D (fun _ => True) [(aX, .inr (8, [.ref aX_bytes, .int X_length])), (aX_bytes, .inl (cI, 200, .inl X_bytes)), (aD, .inr (5, [.ref aX, .ref aF, .int D_token, .int D_start, .int D_end, .int D_value]))])) (va_Qv (fun (_ : Unit) => True) (fun (_ : Unit) t => va_P D vwCl [(aX, .inr (8, [.ref aX_bytes, .int X_length])), (aX_bytes, .inl (cI, 200, .inl X_bytes)), (aD, .inr (5, [.ref aX, .ref aF, .int y0.1, .int D_start, .int y0.2.1, .int y0.2.2]))] t.heap ∧ va_D (va_A [(aX, .inr (8, [.ref aX_bytes, .int X_length])), (aX_bytes, .inl (cI, 200, .inl X_bytes)), (aD, .inr (5, [.ref aX, .ref aF, .int D_token, .int D_start, .int D_end, .int D_value]))] sz) [(aX, .inr (8, [.ref aX_bytes, .int X_length])), (aX_bytes, .inl (cI, 200, .inl X_bytes)), (aD, .inr (5, [.ref aX, .ref aF, .int y0.1, .int D_start, .int y0.2.1, .int y0.2.2]))]) (va_A [(aX, .inr (8, [.ref aX_bytes, .int X_length])), (aX_bytes, .inl (cI, 200, .inl X_bytes)), (aD, .inr (5, [.ref aX, .ref aF, .int D_token, .int D_start, .int D_end, .int D_value]))] sz)) 0 0 (va_A [(aX, .inr (8, [.ref aX_bytes, .int X_length])), (aX_bytes, .inl (cI, 200, .inl X_bytes)), (aD, .inr (5, [.ref aX, .ref aF, .int D_token, .int D_start, .int D_end, .int D_value]))] sz) := by
  refine Met.ofW (cc := cX5_advanceOverNumber) (maxL := 3) (ret := none) (by decide) rfl ?_
  intro p e s m args below meth c s₁ B hml hv
  obtain ⟨rfl, hsz, hP, hKK, hD0⟩ := hv
  have hx := B.exec
  have hb := B.bytes
  have hr := B.returns
  have hts := atoms_spec (ws := wsX5_advanceOverNumber) B.pre
  have hown : s.vm.findClass RX5 = some m.cls := findClass_of_methodNamed B.named
  have hlocks := B.notSynchronized
  have hK := hKK.1
  have fl_9 := hts (.fieldLink RX5 9 "SimonSays$Reader" "text" "LSimonSays$Text;") (by decide +kernel)
  have fl_25 := hts (.fieldLink RX5 25 "SimonSays$Reader" "end" "I") (by decide +kernel)
  have fl_32 := hts (.fieldLink RX5 32 "SimonSays$Reader" "token" "I") (by decide +kernel)
  have fl_42 := hts (.fieldLink RX5 42 "SimonSays$Reader" "start" "I") (by decide +kernel)
  have fl_53 := hts (.fieldLink RX5 53 "SimonSays$Reader" "value" "I") (by decide +kernel)
  have comin := hts (.code Lib.Math.min.name Lib.Math.min.code 2 (some .int)) (by decide +kernel)
  have inmin := hts (.initialized "java/lang/Math") (by decide +kernel)
  have mlmin96 := hts (.methodLink RX5 96 Lib.Math.min.name) (by decide +kernel)
  have stmin := hts (.static Lib.Math.min.name) (by decide +kernel)
  have inX5 : ∀ w ∈ wsX50, w ∈ wsX5_advanceOverNumber := by decide +kernel
  subst hsz
  have hD := hD0.self (sz := s.heap.size)
  generalize hAe : va_A [(aX, .inr (8, [.ref aX_bytes, .int X_length])), (aX_bytes, .inl (cI, 200, .inl X_bytes)), (aD, .inr (5, [.ref aX, .ref aF, .int D_token, .int D_start, .int D_end, .int D_value]))] s.heap.size = A at hD ⊢
  have hA : ∀ q : Nat, s.heap.size ≤ q → A q := fun q h => by rw [← hAe]; exact Or.inr h
  have hS : va_S A s.heap s.heap [] := va_S.rf
  have hl := lv_entry ([.ref aD]) (n := 3) (Nat.le_of_ble_eq_true rfl)
  rw [lg_entry_eq]
  generalize (lg_sl ([.ref aD]) ++ List.replicate (3 - (lg_sl ([.ref aD])).length) Slot.unset).toArray = ls at hl ⊢
  have hl : lv_has ls 3 [(0, .ref aD)] := hl
  have L119 : ∀ (D_token : Int32) (D_end : Int32) (D_value : Int32) (t0 : Int32), ∀ (H : Heap) (locs : List Loc), va_P D vwCl [(aX, .inr (8, [.ref aX_bytes, .int X_length])), (aX_bytes, .inl (cI, 200, .inl X_bytes)), (aD, .inr (5, [.ref aX, .ref aF, .int D_token, .int D_start, .int D_end, .int D_value]))] H → va_D A [(aX, .inr (8, [.ref aX_bytes, .int X_length])), (aX_bytes, .inl (cI, 200, .inl X_bytes)), (aD, .inr (5, [.ref aX, .ref aF, .int D_token, .int D_start, .int D_end, .int D_value]))] → va_S A s.heap H locs → ∀ (ls : Array Slot), lv_has ls 3 [(0, .ref aD)] → f_X5_advanceOverNumber_L119 X_length X_bytes D_start D_token D_end D_value t0 = some y0 → W p l e (headSpec wsX5_advanceOverNumber ({ frames := 1, cells := 0, slots := 0, locals := 24 } : Room)).room s m ([.ref aD] : List Value).toArray below meth c H locs 0 0 (MQ below (va_Qv (fun (_ : Unit) => True) (fun (_ : Unit) t => va_P D vwCl [(aX, .inr (8, [.ref aX_bytes, .int X_length])), (aX_bytes, .inl (cI, 200, .inl X_bytes)), (aD, .inr (5, [.ref aX, .ref aF, .int y0.1, .int D_start, .int y0.2.1, .int y0.2.2]))] t.heap ∧ va_D A [(aX, .inr (8, [.ref aX_bytes, .int X_length])), (aX_bytes, .inl (cI, 200, .inl X_bytes)), (aD, .inr (5, [.ref aX, .ref aF, .int y0.1, .int D_start, .int y0.2.1, .int y0.2.2]))]) A) ([.ref aD] : List Value).toArray s 0 0 A) (F0 m 119 ls [.int t0]) := by
    intro D_token D_end D_value t0 H locs hP hD hS ls hl h
    unfold f_X5_advanceOverNumber_L119 at h
    refine lv_istore_n (lv' := [(2, .int t0), (0, .ref aD)]) hx hb dX5_advanceOverNumber_119 rfl hl (by decide) rfl (fun ls hl => ?_)
    refine lv_aload_n hx hb dX5_advanceOverNumber_120 rfl (lv_at hl 1 rfl) ?_
    refine lv_aload_n hx hb dX5_advanceOverNumber_121 rfl (lv_at hl 1 rfl) ?_
    refine va_get (D := D) (ci := 5) (v := .int D_value) (C := RX5) (T := TX5) (N := 6) hx hb hts inX5 hown hK hP 2 rfl rfl 5 (by decide) fl_53 (fun _ h9 => h9) rfl dX5_advanceOverNumber_122 ?_
    refine lv_bipush (v := (99 : Int32)) hx hb dX5_advanceOverNumber_125 (by decide) ?_
    refine lv_icmp_gt (tgt := 134) hx hb dX5_advanceOverNumber_127 (by decide) (fun c_9 => ?_) (fun c_9 => ?_)
    · replace h := if_p c_9 h
      refine lv_iconst (v := (1 : Int32)) hx hb dX5_advanceOverNumber_134 (by decide) ?_
      refine lv_goto (tgt := 139) hx hb dX5_advanceOverNumber_135 (by decide) ?_
      refine va_put (D := D) (ci := 5) (v := .int (1 : Int32)) (ty := .int) (C := RX5) (T := TX5) (N := 6) hx hb hts inX5 tyX5 tyX5_ok nmX5 hown hK hP hD hS 2 rfl rfl 2 (by decide) fl_32 (fun _ h9 => h9) rfl (by decide +kernel) rfl rfl (Nat.le_of_ble_eq_true rfl) dX5_advanceOverNumber_139 (fun H locs hP hD hS => ?_)
      have hP : va_P D vwCl [(aX, .inr (8, [.ref aX_bytes, .int X_length])), (aX_bytes, .inl (cI, 200, .inl X_bytes)), (aD, .inr (5, [.ref aX, .ref aF, .int (1 : Int32), .int D_start, .int D_end, .int D_value]))] H := hP
      have hD : va_D A [(aX, .inr (8, [.ref aX_bytes, .int X_length])), (aX_bytes, .inl (cI, 200, .inl X_bytes)), (aD, .inr (5, [.ref aX, .ref aF, .int (1 : Int32), .int D_start, .int D_end, .int D_value]))] := hD
      have hy := Option.some.inj h
      subst hy
      exact W.vret hx hb hr (fun t ht hW => ⟨⟨(), rfl, trivial, by rw [ht]; exact hP, hD⟩, hS.F ht⟩) hS.2.2 dX5_advanceOverNumber_142
    · replace h := if_n c_9 h
      refine lv_iload_n hx hb dX5_advanceOverNumber_130 rfl (lv_at hl 0 rfl) ?_
      refine lv_if_eq (tgt := 138) hx hb dX5_advanceOverNumber_131 (by decide) (fun c_10 => ?_) (fun c_10 => ?_)
      · replace h := if_p c_10 h
        refine lv_iconst (v := (3 : Int32)) hx hb dX5_advanceOverNumber_138 (by decide) ?_
        refine va_put (D := D) (ci := 5) (v := .int (3 : Int32)) (ty := .int) (C := RX5) (T := TX5) (N := 6) hx hb hts inX5 tyX5 tyX5_ok nmX5 hown hK hP hD hS 2 rfl rfl 2 (by decide) fl_32 (fun _ h9 => h9) rfl (by decide +kernel) rfl rfl (Nat.le_of_ble_eq_true rfl) dX5_advanceOverNumber_139 (fun H locs hP hD hS => ?_)
        have hP : va_P D vwCl [(aX, .inr (8, [.ref aX_bytes, .int X_length])), (aX_bytes, .inl (cI, 200, .inl X_bytes)), (aD, .inr (5, [.ref aX, .ref aF, .int (3 : Int32), .int D_start, .int D_end, .int D_value]))] H := hP
        have hD : va_D A [(aX, .inr (8, [.ref aX_bytes, .int X_length])), (aX_bytes, .inl (cI, 200, .inl X_bytes)), (aD, .inr (5, [.ref aX, .ref aF, .int (3 : Int32), .int D_start, .int D_end, .int D_value]))] := hD
        have hy := Option.some.inj h
        subst hy
        exact W.vret hx hb hr (fun t ht hW => ⟨⟨(), rfl, trivial, by rw [ht]; exact hP, hD⟩, hS.F ht⟩) hS.2.2 dX5_advanceOverNumber_142
      · replace h := if_n c_10 h
        refine lv_iconst (v := (1 : Int32)) hx hb dX5_advanceOverNumber_134 (by decide) ?_
        refine lv_goto (tgt := 139) hx hb dX5_advanceOverNumber_135 (by decide) ?_
        refine va_put (D := D) (ci := 5) (v := .int (1 : Int32)) (ty := .int) (C := RX5) (T := TX5) (N := 6) hx hb hts inX5 tyX5 tyX5_ok nmX5 hown hK hP hD hS 2 rfl rfl 2 (by decide) fl_32 (fun _ h9 => h9) rfl (by decide +kernel) rfl rfl (Nat.le_of_ble_eq_true rfl) dX5_advanceOverNumber_139 (fun H locs hP hD hS => ?_)
        have hP : va_P D vwCl [(aX, .inr (8, [.ref aX_bytes, .int X_length])), (aX_bytes, .inl (cI, 200, .inl X_bytes)), (aD, .inr (5, [.ref aX, .ref aF, .int (1 : Int32), .int D_start, .int D_end, .int D_value]))] H := hP
        have hD : va_D A [(aX, .inr (8, [.ref aX_bytes, .int X_length])), (aX_bytes, .inl (cI, 200, .inl X_bytes)), (aD, .inr (5, [.ref aX, .ref aF, .int (1 : Int32), .int D_start, .int D_end, .int D_value]))] := hD
        have hy := Option.some.inj h
        subst hy
        exact W.vret hx hb hr (fun t ht hW => ⟨⟨(), rfl, trivial, by rw [ht]; exact hP, hD⟩, hS.F ht⟩) hS.2.2 dX5_advanceOverNumber_142
  have L118 : ∀ (D_token : Int32) (D_end : Int32) (D_value : Int32), ∀ (H : Heap) (locs : List Loc), va_P D vwCl [(aX, .inr (8, [.ref aX_bytes, .int X_length])), (aX_bytes, .inl (cI, 200, .inl X_bytes)), (aD, .inr (5, [.ref aX, .ref aF, .int D_token, .int D_start, .int D_end, .int D_value]))] H → va_D A [(aX, .inr (8, [.ref aX_bytes, .int X_length])), (aX_bytes, .inl (cI, 200, .inl X_bytes)), (aD, .inr (5, [.ref aX, .ref aF, .int D_token, .int D_start, .int D_end, .int D_value]))] → va_S A s.heap H locs → ∀ (ls : Array Slot), lv_has ls 3 [(0, .ref aD)] → f_X5_advanceOverNumber_L118 X_length X_bytes D_start D_token D_end D_value = some y0 → W p l e (headSpec wsX5_advanceOverNumber ({ frames := 1, cells := 0, slots := 0, locals := 24 } : Room)).room s m ([.ref aD] : List Value).toArray below meth c H locs 0 0 (MQ below (va_Qv (fun (_ : Unit) => True) (fun (_ : Unit) t => va_P D vwCl [(aX, .inr (8, [.ref aX_bytes, .int X_length])), (aX_bytes, .inl (cI, 200, .inl X_bytes)), (aD, .inr (5, [.ref aX, .ref aF, .int y0.1, .int D_start, .int y0.2.1, .int y0.2.2]))] t.heap ∧ va_D A [(aX, .inr (8, [.ref aX_bytes, .int X_length])), (aX_bytes, .inl (cI, 200, .inl X_bytes)), (aD, .inr (5, [.ref aX, .ref aF, .int y0.1, .int D_start, .int y0.2.1, .int y0.2.2]))]) A) ([.ref aD] : List Value).toArray s 0 0 A) (F0 m 118 ls []) := by
    intro D_token D_end D_value H locs hP hD hS ls hl h
    unfold f_X5_advanceOverNumber_L118 at h
    refine lv_iconst (v := (0 : Int32)) hx hb dX5_advanceOverNumber_118 (by decide) ?_
    exact L119 D_token D_end D_value (0 : Int32) _ _ hP hD hS ls (lv_sub hl [0] rfl) h
  have L95 : ∀ (D_token : Int32) (D_end : Int32) (D_value : Int32) (x1 : Int32), ∀ (H : Heap) (locs : List Loc), va_P D vwCl [(aX, .inr (8, [.ref aX_bytes, .int X_length])), (aX_bytes, .inl (cI, 200, .inl X_bytes)), (aD, .inr (5, [.ref aX, .ref aF, .int D_token, .int D_start, .int D_end, .int D_value]))] H → va_D A [(aX, .inr (8, [.ref aX_bytes, .int X_length])), (aX_bytes, .inl (cI, 200, .inl X_bytes)), (aD, .inr (5, [.ref aX, .ref aF, .int D_token, .int D_start, .int D_end, .int D_value]))] → va_S A s.heap H locs → ∀ (ls : Array Slot), lv_has ls 3 [(0, .ref aD), (1, .int x1)] → f_X5_advanceOverNumber_L95 X_length X_bytes D_start D_token D_end D_value x1 = some y0 → W p l e (headSpec wsX5_advanceOverNumber ({ frames := 1, cells := 0, slots := 0, locals := 24 } : Room)).room s m ([.ref aD] : List Value).toArray below meth c H locs 0 0 (MQ below (va_Qv (fun (_ : Unit) => True) (fun (_ : Unit) t => va_P D vwCl [(aX, .inr (8, [.ref aX_bytes, .int X_length])), (aX_bytes, .inl (cI, 200, .inl X_bytes)), (aD, .inr (5, [.ref aX, .ref aF, .int y0.1, .int D_start, .int y0.2.1, .int y0.2.2]))] t.heap ∧ va_D A [(aX, .inr (8, [.ref aX_bytes, .int X_length])), (aX_bytes, .inl (cI, 200, .inl X_bytes)), (aD, .inr (5, [.ref aX, .ref aF, .int y0.1, .int D_start, .int y0.2.1, .int y0.2.2]))]) A) ([.ref aD] : List Value).toArray s 0 0 A) (F0 m 95 ls []) := by
    intro D_token D_end D_value x1 H locs hP hD hS ls hl h
    unfold f_X5_advanceOverNumber_L95 at h
    refine lv_iload_n hx hb dX5_advanceOverNumber_95 rfl (lv_at hl 1 rfl) ?_
    refine lv_bipush (v := (48 : Int32)) hx hb dX5_advanceOverNumber_96 (by decide) ?_
    refine lv_icmp_ne (tgt := 118) hx hb dX5_advanceOverNumber_98 (by decide) (fun c_7 => ?_) (fun c_7 => ?_)
    · replace h := if_n c_7 h
      exact L118 D_token D_end D_value _ _ hP hD hS ls (lv_sub hl [0] rfl) h
    · replace h := if_p c_7 h
      refine lv_aload_n hx hb dX5_advanceOverNumber_101 rfl (lv_at hl 0 rfl) ?_
      refine va_get (D := D) (ci := 5) (v := .int D_end) (C := RX5) (T := TX5) (N := 6) hx hb hts inX5 hown hK hP 2 rfl rfl 4 (by decide) fl_25 (fun _ h9 => h9) rfl dX5_advanceOverNumber_102 ?_
      refine lv_aload_n hx hb dX5_advanceOverNumber_105 rfl (lv_at hl 0 rfl) ?_
      refine va_get (D := D) (ci := 5) (v := .int D_start) (C := RX5) (T := TX5) (N := 6) hx hb hts inX5 hown hK hP 2 rfl rfl 3 (by decide) fl_42 (fun _ h9 => h9) rfl dX5_advanceOverNumber_106 ?_
      refine lv_isub hx hb dX5_advanceOverNumber_109 ?_
      refine lv_iconst (v := (1 : Int32)) hx hb dX5_advanceOverNumber_110 (by decide) ?_
      refine lv_icmp_le (tgt := 118) hx hb dX5_advanceOverNumber_111 (by decide) (fun c_8 => ?_) (fun c_8 => ?_)
      · replace h := if_p c_8 h
        exact L118 D_token D_end D_value _ _ hP hD hS ls (lv_sub hl [0] rfl) h
      · replace h := if_n c_8 h
        refine lv_iconst (v := (1 : Int32)) hx hb dX5_advanceOverNumber_114 (by decide) ?_
        refine lv_goto (tgt := 119) hx hb dX5_advanceOverNumber_115 (by decide) ?_
        exact L119 D_token D_end D_value (1 : Int32) _ _ hP hD hS ls (lv_sub hl [0] rfl) h
  have L20 : ∀ (n : Nat), ∀ (D_token : Int32) (D_end : Int32) (D_value : Int32) (x1 : Int32), ∀ (H : Heap) (locs : List Loc), va_P D vwCl [(aX, .inr (8, [.ref aX_bytes, .int X_length])), (aX_bytes, .inl (cI, 200, .inl X_bytes)), (aD, .inr (5, [.ref aX, .ref aF, .int D_token, .int D_start, .int D_end, .int D_value]))] H → va_D A [(aX, .inr (8, [.ref aX_bytes, .int X_length])), (aX_bytes, .inl (cI, 200, .inl X_bytes)), (aD, .inr (5, [.ref aX, .ref aF, .int D_token, .int D_start, .int D_end, .int D_value]))] → va_S A s.heap H locs → ∀ (ls : Array Slot), lv_has ls 3 [(0, .ref aD), (1, .int x1)] → f_X5_advanceOverNumber_L20 X_length X_bytes D_start n D_token D_end D_value x1 = some y0 → W p l e (headSpec wsX5_advanceOverNumber ({ frames := 1, cells := 0, slots := 0, locals := 24 } : Room)).room s m ([.ref aD] : List Value).toArray below meth c H locs 0 0 (MQ below (va_Qv (fun (_ : Unit) => True) (fun (_ : Unit) t => va_P D vwCl [(aX, .inr (8, [.ref aX_bytes, .int X_length])), (aX_bytes, .inl (cI, 200, .inl X_bytes)), (aD, .inr (5, [.ref aX, .ref aF, .int y0.1, .int D_start, .int y0.2.1, .int y0.2.2]))] t.heap ∧ va_D A [(aX, .inr (8, [.ref aX_bytes, .int X_length])), (aX_bytes, .inl (cI, 200, .inl X_bytes)), (aD, .inr (5, [.ref aX, .ref aF, .int y0.1, .int D_start, .int y0.2.1, .int y0.2.2]))]) A) ([.ref aD] : List Value).toArray s 0 0 A) (F0 m 20 ls []) := by
    intro n
    induction n with
    | zero =>
      intro D_token D_end D_value x1 H locs hP hD hS ls hl h
      exact (ns h).elim
    | succ n ih =>
      intro D_token D_end D_value x1 H locs hP hD hS ls hl h
      unfold f_X5_advanceOverNumber_L20 at h
      refine lv_aload_n hx hb dX5_advanceOverNumber_20 rfl (lv_at hl 0 rfl) ?_
      refine va_get (D := D) (ci := 5) (v := .int D_end) (C := RX5) (T := TX5) (N := 6) hx hb hts inX5 hown hK hP 2 rfl rfl 4 (by decide) fl_25 (fun _ h9 => h9) rfl dX5_advanceOverNumber_21 ?_
      refine lv_aload_n hx hb dX5_advanceOverNumber_24 rfl (lv_at hl 0 rfl) ?_
      refine va_get (D := D) (ci := 5) (v := .ref aX) (C := RX5) (T := TX5) (N := 6) hx hb hts inX5 hown hK hP 2 rfl rfl 0 (by decide) fl_9 (fun _ h9 => h9) rfl dX5_advanceOverNumber_25 ?_
      have hPc : va_P D vwCl [(aX, .inr (8, [.ref aX_bytes, .int X_length]))] H := hP.sub [0] rfl
      refine vp_callSi (va_Run.run (va_runV (As := []) (rest := [.int D_end]) ⟨hx, hb, hml, hown, hts⟩ (c_X8_length l D cI cJ cZ cO aX aX_bytes X_length _ rfl) (cwV 0 hts gX5_advanceOverNumber_X8_length rfl rfl rfl (by decide +kernel) ⟨Nat.le_of_ble_eq_true rfl, Nat.le_of_ble_eq_true rfl⟩) ⟨fb_p, va_recv hK hP (ci := 8) (q0 := 0) rfl rfl, fun U hU hW => ⟨rfl, by rw [hU]; exact hPc, KK.warm hW hKK⟩⟩ rfl rfl hl.1 rfl (lv_room (Nat.le_of_ble_eq_true rfl)) dX5_advanceOverNumber_28 ⟨Nat.le_of_ble_eq_true rfl, Nat.le_of_ble_eq_true rfl⟩)) (fun r hr => ?_)
      replace hr := hr.symm
      subst hr
      refine lv_icmp_ge (tgt := 95) hx hb dX5_advanceOverNumber_31 (by decide) (fun c_2 => ?_) (fun c_2 => ?_)
      · replace h := if_p c_2 h
        exact L95 D_token D_end D_value x1 _ _ hP hD hS ls (lv_sub hl [0, 1] rfl) h
      · replace h := if_n c_2 h
        refine lv_aload_n hx hb dX5_advanceOverNumber_34 rfl (lv_at hl 0 rfl) ?_
        refine va_get (D := D) (ci := 5) (v := .ref aX) (C := RX5) (T := TX5) (N := 6) hx hb hts inX5 hown hK hP 2 rfl rfl 0 (by decide) fl_9 (fun _ h9 => h9) rfl dX5_advanceOverNumber_35 ?_
        refine lv_aload_n hx hb dX5_advanceOverNumber_38 rfl (lv_at hl 0 rfl) ?_
        refine va_get (D := D) (ci := 5) (v := .int D_end) (C := RX5) (T := TX5) (N := 6) hx hb hts inX5 hown hK hP 2 rfl rfl 4 (by decide) fl_25 (fun _ h9 => h9) rfl dX5_advanceOverNumber_39 ?_
        obtain ⟨y3, qy3, h⟩ := ob_some h
        have hPc : va_P D vwCl [(aX, .inr (8, [.ref aX_bytes, .int X_length])), (aX_bytes, .inl (cI, 200, .inl X_bytes))] H := hP.sub [0, 1] rfl
        refine vp_callSi (va_Run.run (va_runV (As := [.int D_end]) (rest := []) ⟨hx, hb, hml, hown, hts⟩ (c_X8_byteAt l D cI cJ cZ cO aX aX_bytes X_length X_bytes D_end y3 qy3) (cwV 1 hts gX5_advanceOverNumber_X8_byteAt rfl rfl rfl (by decide +kernel) ⟨Nat.le_of_ble_eq_true rfl, Nat.le_of_ble_eq_true rfl⟩) ⟨fb_p, va_recv hK hP (ci := 8) (q0 := 0) rfl rfl, fun U hU hW => ⟨rfl, by rw [hU]; exact hPc, KK.warm hW hKK⟩⟩ rfl rfl hl.1 rfl (lv_room (Nat.le_of_ble_eq_true rfl)) dX5_advanceOverNumber_42 ⟨Nat.le_of_ble_eq_true rfl, Nat.le_of_ble_eq_true rfl⟩)) (fun r hr => ?_)
        replace hr := hr.symm
        subst hr
        have hPc : va_P D vwCl [] H := hP.sub [] rfl
        refine vp_callSi (va_Run.run (va_runS (As := [.int y3]) (rest := []) ⟨hx, hb, hml, hown, hts⟩ (c_X5_isDigit l D cI cJ cZ cO y3 _ rfl) (cwS 1 hts gX5_advanceOverNumber_X5_isDigit rfl rfl rfl (by decide +kernel) ⟨Nat.le_of_ble_eq_true rfl, Nat.le_of_ble_eq_true rfl⟩) ⟨fb_p, fun U hU hW => ⟨rfl, by rw [hU]; exact hPc, KK.warm hW hKK⟩⟩ rfl rfl hl.1 rfl (lv_room (Nat.le_of_ble_eq_true rfl)) dX5_advanceOverNumber_45 ⟨Nat.le_of_ble_eq_true rfl, Nat.le_of_ble_eq_true rfl⟩)) (fun r hr => ?_)
        obtain ⟨hr, hz4⟩ := hr
        replace hr := hr.symm
        subst hr
        refine lv_if_eq (tgt := 95) hx hb dX5_advanceOverNumber_48 (by decide) (fun c_5 => ?_) (fun c_5 => ?_)
        · replace h := if_p c_5 h
          exact L95 D_token D_end D_value x1 _ _ hP hD hS ls (lv_sub hl [0, 1] rfl) h
        · replace h := if_n c_5 h
          refine lv_aload_n hx hb dX5_advanceOverNumber_51 rfl (lv_at hl 0 rfl) ?_
          refine lv_bipush (v := (100 : Int32)) hx hb dX5_advanceOverNumber_52 (by decide) ?_
          refine lv_aload_n hx hb dX5_advanceOverNumber_54 rfl (lv_at hl 0 rfl) ?_
          refine va_get (D := D) (ci := 5) (v := .int D_value) (C := RX5) (T := TX5) (N := 6) hx hb hts inX5 hown hK hP 2 rfl rfl 5 (by decide) fl_53 (fun _ h9 => h9) rfl dX5_advanceOverNumber_55 ?_
          refine lv_bipush (v := (10 : Int32)) hx hb dX5_advanceOverNumber_58 (by decide) ?_
          refine lv_imul hx hb dX5_advanceOverNumber_60 ?_
          refine lv_aload_n hx hb dX5_advanceOverNumber_61 rfl (lv_at hl 0 rfl) ?_
          refine va_get (D := D) (ci := 5) (v := .ref aX) (C := RX5) (T := TX5) (N := 6) hx hb hts inX5 hown hK hP 2 rfl rfl 0 (by decide) fl_9 (fun _ h9 => h9) rfl dX5_advanceOverNumber_62 ?_
          refine lv_aload_n hx hb dX5_advanceOverNumber_65 rfl (lv_at hl 0 rfl) ?_
          refine va_get (D := D) (ci := 5) (v := .int D_end) (C := RX5) (T := TX5) (N := 6) hx hb hts inX5 hown hK hP 2 rfl rfl 4 (by decide) fl_25 (fun _ h9 => h9) rfl dX5_advanceOverNumber_66 ?_
          obtain ⟨y6, qy6, h⟩ := ob_some h
          have hPc : va_P D vwCl [(aX, .inr (8, [.ref aX_bytes, .int X_length])), (aX_bytes, .inl (cI, 200, .inl X_bytes))] H := hP.sub [0, 1] rfl
          refine vp_callSi (va_Run.run (va_runV (As := [.int D_end]) (rest := [.int (D_value * (10 : Int32)), .int (100 : Int32), .ref aD]) ⟨hx, hb, hml, hown, hts⟩ (c_X8_byteAt l D cI cJ cZ cO aX aX_bytes X_length X_bytes D_end y6 qy6) (cwV 1 hts gX5_advanceOverNumber_X8_byteAt rfl rfl rfl (by decide +kernel) ⟨Nat.le_of_ble_eq_true rfl, Nat.le_of_ble_eq_true rfl⟩) ⟨fb_p, va_recv hK hP (ci := 8) (q0 := 0) rfl rfl, fun U hU hW => ⟨rfl, by rw [hU]; exact hPc, KK.warm hW hKK⟩⟩ rfl rfl hl.1 rfl (lv_room (Nat.le_of_ble_eq_true rfl)) dX5_advanceOverNumber_69 ⟨Nat.le_of_ble_eq_true rfl, Nat.le_of_ble_eq_true rfl⟩)) (fun r hr => ?_)
          replace hr := hr.symm
          subst hr
          refine lv_iadd hx hb dX5_advanceOverNumber_72 ?_
          refine lv_bipush (v := (48 : Int32)) hx hb dX5_advanceOverNumber_73 (by decide) ?_
          refine lv_isub hx hb dX5_advanceOverNumber_75 ?_
          refine va_mmin hx hb (hml.trans hl.1.symm) hown mlmin96 stmin inmin comin (Nat.le_of_ble_eq_true rfl) (Nat.le_of_ble_eq_true rfl) (Nat.le_of_ble_eq_true rfl) (Nat.le_of_ble_eq_true rfl) dX5_advanceOverNumber_76 ?_
          refine va_put (D := D) (ci := 5) (v := .int (if (((D_value * (10 : Int32)) + y6) - (48 : Int32)) < (100 : Int32) then (((D_value * (10 : Int32)) + y6) - (48 : Int32)) else (100 : Int32))) (ty := .int) (C := RX5) (T := TX5) (N := 6) hx hb hts inX5 tyX5 tyX5_ok nmX5 hown hK hP hD hS 2 rfl rfl 5 (by decide) fl_53 (fun _ h9 => h9) rfl (by decide +kernel) rfl rfl (Nat.le_of_ble_eq_true rfl) dX5_advanceOverNumber_79 (fun H locs hP hD hS => ?_)
          have hP : va_P D vwCl [(aX, .inr (8, [.ref aX_bytes, .int X_length])), (aX_bytes, .inl (cI, 200, .inl X_bytes)), (aD, .inr (5, [.ref aX, .ref aF, .int D_token, .int D_start, .int D_end, .int (if (((D_value * (10 : Int32)) + y6) - (48 : Int32)) < (100 : Int32) then (((D_value * (10 : Int32)) + y6) - (48 : Int32)) else (100 : Int32))]))] H := hP
          have hD : va_D A [(aX, .inr (8, [.ref aX_bytes, .int X_length])), (aX_bytes, .inl (cI, 200, .inl X_bytes)), (aD, .inr (5, [.ref aX, .ref aF, .int D_token, .int D_start, .int D_end, .int (if (((D_value * (10 : Int32)) + y6) - (48 : Int32)) < (100 : Int32) then (((D_value * (10 : Int32)) + y6) - (48 : Int32)) else (100 : Int32))]))] := hD
          refine lv_aload_n hx hb dX5_advanceOverNumber_82 rfl (lv_at hl 0 rfl) ?_
          refine lv_dup hx hb dX5_advanceOverNumber_83 rfl ?_
          refine va_get (D := D) (ci := 5) (v := .int D_end) (C := RX5) (T := TX5) (N := 6) hx hb hts inX5 hown hK hP 2 rfl rfl 4 (by decide) fl_25 (fun _ h9 => h9) rfl dX5_advanceOverNumber_84 ?_
          refine lv_iconst (v := (1 : Int32)) hx hb dX5_advanceOverNumber_87 (by decide) ?_
          refine lv_iadd hx hb dX5_advanceOverNumber_88 ?_
          refine va_put (D := D) (ci := 5) (v := .int (D_end + (1 : Int32))) (ty := .int) (C := RX5) (T := TX5) (N := 6) hx hb hts inX5 tyX5 tyX5_ok nmX5 hown hK hP hD hS 2 rfl rfl 4 (by decide) fl_25 (fun _ h9 => h9) rfl (by decide +kernel) rfl rfl (Nat.le_of_ble_eq_true rfl) dX5_advanceOverNumber_89 (fun H locs hP hD hS => ?_)
          have hP : va_P D vwCl [(aX, .inr (8, [.ref aX_bytes, .int X_length])), (aX_bytes, .inl (cI, 200, .inl X_bytes)), (aD, .inr (5, [.ref aX, .ref aF, .int D_token, .int D_start, .int (D_end + (1 : Int32)), .int (if (((D_value * (10 : Int32)) + y6) - (48 : Int32)) < (100 : Int32) then (((D_value * (10 : Int32)) + y6) - (48 : Int32)) else (100 : Int32))]))] H := hP
          have hD : va_D A [(aX, .inr (8, [.ref aX_bytes, .int X_length])), (aX_bytes, .inl (cI, 200, .inl X_bytes)), (aD, .inr (5, [.ref aX, .ref aF, .int D_token, .int D_start, .int (D_end + (1 : Int32)), .int (if (((D_value * (10 : Int32)) + y6) - (48 : Int32)) < (100 : Int32) then (((D_value * (10 : Int32)) + y6) - (48 : Int32)) else (100 : Int32))]))] := hD
          refine lv_goto (tgt := 20) hx hb dX5_advanceOverNumber_92 (by decide) ?_
          exact ih D_token (D_end + (1 : Int32)) (if (((D_value * (10 : Int32)) + y6) - (48 : Int32)) < (100 : Int32) then (((D_value * (10 : Int32)) + y6) - (48 : Int32)) else (100 : Int32)) x1 _ _ hP hD hS ls (lv_sub hl [0, 1] rfl) h
  unfold f_X5_advanceOverNumber at h
  refine lv_aload_n hx hb dX5_advanceOverNumber_0 rfl (lv_at hl 0 rfl) ?_
  refine va_get (D := D) (ci := 5) (v := .ref aX) (C := RX5) (T := TX5) (N := 6) hx hb hts inX5 hown hK hP 2 rfl rfl 0 (by decide) fl_9 (fun _ h9 => h9) rfl dX5_advanceOverNumber_1 ?_
  refine lv_aload_n hx hb dX5_advanceOverNumber_4 rfl (lv_at hl 0 rfl) ?_
  refine va_get (D := D) (ci := 5) (v := .int D_start) (C := RX5) (T := TX5) (N := 6) hx hb hts inX5 hown hK hP 2 rfl rfl 3 (by decide) fl_42 (fun _ h9 => h9) rfl dX5_advanceOverNumber_5 ?_
  obtain ⟨y1, qy1, h⟩ := ob_some h
  have hPc : va_P D vwCl [(aX, .inr (8, [.ref aX_bytes, .int X_length])), (aX_bytes, .inl (cI, 200, .inl X_bytes))] s.heap := hP.sub [0, 1] rfl
  refine vp_callSi (va_Run.run (va_runV (As := [.int D_start]) (rest := []) ⟨hx, hb, hml, hown, hts⟩ (c_X8_byteAt l D cI cJ cZ cO aX aX_bytes X_length X_bytes D_start y1 qy1) (cwV 1 hts gX5_advanceOverNumber_X8_byteAt rfl rfl rfl (by decide +kernel) ⟨Nat.le_of_ble_eq_true rfl, Nat.le_of_ble_eq_true rfl⟩) ⟨fb_p, va_recv hK hP (ci := 8) (q0 := 0) rfl rfl, fun U hU hW => ⟨rfl, by rw [hU]; exact hPc, KK.warm hW hKK⟩⟩ rfl rfl hl.1 rfl (lv_room (Nat.le_of_ble_eq_true rfl)) dX5_advanceOverNumber_8 ⟨Nat.le_of_ble_eq_true rfl, Nat.le_of_ble_eq_true rfl⟩)) (fun r hr => ?_)
  replace hr := hr.symm
  subst hr
  refine lv_istore_n (lv' := [(1, .int y1), (0, .ref aD)]) hx hb dX5_advanceOverNumber_11 rfl hl (by decide) rfl (fun ls hl => ?_)
  refine lv_aload_n hx hb dX5_advanceOverNumber_12 rfl (lv_at hl 1 rfl) ?_
  refine lv_iload_n hx hb dX5_advanceOverNumber_13 rfl (lv_at hl 0 rfl) ?_
  refine lv_bipush (v := (48 : Int32)) hx hb dX5_advanceOverNumber_14 (by decide) ?_
  refine lv_isub hx hb dX5_advanceOverNumber_16 ?_
  refine va_put (D := D) (ci := 5) (v := .int (y1 - (48 : Int32))) (ty := .int) (C := RX5) (T := TX5) (N := 6) hx hb hts inX5 tyX5 tyX5_ok nmX5 hown hK hP hD hS 2 rfl rfl 5 (by decide) fl_53 (fun _ h9 => h9) rfl (by decide +kernel) rfl rfl (Nat.le_of_ble_eq_true rfl) dX5_advanceOverNumber_17 (fun H locs hP hD hS => ?_)
  have hP : va_P D vwCl [(aX, .inr (8, [.ref aX_bytes, .int X_length])), (aX_bytes, .inl (cI, 200, .inl X_bytes)), (aD, .inr (5, [.ref aX, .ref aF, .int D_token, .int D_start, .int D_end, .int (y1 - (48 : Int32))]))] H := hP
  have hD : va_D A [(aX, .inr (8, [.ref aX_bytes, .int X_length])), (aX_bytes, .inl (cI, 200, .inl X_bytes)), (aD, .inr (5, [.ref aX, .ref aF, .int D_token, .int D_start, .int D_end, .int (y1 - (48 : Int32))]))] := hD
  exact L20 300 D_token D_end (y1 - (48 : Int32)) y1 _ _ hP hD hS ls (lv_sub hl [1, 0] rfl) h

def f_X5_advance_L51 (X_length : Int32) (X_bytes : Nat → Int32) (D_token : Int32) (D_start : Int32) (D_end : Int32) (D_value : Int32) : Option (Int32 × Int32 × Int32 × Int32) := (Option.bind (f_X8_byteAt X_length X_bytes D_start) (fun y4 => (if 0 ≤ y4 then (if (f_X5_isLetter y4) = 0 then (if (f_X5_isDigit y4) = 0 then (if y4 = (59 : Int32) then some ((2 : Int32), D_start, (D_start + (1 : Int32)), D_value) else some ((1 : Int32), D_start, (D_start + (1 : Int32)), D_value)) else (Option.bind (f_X5_advanceOverNumber X_length X_bytes D_token D_start (D_start + (1 : Int32)) D_value) (fun y11 => some (y11.1, D_start, y11.2.1, y11.2.2)))) else (Option.bind (f_X5_advanceOverWord X_length X_bytes D_token D_start (D_start + (1 : Int32))) (fun y12 => some (y12.1, D_start, y12.2, D_value)))) else some ((0 : Int32), D_start, (D_start + (1 : Int32)), D_value))))
def f_X5_advance_L8 (X_length : Int32) (X_bytes : Nat → Int32) : Nat → Int32 → Int32 → Int32 → Int32 → Option (Int32 × Int32 × Int32 × Int32)
  | 0, _, _, _, _ => none
  | n + 1, D_token, D_start, D_end, D_value => (if (f_X8_length X_length) ≤ D_start then f_X5_advance_L51 X_length X_bytes D_token D_start D_end D_value else (Option.bind (f_X8_byteAt X_length X_bytes D_start) (fun y2 => (if y2 = (32 : Int32) then f_X5_advance_L8 X_length X_bytes n D_token (D_start + (1 : Int32)) D_end D_value else f_X5_advance_L51 X_length X_bytes D_token D_start D_end D_value))))
def f_X5_advance (X_length : Int32) (X_bytes : Nat → Int32) (D_token : Int32) (D_start : Int32) (D_end : Int32) (D_value : Int32) : Option (Int32 × Int32 × Int32 × Int32) := f_X5_advance_L8 X_length X_bytes 300 D_token D_end D_end D_value
set_option maxHeartbeats 8000000 in
set_option maxRecDepth 100000 in
theorem c_X5_advance (l : Launch) (D : va_G) (cI cJ cZ cO : ClassId) (adK adV : Nat → Nat) (aX : Nat) (aX_bytes : Nat) (aD : Nat) (aF : Nat) (X_length : Int32) (X_bytes : Nat → Int32) (D_token : Int32) (D_start : Int32) (D_end : Int32) (D_value : Int32) (sz : Nat)   (y0 : Int32 × Int32 × Int32 × Int32) (h : f_X5_advance X_length X_bytes D_token D_start D_end D_value = some y0) : Met l yX5_advance wsX5_advance ({ frames := 6, cells := 0, slots := 0, locals := 133 } : Room) (va_Pc [.ref aD] (fun U => U.heap.size = sz ∧ va_P D vwCl [(aX, .inr (8, [.ref aX_bytes, .int X_length])), (aX_bytes, .inl (cI, 200, .inl X_bytes)), (aD, .inr (5, [.ref aX, .ref aF, .int D_token, .int D_start, .int D_end, .int D_value]))] U.heap ∧ KK D cI cJ cZ cO U ∧ va_D (fun _ => True) [(aX, .inr (8, [.ref aX_bytes, .int X_length])), (aX_bytes, .inl (cI, 200, .inl X_bytes)), (aD, .inr (5, [.ref aX, .ref aF, .int D_token, .int D_start, .int D_end, .int D_value]))] ∧ SA adK adV (va_A [(aX, .inr (8, [.ref aX_bytes, .int X_length])), (aX_bytes, .inl (cI, 200, .inl X_bytes)), (aD, .inr (5, [.ref aX, .ref aF, .int D_token, .int D_start, .int D_end, .int D_value]))] sz) U U.heap)) (va_Qv (fun (_ : Unit) => True) (fun (_ : Unit) t => va_P D vwCl [(aX, .inr (8, [.ref aX_bytes, .int X_length])), (aX_bytes, .inl (cI, 200, .inl X_bytes)), (aD, .inr (5, [.ref aX, .ref aF, .int y0.1, .int y0.2.1, .int y0.2.2.1, .int y0.2.2.2]))] t.heap ∧ va_D (va_A [(aX, .inr (8, [.ref aX_bytes, .int X_length])), (aX_bytes, .inl (cI, 200, .inl X_bytes)), (aD, .inr (5, [.ref aX, .ref aF, .int D_token, .int D_start, .int D_end, .int D_value]))] sz) [(aX, .inr (8, [.ref aX_bytes, .int X_length])), (aX_bytes, .inl (cI, 200, .inl X_bytes)), (aD, .inr (5, [.ref aX, .ref aF, .int y0.1, .int y0.2.1, .int y0.2.2.1, .int y0.2.2.2]))]) (va_A [(aX, .inr (8, [.ref aX_bytes, .int X_length])), (aX_bytes, .inl (cI, 200, .inl X_bytes)), (aD, .inr (5, [.ref aX, .ref aF, .int D_token, .int D_start, .int D_end, .int D_value]))] sz)) 0 0 (va_A [(aX, .inr (8, [.ref aX_bytes, .int X_length])), (aX_bytes, .inl (cI, 200, .inl X_bytes)), (aD, .inr (5, [.ref aX, .ref aF, .int D_token, .int D_start, .int D_end, .int D_value]))] sz) := by
  refine Met.ofW (cc := cX5_advance) (maxL := 2) (ret := none) (by decide) rfl ?_
  intro p e s m args below meth c s₁ B hml hv
  obtain ⟨rfl, hsz, hP, hKK, hD0, hSA⟩ := hv
  have hx := B.exec
  have hb := B.bytes
  have hr := B.returns
  have hts := atoms_spec (ws := wsX5_advance) B.pre
  have hown : s.vm.findClass RX5 = some m.cls := findClass_of_methodNamed B.named
  have hlocks := B.notSynchronized
  have hK := hKK.1
  have fl_9 := hts (.fieldLink RX5 9 "SimonSays$Reader" "text" "LSimonSays$Text;") (by decide +kernel)
  have fl_25 := hts (.fieldLink RX5 25 "SimonSays$Reader" "end" "I") (by decide +kernel)
  have fl_32 := hts (.fieldLink RX5 32 "SimonSays$Reader" "token" "I") (by decide +kernel)
  have fl_42 := hts (.fieldLink RX5 42 "SimonSays$Reader" "start" "I") (by decide +kernel)
  have inX5 : ∀ w ∈ wsX50, w ∈ wsX5_advance := by decide +kernel
  subst hsz
  have hD := hD0.self (sz := s.heap.size)
  generalize hAe : va_A [(aX, .inr (8, [.ref aX_bytes, .int X_length])), (aX_bytes, .inl (cI, 200, .inl X_bytes)), (aD, .inr (5, [.ref aX, .ref aF, .int D_token, .int D_start, .int D_end, .int D_value]))] s.heap.size = A at hD hSA ⊢
  have hA : ∀ q : Nat, s.heap.size ≤ q → A q := fun q h => by rw [← hAe]; exact Or.inr h
  have hS : va_S A s.heap s.heap [] := va_S.rf
  have hl := lv_entry ([.ref aD]) (n := 2) (Nat.le_of_ble_eq_true rfl)
  rw [lg_entry_eq]
  generalize (lg_sl ([.ref aD]) ++ List.replicate (2 - (lg_sl ([.ref aD])).length) Slot.unset).toArray = ls at hl ⊢
  have hl : lv_has ls 2 [(0, .ref aD)] := hl
  have L51 : ∀ (D_token : Int32) (D_start : Int32) (D_end : Int32) (D_value : Int32), ∀ (H : Heap) (locs : List Loc), va_P D vwCl [(aX, .inr (8, [.ref aX_bytes, .int X_length])), (aX_bytes, .inl (cI, 200, .inl X_bytes)), (aD, .inr (5, [.ref aX, .ref aF, .int D_token, .int D_start, .int D_end, .int D_value]))] H → va_D A [(aX, .inr (8, [.ref aX_bytes, .int X_length])), (aX_bytes, .inl (cI, 200, .inl X_bytes)), (aD, .inr (5, [.ref aX, .ref aF, .int D_token, .int D_start, .int D_end, .int D_value]))] → va_S A s.heap H locs → ∀ (ls : Array Slot), lv_has ls 2 [(0, .ref aD)] → f_X5_advance_L51 X_length X_bytes D_token D_start D_end D_value = some y0 → W p l e (headSpec wsX5_advance ({ frames := 6, cells := 0, slots := 0, locals := 133 } : Room)).room s m ([.ref aD] : List Value).toArray below meth c H locs 0 0 (MQ below (va_Qv (fun (_ : Unit) => True) (fun (_ : Unit) t => va_P D vwCl [(aX, .inr (8, [.ref aX_bytes, .int X_length])), (aX_bytes, .inl (cI, 200, .inl X_bytes)), (aD, .inr (5, [.ref aX, .ref aF, .int y0.1, .int y0.2.1, .int y0.2.2.1, .int y0.2.2.2]))] t.heap ∧ va_D A [(aX, .inr (8, [.ref aX_bytes, .int X_length])), (aX_bytes, .inl (cI, 200, .inl X_bytes)), (aD, .inr (5, [.ref aX, .ref aF, .int y0.1, .int y0.2.1, .int y0.2.2.1, .int y0.2.2.2]))]) A) ([.ref aD] : List Value).toArray s 0 0 A) (F0 m 51 ls []) := by
    intro D_token D_start D_end D_value H locs hP hD hS ls hl h
    unfold f_X5_advance_L51 at h
    refine lv_aload_n hx hb dX5_advance_51 rfl (lv_at hl 0 rfl) ?_
    refine lv_aload_n hx hb dX5_advance_52 rfl (lv_at hl 0 rfl) ?_
    refine va_get (D := D) (ci := 5) (v := .int D_start) (C := RX5) (T := TX5) (N := 6) hx hb hts inX5 hown hK hP 2 rfl rfl 3 (by decide) fl_42 (fun _ h9 => h9) rfl dX5_advance_53 ?_
    refine lv_iconst (v := (1 : Int32)) hx hb dX5_advance_56 (by decide) ?_
    refine lv_iadd hx hb dX5_advance_57 ?_
    refine va_put (D := D) (ci := 5) (v := .int (D_start + (1 : Int32))) (ty := .int) (C := RX5) (T := TX5) (N := 6) hx hb hts inX5 tyX5 tyX5_ok nmX5 hown hK hP hD hS 2 rfl rfl 4 (by decide) fl_25 (fun _ h9 => h9) rfl (by decide +kernel) rfl rfl (Nat.le_of_ble_eq_true rfl) dX5_advance_58 (fun H locs hP hD hS => ?_)
    have hP : va_P D vwCl [(aX, .inr (8, [.ref aX_bytes, .int X_length])), (aX_bytes, .inl (cI, 200, .inl X_bytes)), (aD, .inr (5, [.ref aX, .ref aF, .int D_token, .int D_start, .int (D_start + (1 : Int32)), .int D_value]))] H := hP
    have hD : va_D A [(aX, .inr (8, [.ref aX_bytes, .int X_length])), (aX_bytes, .inl (cI, 200, .inl X_bytes)), (aD, .inr (5, [.ref aX, .ref aF, .int D_token, .int D_start, .int (D_start + (1 : Int32)), .int D_value]))] := hD
    refine lv_aload_n hx hb dX5_advance_61 rfl (lv_at hl 0 rfl) ?_
    refine va_get (D := D) (ci := 5) (v := .ref aX) (C := RX5) (T := TX5) (N := 6) hx hb hts inX5 hown hK hP 2 rfl rfl 0 (by decide) fl_9 (fun _ h9 => h9) rfl dX5_advance_62 ?_
    refine lv_aload_n hx hb dX5_advance_65 rfl (lv_at hl 0 rfl) ?_
    refine va_get (D := D) (ci := 5) (v := .int D_start) (C := RX5) (T := TX5) (N := 6) hx hb hts inX5 hown hK hP 2 rfl rfl 3 (by decide) fl_42 (fun _ h9 => h9) rfl dX5_advance_66 ?_
    obtain ⟨y4, qy4, h⟩ := ob_some h
    have hPc : va_P D vwCl [(aX, .inr (8, [.ref aX_bytes, .int X_length])), (aX_bytes, .inl (cI, 200, .inl X_bytes))] H := hP.sub [0, 1] rfl
    refine vp_callSi (va_Run.run (va_runV (As := [.int D_start]) (rest := []) ⟨hx, hb, hml, hown, hts⟩ (c_X8_byteAt l D cI cJ cZ cO aX aX_bytes X_length X_bytes D_start y4 qy4) (cwV 1 hts gX5_advance_X8_byteAt rfl rfl rfl (by decide +kernel) ⟨Nat.le_of_ble_eq_true rfl, Nat.le_of_ble_eq_true rfl⟩) ⟨fb_p, va_recv hK hP (ci := 8) (q0 := 0) rfl rfl, fun U hU hW => ⟨rfl, by rw [hU]; exact hPc, KK.warm hW hKK⟩⟩ rfl rfl hl.1 rfl (lv_room (Nat.le_of_ble_eq_true rfl)) dX5_advance_69 ⟨Nat.le_of_ble_eq_true rfl, Nat.le_of_ble_eq_true rfl⟩)) (fun r hr => ?_)
    replace hr := hr.symm
    subst hr
    refine lv_istore_n (lv' := [(1, .int y4), (0, .ref aD)]) hx hb dX5_advance_72 rfl hl (by decide) rfl (fun ls hl => ?_)
    refine lv_iload_n hx hb dX5_advance_73 rfl (lv_at hl 0 rfl) ?_
    refine lv_if_ge (tgt := 85) hx hb dX5_advance_74 (by decide) (fun c_5 => ?_) (fun c_5 => ?_)
    · replace h := if_p c_5 h
      refine lv_iload_n hx hb dX5_advance_85 rfl (lv_at hl 0 rfl) ?_
      have hPc : va_P D vwCl [] H := hP.sub [] rfl
      refine vp_callSi (va_Run.run (va_runS (As := [.int y4]) (rest := []) ⟨hx, hb, hml, hown, hts⟩ (c_X5_isLetter l D cI cJ cZ cO y4 _ rfl) (cwS 1 hts gX5_advance_X5_isLetter rfl rfl rfl (by decide +kernel) ⟨Nat.le_of_ble_eq_true rfl, Nat.le_of_ble_eq_true rfl⟩) ⟨fb_p, fun U hU hW => ⟨rfl, by rw [hU]; exact hPc, KK.warm hW hKK⟩⟩ rfl rfl hl.1 rfl (lv_room (Nat.le_of_ble_eq_true rfl)) dX5_advance_86 ⟨Nat.le_of_ble_eq_true rfl, Nat.le_of_ble_eq_true rfl⟩)) (fun r hr => ?_)
      obtain ⟨hr, hz6⟩ := hr
      replace hr := hr.symm
      subst hr
      refine lv_if_eq (tgt := 99) hx hb dX5_advance_89 (by decide) (fun c_7 => ?_) (fun c_7 => ?_)
      · replace h := if_p c_7 h
        refine lv_iload_n hx hb dX5_advance_99 rfl (lv_at hl 0 rfl) ?_
        have hPc : va_P D vwCl [] H := hP.sub [] rfl
        refine vp_callSi (va_Run.run (va_runS (As := [.int y4]) (rest := []) ⟨hx, hb, hml, hown, hts⟩ (c_X5_isDigit l D cI cJ cZ cO y4 _ rfl) (cwS 1 hts gX5_advance_X5_isDigit rfl rfl rfl (by decide +kernel) ⟨Nat.le_of_ble_eq_true rfl, Nat.le_of_ble_eq_true rfl⟩) ⟨fb_p, fun U hU hW => ⟨rfl, by rw [hU]; exact hPc, KK.warm hW hKK⟩⟩ rfl rfl hl.1 rfl (lv_room (Nat.le_of_ble_eq_true rfl)) dX5_advance_100 ⟨Nat.le_of_ble_eq_true rfl, Nat.le_of_ble_eq_true rfl⟩)) (fun r hr => ?_)
        obtain ⟨hr, hz8⟩ := hr
        replace hr := hr.symm
        subst hr
        refine lv_if_eq (tgt := 113) hx hb dX5_advance_103 (by decide) (fun c_9 => ?_) (fun c_9 => ?_)
        · replace h := if_p c_9 h
          refine lv_aload_n hx hb dX5_advance_113 rfl (lv_at hl 1 rfl) ?_
          refine lv_iload_n hx hb dX5_advance_114 rfl (lv_at hl 0 rfl) ?_
          refine lv_bipush (v := (59 : Int32)) hx hb dX5_advance_115 (by decide) ?_
          refine lv_icmp_ne (tgt := 124) hx hb dX5_advance_117 (by decide) (fun c_10 => ?_) (fun c_10 => ?_)
          · replace h := if_n c_10 h
            refine lv_iconst (v := (1 : Int32)) hx hb dX5_advance_124 (by decide) ?_
            refine va_put (D := D) (ci := 5) (v := .int (1 : Int32)) (ty := .int) (C := RX5) (T := TX5) (N := 6) hx hb hts inX5 tyX5 tyX5_ok nmX5 hown hK hP hD hS 2 rfl rfl 2 (by decide) fl_32 (fun _ h9 => h9) rfl (by decide +kernel) rfl rfl (Nat.le_of_ble_eq_true rfl) dX5_advance_125 (fun H locs hP hD hS => ?_)
            have hP : va_P D vwCl [(aX, .inr (8, [.ref aX_bytes, .int X_length])), (aX_bytes, .inl (cI, 200, .inl X_bytes)), (aD, .inr (5, [.ref aX, .ref aF, .int (1 : Int32), .int D_start, .int (D_start + (1 : Int32)), .int D_value]))] H := hP
            have hD : va_D A [(aX, .inr (8, [.ref aX_bytes, .int X_length])), (aX_bytes, .inl (cI, 200, .inl X_bytes)), (aD, .inr (5, [.ref aX, .ref aF, .int (1 : Int32), .int D_start, .int (D_start + (1 : Int32)), .int D_value]))] := hD
            have hy := Option.some.inj h
            subst hy
            exact W.vret hx hb hr (fun t ht hW => ⟨⟨(), rfl, trivial, by rw [ht]; exact hP, hD⟩, hS.F ht⟩) hS.2.2 dX5_advance_128
          · replace h := if_p c_10 h
            refine lv_iconst (v := (2 : Int32)) hx hb dX5_advance_120 (by decide) ?_
            refine lv_goto (tgt := 125) hx hb dX5_advance_121 (by decide) ?_
            refine va_put (D := D) (ci := 5) (v := .int (2 : Int32)) (ty := .int) (C := RX5) (T := TX5) (N := 6) hx hb hts inX5 tyX5 tyX5_ok nmX5 hown hK hP hD hS 2 rfl rfl 2 (by decide) fl_32 (fun _ h9 => h9) rfl (by decide +kernel) rfl rfl (Nat.le_of_ble_eq_true rfl) dX5_advance_125 (fun H locs hP hD hS => ?_)
            have hP : va_P D vwCl [(aX, .inr (8, [.ref aX_bytes, .int X_length])), (aX_bytes, .inl (cI, 200, .inl X_bytes)), (aD, .inr (5, [.ref aX, .ref aF, .int (2 : Int32), .int D_start, .int (D_start + (1 : Int32)), .int D_value]))] H := hP
            have hD : va_D A [(aX, .inr (8, [.ref aX_bytes, .int X_length])), (aX_bytes, .inl (cI, 200, .inl X_bytes)), (aD, .inr (5, [.ref aX, .ref aF, .int (2 : Int32), .int D_start, .int (D_start + (1 : Int32)), .int D_value]))] := hD
            have hy := Option.some.inj h
            subst hy
            exact W.vret hx hb hr (fun t ht hW => ⟨⟨(), rfl, trivial, by rw [ht]; exact hP, hD⟩, hS.F ht⟩) hS.2.2 dX5_advance_128
        · replace h := if_n c_9 h
          refine lv_aload_n hx hb dX5_advance_106 rfl (lv_at hl 1 rfl) ?_
          obtain ⟨y11, qy11, h⟩ := ob_some h
          have hPc : va_P D vwCl [(aX, .inr (8, [.ref aX_bytes, .int X_length])), (aX_bytes, .inl (cI, 200, .inl X_bytes)), (aD, .inr (5, [.ref aX, .ref aF, .int D_token, .int D_start, .int (D_start + (1 : Int32)), .int D_value]))] H := hP.sub [0, 1, 2] rfl
          have hDc : va_D A [(aX, .inr (8, [.ref aX_bytes, .int X_length])), (aX_bytes, .inl (cI, 200, .inl X_bytes)), (aD, .inr (5, [.ref aX, .ref aF, .int D_token, .int D_start, .int (D_start + (1 : Int32)), .int D_value]))] := hD.sub [0, 1, 2] (by decide) rfl
          have hFc := va_free (wc := [(aX, .inr (8, [.ref aX_bytes, .int X_length])), (aX_bytes, .inl (cI, 200, .inl X_bytes)), (aD, .inr (5, [.ref aX, .ref aF, .int D_token, .int D_start, .int (D_start + (1 : Int32)), .int D_value]))]) hD hS hA [0, 1, 2] rfl
          refine va_callv (va_runV (As := []) (rest := []) ⟨hx, hb, hml, hown, hts⟩ (c_X5_advanceOverNumber l D cI cJ cZ cO aX aX_bytes aD aF X_length X_bytes D_token D_start (D_start + (1 : Int32)) D_value H.size y11 qy11) (cwV 0 hts gX5_advance_X5_advanceOverNumber rfl rfl rfl (by decide +kernel) ⟨Nat.le_of_ble_eq_true rfl, Nat.le_of_ble_eq_true rfl⟩) ⟨fb_i, va_recv hK hP (ci := 5) (q0 := 2) rfl rfl, fun U hU hW => ⟨rfl, by rw [hU], by rw [hU]; exact hPc, KK.warm hW hKK, hDc.weaken (fun _ _ _ _ => trivial)⟩⟩ rfl rfl hl.1 rfl (lv_room (Nat.le_of_ble_eq_true rfl)) dX5_advance_107 ⟨Nat.le_of_ble_eq_true rfl, Nat.le_of_ble_eq_true rfl⟩) hS (fun q _ h => hFc q h) hFc (fun u t H1 locs ht hvm hw hB hz1 hk1 hS => ?_)
          obtain ⟨hP1, hD1⟩ := hB
          rw [ht] at hP1
          obtain ⟨hP, hD⟩ := va_join (wr := []) (w1 := [(aX, .inr (8, [.ref aX_bytes, .int X_length])), (aX_bytes, .inl (cI, 200, .inl X_bytes)), (aD, .inr (5, [.ref aX, .ref aF, .int y11.1, .int D_start, .int y11.2.1, .int y11.2.2]))]) hP hD [0, 1, 2] [] rfl rfl (by decide) (by decide) hk1 hFc hP1 hD1
          generalize H1 = H at hP hS ⊢
          have hP : va_P D vwCl [(aX, .inr (8, [.ref aX_bytes, .int X_length])), (aX_bytes, .inl (cI, 200, .inl X_bytes)), (aD, .inr (5, [.ref aX, .ref aF, .int y11.1, .int D_start, .int y11.2.1, .int y11.2.2]))] H := hP.sub [0, 1, 2] rfl
          have hD : va_D A [(aX, .inr (8, [.ref aX_bytes, .int X_length])), (aX_bytes, .inl (cI, 200, .inl X_bytes)), (aD, .inr (5, [.ref aX, .ref aF, .int y11.1, .int D_start, .int y11.2.1, .int y11.2.2]))] := hD.sub [0, 1, 2] (by decide) rfl
          refine lv_goto (tgt := 128) hx hb dX5_advance_110 (by decide) ?_
          have hy := Option.some.inj h
          subst hy
          exact W.vret hx hb hr (fun t ht hW => ⟨⟨(), rfl, trivial, by rw [ht]; exact hP, hD⟩, hS.F ht⟩) hS.2.2 dX5_advance_128
      · replace h := if_n c_7 h
        refine lv_aload_n hx hb dX5_advance_92 rfl (lv_at hl 1 rfl) ?_
        obtain ⟨y12, qy12, h⟩ := ob_some h
        have hPc : va_P D vwCl [(aX, .inr (8, [.ref aX_bytes, .int X_length])), (aX_bytes, .inl (cI, 200, .inl X_bytes)), (aD, .inr (5, [.ref aX, .ref aF, .int D_token, .int D_start, .int (D_start + (1 : Int32)), .int D_value]))] H := hP.sub [0, 1, 2] rfl
        have hDc : va_D A [(aX, .inr (8, [.ref aX_bytes, .int X_length])), (aX_bytes, .inl (cI, 200, .inl X_bytes)), (aD, .inr (5, [.ref aX, .ref aF, .int D_token, .int D_start, .int (D_start + (1 : Int32)), .int D_value]))] := hD.sub [0, 1, 2] (by decide) rfl
        have hFc := va_free (wc := [(aX, .inr (8, [.ref aX_bytes, .int X_length])), (aX_bytes, .inl (cI, 200, .inl X_bytes)), (aD, .inr (5, [.ref aX, .ref aF, .int D_token, .int D_start, .int (D_start + (1 : Int32)), .int D_value]))]) hD hS hA [0, 1, 2] rfl
        refine va_callv (va_runV (As := []) (rest := []) ⟨hx, hb, hml, hown, hts⟩ (c_X5_advanceOverWord l D cI cJ cZ cO adK adV aX aX_bytes aD aF X_length X_bytes D_token D_start (D_start + (1 : Int32)) D_value H.size y12 qy12) (cwV 0 hts gX5_advance_X5_advanceOverWord rfl rfl rfl (by decide +kernel) ⟨Nat.le_of_ble_eq_true rfl, Nat.le_of_ble_eq_true rfl⟩) ⟨fb_is, va_recv hK hP (ci := 5) (q0 := 2) rfl rfl, fun U hU hW => ⟨rfl, by rw [hU], by rw [hU]; exact hPc, KK.warm hW hKK, hDc.weaken (fun _ _ _ _ => trivial), SA.at hU hW ((hSA.kept hS.2.1).narrow hFc)⟩⟩ rfl rfl hl.1 rfl (lv_room (Nat.le_of_ble_eq_true rfl)) dX5_advance_93 ⟨Nat.le_of_ble_eq_true rfl, Nat.le_of_ble_eq_true rfl⟩) hS (fun q _ h => hFc q h) hFc (fun u t H1 locs ht hvm hw hB hz1 hk1 hS => ?_)
        obtain ⟨hP1, hD1⟩ := hB
        rw [ht] at hP1
        obtain ⟨hP, hD⟩ := va_join (wr := []) (w1 := [(aX, .inr (8, [.ref aX_bytes, .int X_length])), (aX_bytes, .inl (cI, 200, .inl X_bytes)), (aD, .inr (5, [.ref aX, .ref aF, .int y12.1, .int D_start, .int y12.2, .int D_value]))]) hP hD [0, 1, 2] [] rfl rfl (by decide) (by decide) hk1 hFc hP1 hD1
        generalize H1 = H at hP hS ⊢
        have hP : va_P D vwCl [(aX, .inr (8, [.ref aX_bytes, .int X_length])), (aX_bytes, .inl (cI, 200, .inl X_bytes)), (aD, .inr (5, [.ref aX, .ref aF, .int y12.1, .int D_start, .int y12.2, .int D_value]))] H := hP.sub [0, 1, 2] rfl
        have hD : va_D A [(aX, .inr (8, [.ref aX_bytes, .int X_length])), (aX_bytes, .inl (cI, 200, .inl X_bytes)), (aD, .inr (5, [.ref aX, .ref aF, .int y12.1, .int D_start, .int y12.2, .int D_value]))] := hD.sub [0, 1, 2] (by decide) rfl
        refine lv_goto (tgt := 128) hx hb dX5_advance_96 (by decide) ?_
        have hy := Option.some.inj h
        subst hy
        exact W.vret hx hb hr (fun t ht hW => ⟨⟨(), rfl, trivial, by rw [ht]; exact hP, hD⟩, hS.F ht⟩) hS.2.2 dX5_advance_128
    · replace h := if_n c_5 h
      refine lv_aload_n hx hb dX5_advance_77 rfl (lv_at hl 1 rfl) ?_
      refine lv_iconst (v := (0 : Int32)) hx hb dX5_advance_78 (by decide) ?_
      refine va_put (D := D) (ci := 5) (v := .int (0 : Int32)) (ty := .int) (C := RX5) (T := TX5) (N := 6) hx hb hts inX5 tyX5 tyX5_ok nmX5 hown hK hP hD hS 2 rfl rfl 2 (by decide) fl_32 (fun _ h9 => h9) rfl (by decide +kernel) rfl rfl (Nat.le_of_ble_eq_true rfl) dX5_advance_79 (fun H locs hP hD hS => ?_)
      have hP : va_P D vwCl [(aX, .inr (8, [.ref aX_bytes, .int X_length])), (aX_bytes, .inl (cI, 200, .inl X_bytes)), (aD, .inr (5, [.ref aX, .ref aF, .int (0 : Int32), .int D_start, .int (D_start + (1 : Int32)), .int D_value]))] H := hP
      have hD : va_D A [(aX, .inr (8, [.ref aX_bytes, .int X_length])), (aX_bytes, .inl (cI, 200, .inl X_bytes)), (aD, .inr (5, [.ref aX, .ref aF, .int (0 : Int32), .int D_start, .int (D_start + (1 : Int32)), .int D_value]))] := hD
      refine lv_goto (tgt := 128) hx hb dX5_advance_82 (by decide) ?_
      have hy := Option.some.inj h
      subst hy
      exact W.vret hx hb hr (fun t ht hW => ⟨⟨(), rfl, trivial, by rw [ht]; exact hP, hD⟩, hS.F ht⟩) hS.2.2 dX5_advance_128
  have L8 : ∀ (n : Nat), ∀ (D_token : Int32) (D_start : Int32) (D_end : Int32) (D_value : Int32), ∀ (H : Heap) (locs : List Loc), va_P D vwCl [(aX, .inr (8, [.ref aX_bytes, .int X_length])), (aX_bytes, .inl (cI, 200, .inl X_bytes)), (aD, .inr (5, [.ref aX, .ref aF, .int D_token, .int D_start, .int D_end, .int D_value]))] H → va_D A [(aX, .inr (8, [.ref aX_bytes, .int X_length])), (aX_bytes, .inl (cI, 200, .inl X_bytes)), (aD, .inr (5, [.ref aX, .ref aF, .int D_token, .int D_start, .int D_end, .int D_value]))] → va_S A s.heap H locs → ∀ (ls : Array Slot), lv_has ls 2 [(0, .ref aD)] → f_X5_advance_L8 X_length X_bytes n D_token D_start D_end D_value = some y0 → W p l e (headSpec wsX5_advance ({ frames := 6, cells := 0, slots := 0, locals := 133 } : Room)).room s m ([.ref aD] : List Value).toArray below meth c H locs 0 0 (MQ below (va_Qv (fun (_ : Unit) => True) (fun (_ : Unit) t => va_P D vwCl [(aX, .inr (8, [.ref aX_bytes, .int X_length])), (aX_bytes, .inl (cI, 200, .inl X_bytes)), (aD, .inr (5, [.ref aX, .ref aF, .int y0.1, .int y0.2.1, .int y0.2.2.1, .int y0.2.2.2]))] t.heap ∧ va_D A [(aX, .inr (8, [.ref aX_bytes, .int X_length])), (aX_bytes, .inl (cI, 200, .inl X_bytes)), (aD, .inr (5, [.ref aX, .ref aF, .int y0.1, .int y0.2.1, .int y0.2.2.1, .int y0.2.2.2]))]) A) ([.ref aD] : List Value).toArray s 0 0 A) (F0 m 8 ls []) := by
    intro n
    induction n with
    | zero =>
      intro D_token D_start D_end D_value H locs hP hD hS ls hl h
      exact (ns h).elim
    | succ n ih =>
      intro D_token D_start D_end D_value H locs hP hD hS ls hl h
      unfold f_X5_advance_L8 at h
      refine lv_aload_n hx hb dX5_advance_8 rfl (lv_at hl 0 rfl) ?_
      refine va_get (D := D) (ci := 5) (v := .int D_start) (C := RX5) (T := TX5) (N := 6) hx hb hts inX5 hown hK hP 2 rfl rfl 3 (by decide) fl_42 (fun _ h9 => h9) rfl dX5_advance_9 ?_
      refine lv_aload_n hx hb dX5_advance_12 rfl (lv_at hl 0 rfl) ?_
      refine va_get (D := D) (ci := 5) (v := .ref aX) (C := RX5) (T := TX5) (N := 6) hx hb hts inX5 hown hK hP 2 rfl rfl 0 (by decide) fl_9 (fun _ h9 => h9) rfl dX5_advance_13 ?_
      have hPc : va_P D vwCl [(aX, .inr (8, [.ref aX_bytes, .int X_length]))] H := hP.sub [0] rfl
      refine vp_callSi (va_Run.run (va_runV (As := []) (rest := [.int D_start]) ⟨hx, hb, hml, hown, hts⟩ (c_X8_length l D cI cJ cZ cO aX aX_bytes X_length _ rfl) (cwV 0 hts gX5_advance_X8_length rfl rfl rfl (by decide +kernel) ⟨Nat.le_of_ble_eq_true rfl, Nat.le_of_ble_eq_true rfl⟩) ⟨fb_p, va_recv hK hP (ci := 8) (q0 := 0) rfl rfl, fun U hU hW => ⟨rfl, by rw [hU]; exact hPc, KK.warm hW hKK⟩⟩ rfl rfl hl.1 rfl (lv_room (Nat.le_of_ble_eq_true rfl)) dX5_advance_16 ⟨Nat.le_of_ble_eq_true rfl, Nat.le_of_ble_eq_true rfl⟩)) (fun r hr => ?_)
      replace hr := hr.symm
      subst hr
      refine lv_icmp_ge (tgt := 51) hx hb dX5_advance_19 (by decide) (fun c_1 => ?_) (fun c_1 => ?_)
      · replace h := if_p c_1 h
        exact L51 D_token D_start D_end D_value _ _ hP hD hS ls (lv_sub hl [0] rfl) h
      · replace h := if_n c_1 h
        refine lv_aload_n hx hb dX5_advance_22 rfl (lv_at hl 0 rfl) ?_
        refine va_get (D := D) (ci := 5) (v := .ref aX) (C := RX5) (T := TX5) (N := 6) hx hb hts inX5 hown hK hP 2 rfl rfl 0 (by decide) fl_9 (fun _ h9 => h9) rfl dX5_advance_23 ?_
        refine lv_aload_n hx hb dX5_advance_26 rfl (lv_at hl 0 rfl) ?_
        refine va_get (D := D) (ci := 5) (v := .int D_start) (C := RX5) (T := TX5) (N := 6) hx hb hts inX5 hown hK hP 2 rfl rfl 3 (by decide) fl_42 (fun _ h9 => h9) rfl dX5_advance_27 ?_
        obtain ⟨y2, qy2, h⟩ := ob_some h
        have hPc : va_P D vwCl [(aX, .inr (8, [.ref aX_bytes, .int X_length])), (aX_bytes, .inl (cI, 200, .inl X_bytes))] H := hP.sub [0, 1] rfl
        refine vp_callSi (va_Run.run (va_runV (As := [.int D_start]) (rest := []) ⟨hx, hb, hml, hown, hts⟩ (c_X8_byteAt l D cI cJ cZ cO aX aX_bytes X_length X_bytes D_start y2 qy2) (cwV 1 hts gX5_advance_X8_byteAt rfl rfl rfl (by decide +kernel) ⟨Nat.le_of_ble_eq_true rfl, Nat.le_of_ble_eq_true rfl⟩) ⟨fb_p, va_recv hK hP (ci := 8) (q0 := 0) rfl rfl, fun U hU hW => ⟨rfl, by rw [hU]; exact hPc, KK.warm hW hKK⟩⟩ rfl rfl hl.1 rfl (lv_room (Nat.le_of_ble_eq_true rfl)) dX5_advance_30 ⟨Nat.le_of_ble_eq_true rfl, Nat.le_of_ble_eq_true rfl⟩)) (fun r hr => ?_)
        replace hr := hr.symm
        subst hr
        refine lv_bipush (v := (32 : Int32)) hx hb dX5_advance_33 (by decide) ?_
        refine lv_icmp_ne (tgt := 51) hx hb dX5_advance_35 (by decide) (fun c_3 => ?_) (fun c_3 => ?_)
        · replace h := if_n c_3 h
          exact L51 D_token D_start D_end D_value _ _ hP hD hS ls (lv_sub hl [0] rfl) h
        · replace h := if_p c_3 h
          refine lv_aload_n hx hb dX5_advance_38 rfl (lv_at hl 0 rfl) ?_
          refine lv_dup hx hb dX5_advance_39 rfl ?_
          refine va_get (D := D) (ci := 5) (v := .int D_start) (C := RX5) (T := TX5) (N := 6) hx hb hts inX5 hown hK hP 2 rfl rfl 3 (by decide) fl_42 (fun _ h9 => h9) rfl dX5_advance_40 ?_
          refine lv_iconst (v := (1 : Int32)) hx hb dX5_advance_43 (by decide) ?_
          refine lv_iadd hx hb dX5_advance_44 ?_
          refine va_put (D := D) (ci := 5) (v := .int (D_start + (1 : Int32))) (ty := .int) (C := RX5) (T := TX5) (N := 6) hx hb hts inX5 tyX5 tyX5_ok nmX5 hown hK hP hD hS 2 rfl rfl 3 (by decide) fl_42 (fun _ h9 => h9) rfl (by decide +kernel) rfl rfl (Nat.le_of_ble_eq_true rfl) dX5_advance_45 (fun H locs hP hD hS => ?_)
          have hP : va_P D vwCl [(aX, .inr (8, [.ref aX_bytes, .int X_length])), (aX_bytes, .inl (cI, 200, .inl X_bytes)), (aD, .inr (5, [.ref aX, .ref aF, .int D_token, .int (D_start + (1 : Int32)), .int D_end, .int D_value]))] H := hP
          have hD : va_D A [(aX, .inr (8, [.ref aX_bytes, .int X_length])), (aX_bytes, .inl (cI, 200, .inl X_bytes)), (aD, .inr (5, [.ref aX, .ref aF, .int D_token, .int (D_start + (1 : Int32)), .int D_end, .int D_value]))] := hD
          refine lv_goto (tgt := 8) hx hb dX5_advance_48 (by decide) ?_
          exact ih D_token (D_start + (1 : Int32)) D_end D_value _ _ hP hD hS ls (lv_sub hl [0] rfl) h
  unfold f_X5_advance at h
  refine lv_aload_n hx hb dX5_advance_0 rfl (lv_at hl 0 rfl) ?_
  refine lv_aload_n hx hb dX5_advance_1 rfl (lv_at hl 0 rfl) ?_
  refine va_get (D := D) (ci := 5) (v := .int D_end) (C := RX5) (T := TX5) (N := 6) hx hb hts inX5 hown hK hP 2 rfl rfl 4 (by decide) fl_25 (fun _ h9 => h9) rfl dX5_advance_2 ?_
  refine va_put (D := D) (ci := 5) (v := .int D_end) (ty := .int) (C := RX5) (T := TX5) (N := 6) hx hb hts inX5 tyX5 tyX5_ok nmX5 hown hK hP hD hS 2 rfl rfl 3 (by decide) fl_42 (fun _ h9 => h9) rfl (by decide +kernel) rfl rfl (Nat.le_of_ble_eq_true rfl) dX5_advance_5 (fun H locs hP hD hS => ?_)
  have hP : va_P D vwCl [(aX, .inr (8, [.ref aX_bytes, .int X_length])), (aX_bytes, .inl (cI, 200, .inl X_bytes)), (aD, .inr (5, [.ref aX, .ref aF, .int D_token, .int D_end, .int D_end, .int D_value]))] H := hP
  have hD : va_D A [(aX, .inr (8, [.ref aX_bytes, .int X_length])), (aX_bytes, .inl (cI, 200, .inl X_bytes)), (aD, .inr (5, [.ref aX, .ref aF, .int D_token, .int D_end, .int D_end, .int D_value]))] := hD
  exact L8 300 D_token D_end D_end D_value _ _ hP hD hS ls (lv_sub hl [0] rfl) h

def f_X5_readChild_L91 (X_length : Int32) (X_bytes : Nat → Int32) (D_token : Int32) (D_start : Int32) (D_end : Int32) (D_value : Int32) (F_size : Int32) (F_slips : Nat → Int32) (F_lates : Nat → Int32) (F_copied : Nat → Int32) (x1 : Int32) (x2 : Int32) : Option (Int32 × Int32 × Int32 × Int32 × Int32 × Int32 × (Nat → Int32) × (Nat → Int32) × (Nat → Int32)) := (Option.bind (f_X5_advance X_length X_bytes D_token D_start D_end D_value) (fun y13 => (if y13.1 = (2 : Int32) then (Option.bind (f_X1_add F_size F_slips F_lates F_copied x1 x2 D_value) (fun y15 => (Option.bind (f_X5_advance X_length X_bytes y13.1 y13.2.1 y13.2.2.1 y13.2.2.2) (fun y16 => some ((1 : Int32), y16.1, y16.2.1, y16.2.2.1, y16.2.2.2, y15.1, y15.2.1, y15.2.2.1, y15.2.2.2))))) else some ((0 : Int32), y13.1, y13.2.1, y13.2.2.1, y13.2.2.2, F_size, F_slips, F_lates, F_copied))))
def f_X5_readChild (X_length : Int32) (X_bytes : Nat → Int32) (D_token : Int32) (D_start : Int32) (D_end : Int32) (D_value : Int32) (F_size : Int32) (F_slips : Nat → Int32) (F_lates : Nat → Int32) (F_copied : Nat → Int32) : Option (Int32 × Int32 × Int32 × Int32 × Int32 × Int32 × (Nat → Int32) × (Nat → Int32) × (Nat → Int32)) := (if (f_X1_size F_size) < (6 : Int32) then (Option.bind (f_X5_advance X_length X_bytes D_token D_start D_end D_value) (fun y2 => (if (f_X5_isNumberUpTo y2.1 y2.2.2.2 (9 : Int32)) = 0 then some ((0 : Int32), y2.1, y2.2.1, y2.2.2.1, y2.2.2.2, F_size, F_slips, F_lates, F_copied) else (Option.bind (f_X5_advance X_length X_bytes y2.1 y2.2.1 y2.2.2.1 y2.2.2.2) (fun y5 => (if (f_X5_isNumberUpTo y5.1 y5.2.2.2 (9 : Int32)) = 0 then some ((0 : Int32), y5.1, y5.2.1, y5.2.2.1, y5.2.2.2, F_size, F_slips, F_lates, F_copied) else (Option.bind (f_X5_advance X_length X_bytes y5.1 y5.2.1 y5.2.2.1 y5.2.2.2) (fun y8 => (if y8.1 = (3 : Int32) then (if y8.2.2.2 = (9 : Int32) then f_X5_readChild_L91 X_length X_bytes y8.1 y8.2.1 y8.2.2.1 y8.2.2.2 F_size F_slips F_lates F_copied y2.2.2.2 y5.2.2.2 else (if (f_X1_has F_size y8.2.2.2) = 0 then some ((0 : Int32), y8.1, y8.2.1, y8.2.2.1, y8.2.2.2, F_size, F_slips, F_lates, F_copied) else f_X5_readChild_L91 X_length X_bytes y8.1 y8.2.1 y8.2.2.1 y8.2.2.2 F_size F_slips F_lates F_copied y2.2.2.2 y5.2.2.2)) else some ((0 : Int32), y8.1, y8.2.1, y8.2.2.1, y8.2.2.2, F_size, F_slips, F_lates, F_copied)))))))))) else some ((0 : Int32), D_token, D_start, D_end, D_value, F_size, F_slips, F_lates, F_copied))
set_option maxHeartbeats 8000000 in
set_option maxRecDepth 100000 in
theorem c_X5_readChild (l : Launch) (D : va_G) (cI cJ cZ cO : ClassId) (adK adV : Nat → Nat) (aX : Nat) (aX_bytes : Nat) (aD : Nat) (aF : Nat) (aF_slips : Nat) (aF_lates : Nat) (aF_copied : Nat) (X_length : Int32) (X_bytes : Nat → Int32) (D_token : Int32) (D_start : Int32) (D_end : Int32) (D_value : Int32) (F_size : Int32) (F_littleOnes : Int32) (F_slips : Nat → Int32) (F_lates : Nat → Int32) (F_copied : Nat → Int32) (sz : Nat)   (y0 : Int32 × Int32 × Int32 × Int32 × Int32 × Int32 × (Nat → Int32) × (Nat → Int32) × (Nat → Int32)) (h : f_X5_readChild X_length X_bytes D_token D_start D_end D_value F_size F_slips F_lates F_copied = some y0) : Met l yX5_readChild wsX5_readChild ({ frames := 7, cells := 0, slots := 0, locals := 154 } : Room) (va_Pc [.ref aD] (fun U => U.heap.size = sz ∧ va_P D vwCl [(aX, .inr (8, [.ref aX_bytes, .int X_length])), (aX_bytes, .inl (cI, 200, .inl X_bytes)), (aD, .inr (5, [.ref aX, .ref aF, .int D_token, .int D_start, .int D_end, .int D_value])), (aF, .inr (1, [.ref aF_slips, .ref aF_lates, .ref aF_copied, .int F_size, .int F_littleOnes])), (aF_slips, .inl (cI, 6, .inl F_slips)), (aF_lates, .inl (cI, 6, .inl F_lates)), (aF_copied, .inl (cI, 6, .inl F_copied))] U.heap ∧ KK D cI cJ cZ cO U ∧ va_D (fun _ => True) [(aX, .inr (8, [.ref aX_bytes, .int X_length])), (aX_bytes, .inl (cI, 200, .inl X_bytes)), (aD, .inr (5, [.ref aX, .ref aF, .int D_token, .int D_start, .int D_end, .int D_value])), (aF, .inr (1, [.ref aF_slips, .ref aF_lates, .ref aF_copied, .int F_size, .int F_littleOnes])), (aF_slips, .inl (cI, 6, .inl F_slips)), (aF_lates, .inl (cI, 6, .inl F_lates)), (aF_copied, .inl (cI, 6, .inl F_copied))] ∧ SA adK adV (va_A [(aX, .inr (8, [.ref aX_bytes, .int X_length])), (aX_bytes, .inl (cI, 200, .inl X_bytes)), (aD, .inr (5, [.ref aX, .ref aF, .int D_token, .int D_start, .int D_end, .int D_value])), (aF, .inr (1, [.ref aF_slips, .ref aF_lates, .ref aF_copied, .int F_size, .int F_littleOnes])), (aF_slips, .inl (cI, 6, .inl F_slips)), (aF_lates, .inl (cI, 6, .inl F_lates)), (aF_copied, .inl (cI, 6, .inl F_copied))] sz) U U.heap)) (va_Qi (fun (r : Int32) (_ : Unit) => r = y0.1 ∧ zo r) (fun (_ : Unit) t => va_P D vwCl [(aX, .inr (8, [.ref aX_bytes, .int X_length])), (aX_bytes, .inl (cI, 200, .inl X_bytes)), (aD, .inr (5, [.ref aX, .ref aF, .int y0.2.1, .int y0.2.2.1, .int y0.2.2.2.1, .int y0.2.2.2.2.1])), (aF, .inr (1, [.ref aF_slips, .ref aF_lates, .ref aF_copied, .int y0.2.2.2.2.2.1, .int F_littleOnes])), (aF_slips, .inl (cI, 6, .inl y0.2.2.2.2.2.2.1)), (aF_lates, .inl (cI, 6, .inl y0.2.2.2.2.2.2.2.1)), (aF_copied, .inl (cI, 6, .inl y0.2.2.2.2.2.2.2.2))] t.heap ∧ va_D (va_A [(aX, .inr (8, [.ref aX_bytes, .int X_length])), (aX_bytes, .inl (cI, 200, .inl X_bytes)), (aD, .inr (5, [.ref aX, .ref aF, .int D_token, .int D_start, .int D_end, .int D_value])), (aF, .inr (1, [.ref aF_slips, .ref aF_lates, .ref aF_copied, .int F_size, .int F_littleOnes])), (aF_slips, .inl (cI, 6, .inl F_slips)), (aF_lates, .inl (cI, 6, .inl F_lates)), (aF_copied, .inl (cI, 6, .inl F_copied))] sz) [(aX, .inr (8, [.ref aX_bytes, .int X_length])), (aX_bytes, .inl (cI, 200, .inl X_bytes)), (aD, .inr (5, [.ref aX, .ref aF, .int y0.2.1, .int y0.2.2.1, .int y0.2.2.2.1, .int y0.2.2.2.2.1])), (aF, .inr (1, [.ref aF_slips, .ref aF_lates, .ref aF_copied, .int y0.2.2.2.2.2.1, .int F_littleOnes])), (aF_slips, .inl (cI, 6, .inl y0.2.2.2.2.2.2.1)), (aF_lates, .inl (cI, 6, .inl y0.2.2.2.2.2.2.2.1)), (aF_copied, .inl (cI, 6, .inl y0.2.2.2.2.2.2.2.2))]) (va_A [(aX, .inr (8, [.ref aX_bytes, .int X_length])), (aX_bytes, .inl (cI, 200, .inl X_bytes)), (aD, .inr (5, [.ref aX, .ref aF, .int D_token, .int D_start, .int D_end, .int D_value])), (aF, .inr (1, [.ref aF_slips, .ref aF_lates, .ref aF_copied, .int F_size, .int F_littleOnes])), (aF_slips, .inl (cI, 6, .inl F_slips)), (aF_lates, .inl (cI, 6, .inl F_lates)), (aF_copied, .inl (cI, 6, .inl F_copied))] sz)) 0 0 (va_A [(aX, .inr (8, [.ref aX_bytes, .int X_length])), (aX_bytes, .inl (cI, 200, .inl X_bytes)), (aD, .inr (5, [.ref aX, .ref aF, .int D_token, .int D_start, .int D_end, .int D_value])), (aF, .inr (1, [.ref aF_slips, .ref aF_lates, .ref aF_copied, .int F_size, .int F_littleOnes])), (aF_slips, .inl (cI, 6, .inl F_slips)), (aF_lates, .inl (cI, 6, .inl F_lates)), (aF_copied, .inl (cI, 6, .inl F_copied))] sz) := by
  refine Met.ofW (cc := cX5_readChild) (maxL := 4) (ret := (some .boolean)) (by decide) rfl ?_
  intro p e s m args below meth c s₁ B hml hv
  obtain ⟨rfl, hsz, hP, hKK, hD0, hSA⟩ := hv
  have hx := B.exec
  have hb := B.bytes
  have hr := B.returns
  have hts := atoms_spec (ws := wsX5_readChild) B.pre
  have hown : s.vm.findClass RX5 = some m.cls := findClass_of_methodNamed B.named
  have hlocks := B.notSynchronized
  have hK := hKK.1
  have fl_18 := hts (.fieldLink RX5 18 "SimonSays$Reader" "found" "LSimonSays$Children;") (by decide +kernel)
  have fl_32 := hts (.fieldLink RX5 32 "SimonSays$Reader" "token" "I") (by decide +kernel)
  have fl_53 := hts (.fieldLink RX5 53 "SimonSays$Reader" "value" "I") (by decide +kernel)
  have inX5 : ∀ w ∈ wsX50, w ∈ wsX5_readChild := by decide +kernel
  subst hsz
  have hD := hD0.self (sz := s.heap.size)
  generalize hAe : va_A [(aX, .inr (8, [.ref aX_bytes, .int X_length])), (aX_bytes, .inl (cI, 200, .inl X_bytes)), (aD, .inr (5, [.ref aX, .ref aF, .int D_token, .int D_start, .int D_end, .int D_value])), (aF, .inr (1, [.ref aF_slips, .ref aF_lates, .ref aF_copied, .int F_size, .int F_littleOnes])), (aF_slips, .inl (cI, 6, .inl F_slips)), (aF_lates, .inl (cI, 6, .inl F_lates)), (aF_copied, .inl (cI, 6, .inl F_copied))] s.heap.size = A at hD hSA ⊢
  have hA : ∀ q : Nat, s.heap.size ≤ q → A q := fun q h => by rw [← hAe]; exact Or.inr h
  have hS : va_S A s.heap s.heap [] := va_S.rf
  have hl := lv_entry ([.ref aD]) (n := 4) (Nat.le_of_ble_eq_true rfl)
  rw [lg_entry_eq]
  generalize (lg_sl ([.ref aD]) ++ List.replicate (4 - (lg_sl ([.ref aD])).length) Slot.unset).toArray = ls at hl ⊢
  have hl : lv_has ls 4 [(0, .ref aD)] := hl
  have L91 : ∀ (D_token : Int32) (D_start : Int32) (D_end : Int32) (D_value : Int32) (F_size : Int32) (F_slips : Nat → Int32) (F_lates : Nat → Int32) (F_copied : Nat → Int32) (x1 : Int32) (x2 : Int32), ∀ (H : Heap) (locs : List Loc), va_P D vwCl [(aX, .inr (8, [.ref aX_bytes, .int X_length])), (aX_bytes, .inl (cI, 200, .inl X_bytes)), (aD, .inr (5, [.ref aX, .ref aF, .int D_token, .int D_start, .int D_end, .int D_value])), (aF, .inr (1, [.ref aF_slips, .ref aF_lates, .ref aF_copied, .int F_size, .int F_littleOnes])), (aF_slips, .inl (cI, 6, .inl F_slips)), (aF_lates, .inl (cI, 6, .inl F_lates)), (aF_copied, .inl (cI, 6, .inl F_copied))] H → va_D A [(aX, .inr (8, [.ref aX_bytes, .int X_length])), (aX_bytes, .inl (cI, 200, .inl X_bytes)), (aD, .inr (5, [.ref aX, .ref aF, .int D_token, .int D_start, .int D_end, .int D_value])), (aF, .inr (1, [.ref aF_slips, .ref aF_lates, .ref aF_copied, .int F_size, .int F_littleOnes])), (aF_slips, .inl (cI, 6, .inl F_slips)), (aF_lates, .inl (cI, 6, .inl F_lates)), (aF_copied, .inl (cI, 6, .inl F_copied))] → va_S A s.heap H locs → ∀ (ls : Array Slot), lv_has ls 4 [(0, .ref aD), (1, .int x1), (2, .int x2)] → f_X5_readChild_L91 X_length X_bytes D_token D_start D_end D_value F_size F_slips F_lates F_copied x1 x2 = some y0 → W p l e (headSpec wsX5_readChild ({ frames := 7, cells := 0, slots := 0, locals := 154 } : Room)).room s m ([.ref aD] : List Value).toArray below meth c H locs 0 0 (MQ below (va_Qi (fun (r : Int32) (_ : Unit) => r = y0.1 ∧ zo r) (fun (_ : Unit) t => va_P D vwCl [(aX, .inr (8, [.ref aX_bytes, .int X_length])), (aX_bytes, .inl (cI, 200, .inl X_bytes)), (aD, .inr (5, [.ref aX, .ref aF, .int y0.2.1, .int y0.2.2.1, .int y0.2.2.2.1, .int y0.2.2.2.2.1])), (aF, .inr (1, [.ref aF_slips, .ref aF_lates, .ref aF_copied, .int y0.2.2.2.2.2.1, .int F_littleOnes])), (aF_slips, .inl (cI, 6, .inl y0.2.2.2.2.2.2.1)), (aF_lates, .inl (cI, 6, .inl y0.2.2.2.2.2.2.2.1)), (aF_copied, .inl (cI, 6, .inl y0.2.2.2.2.2.2.2.2))] t.heap ∧ va_D A [(aX, .inr (8, [.ref aX_bytes, .int X_length])), (aX_bytes, .inl (cI, 200, .inl X_bytes)), (aD, .inr (5, [.ref aX, .ref aF, .int y0.2.1, .int y0.2.2.1, .int y0.2.2.2.1, .int y0.2.2.2.2.1])), (aF, .inr (1, [.ref aF_slips, .ref aF_lates, .ref aF_copied, .int y0.2.2.2.2.2.1, .int F_littleOnes])), (aF_slips, .inl (cI, 6, .inl y0.2.2.2.2.2.2.1)), (aF_lates, .inl (cI, 6, .inl y0.2.2.2.2.2.2.2.1)), (aF_copied, .inl (cI, 6, .inl y0.2.2.2.2.2.2.2.2))]) A) ([.ref aD] : List Value).toArray s 0 0 A) (F0 m 91 ls []) := by
    intro D_token D_start D_end D_value F_size F_slips F_lates F_copied x1 x2 H locs hP hD hS ls hl h
    unfold f_X5_readChild_L91 at h
    refine lv_aload_n hx hb dX5_readChild_91 rfl (lv_at hl 0 rfl) ?_
    refine va_get (D := D) (ci := 5) (v := .int D_value) (C := RX5) (T := TX5) (N := 6) hx hb hts inX5 hown hK hP 2 rfl rfl 5 (by decide) fl_53 (fun _ h9 => h9) rfl dX5_readChild_92 ?_
    refine lv_istore_n (lv' := [(3, .int D_value), (0, .ref aD), (1, .int x1), (2, .int x2)]) hx hb dX5_readChild_95 rfl hl (by decide) rfl (fun ls hl => ?_)
    refine lv_aload_n hx hb dX5_readChild_96 rfl (lv_at hl 1 rfl) ?_
    obtain ⟨y13, qy13, h⟩ := ob_some h
    have hPc : va_P D vwCl [(aX, .inr (8, [.ref aX_bytes, .int X_length])), (aX_bytes, .inl (cI, 200, .inl X_bytes)), (aD, .inr (5, [.ref aX, .ref aF, .int D_token, .int D_start, .int D_end, .int D_value]))] H := hP.sub [0, 1, 2] rfl
    have hDc : va_D A [(aX, .inr (8, [.ref aX_bytes, .int X_length])), (aX_bytes, .inl (cI, 200, .inl X_bytes)), (aD, .inr (5, [.ref aX, .ref aF, .int D_token, .int D_start, .int D_end, .int D_value]))] := hD.sub [0, 1, 2] (by decide) rfl
    have hFc := va_free (wc := [(aX, .inr (8, [.ref aX_bytes, .int X_length])), (aX_bytes, .inl (cI, 200, .inl X_bytes)), (aD, .inr (5, [.ref aX, .ref aF, .int D_token, .int D_start, .int D_end, .int D_value]))]) hD hS hA [0, 1, 2] rfl
    refine va_callv (va_runV (As := []) (rest := []) ⟨hx, hb, hml, hown, hts⟩ (c_X5_advance l D cI cJ cZ cO adK adV aX aX_bytes aD aF X_length X_bytes D_token D_start D_end D_value H.size y13 qy13) (cwV 0 hts gX5_readChild_X5_advance rfl rfl rfl (by decide +kernel) ⟨Nat.le_of_ble_eq_true rfl, Nat.le_of_ble_eq_true rfl⟩) ⟨fb_is, va_recv hK hP (ci := 5) (q0 := 2) rfl rfl, fun U hU hW => ⟨rfl, by rw [hU], by rw [hU]; exact hPc, KK.warm hW hKK, hDc.weaken (fun _ _ _ _ => trivial), SA.at hU hW ((hSA.kept hS.2.1).narrow hFc)⟩⟩ rfl rfl hl.1 rfl (lv_room (Nat.le_of_ble_eq_true rfl)) dX5_readChild_97 ⟨Nat.le_of_ble_eq_true rfl, Nat.le_of_ble_eq_true rfl⟩) hS (fun q _ h => hFc q h) hFc (fun u t H1 locs ht hvm hw hB hz1 hk1 hS => ?_)
    obtain ⟨hP1, hD1⟩ := hB
    rw [ht] at hP1
    obtain ⟨hP, hD⟩ := va_join (wr := [(aF, .inr (1, [.ref aF_slips, .ref aF_lates, .ref aF_copied, .int F_size, .int F_littleOnes])), (aF_slips, .inl (cI, 6, .inl F_slips)), (aF_lates, .inl (cI, 6, .inl F_lates)), (aF_copied, .inl (cI, 6, .inl F_copied))]) (w1 := [(aX, .inr (8, [.ref aX_bytes, .int X_length])), (aX_bytes, .inl (cI, 200, .inl X_bytes)), (aD, .inr (5, [.ref aX, .ref aF, .int y13.1, .int y13.2.1, .int y13.2.2.1, .int y13.2.2.2]))]) hP hD [0, 1, 2] [3, 4, 5, 6] rfl rfl (by decide) (by decide) hk1 hFc hP1 hD1
    generalize H1 = H at hP hS ⊢
    have hP : va_P D vwCl [(aX, .inr (8, [.ref aX_bytes, .int X_length])), (aX_bytes, .inl (cI, 200, .inl X_bytes)), (aD, .inr (5, [.ref aX, .ref aF, .int y13.1, .int y13.2.1, .int y13.2.2.1, .int y13.2.2.2])), (aF, .inr (1, [.ref aF_slips, .ref aF_lates, .ref aF_copied, .int F_size, .int F_littleOnes])), (aF_slips, .inl (cI, 6, .inl F_slips)), (aF_lates, .inl (cI, 6, .inl F_lates)), (aF_copied, .inl (cI, 6, .inl F_copied))] H := hP.sub [4, 5, 6, 0, 1, 2, 3] rfl
    have hD : va_D A [(aX, .inr (8, [.ref aX_bytes, .int X_length])), (aX_bytes, .inl (cI, 200, .inl X_bytes)), (aD, .inr (5, [.ref aX, .ref aF, .int y13.1, .int y13.2.1, .int y13.2.2.1, .int y13.2.2.2])), (aF, .inr (1, [.ref aF_slips, .ref aF_lates, .ref aF_copied, .int F_size, .int F_littleOnes])), (aF_slips, .inl (cI, 6, .inl F_slips)), (aF_lates, .inl (cI, 6, .inl F_lates)), (aF_copied, .inl (cI, 6, .inl F_copied))] := hD.sub [4, 5, 6, 0, 1, 2, 3] (by decide) rfl
    refine lv_aload_n hx hb dX5_readChild_100 rfl (lv_at hl 1 rfl) ?_
    refine va_get (D := D) (ci := 5) (v := .int y13.1) (C := RX5) (T := TX5) (N := 6) hx hb hts inX5 hown hK hP 2 rfl rfl 2 (by decide) fl_32 (fun _ h9 => h9) rfl dX5_readChild_101 ?_
    refine lv_iconst (v := (2 : Int32)) hx hb dX5_readChild_104 (by decide) ?_
    refine lv_icmp_eq (tgt := 110) hx hb dX5_readChild_105 (by decide) (fun c_14 => ?_) (fun c_14 => ?_)
    · replace h := if_p c_14 h
      refine lv_aload_n hx hb dX5_readChild_110 rfl (lv_at hl 1 rfl) ?_
      refine va_get (D := D) (ci := 5) (v := .ref aF) (C := RX5) (T := TX5) (N := 6) hx hb hts inX5 hown hK hP 2 rfl rfl 1 (by decide) fl_18 (fun _ h9 => h9) rfl dX5_readChild_111 ?_
      refine lv_iload_n hx hb dX5_readChild_114 rfl (lv_at hl 2 rfl) ?_
      refine lv_iload_n hx hb dX5_readChild_115 rfl (lv_at hl 3 rfl) ?_
      refine lv_iload_n hx hb dX5_readChild_116 rfl (lv_at hl 0 rfl) ?_
      obtain ⟨y15, qy15, h⟩ := ob_some h
      have hPc : va_P D vwCl [(aF, .inr (1, [.ref aF_slips, .ref aF_lates, .ref aF_copied, .int F_size, .int F_littleOnes])), (aF_slips, .inl (cI, 6, .inl F_slips)), (aF_lates, .inl (cI, 6, .inl F_lates)), (aF_copied, .inl (cI, 6, .inl F_copied))] H := hP.sub [3, 4, 5, 6] rfl
      have hDc : va_D A [(aF, .inr (1, [.ref aF_slips, .ref aF_lates, .ref aF_copied, .int F_size, .int F_littleOnes])), (aF_slips, .inl (cI, 6, .inl F_slips)), (aF_lates, .inl (cI, 6, .inl F_lates)), (aF_copied, .inl (cI, 6, .inl F_copied))] := hD.sub [3, 4, 5, 6] (by decide) rfl
      have hFc := va_free (wc := [(aF, .inr (1, [.ref aF_slips, .ref aF_lates, .ref aF_copied, .int F_size, .int F_littleOnes])), (aF_slips, .inl (cI, 6, .inl F_slips)), (aF_lates, .inl (cI, 6, .inl F_lates)), (aF_copied, .inl (cI, 6, .inl F_copied))]) hD hS hA [3, 4, 5, 6] rfl
      refine va_callv (va_runV (As := [.int x1, .int x2, .int D_value]) (rest := []) ⟨hx, hb, hml, hown, hts⟩ (c_X1_add l D cI cJ cZ cO aF aF_slips aF_lates aF_copied F_size F_littleOnes F_slips F_lates F_copied H.size x1 x2 D_value y15 qy15) (cwV 3 hts gX5_readChild_X1_add rfl rfl rfl (by decide +kernel) ⟨Nat.le_of_ble_eq_true rfl, Nat.le_of_ble_eq_true rfl⟩) ⟨fb_i, va_recv hK hP (ci := 1) (q0 := 3) rfl rfl, fun U hU hW => ⟨rfl, by rw [hU], by rw [hU]; exact hPc, KK.warm hW hKK, hDc.weaken (fun _ _ _ _ => trivial)⟩⟩ rfl rfl hl.1 rfl (lv_room (Nat.le_of_ble_eq_true rfl)) dX5_readChild_117 ⟨Nat.le_of_ble_eq_true rfl, Nat.le_of_ble_eq_true rfl⟩) hS (fun q _ h => hFc q h) hFc (fun u t H1 locs ht hvm hw hB hz1 hk1 hS => ?_)
      obtain ⟨hP1, hD1⟩ := hB
      rw [ht] at hP1
      obtain ⟨hP, hD⟩ := va_join (wr := [(aX, .inr (8, [.ref aX_bytes, .int X_length])), (aX_bytes, .inl (cI, 200, .inl X_bytes)), (aD, .inr (5, [.ref aX, .ref aF, .int y13.1, .int y13.2.1, .int y13.2.2.1, .int y13.2.2.2]))]) (w1 := [(aF, .inr (1, [.ref aF_slips, .ref aF_lates, .ref aF_copied, .int y15.1, .int F_littleOnes])), (aF_slips, .inl (cI, 6, .inl y15.2.1)), (aF_lates, .inl (cI, 6, .inl y15.2.2.1)), (aF_copied, .inl (cI, 6, .inl y15.2.2.2))]) hP hD [3, 4, 5, 6] [0, 1, 2] rfl rfl (by decide) (by decide) hk1 hFc hP1 hD1
      generalize H1 = H at hP hS ⊢
      have hP : va_P D vwCl [(aX, .inr (8, [.ref aX_bytes, .int X_length])), (aX_bytes, .inl (cI, 200, .inl X_bytes)), (aD, .inr (5, [.ref aX, .ref aF, .int y13.1, .int y13.2.1, .int y13.2.2.1, .int y13.2.2.2])), (aF, .inr (1, [.ref aF_slips, .ref aF_lates, .ref aF_copied, .int y15.1, .int F_littleOnes])), (aF_slips, .inl (cI, 6, .inl y15.2.1)), (aF_lates, .inl (cI, 6, .inl y15.2.2.1)), (aF_copied, .inl (cI, 6, .inl y15.2.2.2))] H := hP.sub [0, 1, 2, 3, 4, 5, 6] rfl
      have hD : va_D A [(aX, .inr (8, [.ref aX_bytes, .int X_length])), (aX_bytes, .inl (cI, 200, .inl X_bytes)), (aD, .inr (5, [.ref aX, .ref aF, .int y13.1, .int y13.2.1, .int y13.2.2.1, .int y13.2.2.2])), (aF, .inr (1, [.ref aF_slips, .ref aF_lates, .ref aF_copied, .int y15.1, .int F_littleOnes])), (aF_slips, .inl (cI, 6, .inl y15.2.1)), (aF_lates, .inl (cI, 6, .inl y15.2.2.1)), (aF_copied, .inl (cI, 6, .inl y15.2.2.2))] := hD.sub [0, 1, 2, 3, 4, 5, 6] (by decide) rfl
      refine lv_aload_n hx hb dX5_readChild_120 rfl (lv_at hl 1 rfl) ?_
      obtain ⟨y16, qy16, h⟩ := ob_some h
      have hPc : va_P D vwCl [(aX, .inr (8, [.ref aX_bytes, .int X_length])), (aX_bytes, .inl (cI, 200, .inl X_bytes)), (aD, .inr (5, [.ref aX, .ref aF, .int y13.1, .int y13.2.1, .int y13.2.2.1, .int y13.2.2.2]))] H := hP.sub [0, 1, 2] rfl
      have hDc : va_D A [(aX, .inr (8, [.ref aX_bytes, .int X_length])), (aX_bytes, .inl (cI, 200, .inl X_bytes)), (aD, .inr (5, [.ref aX, .ref aF, .int y13.1, .int y13.2.1, .int y13.2.2.1, .int y13.2.2.2]))] := hD.sub [0, 1, 2] (by decide) rfl
      have hFc := va_free (wc := [(aX, .inr (8, [.ref aX_bytes, .int X_length])), (aX_bytes, .inl (cI, 200, .inl X_bytes)), (aD, .inr (5, [.ref aX, .ref aF, .int y13.1, .int y13.2.1, .int y13.2.2.1, .int y13.2.2.2]))]) hD hS hA [0, 1, 2] rfl
      refine va_callv (va_runV (As := []) (rest := []) ⟨hx, hb, hml, hown, hts⟩ (c_X5_advance l D cI cJ cZ cO adK adV aX aX_bytes aD aF X_length X_bytes y13.1 y13.2.1 y13.2.2.1 y13.2.2.2 H.size y16 qy16) (cwV 0 hts gX5_readChild_X5_advance rfl rfl rfl (by decide +kernel) ⟨Nat.le_of_ble_eq_true rfl, Nat.le_of_ble_eq_true rfl⟩) ⟨fb_is, va_recv hK hP (ci := 5) (q0 := 2) rfl rfl, fun U hU hW => ⟨rfl, by rw [hU], by rw [hU]; exact hPc, KK.warm hW hKK, hDc.weaken (fun _ _ _ _ => trivial), SA.at hU hW ((hSA.kept hS.2.1).narrow hFc)⟩⟩ rfl rfl hl.1 rfl (lv_room (Nat.le_of_ble_eq_true rfl)) dX5_readChild_121 ⟨Nat.le_of_ble_eq_true rfl, Nat.le_of_ble_eq_true rfl⟩) hS (fun q _ h => hFc q h) hFc (fun u t H1 locs ht hvm hw hB hz1 hk1 hS => ?_)
      obtain ⟨hP1, hD1⟩ := hB
      rw [ht] at hP1
      obtain ⟨hP, hD⟩ := va_join (wr := [(aF, .inr (1, [.ref aF_slips, .ref aF_lates, .ref aF_copied, .int y15.1, .int F_littleOnes])), (aF_slips, .inl (cI, 6, .inl y15.2.1)), (aF_lates, .inl (cI, 6, .inl y15.2.2.1)), (aF_copied, .inl (cI, 6, .inl y15.2.2.2))]) (w1 := [(aX, .inr (8, [.ref aX_bytes, .int X_length])), (aX_bytes, .inl (cI, 200, .inl X_bytes)), (aD, .inr (5, [.ref aX, .ref aF, .int y16.1, .int y16.2.1, .int y16.2.2.1, .int y16.2.2.2]))]) hP hD [0, 1, 2] [3, 4, 5, 6] rfl rfl (by decide) (by decide) hk1 hFc hP1 hD1
      generalize H1 = H at hP hS ⊢
      have hP : va_P D vwCl [(aX, .inr (8, [.ref aX_bytes, .int X_length])), (aX_bytes, .inl (cI, 200, .inl X_bytes)), (aD, .inr (5, [.ref aX, .ref aF, .int y16.1, .int y16.2.1, .int y16.2.2.1, .int y16.2.2.2])), (aF, .inr (1, [.ref aF_slips, .ref aF_lates, .ref aF_copied, .int y15.1, .int F_littleOnes])), (aF_slips, .inl (cI, 6, .inl y15.2.1)), (aF_lates, .inl (cI, 6, .inl y15.2.2.1)), (aF_copied, .inl (cI, 6, .inl y15.2.2.2))] H := hP.sub [4, 5, 6, 0, 1, 2, 3] rfl
      have hD : va_D A [(aX, .inr (8, [.ref aX_bytes, .int X_length])), (aX_bytes, .inl (cI, 200, .inl X_bytes)), (aD, .inr (5, [.ref aX, .ref aF, .int y16.1, .int y16.2.1, .int y16.2.2.1, .int y16.2.2.2])), (aF, .inr (1, [.ref aF_slips, .ref aF_lates, .ref aF_copied, .int y15.1, .int F_littleOnes])), (aF_slips, .inl (cI, 6, .inl y15.2.1)), (aF_lates, .inl (cI, 6, .inl y15.2.2.1)), (aF_copied, .inl (cI, 6, .inl y15.2.2.2))] := hD.sub [4, 5, 6, 0, 1, 2, 3] (by decide) rfl
      refine lv_iconst (v := (1 : Int32)) hx hb dX5_readChild_124 (by decide) ?_
      have hy := Option.some.inj h
      subst hy
      exact W.zret (v := (1 : Int32)) hx hb hr (zo_nar (by decide)) (fun t ht hW => ⟨⟨(1 : Int32), (), rfl, ⟨rfl, (by decide)⟩, by rw [ht]; exact hP, hD⟩, hS.F ht⟩) hS.2.2 dX5_readChild_125
    · replace h := if_n c_14 h
      refine lv_iconst (v := (0 : Int32)) hx hb dX5_readChild_108 (by decide) ?_
      have hy := Option.some.inj h
      subst hy
      exact W.zret (v := (0 : Int32)) hx hb hr (zo_nar (by decide)) (fun t ht hW => ⟨⟨(0 : Int32), (), rfl, ⟨rfl, (by decide)⟩, by rw [ht]; exact hP, hD⟩, hS.F ht⟩) hS.2.2 dX5_readChild_109
  unfold f_X5_readChild at h
  refine lv_aload_n hx hb dX5_readChild_0 rfl (lv_at hl 0 rfl) ?_
  refine va_get (D := D) (ci := 5) (v := .ref aF) (C := RX5) (T := TX5) (N := 6) hx hb hts inX5 hown hK hP 2 rfl rfl 1 (by decide) fl_18 (fun _ h9 => h9) rfl dX5_readChild_1 ?_
  have hPc : va_P D vwCl [(aF, .inr (1, [.ref aF_slips, .ref aF_lates, .ref aF_copied, .int F_size, .int F_littleOnes]))] s.heap := hP.sub [3] rfl
  refine vp_callSi (va_Run.run (va_runV (As := []) (rest := []) ⟨hx, hb, hml, hown, hts⟩ (c_X1_size l D cI cJ cZ cO aF aF_slips aF_lates aF_copied F_size F_littleOnes _ rfl) (cwV 0 hts gX5_readChild_X1_size rfl rfl rfl (by decide +kernel) ⟨Nat.le_of_ble_eq_true rfl, Nat.le_of_ble_eq_true rfl⟩) ⟨fb_p, va_recv hK hP (ci := 1) (q0 := 3) rfl rfl, fun U hU hW => ⟨rfl, by rw [hU]; exact hPc, KK.warm hW hKK⟩⟩ rfl rfl hl.1 rfl (lv_room (Nat.le_of_ble_eq_true rfl)) dX5_readChild_4 ⟨Nat.le_of_ble_eq_true rfl, Nat.le_of_ble_eq_true rfl⟩)) (fun r hr => ?_)
  replace hr := hr.symm
  subst hr
  refine lv_bipush (v := (6 : Int32)) hx hb dX5_readChild_7 (by decide) ?_
  refine lv_icmp_lt (tgt := 14) hx hb dX5_readChild_9 (by decide) (fun c_1 => ?_) (fun c_1 => ?_)
  · replace h := if_p c_1 h
    refine lv_aload_n hx hb dX5_readChild_14 rfl (lv_at hl 0 rfl) ?_
    obtain ⟨y2, qy2, h⟩ := ob_some h
    have hPc : va_P D vwCl [(aX, .inr (8, [.ref aX_bytes, .int X_length])), (aX_bytes, .inl (cI, 200, .inl X_bytes)), (aD, .inr (5, [.ref aX, .ref aF, .int D_token, .int D_start, .int D_end, .int D_value]))] s.heap := hP.sub [0, 1, 2] rfl
    have hDc : va_D A [(aX, .inr (8, [.ref aX_bytes, .int X_length])), (aX_bytes, .inl (cI, 200, .inl X_bytes)), (aD, .inr (5, [.ref aX, .ref aF, .int D_token, .int D_start, .int D_end, .int D_value]))] := hD.sub [0, 1, 2] (by decide) rfl
    have hFc := va_free (wc := [(aX, .inr (8, [.ref aX_bytes, .int X_length])), (aX_bytes, .inl (cI, 200, .inl X_bytes)), (aD, .inr (5, [.ref aX, .ref aF, .int D_token, .int D_start, .int D_end, .int D_value]))]) hD hS hA [0, 1, 2] rfl
    refine va_callv (va_runV (As := []) (rest := []) ⟨hx, hb, hml, hown, hts⟩ (c_X5_advance l D cI cJ cZ cO adK adV aX aX_bytes aD aF X_length X_bytes D_token D_start D_end D_value s.heap.size y2 qy2) (cwV 0 hts gX5_readChild_X5_advance rfl rfl rfl (by decide +kernel) ⟨Nat.le_of_ble_eq_true rfl, Nat.le_of_ble_eq_true rfl⟩) ⟨fb_is, va_recv hK hP (ci := 5) (q0 := 2) rfl rfl, fun U hU hW => ⟨rfl, by rw [hU], by rw [hU]; exact hPc, KK.warm hW hKK, hDc.weaken (fun _ _ _ _ => trivial), SA.at hU hW ((hSA.kept hS.2.1).narrow hFc)⟩⟩ rfl rfl hl.1 rfl (lv_room (Nat.le_of_ble_eq_true rfl)) dX5_readChild_15 ⟨Nat.le_of_ble_eq_true rfl, Nat.le_of_ble_eq_true rfl⟩) hS (fun q _ h => hFc q h) hFc (fun u t H1 locs ht hvm hw hB hz1 hk1 hS => ?_)
    obtain ⟨hP1, hD1⟩ := hB
    rw [ht] at hP1
    obtain ⟨hP, hD⟩ := va_join (wr := [(aF, .inr (1, [.ref aF_slips, .ref aF_lates, .ref aF_copied, .int F_size, .int F_littleOnes])), (aF_slips, .inl (cI, 6, .inl F_slips)), (aF_lates, .inl (cI, 6, .inl F_lates)), (aF_copied, .inl (cI, 6, .inl F_copied))]) (w1 := [(aX, .inr (8, [.ref aX_bytes, .int X_length])), (aX_bytes, .inl (cI, 200, .inl X_bytes)), (aD, .inr (5, [.ref aX, .ref aF, .int y2.1, .int y2.2.1, .int y2.2.2.1, .int y2.2.2.2]))]) hP hD [0, 1, 2] [3, 4, 5, 6] rfl rfl (by decide) (by decide) hk1 hFc hP1 hD1
    generalize H1 = H at hP hS ⊢
    have hP : va_P D vwCl [(aX, .inr (8, [.ref aX_bytes, .int X_length])), (aX_bytes, .inl (cI, 200, .inl X_bytes)), (aD, .inr (5, [.ref aX, .ref aF, .int y2.1, .int y2.2.1, .int y2.2.2.1, .int y2.2.2.2])), (aF, .inr (1, [.ref aF_slips, .ref aF_lates, .ref aF_copied, .int F_size, .int F_littleOnes])), (aF_slips, .inl (cI, 6, .inl F_slips)), (aF_lates, .inl (cI, 6, .inl F_lates)), (aF_copied, .inl (cI, 6, .inl F_copied))] H := hP.sub [4, 5, 6, 0, 1, 2, 3] rfl
    have hD : va_D A [(aX, .inr (8, [.ref aX_bytes, .int X_length])), (aX_bytes, .inl (cI, 200, .inl X_bytes)), (aD, .inr (5, [.ref aX, .ref aF, .int y2.1, .int y2.2.1, .int y2.2.2.1, .int y2.2.2.2])), (aF, .inr (1, [.ref aF_slips, .ref aF_lates, .ref aF_copied, .int F_size, .int F_littleOnes])), (aF_slips, .inl (cI, 6, .inl F_slips)), (aF_lates, .inl (cI, 6, .inl F_lates)), (aF_copied, .inl (cI, 6, .inl F_copied))] := hD.sub [4, 5, 6, 0, 1, 2, 3] (by decide) rfl
    refine lv_aload_n hx hb dX5_readChild_18 rfl (lv_at hl 0 rfl) ?_
    refine lv_bipush (v := (9 : Int32)) hx hb dX5_readChild_19 (by decide) ?_
    have hPc : va_P D vwCl [(aD, .inr (5, [.ref aX, .ref aF, .int y2.1, .int y2.2.1, .int y2.2.2.1, .int y2.2.2.2]))] H := hP.sub [2] rfl
    refine vp_callSi (va_Run.run (va_runV (As := [.int (9 : Int32)]) (rest := []) ⟨hx, hb, hml, hown, hts⟩ (c_X5_isNumberUpTo l D cI cJ cZ cO aD aX aF y2.1 y2.2.1 y2.2.2.1 y2.2.2.2 (9 : Int32) _ rfl) (cwV 1 hts gX5_readChild_X5_isNumberUpTo rfl rfl rfl (by decide +kernel) ⟨Nat.le_of_ble_eq_true rfl, Nat.le_of_ble_eq_true rfl⟩) ⟨fb_p, va_recv hK hP (ci := 5) (q0 := 2) rfl rfl, fun U hU hW => ⟨rfl, by rw [hU]; exact hPc, KK.warm hW hKK⟩⟩ rfl rfl hl.1 rfl (lv_room (Nat.le_of_ble_eq_true rfl)) dX5_readChild_21 ⟨Nat.le_of_ble_eq_true rfl, Nat.le_of_ble_eq_true rfl⟩)) (fun r hr => ?_)
    obtain ⟨hr, hz3⟩ := hr
    replace hr := hr.symm
    subst hr
    refine lv_if_ne (tgt := 29) hx hb dX5_readChild_24 (by decide) (fun c_4 => ?_) (fun c_4 => ?_)
    · replace h := if_n c_4 h
      refine lv_aload_n hx hb dX5_readChild_29 rfl (lv_at hl 0 rfl) ?_
      refine va_get (D := D) (ci := 5) (v := .int y2.2.2.2) (C := RX5) (T := TX5) (N := 6) hx hb hts inX5 hown hK hP 2 rfl rfl 5 (by decide) fl_53 (fun _ h9 => h9) rfl dX5_readChild_30 ?_
      refine lv_istore_n (lv' := [(1, .int y2.2.2.2), (0, .ref aD)]) hx hb dX5_readChild_33 rfl hl (by decide) rfl (fun ls hl => ?_)
      refine lv_aload_n hx hb dX5_readChild_34 rfl (lv_at hl 1 rfl) ?_
      obtain ⟨y5, qy5, h⟩ := ob_some h
      have hPc : va_P D vwCl [(aX, .inr (8, [.ref aX_bytes, .int X_length])), (aX_bytes, .inl (cI, 200, .inl X_bytes)), (aD, .inr (5, [.ref aX, .ref aF, .int y2.1, .int y2.2.1, .int y2.2.2.1, .int y2.2.2.2]))] H := hP.sub [0, 1, 2] rfl
      have hDc : va_D A [(aX, .inr (8, [.ref aX_bytes, .int X_length])), (aX_bytes, .inl (cI, 200, .inl X_bytes)), (aD, .inr (5, [.ref aX, .ref aF, .int y2.1, .int y2.2.1, .int y2.2.2.1, .int y2.2.2.2]))] := hD.sub [0, 1, 2] (by decide) rfl
      have hFc := va_free (wc := [(aX, .inr (8, [.ref aX_bytes, .int X_length])), (aX_bytes, .inl (cI, 200, .inl X_bytes)), (aD, .inr (5, [.ref aX, .ref aF, .int y2.1, .int y2.2.1, .int y2.2.2.1, .int y2.2.2.2]))]) hD hS hA [0, 1, 2] rfl
      refine va_callv (va_runV (As := []) (rest := []) ⟨hx, hb, hml, hown, hts⟩ (c_X5_advance l D cI cJ cZ cO adK adV aX aX_bytes aD aF X_length X_bytes y2.1 y2.2.1 y2.2.2.1 y2.2.2.2 H.size y5 qy5) (cwV 0 hts gX5_readChild_X5_advance rfl rfl rfl (by decide +kernel) ⟨Nat.le_of_ble_eq_true rfl, Nat.le_of_ble_eq_true rfl⟩) ⟨fb_is, va_recv hK hP (ci := 5) (q0 := 2) rfl rfl, fun U hU hW => ⟨rfl, by rw [hU], by rw [hU]; exact hPc, KK.warm hW hKK, hDc.weaken (fun _ _ _ _ => trivial), SA.at hU hW ((hSA.kept hS.2.1).narrow hFc)⟩⟩ rfl rfl hl.1 rfl (lv_room (Nat.le_of_ble_eq_true rfl)) dX5_readChild_35 ⟨Nat.le_of_ble_eq_true rfl, Nat.le_of_ble_eq_true rfl⟩) hS (fun q _ h => hFc q h) hFc (fun u t H1 locs ht hvm hw hB hz1 hk1 hS => ?_)
      obtain ⟨hP1, hD1⟩ := hB
      rw [ht] at hP1
      obtain ⟨hP, hD⟩ := va_join (wr := [(aF, .inr (1, [.ref aF_slips, .ref aF_lates, .ref aF_copied, .int F_size, .int F_littleOnes])), (aF_slips, .inl (cI, 6, .inl F_slips)), (aF_lates, .inl (cI, 6, .inl F_lates)), (aF_copied, .inl (cI, 6, .inl F_copied))]) (w1 := [(aX, .inr (8, [.ref aX_bytes, .int X_length])), (aX_bytes, .inl (cI, 200, .inl X_bytes)), (aD, .inr (5, [.ref aX, .ref aF, .int y5.1, .int y5.2.1, .int y5.2.2.1, .int y5.2.2.2]))]) hP hD [0, 1, 2] [3, 4, 5, 6] rfl rfl (by decide) (by decide) hk1 hFc hP1 hD1
      generalize H1 = H at hP hS ⊢
      have hP : va_P D vwCl [(aX, .inr (8, [.ref aX_bytes, .int X_length])), (aX_bytes, .inl (cI, 200, .inl X_bytes)), (aD, .inr (5, [.ref aX, .ref aF, .int y5.1, .int y5.2.1, .int y5.2.2.1, .int y5.2.2.2])), (aF, .inr (1, [.ref aF_slips, .ref aF_lates, .ref aF_copied, .int F_size, .int F_littleOnes])), (aF_slips, .inl (cI, 6, .inl F_slips)), (aF_lates, .inl (cI, 6, .inl F_lates)), (aF_copied, .inl (cI, 6, .inl F_copied))] H := hP.sub [4, 5, 6, 0, 1, 2, 3] rfl
      have hD : va_D A [(aX, .inr (8, [.ref aX_bytes, .int X_length])), (aX_bytes, .inl (cI, 200, .inl X_bytes)), (aD, .inr (5, [.ref aX, .ref aF, .int y5.1, .int y5.2.1, .int y5.2.2.1, .int y5.2.2.2])), (aF, .inr (1, [.ref aF_slips, .ref aF_lates, .ref aF_copied, .int F_size, .int F_littleOnes])), (aF_slips, .inl (cI, 6, .inl F_slips)), (aF_lates, .inl (cI, 6, .inl F_lates)), (aF_copied, .inl (cI, 6, .inl F_copied))] := hD.sub [4, 5, 6, 0, 1, 2, 3] (by decide) rfl
      refine lv_aload_n hx hb dX5_readChild_38 rfl (lv_at hl 1 rfl) ?_
      refine lv_bipush (v := (9 : Int32)) hx hb dX5_readChild_39 (by decide) ?_
      have hPc : va_P D vwCl [(aD, .inr (5, [.ref aX, .ref aF, .int y5.1, .int y5.2.1, .int y5.2.2.1, .int y5.2.2.2]))] H := hP.sub [2] rfl
      refine vp_callSi (va_Run.run (va_runV (As := [.int (9 : Int32)]) (rest := []) ⟨hx, hb, hml, hown, hts⟩ (c_X5_isNumberUpTo l D cI cJ cZ cO aD aX aF y5.1 y5.2.1 y5.2.2.1 y5.2.2.2 (9 : Int32) _ rfl) (cwV 1 hts gX5_readChild_X5_isNumberUpTo rfl rfl rfl (by decide +kernel) ⟨Nat.le_of_ble_eq_true rfl, Nat.le_of_ble_eq_true rfl⟩) ⟨fb_p, va_recv hK hP (ci := 5) (q0 := 2) rfl rfl, fun U hU hW => ⟨rfl, by rw [hU]; exact hPc, KK.warm hW hKK⟩⟩ rfl rfl hl.1 rfl (lv_room (Nat.le_of_ble_eq_true rfl)) dX5_readChild_41 ⟨Nat.le_of_ble_eq_true rfl, Nat.le_of_ble_eq_true rfl⟩)) (fun r hr => ?_)
      obtain ⟨hr, hz6⟩ := hr
      replace hr := hr.symm
      subst hr
      refine lv_if_ne (tgt := 49) hx hb dX5_readChild_44 (by decide) (fun c_7 => ?_) (fun c_7 => ?_)
      · replace h := if_n c_7 h
        refine lv_aload_n hx hb dX5_readChild_49 rfl (lv_at hl 1 rfl) ?_
        refine va_get (D := D) (ci := 5) (v := .int y5.2.2.2) (C := RX5) (T := TX5) (N := 6) hx hb hts inX5 hown hK hP 2 rfl rfl 5 (by decide) fl_53 (fun _ h9 => h9) rfl dX5_readChild_50 ?_
        refine lv_istore_n (lv' := [(2, .int y5.2.2.2), (1, .int y2.2.2.2), (0, .ref aD)]) hx hb dX5_readChild_53 rfl hl (by decide) rfl (fun ls hl => ?_)
        refine lv_aload_n hx hb dX5_readChild_54 rfl (lv_at hl 2 rfl) ?_
        obtain ⟨y8, qy8, h⟩ := ob_some h
        have hPc : va_P D vwCl [(aX, .inr (8, [.ref aX_bytes, .int X_length])), (aX_bytes, .inl (cI, 200, .inl X_bytes)), (aD, .inr (5, [.ref aX, .ref aF, .int y5.1, .int y5.2.1, .int y5.2.2.1, .int y5.2.2.2]))] H := hP.sub [0, 1, 2] rfl
        have hDc : va_D A [(aX, .inr (8, [.ref aX_bytes, .int X_length])), (aX_bytes, .inl (cI, 200, .inl X_bytes)), (aD, .inr (5, [.ref aX, .ref aF, .int y5.1, .int y5.2.1, .int y5.2.2.1, .int y5.2.2.2]))] := hD.sub [0, 1, 2] (by decide) rfl
        have hFc := va_free (wc := [(aX, .inr (8, [.ref aX_bytes, .int X_length])), (aX_bytes, .inl (cI, 200, .inl X_bytes)), (aD, .inr (5, [.ref aX, .ref aF, .int y5.1, .int y5.2.1, .int y5.2.2.1, .int y5.2.2.2]))]) hD hS hA [0, 1, 2] rfl
        refine va_callv (va_runV (As := []) (rest := []) ⟨hx, hb, hml, hown, hts⟩ (c_X5_advance l D cI cJ cZ cO adK adV aX aX_bytes aD aF X_length X_bytes y5.1 y5.2.1 y5.2.2.1 y5.2.2.2 H.size y8 qy8) (cwV 0 hts gX5_readChild_X5_advance rfl rfl rfl (by decide +kernel) ⟨Nat.le_of_ble_eq_true rfl, Nat.le_of_ble_eq_true rfl⟩) ⟨fb_is, va_recv hK hP (ci := 5) (q0 := 2) rfl rfl, fun U hU hW => ⟨rfl, by rw [hU], by rw [hU]; exact hPc, KK.warm hW hKK, hDc.weaken (fun _ _ _ _ => trivial), SA.at hU hW ((hSA.kept hS.2.1).narrow hFc)⟩⟩ rfl rfl hl.1 rfl (lv_room (Nat.le_of_ble_eq_true rfl)) dX5_readChild_55 ⟨Nat.le_of_ble_eq_true rfl, Nat.le_of_ble_eq_true rfl⟩) hS (fun q _ h => hFc q h) hFc (fun u t H1 locs ht hvm hw hB hz1 hk1 hS => ?_)
        obtain ⟨hP1, hD1⟩ := hB
        rw [ht] at hP1
        obtain ⟨hP, hD⟩ := va_join (wr := [(aF, .inr (1, [.ref aF_slips, .ref aF_lates, .ref aF_copied, .int F_size, .int F_littleOnes])), (aF_slips, .inl (cI, 6, .inl F_slips)), (aF_lates, .inl (cI, 6, .inl F_lates)), (aF_copied, .inl (cI, 6, .inl F_copied))]) (w1 := [(aX, .inr (8, [.ref aX_bytes, .int X_length])), (aX_bytes, .inl (cI, 200, .inl X_bytes)), (aD, .inr (5, [.ref aX, .ref aF, .int y8.1, .int y8.2.1, .int y8.2.2.1, .int y8.2.2.2]))]) hP hD [0, 1, 2] [3, 4, 5, 6] rfl rfl (by decide) (by decide) hk1 hFc hP1 hD1
        generalize H1 = H at hP hS ⊢
        have hP : va_P D vwCl [(aX, .inr (8, [.ref aX_bytes, .int X_length])), (aX_bytes, .inl (cI, 200, .inl X_bytes)), (aD, .inr (5, [.ref aX, .ref aF, .int y8.1, .int y8.2.1, .int y8.2.2.1, .int y8.2.2.2])), (aF, .inr (1, [.ref aF_slips, .ref aF_lates, .ref aF_copied, .int F_size, .int F_littleOnes])), (aF_slips, .inl (cI, 6, .inl F_slips)), (aF_lates, .inl (cI, 6, .inl F_lates)), (aF_copied, .inl (cI, 6, .inl F_copied))] H := hP.sub [4, 5, 6, 0, 1, 2, 3] rfl
        have hD : va_D A [(aX, .inr (8, [.ref aX_bytes, .int X_length])), (aX_bytes, .inl (cI, 200, .inl X_bytes)), (aD, .inr (5, [.ref aX, .ref aF, .int y8.1, .int y8.2.1, .int y8.2.2.1, .int y8.2.2.2])), (aF, .inr (1, [.ref aF_slips, .ref aF_lates, .ref aF_copied, .int F_size, .int F_littleOnes])), (aF_slips, .inl (cI, 6, .inl F_slips)), (aF_lates, .inl (cI, 6, .inl F_lates)), (aF_copied, .inl (cI, 6, .inl F_copied))] := hD.sub [4, 5, 6, 0, 1, 2, 3] (by decide) rfl
        refine lv_aload_n hx hb dX5_readChild_58 rfl (lv_at hl 2 rfl) ?_
        refine va_get (D := D) (ci := 5) (v := .int y8.1) (C := RX5) (T := TX5) (N := 6) hx hb hts inX5 hown hK hP 2 rfl rfl 2 (by decide) fl_32 (fun _ h9 => h9) rfl dX5_readChild_59 ?_
        refine lv_iconst (v := (3 : Int32)) hx hb dX5_readChild_62 (by decide) ?_
        refine lv_icmp_ne (tgt := 89) hx hb dX5_readChild_63 (by decide) (fun c_9 => ?_) (fun c_9 => ?_)
        · replace h := if_n c_9 h
          refine lv_iconst (v := (0 : Int32)) hx hb dX5_readChild_89 (by decide) ?_
          have hy := Option.some.inj h
          subst hy
          exact W.zret (v := (0 : Int32)) hx hb hr (zo_nar (by decide)) (fun t ht hW => ⟨⟨(0 : Int32), (), rfl, ⟨rfl, (by decide)⟩, by rw [ht]; exact hP, hD⟩, hS.F ht⟩) hS.2.2 dX5_readChild_90
        · replace h := if_p c_9 h
          refine lv_aload_n hx hb dX5_readChild_66 rfl (lv_at hl 2 rfl) ?_
          refine va_get (D := D) (ci := 5) (v := .int y8.2.2.2) (C := RX5) (T := TX5) (N := 6) hx hb hts inX5 hown hK hP 2 rfl rfl 5 (by decide) fl_53 (fun _ h9 => h9) rfl dX5_readChild_67 ?_
          refine lv_bipush (v := (9 : Int32)) hx hb dX5_readChild_70 (by decide) ?_
          refine lv_icmp_eq (tgt := 91) hx hb dX5_readChild_72 (by decide) (fun c_10 => ?_) (fun c_10 => ?_)
          · replace h := if_p c_10 h
            exact L91 y8.1 y8.2.1 y8.2.2.1 y8.2.2.2 F_size F_slips F_lates F_copied y2.2.2.2 y5.2.2.2 _ _ hP hD hS ls (lv_sub hl [2, 1, 0] rfl) h
          · replace h := if_n c_10 h
            refine lv_aload_n hx hb dX5_readChild_75 rfl (lv_at hl 2 rfl) ?_
            refine va_get (D := D) (ci := 5) (v := .ref aF) (C := RX5) (T := TX5) (N := 6) hx hb hts inX5 hown hK hP 2 rfl rfl 1 (by decide) fl_18 (fun _ h9 => h9) rfl dX5_readChild_76 ?_
            refine lv_aload_n hx hb dX5_readChild_79 rfl (lv_at hl 2 rfl) ?_
            refine va_get (D := D) (ci := 5) (v := .int y8.2.2.2) (C := RX5) (T := TX5) (N := 6) hx hb hts inX5 hown hK hP 2 rfl rfl 5 (by decide) fl_53 (fun _ h9 => h9) rfl dX5_readChild_80 ?_
            have hPc : va_P D vwCl [(aF, .inr (1, [.ref aF_slips, .ref aF_lates, .ref aF_copied, .int F_size, .int F_littleOnes]))] H := hP.sub [3] rfl
            refine vp_callSi (va_Run.run (va_runV (As := [.int y8.2.2.2]) (rest := []) ⟨hx, hb, hml, hown, hts⟩ (c_X1_has l D cI cJ cZ cO aF aF_slips aF_lates aF_copied F_size F_littleOnes y8.2.2.2 _ rfl) (cwV 1 hts gX5_readChild_X1_has rfl rfl rfl (by decide +kernel) ⟨Nat.le_of_ble_eq_true rfl, Nat.le_of_ble_eq_true rfl⟩) ⟨fb_p, va_recv hK hP (ci := 1) (q0 := 3) rfl rfl, fun U hU hW => ⟨rfl, by rw [hU]; exact hPc, KK.warm hW hKK⟩⟩ rfl rfl hl.1 rfl (lv_room (Nat.le_of_ble_eq_true rfl)) dX5_readChild_83 ⟨Nat.le_of_ble_eq_true rfl, Nat.le_of_ble_eq_true rfl⟩)) (fun r hr => ?_)
            obtain ⟨hr, hz11⟩ := hr
            replace hr := hr.symm
            subst hr
            refine lv_if_ne (tgt := 91) hx hb dX5_readChild_86 (by decide) (fun c_12 => ?_) (fun c_12 => ?_)
            · replace h := if_n c_12 h
              exact L91 y8.1 y8.2.1 y8.2.2.1 y8.2.2.2 F_size F_slips F_lates F_copied y2.2.2.2 y5.2.2.2 _ _ hP hD hS ls (lv_sub hl [2, 1, 0] rfl) h
            · replace h := if_p c_12 h
              refine lv_iconst (v := (0 : Int32)) hx hb dX5_readChild_89 (by decide) ?_
              have hy := Option.some.inj h
              subst hy
              exact W.zret (v := (0 : Int32)) hx hb hr (zo_nar (by decide)) (fun t ht hW => ⟨⟨(0 : Int32), (), rfl, ⟨rfl, (by decide)⟩, by rw [ht]; exact hP, hD⟩, hS.F ht⟩) hS.2.2 dX5_readChild_90
      · replace h := if_p c_7 h
        refine lv_iconst (v := (0 : Int32)) hx hb dX5_readChild_47 (by decide) ?_
        have hy := Option.some.inj h
        subst hy
        exact W.zret (v := (0 : Int32)) hx hb hr (zo_nar (by decide)) (fun t ht hW => ⟨⟨(0 : Int32), (), rfl, ⟨rfl, (by decide)⟩, by rw [ht]; exact hP, hD⟩, hS.F ht⟩) hS.2.2 dX5_readChild_48
    · replace h := if_p c_4 h
      refine lv_iconst (v := (0 : Int32)) hx hb dX5_readChild_27 (by decide) ?_
      have hy := Option.some.inj h
      subst hy
      exact W.zret (v := (0 : Int32)) hx hb hr (zo_nar (by decide)) (fun t ht hW => ⟨⟨(0 : Int32), (), rfl, ⟨rfl, (by decide)⟩, by rw [ht]; exact hP, hD⟩, hS.F ht⟩) hS.2.2 dX5_readChild_28
  · replace h := if_n c_1 h
    refine lv_iconst (v := (0 : Int32)) hx hb dX5_readChild_12 (by decide) ?_
    have hy := Option.some.inj h
    subst hy
    exact W.zret (v := (0 : Int32)) hx hb hr (zo_nar (by decide)) (fun t ht hW => ⟨⟨(0 : Int32), (), rfl, ⟨rfl, (by decide)⟩, by rw [ht]; exact hP, hD⟩, hS.F ht⟩) hS.2.2 dX5_readChild_13

def f_X5_readLittle (X_length : Int32) (X_bytes : Nat → Int32) (D_token : Int32) (D_start : Int32) (D_end : Int32) (D_value : Int32) (F_size : Int32) (F_littleOnes : Int32) : Option (Int32 × Int32 × Int32 × Int32 × Int32 × Int32) := (Option.bind (f_X5_advance X_length X_bytes D_token D_start D_end D_value) (fun y1 => (if y1.1 = (3 : Int32) then (if (f_X1_has F_size y1.2.2.2) = 0 then some ((0 : Int32), y1.1, y1.2.1, y1.2.2.1, y1.2.2.2, F_littleOnes) else (Option.bind (f_X5_advance X_length X_bytes y1.1 y1.2.1 y1.2.2.1 y1.2.2.2) (fun y5 => (if y5.1 = (2 : Int32) then (Option.bind (f_X1_makeLittle F_littleOnes y1.2.2.2) (fun y7 => (Option.bind (f_X5_advance X_length X_bytes y5.1 y5.2.1 y5.2.2.1 y5.2.2.2) (fun y8 => some ((1 : Int32), y8.1, y8.2.1, y8.2.2.1, y8.2.2.2, y7))))) else some ((0 : Int32), y5.1, y5.2.1, y5.2.2.1, y5.2.2.2, F_littleOnes))))) else some ((0 : Int32), y1.1, y1.2.1, y1.2.2.1, y1.2.2.2, F_littleOnes))))
set_option maxHeartbeats 8000000 in
set_option maxRecDepth 100000 in
theorem c_X5_readLittle (l : Launch) (D : va_G) (cI cJ cZ cO : ClassId) (adK adV : Nat → Nat) (aX : Nat) (aX_bytes : Nat) (aD : Nat) (aF : Nat) (aF_slips : Nat) (aF_lates : Nat) (aF_copied : Nat) (X_length : Int32) (X_bytes : Nat → Int32) (D_token : Int32) (D_start : Int32) (D_end : Int32) (D_value : Int32) (F_size : Int32) (F_littleOnes : Int32) (sz : Nat)   (y0 : Int32 × Int32 × Int32 × Int32 × Int32 × Int32) (h : f_X5_readLittle X_length X_bytes D_token D_start D_end D_value F_size F_littleOnes = some y0) : Met l yX5_readLittle wsX5_readLittle ({ frames := 7, cells := 0, slots := 0, locals := 154 } : Room) (va_Pc [.ref aD] (fun U => U.heap.size = sz ∧ va_P D vwCl [(aX, .inr (8, [.ref aX_bytes, .int X_length])), (aX_bytes, .inl (cI, 200, .inl X_bytes)), (aD, .inr (5, [.ref aX, .ref aF, .int D_token, .int D_start, .int D_end, .int D_value])), (aF, .inr (1, [.ref aF_slips, .ref aF_lates, .ref aF_copied, .int F_size, .int F_littleOnes]))] U.heap ∧ KK D cI cJ cZ cO U ∧ va_D (fun _ => True) [(aX, .inr (8, [.ref aX_bytes, .int X_length])), (aX_bytes, .inl (cI, 200, .inl X_bytes)), (aD, .inr (5, [.ref aX, .ref aF, .int D_token, .int D_start, .int D_end, .int D_value])), (aF, .inr (1, [.ref aF_slips, .ref aF_lates, .ref aF_copied, .int F_size, .int F_littleOnes]))] ∧ SA adK adV (va_A [(aX, .inr (8, [.ref aX_bytes, .int X_length])), (aX_bytes, .inl (cI, 200, .inl X_bytes)), (aD, .inr (5, [.ref aX, .ref aF, .int D_token, .int D_start, .int D_end, .int D_value])), (aF, .inr (1, [.ref aF_slips, .ref aF_lates, .ref aF_copied, .int F_size, .int F_littleOnes]))] sz) U U.heap)) (va_Qi (fun (r : Int32) (_ : Unit) => r = y0.1 ∧ zo r) (fun (_ : Unit) t => va_P D vwCl [(aX, .inr (8, [.ref aX_bytes, .int X_length])), (aX_bytes, .inl (cI, 200, .inl X_bytes)), (aD, .inr (5, [.ref aX, .ref aF, .int y0.2.1, .int y0.2.2.1, .int y0.2.2.2.1, .int y0.2.2.2.2.1])), (aF, .inr (1, [.ref aF_slips, .ref aF_lates, .ref aF_copied, .int F_size, .int y0.2.2.2.2.2]))] t.heap ∧ va_D (va_A [(aX, .inr (8, [.ref aX_bytes, .int X_length])), (aX_bytes, .inl (cI, 200, .inl X_bytes)), (aD, .inr (5, [.ref aX, .ref aF, .int D_token, .int D_start, .int D_end, .int D_value])), (aF, .inr (1, [.ref aF_slips, .ref aF_lates, .ref aF_copied, .int F_size, .int F_littleOnes]))] sz) [(aX, .inr (8, [.ref aX_bytes, .int X_length])), (aX_bytes, .inl (cI, 200, .inl X_bytes)), (aD, .inr (5, [.ref aX, .ref aF, .int y0.2.1, .int y0.2.2.1, .int y0.2.2.2.1, .int y0.2.2.2.2.1])), (aF, .inr (1, [.ref aF_slips, .ref aF_lates, .ref aF_copied, .int F_size, .int y0.2.2.2.2.2]))]) (va_A [(aX, .inr (8, [.ref aX_bytes, .int X_length])), (aX_bytes, .inl (cI, 200, .inl X_bytes)), (aD, .inr (5, [.ref aX, .ref aF, .int D_token, .int D_start, .int D_end, .int D_value])), (aF, .inr (1, [.ref aF_slips, .ref aF_lates, .ref aF_copied, .int F_size, .int F_littleOnes]))] sz)) 0 0 (va_A [(aX, .inr (8, [.ref aX_bytes, .int X_length])), (aX_bytes, .inl (cI, 200, .inl X_bytes)), (aD, .inr (5, [.ref aX, .ref aF, .int D_token, .int D_start, .int D_end, .int D_value])), (aF, .inr (1, [.ref aF_slips, .ref aF_lates, .ref aF_copied, .int F_size, .int F_littleOnes]))] sz) := by
  refine Met.ofW (cc := cX5_readLittle) (maxL := 2) (ret := (some .boolean)) (by decide) rfl ?_
  intro p e s m args below meth c s₁ B hml hv
  obtain ⟨rfl, hsz, hP, hKK, hD0, hSA⟩ := hv
  have hx := B.exec
  have hb := B.bytes
  have hr := B.returns
  have hts := atoms_spec (ws := wsX5_readLittle) B.pre
  have hown : s.vm.findClass RX5 = some m.cls := findClass_of_methodNamed B.named
  have hlocks := B.notSynchronized
  have hK := hKK.1
  have fl_18 := hts (.fieldLink RX5 18 "SimonSays$Reader" "found" "LSimonSays$Children;") (by decide +kernel)
  have fl_32 := hts (.fieldLink RX5 32 "SimonSays$Reader" "token" "I") (by decide +kernel)
  have fl_53 := hts (.fieldLink RX5 53 "SimonSays$Reader" "value" "I") (by decide +kernel)
  have inX5 : ∀ w ∈ wsX50, w ∈ wsX5_readLittle := by decide +kernel
  subst hsz
  have hD := hD0.self (sz := s.heap.size)
  generalize hAe : va_A [(aX, .inr (8, [.ref aX_bytes, .int X_length])), (aX_bytes, .inl (cI, 200, .inl X_bytes)), (aD, .inr (5, [.ref aX, .ref aF, .int D_token, .int D_start, .int D_end, .int D_value])), (aF, .inr (1, [.ref aF_slips, .ref aF_lates, .ref aF_copied, .int F_size, .int F_littleOnes]))] s.heap.size = A at hD hSA ⊢
  have hA : ∀ q : Nat, s.heap.size ≤ q → A q := fun q h => by rw [← hAe]; exact Or.inr h
  have hS : va_S A s.heap s.heap [] := va_S.rf
  have hl := lv_entry ([.ref aD]) (n := 2) (Nat.le_of_ble_eq_true rfl)
  rw [lg_entry_eq]
  generalize (lg_sl ([.ref aD]) ++ List.replicate (2 - (lg_sl ([.ref aD])).length) Slot.unset).toArray = ls at hl ⊢
  have hl : lv_has ls 2 [(0, .ref aD)] := hl
  unfold f_X5_readLittle at h
  refine lv_aload_n hx hb dX5_readLittle_0 rfl (lv_at hl 0 rfl) ?_
  obtain ⟨y1, qy1, h⟩ := ob_some h
  have hPc : va_P D vwCl [(aX, .inr (8, [.ref aX_bytes, .int X_length])), (aX_bytes, .inl (cI, 200, .inl X_bytes)), (aD, .inr (5, [.ref aX, .ref aF, .int D_token, .int D_start, .int D_end, .int D_value]))] s.heap := hP.sub [0, 1, 2] rfl
  have hDc : va_D A [(aX, .inr (8, [.ref aX_bytes, .int X_length])), (aX_bytes, .inl (cI, 200, .inl X_bytes)), (aD, .inr (5, [.ref aX, .ref aF, .int D_token, .int D_start, .int D_end, .int D_value]))] := hD.sub [0, 1, 2] (by decide) rfl
  have hFc := va_free (wc := [(aX, .inr (8, [.ref aX_bytes, .int X_length])), (aX_bytes, .inl (cI, 200, .inl X_bytes)), (aD, .inr (5, [.ref aX, .ref aF, .int D_token, .int D_start, .int D_end, .int D_value]))]) hD hS hA [0, 1, 2] rfl
  refine va_callv (va_runV (As := []) (rest := []) ⟨hx, hb, hml, hown, hts⟩ (c_X5_advance l D cI cJ cZ cO adK adV aX aX_bytes aD aF X_length X_bytes D_token D_start D_end D_value s.heap.size y1 qy1) (cwV 0 hts gX5_readLittle_X5_advance rfl rfl rfl (by decide +kernel) ⟨Nat.le_of_ble_eq_true rfl, Nat.le_of_ble_eq_true rfl⟩) ⟨fb_is, va_recv hK hP (ci := 5) (q0 := 2) rfl rfl, fun U hU hW => ⟨rfl, by rw [hU], by rw [hU]; exact hPc, KK.warm hW hKK, hDc.weaken (fun _ _ _ _ => trivial), SA.at hU hW ((hSA.kept hS.2.1).narrow hFc)⟩⟩ rfl rfl hl.1 rfl (lv_room (Nat.le_of_ble_eq_true rfl)) dX5_readLittle_1 ⟨Nat.le_of_ble_eq_true rfl, Nat.le_of_ble_eq_true rfl⟩) hS (fun q _ h => hFc q h) hFc (fun u t H1 locs ht hvm hw hB hz1 hk1 hS => ?_)
  obtain ⟨hP1, hD1⟩ := hB
  rw [ht] at hP1
  obtain ⟨hP, hD⟩ := va_join (wr := [(aF, .inr (1, [.ref aF_slips, .ref aF_lates, .ref aF_copied, .int F_size, .int F_littleOnes]))]) (w1 := [(aX, .inr (8, [.ref aX_bytes, .int X_length])), (aX_bytes, .inl (cI, 200, .inl X_bytes)), (aD, .inr (5, [.ref aX, .ref aF, .int y1.1, .int y1.2.1, .int y1.2.2.1, .int y1.2.2.2]))]) hP hD [0, 1, 2] [3] rfl rfl (by decide) (by decide) hk1 hFc hP1 hD1
  generalize H1 = H at hP hS ⊢
  have hP : va_P D vwCl [(aX, .inr (8, [.ref aX_bytes, .int X_length])), (aX_bytes, .inl (cI, 200, .inl X_bytes)), (aD, .inr (5, [.ref aX, .ref aF, .int y1.1, .int y1.2.1, .int y1.2.2.1, .int y1.2.2.2])), (aF, .inr (1, [.ref aF_slips, .ref aF_lates, .ref aF_copied, .int F_size, .int F_littleOnes]))] H := hP.sub [1, 2, 3, 0] rfl
  have hD : va_D A [(aX, .inr (8, [.ref aX_bytes, .int X_length])), (aX_bytes, .inl (cI, 200, .inl X_bytes)), (aD, .inr (5, [.ref aX, .ref aF, .int y1.1, .int y1.2.1, .int y1.2.2.1, .int y1.2.2.2])), (aF, .inr (1, [.ref aF_slips, .ref aF_lates, .ref aF_copied, .int F_size, .int F_littleOnes]))] := hD.sub [1, 2, 3, 0] (by decide) rfl
  refine lv_aload_n hx hb dX5_readLittle_4 rfl (lv_at hl 0 rfl) ?_
  refine va_get (D := D) (ci := 5) (v := .int y1.1) (C := RX5) (T := TX5) (N := 6) hx hb hts inX5 hown hK hP 2 rfl rfl 2 (by decide) fl_32 (fun _ h9 => h9) rfl dX5_readLittle_5 ?_
  refine lv_iconst (v := (3 : Int32)) hx hb dX5_readLittle_8 (by decide) ?_
  refine lv_icmp_ne (tgt := 26) hx hb dX5_readLittle_9 (by decide) (fun c_2 => ?_) (fun c_2 => ?_)
  · replace h := if_n c_2 h
    refine lv_iconst (v := (0 : Int32)) hx hb dX5_readLittle_26 (by decide) ?_
    have hy := Option.some.inj h
    subst hy
    exact W.zret (v := (0 : Int32)) hx hb hr (zo_nar (by decide)) (fun t ht hW => ⟨⟨(0 : Int32), (), rfl, ⟨rfl, (by decide)⟩, by rw [ht]; exact hP, hD⟩, hS.F ht⟩) hS.2.2 dX5_readLittle_27
  · replace h := if_p c_2 h
    refine lv_aload_n hx hb dX5_readLittle_12 rfl (lv_at hl 0 rfl) ?_
    refine va_get (D := D) (ci := 5) (v := .ref aF) (C := RX5) (T := TX5) (N := 6) hx hb hts inX5 hown hK hP 2 rfl rfl 1 (by decide) fl_18 (fun _ h9 => h9) rfl dX5_readLittle_13 ?_
    refine lv_aload_n hx hb dX5_readLittle_16 rfl (lv_at hl 0 rfl) ?_
    refine va_get (D := D) (ci := 5) (v := .int y1.2.2.2) (C := RX5) (T := TX5) (N := 6) hx hb hts inX5 hown hK hP 2 rfl rfl 5 (by decide) fl_53 (fun _ h9 => h9) rfl dX5_readLittle_17 ?_
    have hPc : va_P D vwCl [(aF, .inr (1, [.ref aF_slips, .ref aF_lates, .ref aF_copied, .int F_size, .int F_littleOnes]))] H := hP.sub [3] rfl
    refine vp_callSi (va_Run.run (va_runV (As := [.int y1.2.2.2]) (rest := []) ⟨hx, hb, hml, hown, hts⟩ (c_X1_has l D cI cJ cZ cO aF aF_slips aF_lates aF_copied F_size F_littleOnes y1.2.2.2 _ rfl) (cwV 1 hts gX5_readLittle_X1_has rfl rfl rfl (by decide +kernel) ⟨Nat.le_of_ble_eq_true rfl, Nat.le_of_ble_eq_true rfl⟩) ⟨fb_p, va_recv hK hP (ci := 1) (q0 := 3) rfl rfl, fun U hU hW => ⟨rfl, by rw [hU]; exact hPc, KK.warm hW hKK⟩⟩ rfl rfl hl.1 rfl (lv_room (Nat.le_of_ble_eq_true rfl)) dX5_readLittle_20 ⟨Nat.le_of_ble_eq_true rfl, Nat.le_of_ble_eq_true rfl⟩)) (fun r hr => ?_)
    obtain ⟨hr, hz3⟩ := hr
    replace hr := hr.symm
    subst hr
    refine lv_if_ne (tgt := 28) hx hb dX5_readLittle_23 (by decide) (fun c_4 => ?_) (fun c_4 => ?_)
    · replace h := if_n c_4 h
      refine lv_aload_n hx hb dX5_readLittle_28 rfl (lv_at hl 0 rfl) ?_
      refine va_get (D := D) (ci := 5) (v := .int y1.2.2.2) (C := RX5) (T := TX5) (N := 6) hx hb hts inX5 hown hK hP 2 rfl rfl 5 (by decide) fl_53 (fun _ h9 => h9) rfl dX5_readLittle_29 ?_
      refine lv_istore_n (lv' := [(1, .int y1.2.2.2), (0, .ref aD)]) hx hb dX5_readLittle_32 rfl hl (by decide) rfl (fun ls hl => ?_)
      refine lv_aload_n hx hb dX5_readLittle_33 rfl (lv_at hl 1 rfl) ?_
      obtain ⟨y5, qy5, h⟩ := ob_some h
      have hPc : va_P D vwCl [(aX, .inr (8, [.ref aX_bytes, .int X_length])), (aX_bytes, .inl (cI, 200, .inl X_bytes)), (aD, .inr (5, [.ref aX, .ref aF, .int y1.1, .int y1.2.1, .int y1.2.2.1, .int y1.2.2.2]))] H := hP.sub [0, 1, 2] rfl
      have hDc : va_D A [(aX, .inr (8, [.ref aX_bytes, .int X_length])), (aX_bytes, .inl (cI, 200, .inl X_bytes)), (aD, .inr (5, [.ref aX, .ref aF, .int y1.1, .int y1.2.1, .int y1.2.2.1, .int y1.2.2.2]))] := hD.sub [0, 1, 2] (by decide) rfl
      have hFc := va_free (wc := [(aX, .inr (8, [.ref aX_bytes, .int X_length])), (aX_bytes, .inl (cI, 200, .inl X_bytes)), (aD, .inr (5, [.ref aX, .ref aF, .int y1.1, .int y1.2.1, .int y1.2.2.1, .int y1.2.2.2]))]) hD hS hA [0, 1, 2] rfl
      refine va_callv (va_runV (As := []) (rest := []) ⟨hx, hb, hml, hown, hts⟩ (c_X5_advance l D cI cJ cZ cO adK adV aX aX_bytes aD aF X_length X_bytes y1.1 y1.2.1 y1.2.2.1 y1.2.2.2 H.size y5 qy5) (cwV 0 hts gX5_readLittle_X5_advance rfl rfl rfl (by decide +kernel) ⟨Nat.le_of_ble_eq_true rfl, Nat.le_of_ble_eq_true rfl⟩) ⟨fb_is, va_recv hK hP (ci := 5) (q0 := 2) rfl rfl, fun U hU hW => ⟨rfl, by rw [hU], by rw [hU]; exact hPc, KK.warm hW hKK, hDc.weaken (fun _ _ _ _ => trivial), SA.at hU hW ((hSA.kept hS.2.1).narrow hFc)⟩⟩ rfl rfl hl.1 rfl (lv_room (Nat.le_of_ble_eq_true rfl)) dX5_readLittle_34 ⟨Nat.le_of_ble_eq_true rfl, Nat.le_of_ble_eq_true rfl⟩) hS (fun q _ h => hFc q h) hFc (fun u t H1 locs ht hvm hw hB hz1 hk1 hS => ?_)
      obtain ⟨hP1, hD1⟩ := hB
      rw [ht] at hP1
      obtain ⟨hP, hD⟩ := va_join (wr := [(aF, .inr (1, [.ref aF_slips, .ref aF_lates, .ref aF_copied, .int F_size, .int F_littleOnes]))]) (w1 := [(aX, .inr (8, [.ref aX_bytes, .int X_length])), (aX_bytes, .inl (cI, 200, .inl X_bytes)), (aD, .inr (5, [.ref aX, .ref aF, .int y5.1, .int y5.2.1, .int y5.2.2.1, .int y5.2.2.2]))]) hP hD [0, 1, 2] [3] rfl rfl (by decide) (by decide) hk1 hFc hP1 hD1
      generalize H1 = H at hP hS ⊢
      have hP : va_P D vwCl [(aX, .inr (8, [.ref aX_bytes, .int X_length])), (aX_bytes, .inl (cI, 200, .inl X_bytes)), (aD, .inr (5, [.ref aX, .ref aF, .int y5.1, .int y5.2.1, .int y5.2.2.1, .int y5.2.2.2])), (aF, .inr (1, [.ref aF_slips, .ref aF_lates, .ref aF_copied, .int F_size, .int F_littleOnes]))] H := hP.sub [1, 2, 3, 0] rfl
      have hD : va_D A [(aX, .inr (8, [.ref aX_bytes, .int X_length])), (aX_bytes, .inl (cI, 200, .inl X_bytes)), (aD, .inr (5, [.ref aX, .ref aF, .int y5.1, .int y5.2.1, .int y5.2.2.1, .int y5.2.2.2])), (aF, .inr (1, [.ref aF_slips, .ref aF_lates, .ref aF_copied, .int F_size, .int F_littleOnes]))] := hD.sub [1, 2, 3, 0] (by decide) rfl
      refine lv_aload_n hx hb dX5_readLittle_37 rfl (lv_at hl 1 rfl) ?_
      refine va_get (D := D) (ci := 5) (v := .int y5.1) (C := RX5) (T := TX5) (N := 6) hx hb hts inX5 hown hK hP 2 rfl rfl 2 (by decide) fl_32 (fun _ h9 => h9) rfl dX5_readLittle_38 ?_
      refine lv_iconst (v := (2 : Int32)) hx hb dX5_readLittle_41 (by decide) ?_
      refine lv_icmp_eq (tgt := 47) hx hb dX5_readLittle_42 (by decide) (fun c_6 => ?_) (fun c_6 => ?_)
      · replace h := if_p c_6 h
        refine lv_aload_n hx hb dX5_readLittle_47 rfl (lv_at hl 1 rfl) ?_
        refine va_get (D := D) (ci := 5) (v := .ref aF) (C := RX5) (T := TX5) (N := 6) hx hb hts inX5 hown hK hP 2 rfl rfl 1 (by decide) fl_18 (fun _ h9 => h9) rfl dX5_readLittle_48 ?_
        refine lv_iload_n hx hb dX5_readLittle_51 rfl (lv_at hl 0 rfl) ?_
        obtain ⟨y7, qy7, h⟩ := ob_some h
        have hPc : va_P D vwCl [(aF, .inr (1, [.ref aF_slips, .ref aF_lates, .ref aF_copied, .int F_size, .int F_littleOnes]))] H := hP.sub [3] rfl
        have hDc : va_D A [(aF, .inr (1, [.ref aF_slips, .ref aF_lates, .ref aF_copied, .int F_size, .int F_littleOnes]))] := hD.sub [3] (by decide) rfl
        have hFc := va_free (wc := [(aF, .inr (1, [.ref aF_slips, .ref aF_lates, .ref aF_copied, .int F_size, .int F_littleOnes]))]) hD hS hA [3] rfl
        refine va_callv (va_runV (As := [.int y1.2.2.2]) (rest := []) ⟨hx, hb, hml, hown, hts⟩ (c_X1_makeLittle l D cI cJ cZ cO aF aF_slips aF_lates aF_copied F_size F_littleOnes H.size y1.2.2.2 y7 qy7) (cwV 1 hts gX5_readLittle_X1_makeLittle rfl rfl rfl (by decide +kernel) ⟨Nat.le_of_ble_eq_true rfl, Nat.le_of_ble_eq_true rfl⟩) ⟨fb_i, va_recv hK hP (ci := 1) (q0 := 3) rfl rfl, fun U hU hW => ⟨rfl, by rw [hU], by rw [hU]; exact hPc, KK.warm hW hKK, hDc.weaken (fun _ _ _ _ => trivial)⟩⟩ rfl rfl hl.1 rfl (lv_room (Nat.le_of_ble_eq_true rfl)) dX5_readLittle_52 ⟨Nat.le_of_ble_eq_true rfl, Nat.le_of_ble_eq_true rfl⟩) hS (fun q _ h => hFc q h) hFc (fun u t H1 locs ht hvm hw hB hz1 hk1 hS => ?_)
        obtain ⟨hP1, hD1⟩ := hB
        rw [ht] at hP1
        obtain ⟨hP, hD⟩ := va_join (wr := [(aX, .inr (8, [.ref aX_bytes, .int X_length])), (aX_bytes, .inl (cI, 200, .inl X_bytes)), (aD, .inr (5, [.ref aX, .ref aF, .int y5.1, .int y5.2.1, .int y5.2.2.1, .int y5.2.2.2]))]) (w1 := [(aF, .inr (1, [.ref aF_slips, .ref aF_lates, .ref aF_copied, .int F_size, .int y7]))]) hP hD [3] [0, 1, 2] rfl rfl (by decide) (by decide) hk1 hFc hP1 hD1
        generalize H1 = H at hP hS ⊢
        have hP : va_P D vwCl [(aX, .inr (8, [.ref aX_bytes, .int X_length])), (aX_bytes, .inl (cI, 200, .inl X_bytes)), (aD, .inr (5, [.ref aX, .ref aF, .int y5.1, .int y5.2.1, .int y5.2.2.1, .int y5.2.2.2])), (aF, .inr (1, [.ref aF_slips, .ref aF_lates, .ref aF_copied, .int F_size, .int y7]))] H := hP.sub [0, 1, 2, 3] rfl
        have hD : va_D A [(aX, .inr (8, [.ref aX_bytes, .int X_length])), (aX_bytes, .inl (cI, 200, .inl X_bytes)), (aD, .inr (5, [.ref aX, .ref aF, .int y5.1, .int y5.2.1, .int y5.2.2.1, .int y5.2.2.2])), (aF, .inr (1, [.ref aF_slips, .ref aF_lates, .ref aF_copied, .int F_size, .int y7]))] := hD.sub [0, 1, 2, 3] (by decide) rfl
        refine lv_aload_n hx hb dX5_readLittle_55 rfl (lv_at hl 1 rfl) ?_
        obtain ⟨y8, qy8, h⟩ := ob_some h
        have hPc : va_P D vwCl [(aX, .inr (8, [.ref aX_bytes, .int X_length])), (aX_bytes, .inl (cI, 200, .inl X_bytes)), (aD, .inr (5, [.ref aX, .ref aF, .int y5.1, .int y5.2.1, .int y5.2.2.1, .int y5.2.2.2]))] H := hP.sub [0, 1, 2] rfl
        have hDc : va_D A [(aX, .inr (8, [.ref aX_bytes, .int X_length])), (aX_bytes, .inl (cI, 200, .inl X_bytes)), (aD, .inr (5, [.ref aX, .ref aF, .int y5.1, .int y5.2.1, .int y5.2.2.1, .int y5.2.2.2]))] := hD.sub [0, 1, 2] (by decide) rfl
        have hFc := va_free (wc := [(aX, .inr (8, [.ref aX_bytes, .int X_length])), (aX_bytes, .inl (cI, 200, .inl X_bytes)), (aD, .inr (5, [.ref aX, .ref aF, .int y5.1, .int y5.2.1, .int y5.2.2.1, .int y5.2.2.2]))]) hD hS hA [0, 1, 2] rfl
        refine va_callv (va_runV (As := []) (rest := []) ⟨hx, hb, hml, hown, hts⟩ (c_X5_advance l D cI cJ cZ cO adK adV aX aX_bytes aD aF X_length X_bytes y5.1 y5.2.1 y5.2.2.1 y5.2.2.2 H.size y8 qy8) (cwV 0 hts gX5_readLittle_X5_advance rfl rfl rfl (by decide +kernel) ⟨Nat.le_of_ble_eq_true rfl, Nat.le_of_ble_eq_true rfl⟩) ⟨fb_is, va_recv hK hP (ci := 5) (q0 := 2) rfl rfl, fun U hU hW => ⟨rfl, by rw [hU], by rw [hU]; exact hPc, KK.warm hW hKK, hDc.weaken (fun _ _ _ _ => trivial), SA.at hU hW ((hSA.kept hS.2.1).narrow hFc)⟩⟩ rfl rfl hl.1 rfl (lv_room (Nat.le_of_ble_eq_true rfl)) dX5_readLittle_56 ⟨Nat.le_of_ble_eq_true rfl, Nat.le_of_ble_eq_true rfl⟩) hS (fun q _ h => hFc q h) hFc (fun u t H1 locs ht hvm hw hB hz1 hk1 hS => ?_)
        obtain ⟨hP1, hD1⟩ := hB
        rw [ht] at hP1
        obtain ⟨hP, hD⟩ := va_join (wr := [(aF, .inr (1, [.ref aF_slips, .ref aF_lates, .ref aF_copied, .int F_size, .int y7]))]) (w1 := [(aX, .inr (8, [.ref aX_bytes, .int X_length])), (aX_bytes, .inl (cI, 200, .inl X_bytes)), (aD, .inr (5, [.ref aX, .ref aF, .int y8.1, .int y8.2.1, .int y8.2.2.1, .int y8.2.2.2]))]) hP hD [0, 1, 2] [3] rfl rfl (by decide) (by decide) hk1 hFc hP1 hD1
        generalize H1 = H at hP hS ⊢
        have hP : va_P D vwCl [(aX, .inr (8, [.ref aX_bytes, .int X_length])), (aX_bytes, .inl (cI, 200, .inl X_bytes)), (aD, .inr (5, [.ref aX, .ref aF, .int y8.1, .int y8.2.1, .int y8.2.2.1, .int y8.2.2.2])), (aF, .inr (1, [.ref aF_slips, .ref aF_lates, .ref aF_copied, .int F_size, .int y7]))] H := hP.sub [1, 2, 3, 0] rfl
        have hD : va_D A [(aX, .inr (8, [.ref aX_bytes, .int X_length])), (aX_bytes, .inl (cI, 200, .inl X_bytes)), (aD, .inr (5, [.ref aX, .ref aF, .int y8.1, .int y8.2.1, .int y8.2.2.1, .int y8.2.2.2])), (aF, .inr (1, [.ref aF_slips, .ref aF_lates, .ref aF_copied, .int F_size, .int y7]))] := hD.sub [1, 2, 3, 0] (by decide) rfl
        refine lv_iconst (v := (1 : Int32)) hx hb dX5_readLittle_59 (by decide) ?_
        have hy := Option.some.inj h
        subst hy
        exact W.zret (v := (1 : Int32)) hx hb hr (zo_nar (by decide)) (fun t ht hW => ⟨⟨(1 : Int32), (), rfl, ⟨rfl, (by decide)⟩, by rw [ht]; exact hP, hD⟩, hS.F ht⟩) hS.2.2 dX5_readLittle_60
      · replace h := if_n c_6 h
        refine lv_iconst (v := (0 : Int32)) hx hb dX5_readLittle_45 (by decide) ?_
        have hy := Option.some.inj h
        subst hy
        exact W.zret (v := (0 : Int32)) hx hb hr (zo_nar (by decide)) (fun t ht hW => ⟨⟨(0 : Int32), (), rfl, ⟨rfl, (by decide)⟩, by rw [ht]; exact hP, hD⟩, hS.F ht⟩) hS.2.2 dX5_readLittle_46
    · replace h := if_p c_4 h
      refine lv_iconst (v := (0 : Int32)) hx hb dX5_readLittle_26 (by decide) ?_
      have hy := Option.some.inj h
      subst hy
      exact W.zret (v := (0 : Int32)) hx hb hr (zo_nar (by decide)) (fun t ht hW => ⟨⟨(0 : Int32), (), rfl, ⟨rfl, (by decide)⟩, by rw [ht]; exact hP, hD⟩, hS.F ht⟩) hS.2.2 dX5_readLittle_27

def f_X5_readItems_L69 (X_length : Int32) (X_bytes : Nat → Int32) (k18 : Int32 → Int32 → Int32 → Int32 → Int32 → Int32 → (Nat → Int32) → (Nat → Int32) → (Nat → Int32) → Int32 → Option (Int32 × Int32 × Int32 × Int32 × Int32 × Int32 × Int32 × (Nat → Int32) × (Nat → Int32) × (Nat → Int32))) (D_token : Int32) (D_start : Int32) (D_end : Int32) (D_value : Int32) (F_size : Int32) (F_littleOnes : Int32) (F_slips : Nat → Int32) (F_lates : Nat → Int32) (F_copied : Nat → Int32) (t0 : Int32) (x1 : Int32) : Option (Int32 × Int32 × Int32 × Int32 × Int32 × Int32 × Int32 × (Nat → Int32) × (Nat → Int32) × (Nat → Int32)) := (if t0 = 0 then some ((-1 : Int32), D_token, D_start, D_end, D_value, F_size, F_littleOnes, F_slips, F_lates, F_copied) else k18 D_token D_start D_end D_value F_size F_littleOnes F_slips F_lates F_copied (x1 + (1 : Int32)))
def f_X5_readItems_L68 (X_length : Int32) (X_bytes : Nat → Int32) (k18 : Int32 → Int32 → Int32 → Int32 → Int32 → Int32 → (Nat → Int32) → (Nat → Int32) → (Nat → Int32) → Int32 → Option (Int32 × Int32 × Int32 × Int32 × Int32 × Int32 × Int32 × (Nat → Int32) × (Nat → Int32) × (Nat → Int32))) (D_token : Int32) (D_start : Int32) (D_end : Int32) (D_value : Int32) (F_size : Int32) (F_littleOnes : Int32) (F_slips : Nat → Int32) (F_lates : Nat → Int32) (F_copied : Nat → Int32) (x1 : Int32) : Option (Int32 × Int32 × Int32 × Int32 × Int32 × Int32 × Int32 × (Nat → Int32) × (Nat → Int32) × (Nat → Int32)) := f_X5_readItems_L69 X_length X_bytes k18 D_token D_start D_end D_value F_size F_littleOnes F_slips F_lates F_copied (0 : Int32) x1
def f_X5_readItems_L18 (X_length : Int32) (X_bytes : Nat → Int32) : Nat → Int32 → Int32 → Int32 → Int32 → Int32 → Int32 → (Nat → Int32) → (Nat → Int32) → (Nat → Int32) → Int32 → Option (Int32 × Int32 × Int32 × Int32 × Int32 × Int32 × Int32 × (Nat → Int32) × (Nat → Int32) × (Nat → Int32))
  | 0, _, _, _, _, _, _, _, _, _, _ => none
  | n + 1, D_token, D_start, D_end, D_value, F_size, F_littleOnes, F_slips, F_lates, F_copied, x1 => (if (200 : Int32) < x1 then some ((-1 : Int32), D_token, D_start, D_end, D_value, F_size, F_littleOnes, F_slips, F_lates, F_copied) else (if D_token = 0 then some (x1, D_token, D_start, D_end, D_value, F_size, F_littleOnes, F_slips, F_lates, F_copied) else (if D_token = (4 : Int32) then (Option.bind (f_X5_readChild X_length X_bytes D_token D_start D_end D_value F_size F_slips F_lates F_copied) (fun y10 => f_X5_readItems_L69 X_length X_bytes (f_X5_readItems_L18 X_length X_bytes n) y10.2.1 y10.2.2.1 y10.2.2.2.1 y10.2.2.2.2.1 y10.2.2.2.2.2.1 F_littleOnes y10.2.2.2.2.2.2.1 y10.2.2.2.2.2.2.2.1 y10.2.2.2.2.2.2.2.2 y10.1 x1)) else (if D_token = (5 : Int32) then (Option.bind (f_X5_readLittle X_length X_bytes D_token D_start D_end D_value F_size F_littleOnes) (fun y7 => (if y7.1 = 0 then f_X5_readItems_L68 X_length X_bytes (f_X5_readItems_L18 X_length X_bytes n) y7.2.1 y7.2.2.1 y7.2.2.2.1 y7.2.2.2.2.1 F_size y7.2.2.2.2.2 F_slips F_lates F_copied x1 else f_X5_readItems_L69 X_length X_bytes (f_X5_readItems_L18 X_length X_bytes n) y7.2.1 y7.2.2.1 y7.2.2.2.1 y7.2.2.2.2.1 F_size y7.2.2.2.2.2 F_slips F_lates F_copied (1 : Int32) x1))) else f_X5_readItems_L68 X_length X_bytes (f_X5_readItems_L18 X_length X_bytes n) D_token D_start D_end D_value F_size F_littleOnes F_slips F_lates F_copied x1))))
def f_X5_readItems (X_length : Int32) (X_bytes : Nat → Int32) (D_token : Int32) (D_start : Int32) (D_end : Int32) (D_value : Int32) (F_size : Int32) (F_littleOnes : Int32) (F_slips : Nat → Int32) (F_lates : Nat → Int32) (F_copied : Nat → Int32) : Option (Int32 × Int32 × Int32 × Int32 × Int32 × Int32 × Int32 × (Nat → Int32) × (Nat → Int32) × (Nat → Int32)) := (Option.bind (f_X1_forget F_size F_littleOnes) (fun y1 => (Option.bind (f_X5_advance X_length X_bytes D_token D_start (0 : Int32) D_value) (fun y2 => f_X5_readItems_L18 X_length X_bytes 300 y2.1 y2.2.1 y2.2.2.1 y2.2.2.2 y1.1 y1.2 F_slips F_lates F_copied (0 : Int32)))))
set_option maxHeartbeats 8000000 in
set_option maxRecDepth 100000 in
theorem c_X5_readItems (l : Launch) (D : va_G) (cI cJ cZ cO : ClassId) (adK adV : Nat → Nat) (aX : Nat) (aX_bytes : Nat) (aD : Nat) (aF : Nat) (aF_slips : Nat) (aF_lates : Nat) (aF_copied : Nat) (X_length : Int32) (X_bytes : Nat → Int32) (D_token : Int32) (D_start : Int32) (D_end : Int32) (D_value : Int32) (F_size : Int32) (F_littleOnes : Int32) (F_slips : Nat → Int32) (F_lates : Nat → Int32) (F_copied : Nat → Int32) (sz : Nat)   (y0 : Int32 × Int32 × Int32 × Int32 × Int32 × Int32 × Int32 × (Nat → Int32) × (Nat → Int32) × (Nat → Int32)) (h : f_X5_readItems X_length X_bytes D_token D_start D_end D_value F_size F_littleOnes F_slips F_lates F_copied = some y0) : Met l yX5_readItems wsX5_readItems ({ frames := 8, cells := 0, slots := 0, locals := 177 } : Room) (va_Pc [.ref aD] (fun U => U.heap.size = sz ∧ va_P D vwCl [(aX, .inr (8, [.ref aX_bytes, .int X_length])), (aX_bytes, .inl (cI, 200, .inl X_bytes)), (aD, .inr (5, [.ref aX, .ref aF, .int D_token, .int D_start, .int D_end, .int D_value])), (aF, .inr (1, [.ref aF_slips, .ref aF_lates, .ref aF_copied, .int F_size, .int F_littleOnes])), (aF_slips, .inl (cI, 6, .inl F_slips)), (aF_lates, .inl (cI, 6, .inl F_lates)), (aF_copied, .inl (cI, 6, .inl F_copied))] U.heap ∧ KK D cI cJ cZ cO U ∧ va_D (fun _ => True) [(aX, .inr (8, [.ref aX_bytes, .int X_length])), (aX_bytes, .inl (cI, 200, .inl X_bytes)), (aD, .inr (5, [.ref aX, .ref aF, .int D_token, .int D_start, .int D_end, .int D_value])), (aF, .inr (1, [.ref aF_slips, .ref aF_lates, .ref aF_copied, .int F_size, .int F_littleOnes])), (aF_slips, .inl (cI, 6, .inl F_slips)), (aF_lates, .inl (cI, 6, .inl F_lates)), (aF_copied, .inl (cI, 6, .inl F_copied))] ∧ SA adK adV (va_A [(aX, .inr (8, [.ref aX_bytes, .int X_length])), (aX_bytes, .inl (cI, 200, .inl X_bytes)), (aD, .inr (5, [.ref aX, .ref aF, .int D_token, .int D_start, .int D_end, .int D_value])), (aF, .inr (1, [.ref aF_slips, .ref aF_lates, .ref aF_copied, .int F_size, .int F_littleOnes])), (aF_slips, .inl (cI, 6, .inl F_slips)), (aF_lates, .inl (cI, 6, .inl F_lates)), (aF_copied, .inl (cI, 6, .inl F_copied))] sz) U U.heap)) (va_Qi (fun (r : Int32) (_ : Unit) => r = y0.1) (fun (_ : Unit) t => va_P D vwCl [(aX, .inr (8, [.ref aX_bytes, .int X_length])), (aX_bytes, .inl (cI, 200, .inl X_bytes)), (aD, .inr (5, [.ref aX, .ref aF, .int y0.2.1, .int y0.2.2.1, .int y0.2.2.2.1, .int y0.2.2.2.2.1])), (aF, .inr (1, [.ref aF_slips, .ref aF_lates, .ref aF_copied, .int y0.2.2.2.2.2.1, .int y0.2.2.2.2.2.2.1])), (aF_slips, .inl (cI, 6, .inl y0.2.2.2.2.2.2.2.1)), (aF_lates, .inl (cI, 6, .inl y0.2.2.2.2.2.2.2.2.1)), (aF_copied, .inl (cI, 6, .inl y0.2.2.2.2.2.2.2.2.2))] t.heap ∧ va_D (va_A [(aX, .inr (8, [.ref aX_bytes, .int X_length])), (aX_bytes, .inl (cI, 200, .inl X_bytes)), (aD, .inr (5, [.ref aX, .ref aF, .int D_token, .int D_start, .int D_end, .int D_value])), (aF, .inr (1, [.ref aF_slips, .ref aF_lates, .ref aF_copied, .int F_size, .int F_littleOnes])), (aF_slips, .inl (cI, 6, .inl F_slips)), (aF_lates, .inl (cI, 6, .inl F_lates)), (aF_copied, .inl (cI, 6, .inl F_copied))] sz) [(aX, .inr (8, [.ref aX_bytes, .int X_length])), (aX_bytes, .inl (cI, 200, .inl X_bytes)), (aD, .inr (5, [.ref aX, .ref aF, .int y0.2.1, .int y0.2.2.1, .int y0.2.2.2.1, .int y0.2.2.2.2.1])), (aF, .inr (1, [.ref aF_slips, .ref aF_lates, .ref aF_copied, .int y0.2.2.2.2.2.1, .int y0.2.2.2.2.2.2.1])), (aF_slips, .inl (cI, 6, .inl y0.2.2.2.2.2.2.2.1)), (aF_lates, .inl (cI, 6, .inl y0.2.2.2.2.2.2.2.2.1)), (aF_copied, .inl (cI, 6, .inl y0.2.2.2.2.2.2.2.2.2))]) (va_A [(aX, .inr (8, [.ref aX_bytes, .int X_length])), (aX_bytes, .inl (cI, 200, .inl X_bytes)), (aD, .inr (5, [.ref aX, .ref aF, .int D_token, .int D_start, .int D_end, .int D_value])), (aF, .inr (1, [.ref aF_slips, .ref aF_lates, .ref aF_copied, .int F_size, .int F_littleOnes])), (aF_slips, .inl (cI, 6, .inl F_slips)), (aF_lates, .inl (cI, 6, .inl F_lates)), (aF_copied, .inl (cI, 6, .inl F_copied))] sz)) 0 0 (va_A [(aX, .inr (8, [.ref aX_bytes, .int X_length])), (aX_bytes, .inl (cI, 200, .inl X_bytes)), (aD, .inr (5, [.ref aX, .ref aF, .int D_token, .int D_start, .int D_end, .int D_value])), (aF, .inr (1, [.ref aF_slips, .ref aF_lates, .ref aF_copied, .int F_size, .int F_littleOnes])), (aF_slips, .inl (cI, 6, .inl F_slips)), (aF_lates, .inl (cI, 6, .inl F_lates)), (aF_copied, .inl (cI, 6, .inl F_copied))] sz) := by
  refine Met.ofW (cc := cX5_readItems) (maxL := 3) (ret := (some .int)) (by decide) rfl ?_
  intro p e s m args below meth c s₁ B hml hv
  obtain ⟨rfl, hsz, hP, hKK, hD0, hSA⟩ := hv
  have hx := B.exec
  have hb := B.bytes
  have hr := B.returns
  have hts := atoms_spec (ws := wsX5_readItems) B.pre
  have hown : s.vm.findClass RX5 = some m.cls := findClass_of_methodNamed B.named
  have hlocks := B.notSynchronized
  have hK := hKK.1
  have fl_18 := hts (.fieldLink RX5 18 "SimonSays$Reader" "found" "LSimonSays$Children;") (by decide +kernel)
  have fl_25 := hts (.fieldLink RX5 25 "SimonSays$Reader" "end" "I") (by decide +kernel)
  have fl_32 := hts (.fieldLink RX5 32 "SimonSays$Reader" "token" "I") (by decide +kernel)
  have inX5 : ∀ w ∈ wsX50, w ∈ wsX5_readItems := by decide +kernel
  subst hsz
  have hD := hD0.self (sz := s.heap.size)
  generalize hAe : va_A [(aX, .inr (8, [.ref aX_bytes, .int X_length])), (aX_bytes, .inl (cI, 200, .inl X_bytes)), (aD, .inr (5, [.ref aX, .ref aF, .int D_token, .int D_start, .int D_end, .int D_value])), (aF, .inr (1, [.ref aF_slips, .ref aF_lates, .ref aF_copied, .int F_size, .int F_littleOnes])), (aF_slips, .inl (cI, 6, .inl F_slips)), (aF_lates, .inl (cI, 6, .inl F_lates)), (aF_copied, .inl (cI, 6, .inl F_copied))] s.heap.size = A at hD hSA ⊢
  have hA : ∀ q : Nat, s.heap.size ≤ q → A q := fun q h => by rw [← hAe]; exact Or.inr h
  have hS : va_S A s.heap s.heap [] := va_S.rf
  have hl := lv_entry ([.ref aD]) (n := 3) (Nat.le_of_ble_eq_true rfl)
  rw [lg_entry_eq]
  generalize (lg_sl ([.ref aD]) ++ List.replicate (3 - (lg_sl ([.ref aD])).length) Slot.unset).toArray = ls at hl ⊢
  have hl : lv_has ls 3 [(0, .ref aD)] := hl
  have L69 : ∀ (k18 : Int32 → Int32 → Int32 → Int32 → Int32 → Int32 → (Nat → Int32) → (Nat → Int32) → (Nat → Int32) → Int32 → Option (Int32 × Int32 × Int32 × Int32 × Int32 × Int32 × Int32 × (Nat → Int32) × (Nat → Int32) × (Nat → Int32))) (_ : ∀ (D_token : Int32) (D_start : Int32) (D_end : Int32) (D_value : Int32) (F_size : Int32) (F_littleOnes : Int32) (F_slips : Nat → Int32) (F_lates : Nat → Int32) (F_copied : Nat → Int32) (x1 : Int32), ∀ (H : Heap) (locs : List Loc), va_P D vwCl [(aX, .inr (8, [.ref aX_bytes, .int X_length])), (aX_bytes, .inl (cI, 200, .inl X_bytes)), (aD, .inr (5, [.ref aX, .ref aF, .int D_token, .int D_start, .int D_end, .int D_value])), (aF, .inr (1, [.ref aF_slips, .ref aF_lates, .ref aF_copied, .int F_size, .int F_littleOnes])), (aF_slips, .inl (cI, 6, .inl F_slips)), (aF_lates, .inl (cI, 6, .inl F_lates)), (aF_copied, .inl (cI, 6, .inl F_copied))] H → va_D A [(aX, .inr (8, [.ref aX_bytes, .int X_length])), (aX_bytes, .inl (cI, 200, .inl X_bytes)), (aD, .inr (5, [.ref aX, .ref aF, .int D_token, .int D_start, .int D_end, .int D_value])), (aF, .inr (1, [.ref aF_slips, .ref aF_lates, .ref aF_copied, .int F_size, .int F_littleOnes])), (aF_slips, .inl (cI, 6, .inl F_slips)), (aF_lates, .inl (cI, 6, .inl F_lates)), (aF_copied, .inl (cI, 6, .inl F_copied))] → va_S A s.heap H locs → ∀ (ls : Array Slot), lv_has ls 3 [(0, .ref aD), (1, .int x1)] → k18 D_token D_start D_end D_value F_size F_littleOnes F_slips F_lates F_copied x1 = some y0 → W p l e (headSpec wsX5_readItems ({ frames := 8, cells := 0, slots := 0, locals := 177 } : Room)).room s m ([.ref aD] : List Value).toArray below meth c H locs 0 0 (MQ below (va_Qi (fun (r : Int32) (_ : Unit) => r = y0.1) (fun (_ : Unit) t => va_P D vwCl [(aX, .inr (8, [.ref aX_bytes, .int X_length])), (aX_bytes, .inl (cI, 200, .inl X_bytes)), (aD, .inr (5, [.ref aX, .ref aF, .int y0.2.1, .int y0.2.2.1, .int y0.2.2.2.1, .int y0.2.2.2.2.1])), (aF, .inr (1, [.ref aF_slips, .ref aF_lates, .ref aF_copied, .int y0.2.2.2.2.2.1, .int y0.2.2.2.2.2.2.1])), (aF_slips, .inl (cI, 6, .inl y0.2.2.2.2.2.2.2.1)), (aF_lates, .inl (cI, 6, .inl y0.2.2.2.2.2.2.2.2.1)), (aF_copied, .inl (cI, 6, .inl y0.2.2.2.2.2.2.2.2.2))] t.heap ∧ va_D A [(aX, .inr (8, [.ref aX_bytes, .int X_length])), (aX_bytes, .inl (cI, 200, .inl X_bytes)), (aD, .inr (5, [.ref aX, .ref aF, .int y0.2.1, .int y0.2.2.1, .int y0.2.2.2.1, .int y0.2.2.2.2.1])), (aF, .inr (1, [.ref aF_slips, .ref aF_lates, .ref aF_copied, .int y0.2.2.2.2.2.1, .int y0.2.2.2.2.2.2.1])), (aF_slips, .inl (cI, 6, .inl y0.2.2.2.2.2.2.2.1)), (aF_lates, .inl (cI, 6, .inl y0.2.2.2.2.2.2.2.2.1)), (aF_copied, .inl (cI, 6, .inl y0.2.2.2.2.2.2.2.2.2))]) A) ([.ref aD] : List Value).toArray s 0 0 A) (F0 m 18 ls [])), ∀ (D_token : Int32) (D_start : Int32) (D_end : Int32) (D_value : Int32) (F_size : Int32) (F_littleOnes : Int32) (F_slips : Nat → Int32) (F_lates : Nat → Int32) (F_copied : Nat → Int32) (t0 : Int32) (x1 : Int32), ∀ (H : Heap) (locs : List Loc), va_P D vwCl [(aX, .inr (8, [.ref aX_bytes, .int X_length])), (aX_bytes, .inl (cI, 200, .inl X_bytes)), (aD, .inr (5, [.ref aX, .ref aF, .int D_token, .int D_start, .int D_end, .int D_value])), (aF, .inr (1, [.ref aF_slips, .ref aF_lates, .ref aF_copied, .int F_size, .int F_littleOnes])), (aF_slips, .inl (cI, 6, .inl F_slips)), (aF_lates, .inl (cI, 6, .inl F_lates)), (aF_copied, .inl (cI, 6, .inl F_copied))] H → va_D A [(aX, .inr (8, [.ref aX_bytes, .int X_length])), (aX_bytes, .inl (cI, 200, .inl X_bytes)), (aD, .inr (5, [.ref aX, .ref aF, .int D_token, .int D_start, .int D_end, .int D_value])), (aF, .inr (1, [.ref aF_slips, .ref aF_lates, .ref aF_copied, .int F_size, .int F_littleOnes])), (aF_slips, .inl (cI, 6, .inl F_slips)), (aF_lates, .inl (cI, 6, .inl F_lates)), (aF_copied, .inl (cI, 6, .inl F_copied))] → va_S A s.heap H locs → ∀ (ls : Array Slot), lv_has ls 3 [(0, .ref aD), (1, .int x1)] → f_X5_readItems_L69 X_length X_bytes k18 D_token D_start D_end D_value F_size F_littleOnes F_slips F_lates F_copied t0 x1 = some y0 → W p l e (headSpec wsX5_readItems ({ frames := 8, cells := 0, slots := 0, locals := 177 } : Room)).room s m ([.ref aD] : List Value).toArray below meth c H locs 0 0 (MQ below (va_Qi (fun (r : Int32) (_ : Unit) => r = y0.1) (fun (_ : Unit) t => va_P D vwCl [(aX, .inr (8, [.ref aX_bytes, .int X_length])), (aX_bytes, .inl (cI, 200, .inl X_bytes)), (aD, .inr (5, [.ref aX, .ref aF, .int y0.2.1, .int y0.2.2.1, .int y0.2.2.2.1, .int y0.2.2.2.2.1])), (aF, .inr (1, [.ref aF_slips, .ref aF_lates, .ref aF_copied, .int y0.2.2.2.2.2.1, .int y0.2.2.2.2.2.2.1])), (aF_slips, .inl (cI, 6, .inl y0.2.2.2.2.2.2.2.1)), (aF_lates, .inl (cI, 6, .inl y0.2.2.2.2.2.2.2.2.1)), (aF_copied, .inl (cI, 6, .inl y0.2.2.2.2.2.2.2.2.2))] t.heap ∧ va_D A [(aX, .inr (8, [.ref aX_bytes, .int X_length])), (aX_bytes, .inl (cI, 200, .inl X_bytes)), (aD, .inr (5, [.ref aX, .ref aF, .int y0.2.1, .int y0.2.2.1, .int y0.2.2.2.1, .int y0.2.2.2.2.1])), (aF, .inr (1, [.ref aF_slips, .ref aF_lates, .ref aF_copied, .int y0.2.2.2.2.2.1, .int y0.2.2.2.2.2.2.1])), (aF_slips, .inl (cI, 6, .inl y0.2.2.2.2.2.2.2.1)), (aF_lates, .inl (cI, 6, .inl y0.2.2.2.2.2.2.2.2.1)), (aF_copied, .inl (cI, 6, .inl y0.2.2.2.2.2.2.2.2.2))]) A) ([.ref aD] : List Value).toArray s 0 0 A) (F0 m 69 ls [.int t0]) := by
    intro k18 hk18
    intro D_token D_start D_end D_value F_size F_littleOnes F_slips F_lates F_copied t0 x1 H locs hP hD hS ls hl h
    unfold f_X5_readItems_L69 at h
    refine lv_istore_n (lv' := [(2, .int t0), (0, .ref aD), (1, .int x1)]) hx hb dX5_readItems_69 rfl hl (by decide) rfl (fun ls hl => ?_)
    refine lv_iload_n hx hb dX5_readItems_70 rfl (lv_at hl 0 rfl) ?_
    refine lv_if_ne (tgt := 76) hx hb dX5_readItems_71 (by decide) (fun c_12 => ?_) (fun c_12 => ?_)
    · replace h := if_n c_12 h
      refine lv_iinc (v := (x1 + (1 : Int32))) (lv' := [(1, .int (x1 + (1 : Int32))), (2, .int t0), (0, .ref aD)]) hx hb dX5_readItems_76 hl (k := 2) rfl rfl (by decide) rfl (fun ls hl => ?_)
      refine lv_goto (tgt := 18) hx hb dX5_readItems_79 (by decide) ?_
      exact hk18 D_token D_start D_end D_value F_size F_littleOnes F_slips F_lates F_copied (x1 + (1 : Int32)) _ _ hP hD hS ls (lv_sub hl [2, 0] rfl) h
    · replace h := if_p c_12 h
      refine lv_iconst (v := (-1 : Int32)) hx hb dX5_readItems_74 (by decide) ?_
      have hy := Option.some.inj h
      subst hy
      exact W.iret (v := (-1 : Int32)) hx hb hr (fun t ht hW => ⟨⟨(-1 : Int32), (), rfl, rfl, by rw [ht]; exact hP, hD⟩, hS.F ht⟩) hS.2.2 dX5_readItems_75
  have L68 : ∀ (k18 : Int32 → Int32 → Int32 → Int32 → Int32 → Int32 → (Nat → Int32) → (Nat → Int32) → (Nat → Int32) → Int32 → Option (Int32 × Int32 × Int32 × Int32 × Int32 × Int32 × Int32 × (Nat → Int32) × (Nat → Int32) × (Nat → Int32))) (_ : ∀ (D_token : Int32) (D_start : Int32) (D_end : Int32) (D_value : Int32) (F_size : Int32) (F_littleOnes : Int32) (F_slips : Nat → Int32) (F_lates : Nat → Int32) (F_copied : Nat → Int32) (x1 : Int32), ∀ (H : Heap) (locs : List Loc), va_P D vwCl [(aX, .inr (8, [.ref aX_bytes, .int X_length])), (aX_bytes, .inl (cI, 200, .inl X_bytes)), (aD, .inr (5, [.ref aX, .ref aF, .int D_token, .int D_start, .int D_end, .int D_value])), (aF, .inr (1, [.ref aF_slips, .ref aF_lates, .ref aF_copied, .int F_size, .int F_littleOnes])), (aF_slips, .inl (cI, 6, .inl F_slips)), (aF_lates, .inl (cI, 6, .inl F_lates)), (aF_copied, .inl (cI, 6, .inl F_copied))] H → va_D A [(aX, .inr (8, [.ref aX_bytes, .int X_length])), (aX_bytes, .inl (cI, 200, .inl X_bytes)), (aD, .inr (5, [.ref aX, .ref aF, .int D_token, .int D_start, .int D_end, .int D_value])), (aF, .inr (1, [.ref aF_slips, .ref aF_lates, .ref aF_copied, .int F_size, .int F_littleOnes])), (aF_slips, .inl (cI, 6, .inl F_slips)), (aF_lates, .inl (cI, 6, .inl F_lates)), (aF_copied, .inl (cI, 6, .inl F_copied))] → va_S A s.heap H locs → ∀ (ls : Array Slot), lv_has ls 3 [(0, .ref aD), (1, .int x1)] → k18 D_token D_start D_end D_value F_size F_littleOnes F_slips F_lates F_copied x1 = some y0 → W p l e (headSpec wsX5_readItems ({ frames := 8, cells := 0, slots := 0, locals := 177 } : Room)).room s m ([.ref aD] : List Value).toArray below meth c H locs 0 0 (MQ below (va_Qi (fun (r : Int32) (_ : Unit) => r = y0.1) (fun (_ : Unit) t => va_P D vwCl [(aX, .inr (8, [.ref aX_bytes, .int X_length])), (aX_bytes, .inl (cI, 200, .inl X_bytes)), (aD, .inr (5, [.ref aX, .ref aF, .int y0.2.1, .int y0.2.2.1, .int y0.2.2.2.1, .int y0.2.2.2.2.1])), (aF, .inr (1, [.ref aF_slips, .ref aF_lates, .ref aF_copied, .int y0.2.2.2.2.2.1, .int y0.2.2.2.2.2.2.1])), (aF_slips, .inl (cI, 6, .inl y0.2.2.2.2.2.2.2.1)), (aF_lates, .inl (cI, 6, .inl y0.2.2.2.2.2.2.2.2.1)), (aF_copied, .inl (cI, 6, .inl y0.2.2.2.2.2.2.2.2.2))] t.heap ∧ va_D A [(aX, .inr (8, [.ref aX_bytes, .int X_length])), (aX_bytes, .inl (cI, 200, .inl X_bytes)), (aD, .inr (5, [.ref aX, .ref aF, .int y0.2.1, .int y0.2.2.1, .int y0.2.2.2.1, .int y0.2.2.2.2.1])), (aF, .inr (1, [.ref aF_slips, .ref aF_lates, .ref aF_copied, .int y0.2.2.2.2.2.1, .int y0.2.2.2.2.2.2.1])), (aF_slips, .inl (cI, 6, .inl y0.2.2.2.2.2.2.2.1)), (aF_lates, .inl (cI, 6, .inl y0.2.2.2.2.2.2.2.2.1)), (aF_copied, .inl (cI, 6, .inl y0.2.2.2.2.2.2.2.2.2))]) A) ([.ref aD] : List Value).toArray s 0 0 A) (F0 m 18 ls [])), ∀ (D_token : Int32) (D_start : Int32) (D_end : Int32) (D_value : Int32) (F_size : Int32) (F_littleOnes : Int32) (F_slips : Nat → Int32) (F_lates : Nat → Int32) (F_copied : Nat → Int32) (x1 : Int32), ∀ (H : Heap) (locs : List Loc), va_P D vwCl [(aX, .inr (8, [.ref aX_bytes, .int X_length])), (aX_bytes, .inl (cI, 200, .inl X_bytes)), (aD, .inr (5, [.ref aX, .ref aF, .int D_token, .int D_start, .int D_end, .int D_value])), (aF, .inr (1, [.ref aF_slips, .ref aF_lates, .ref aF_copied, .int F_size, .int F_littleOnes])), (aF_slips, .inl (cI, 6, .inl F_slips)), (aF_lates, .inl (cI, 6, .inl F_lates)), (aF_copied, .inl (cI, 6, .inl F_copied))] H → va_D A [(aX, .inr (8, [.ref aX_bytes, .int X_length])), (aX_bytes, .inl (cI, 200, .inl X_bytes)), (aD, .inr (5, [.ref aX, .ref aF, .int D_token, .int D_start, .int D_end, .int D_value])), (aF, .inr (1, [.ref aF_slips, .ref aF_lates, .ref aF_copied, .int F_size, .int F_littleOnes])), (aF_slips, .inl (cI, 6, .inl F_slips)), (aF_lates, .inl (cI, 6, .inl F_lates)), (aF_copied, .inl (cI, 6, .inl F_copied))] → va_S A s.heap H locs → ∀ (ls : Array Slot), lv_has ls 3 [(0, .ref aD), (1, .int x1)] → f_X5_readItems_L68 X_length X_bytes k18 D_token D_start D_end D_value F_size F_littleOnes F_slips F_lates F_copied x1 = some y0 → W p l e (headSpec wsX5_readItems ({ frames := 8, cells := 0, slots := 0, locals := 177 } : Room)).room s m ([.ref aD] : List Value).toArray below meth c H locs 0 0 (MQ below (va_Qi (fun (r : Int32) (_ : Unit) => r = y0.1) (fun (_ : Unit) t => va_P D vwCl [(aX, .inr (8, [.ref aX_bytes, .int X_length])), (aX_bytes, .inl (cI, 200, .inl X_bytes)), (aD, .inr (5, [.ref aX, .ref aF, .int y0.2.1, .int y0.2.2.1, .int y0.2.2.2.1, .int y0.2.2.2.2.1])), (aF, .inr (1, [.ref aF_slips, .ref aF_lates, .ref aF_copied, .int y0.2.2.2.2.2.1, .int y0.2.2.2.2.2.2.1])), (aF_slips, .inl (cI, 6, .inl y0.2.2.2.2.2.2.2.1)), (aF_lates, .inl (cI, 6, .inl y0.2.2.2.2.2.2.2.2.1)), (aF_copied, .inl (cI, 6, .inl y0.2.2.2.2.2.2.2.2.2))] t.heap ∧ va_D A [(aX, .inr (8, [.ref aX_bytes, .int X_length])), (aX_bytes, .inl (cI, 200, .inl X_bytes)), (aD, .inr (5, [.ref aX, .ref aF, .int y0.2.1, .int y0.2.2.1, .int y0.2.2.2.1, .int y0.2.2.2.2.1])), (aF, .inr (1, [.ref aF_slips, .ref aF_lates, .ref aF_copied, .int y0.2.2.2.2.2.1, .int y0.2.2.2.2.2.2.1])), (aF_slips, .inl (cI, 6, .inl y0.2.2.2.2.2.2.2.1)), (aF_lates, .inl (cI, 6, .inl y0.2.2.2.2.2.2.2.2.1)), (aF_copied, .inl (cI, 6, .inl y0.2.2.2.2.2.2.2.2.2))]) A) ([.ref aD] : List Value).toArray s 0 0 A) (F0 m 68 ls []) := by
    intro k18 hk18
    intro D_token D_start D_end D_value F_size F_littleOnes F_slips F_lates F_copied x1 H locs hP hD hS ls hl h
    unfold f_X5_readItems_L68 at h
    refine lv_iconst (v := (0 : Int32)) hx hb dX5_readItems_68 (by decide) ?_
    exact L69 k18 hk18 D_token D_start D_end D_value F_size F_littleOnes F_slips F_lates F_copied (0 : Int32) x1 _ _ hP hD hS ls (lv_sub hl [0, 1] rfl) h
  have L18 : ∀ (n : Nat), ∀ (D_token : Int32) (D_start : Int32) (D_end : Int32) (D_value : Int32) (F_size : Int32) (F_littleOnes : Int32) (F_slips : Nat → Int32) (F_lates : Nat → Int32) (F_copied : Nat → Int32) (x1 : Int32), ∀ (H : Heap) (locs : List Loc), va_P D vwCl [(aX, .inr (8, [.ref aX_bytes, .int X_length])), (aX_bytes, .inl (cI, 200, .inl X_bytes)), (aD, .inr (5, [.ref aX, .ref aF, .int D_token, .int D_start, .int D_end, .int D_value])), (aF, .inr (1, [.ref aF_slips, .ref aF_lates, .ref aF_copied, .int F_size, .int F_littleOnes])), (aF_slips, .inl (cI, 6, .inl F_slips)), (aF_lates, .inl (cI, 6, .inl F_lates)), (aF_copied, .inl (cI, 6, .inl F_copied))] H → va_D A [(aX, .inr (8, [.ref aX_bytes, .int X_length])), (aX_bytes, .inl (cI, 200, .inl X_bytes)), (aD, .inr (5, [.ref aX, .ref aF, .int D_token, .int D_start, .int D_end, .int D_value])), (aF, .inr (1, [.ref aF_slips, .ref aF_lates, .ref aF_copied, .int F_size, .int F_littleOnes])), (aF_slips, .inl (cI, 6, .inl F_slips)), (aF_lates, .inl (cI, 6, .inl F_lates)), (aF_copied, .inl (cI, 6, .inl F_copied))] → va_S A s.heap H locs → ∀ (ls : Array Slot), lv_has ls 3 [(0, .ref aD), (1, .int x1)] → f_X5_readItems_L18 X_length X_bytes n D_token D_start D_end D_value F_size F_littleOnes F_slips F_lates F_copied x1 = some y0 → W p l e (headSpec wsX5_readItems ({ frames := 8, cells := 0, slots := 0, locals := 177 } : Room)).room s m ([.ref aD] : List Value).toArray below meth c H locs 0 0 (MQ below (va_Qi (fun (r : Int32) (_ : Unit) => r = y0.1) (fun (_ : Unit) t => va_P D vwCl [(aX, .inr (8, [.ref aX_bytes, .int X_length])), (aX_bytes, .inl (cI, 200, .inl X_bytes)), (aD, .inr (5, [.ref aX, .ref aF, .int y0.2.1, .int y0.2.2.1, .int y0.2.2.2.1, .int y0.2.2.2.2.1])), (aF, .inr (1, [.ref aF_slips, .ref aF_lates, .ref aF_copied, .int y0.2.2.2.2.2.1, .int y0.2.2.2.2.2.2.1])), (aF_slips, .inl (cI, 6, .inl y0.2.2.2.2.2.2.2.1)), (aF_lates, .inl (cI, 6, .inl y0.2.2.2.2.2.2.2.2.1)), (aF_copied, .inl (cI, 6, .inl y0.2.2.2.2.2.2.2.2.2))] t.heap ∧ va_D A [(aX, .inr (8, [.ref aX_bytes, .int X_length])), (aX_bytes, .inl (cI, 200, .inl X_bytes)), (aD, .inr (5, [.ref aX, .ref aF, .int y0.2.1, .int y0.2.2.1, .int y0.2.2.2.1, .int y0.2.2.2.2.1])), (aF, .inr (1, [.ref aF_slips, .ref aF_lates, .ref aF_copied, .int y0.2.2.2.2.2.1, .int y0.2.2.2.2.2.2.1])), (aF_slips, .inl (cI, 6, .inl y0.2.2.2.2.2.2.2.1)), (aF_lates, .inl (cI, 6, .inl y0.2.2.2.2.2.2.2.2.1)), (aF_copied, .inl (cI, 6, .inl y0.2.2.2.2.2.2.2.2.2))]) A) ([.ref aD] : List Value).toArray s 0 0 A) (F0 m 18 ls []) := by
    intro n
    induction n with
    | zero =>
      intro D_token D_start D_end D_value F_size F_littleOnes F_slips F_lates F_copied x1 H locs hP hD hS ls hl h
      exact (ns h).elim
    | succ n ih =>
      intro D_token D_start D_end D_value F_size F_littleOnes F_slips F_lates F_copied x1 H locs hP hD hS ls hl h
      unfold f_X5_readItems_L18 at h
      refine lv_iload_n hx hb dX5_readItems_18 rfl (lv_at hl 1 rfl) ?_
      refine lv_sipush (v := (200 : Int32)) hx hb dX5_readItems_19 (by decide) ?_
      refine lv_icmp_gt (tgt := 82) hx hb dX5_readItems_22 (by decide) (fun c_3 => ?_) (fun c_3 => ?_)
      · replace h := if_p c_3 h
        refine lv_iconst (v := (-1 : Int32)) hx hb dX5_readItems_82 (by decide) ?_
        have hy := Option.some.inj h
        subst hy
        exact W.iret (v := (-1 : Int32)) hx hb hr (fun t ht hW => ⟨⟨(-1 : Int32), (), rfl, rfl, by rw [ht]; exact hP, hD⟩, hS.F ht⟩) hS.2.2 dX5_readItems_83
      · replace h := if_n c_3 h
        refine lv_aload_n hx hb dX5_readItems_25 rfl (lv_at hl 0 rfl) ?_
        refine va_get (D := D) (ci := 5) (v := .int D_token) (C := RX5) (T := TX5) (N := 6) hx hb hts inX5 hown hK hP 2 rfl rfl 2 (by decide) fl_32 (fun _ h9 => h9) rfl dX5_readItems_26 ?_
        refine lv_if_ne (tgt := 34) hx hb dX5_readItems_29 (by decide) (fun c_4 => ?_) (fun c_4 => ?_)
        · replace h := if_n c_4 h
          refine lv_aload_n hx hb dX5_readItems_34 rfl (lv_at hl 0 rfl) ?_
          refine va_get (D := D) (ci := 5) (v := .int D_token) (C := RX5) (T := TX5) (N := 6) hx hb hts inX5 hown hK hP 2 rfl rfl 2 (by decide) fl_32 (fun _ h9 => h9) rfl dX5_readItems_35 ?_
          refine lv_iconst (v := (4 : Int32)) hx hb dX5_readItems_38 (by decide) ?_
          refine lv_icmp_ne (tgt := 49) hx hb dX5_readItems_39 (by decide) (fun c_5 => ?_) (fun c_5 => ?_)
          · replace h := if_n c_5 h
            refine lv_aload_n hx hb dX5_readItems_49 rfl (lv_at hl 0 rfl) ?_
            refine va_get (D := D) (ci := 5) (v := .int D_token) (C := RX5) (T := TX5) (N := 6) hx hb hts inX5 hown hK hP 2 rfl rfl 2 (by decide) fl_32 (fun _ h9 => h9) rfl dX5_readItems_50 ?_
            refine lv_iconst (v := (5 : Int32)) hx hb dX5_readItems_53 (by decide) ?_
            refine lv_icmp_ne (tgt := 68) hx hb dX5_readItems_54 (by decide) (fun c_6 => ?_) (fun c_6 => ?_)
            · replace h := if_n c_6 h
              exact L68 (f_X5_readItems_L18 X_length X_bytes n) ih D_token D_start D_end D_value F_size F_littleOnes F_slips F_lates F_copied x1 _ _ hP hD hS ls (lv_sub hl [0, 1] rfl) h
            · replace h := if_p c_6 h
              refine lv_aload_n hx hb dX5_readItems_57 rfl (lv_at hl 0 rfl) ?_
              obtain ⟨y7, qy7, h⟩ := ob_some h
              have hPc : va_P D vwCl [(aX, .inr (8, [.ref aX_bytes, .int X_length])), (aX_bytes, .inl (cI, 200, .inl X_bytes)), (aD, .inr (5, [.ref aX, .ref aF, .int D_token, .int D_start, .int D_end, .int D_value])), (aF, .inr (1, [.ref aF_slips, .ref aF_lates, .ref aF_copied, .int F_size, .int F_littleOnes]))] H := hP.sub [0, 1, 2, 3] rfl
              have hDc : va_D A [(aX, .inr (8, [.ref aX_bytes, .int X_length])), (aX_bytes, .inl (cI, 200, .inl X_bytes)), (aD, .inr (5, [.ref aX, .ref aF, .int D_token, .int D_start, .int D_end, .int D_value])), (aF, .inr (1, [.ref aF_slips, .ref aF_lates, .ref aF_copied, .int F_size, .int F_littleOnes]))] := hD.sub [0, 1, 2, 3] (by decide) rfl
              have hFc := va_free (wc := [(aX, .inr (8, [.ref aX_bytes, .int X_length])), (aX_bytes, .inl (cI, 200, .inl X_bytes)), (aD, .inr (5, [.ref aX, .ref aF, .int D_token, .int D_start, .int D_end, .int D_value])), (aF, .inr (1, [.ref aF_slips, .ref aF_lates, .ref aF_copied, .int F_size, .int F_littleOnes]))]) hD hS hA [0, 1, 2, 3] rfl
              refine va_calli (va_runV (As := []) (rest := []) ⟨hx, hb, hml, hown, hts⟩ (c_X5_readLittle l D cI cJ cZ cO adK adV aX aX_bytes aD aF aF_slips aF_lates aF_copied X_length X_bytes D_token D_start D_end D_value F_size F_littleOnes H.size y7 qy7) (cwV 0 hts gX5_readItems_X5_readLittle rfl rfl rfl (by decide +kernel) ⟨Nat.le_of_ble_eq_true rfl, Nat.le_of_ble_eq_true rfl⟩) ⟨fb_is, va_recv hK hP (ci := 5) (q0 := 2) rfl rfl, fun U hU hW => ⟨rfl, by rw [hU], by rw [hU]; exact hPc, KK.warm hW hKK, hDc.weaken (fun _ _ _ _ => trivial), SA.at hU hW ((hSA.kept hS.2.1).narrow hFc)⟩⟩ rfl rfl hl.1 rfl (lv_room (Nat.le_of_ble_eq_true rfl)) dX5_readItems_58 ⟨Nat.le_of_ble_eq_true rfl, Nat.le_of_ble_eq_true rfl⟩) hS (fun q _ h => hFc q h) hFc (fun r u t H1 locs ht hvm hw hB hz1 hk1 hS => ?_)
              obtain ⟨hP1, hD1⟩ := hB
              rw [ht] at hP1
              obtain ⟨hw, hz8⟩ := hw
              replace hw := hw.symm
              subst hw
              obtain ⟨hP, hD⟩ := va_join (wr := [(aF_slips, .inl (cI, 6, .inl F_slips)), (aF_lates, .inl (cI, 6, .inl F_lates)), (aF_copied, .inl (cI, 6, .inl F_copied))]) (w1 := [(aX, .inr (8, [.ref aX_bytes, .int X_length])), (aX_bytes, .inl (cI, 200, .inl X_bytes)), (aD, .inr (5, [.ref aX, .ref aF, .int y7.2.1, .int y7.2.2.1, .int y7.2.2.2.1, .int y7.2.2.2.2.1])), (aF, .inr (1, [.ref aF_slips, .ref aF_lates, .ref aF_copied, .int F_size, .int y7.2.2.2.2.2]))]) hP hD [0, 1, 2, 3] [4, 5, 6] rfl rfl (by decide) (by decide) hk1 hFc hP1 hD1
              generalize H1 = H at hP hS ⊢
              have hP : va_P D vwCl [(aX, .inr (8, [.ref aX_bytes, .int X_length])), (aX_bytes, .inl (cI, 200, .inl X_bytes)), (aD, .inr (5, [.ref aX, .ref aF, .int y7.2.1, .int y7.2.2.1, .int y7.2.2.2.1, .int y7.2.2.2.2.1])), (aF, .inr (1, [.ref aF_slips, .ref aF_lates, .ref aF_copied, .int F_size, .int y7.2.2.2.2.2])), (aF_slips, .inl (cI, 6, .inl F_slips)), (aF_lates, .inl (cI, 6, .inl F_lates)), (aF_copied, .inl (cI, 6, .inl F_copied))] H := hP.sub [3, 4, 5, 6, 0, 1, 2] rfl
              have hD : va_D A [(aX, .inr (8, [.ref aX_bytes, .int X_length])), (aX_bytes, .inl (cI, 200, .inl X_bytes)), (aD, .inr (5, [.ref aX, .ref aF, .int y7.2.1, .int y7.2.2.1, .int y7.2.2.2.1, .int y7.2.2.2.2.1])), (aF, .inr (1, [.ref aF_slips, .ref aF_lates, .ref aF_copied, .int F_size, .int y7.2.2.2.2.2])), (aF_slips, .inl (cI, 6, .inl F_slips)), (aF_lates, .inl (cI, 6, .inl F_lates)), (aF_copied, .inl (cI, 6, .inl F_copied))] := hD.sub [3, 4, 5, 6, 0, 1, 2] (by decide) rfl
              refine lv_if_eq (tgt := 68) hx hb dX5_readItems_61 (by decide) (fun c_9 => ?_) (fun c_9 => ?_)
              · replace h := if_p c_9 h
                exact L68 (f_X5_readItems_L18 X_length X_bytes n) ih y7.2.1 y7.2.2.1 y7.2.2.2.1 y7.2.2.2.2.1 F_size y7.2.2.2.2.2 F_slips F_lates F_copied x1 _ _ hP hD hS ls (lv_sub hl [0, 1] rfl) h
              · replace h := if_n c_9 h
                refine lv_iconst (v := (1 : Int32)) hx hb dX5_readItems_64 (by decide) ?_
                refine lv_goto (tgt := 69) hx hb dX5_readItems_65 (by decide) ?_
                exact L69 (f_X5_readItems_L18 X_length X_bytes n) ih y7.2.1 y7.2.2.1 y7.2.2.2.1 y7.2.2.2.2.1 F_size y7.2.2.2.2.2 F_slips F_lates F_copied (1 : Int32) x1 _ _ hP hD hS ls (lv_sub hl [0, 1] rfl) h
          · replace h := if_p c_5 h
            refine lv_aload_n hx hb dX5_readItems_42 rfl (lv_at hl 0 rfl) ?_
            obtain ⟨y10, qy10, h⟩ := ob_some h
            have hPc : va_P D vwCl [(aX, .inr (8, [.ref aX_bytes, .int X_length])), (aX_bytes, .inl (cI, 200, .inl X_bytes)), (aD, .inr (5, [.ref aX, .ref aF, .int D_token, .int D_start, .int D_end, .int D_value])), (aF, .inr (1, [.ref aF_slips, .ref aF_lates, .ref aF_copied, .int F_size, .int F_littleOnes])), (aF_slips, .inl (cI, 6, .inl F_slips)), (aF_lates, .inl (cI, 6, .inl F_lates)), (aF_copied, .inl (cI, 6, .inl F_copied))] H := hP.sub [0, 1, 2, 3, 4, 5, 6] rfl
            have hDc : va_D A [(aX, .inr (8, [.ref aX_bytes, .int X_length])), (aX_bytes, .inl (cI, 200, .inl X_bytes)), (aD, .inr (5, [.ref aX, .ref aF, .int D_token, .int D_start, .int D_end, .int D_value])), (aF, .inr (1, [.ref aF_slips, .ref aF_lates, .ref aF_copied, .int F_size, .int F_littleOnes])), (aF_slips, .inl (cI, 6, .inl F_slips)), (aF_lates, .inl (cI, 6, .inl F_lates)), (aF_copied, .inl (cI, 6, .inl F_copied))] := hD.sub [0, 1, 2, 3, 4, 5, 6] (by decide) rfl
            have hFc := va_free (wc := [(aX, .inr (8, [.ref aX_bytes, .int X_length])), (aX_bytes, .inl (cI, 200, .inl X_bytes)), (aD, .inr (5, [.ref aX, .ref aF, .int D_token, .int D_start, .int D_end, .int D_value])), (aF, .inr (1, [.ref aF_slips, .ref aF_lates, .ref aF_copied, .int F_size, .int F_littleOnes])), (aF_slips, .inl (cI, 6, .inl F_slips)), (aF_lates, .inl (cI, 6, .inl F_lates)), (aF_copied, .inl (cI, 6, .inl F_copied))]) hD hS hA [0, 1, 2, 3, 4, 5, 6] rfl
            refine va_calli (va_runV (As := []) (rest := []) ⟨hx, hb, hml, hown, hts⟩ (c_X5_readChild l D cI cJ cZ cO adK adV aX aX_bytes aD aF aF_slips aF_lates aF_copied X_length X_bytes D_token D_start D_end D_value F_size F_littleOnes F_slips F_lates F_copied H.size y10 qy10) (cwV 0 hts gX5_readItems_X5_readChild rfl rfl rfl (by decide +kernel) ⟨Nat.le_of_ble_eq_true rfl, Nat.le_of_ble_eq_true rfl⟩) ⟨fb_is, va_recv hK hP (ci := 5) (q0 := 2) rfl rfl, fun U hU hW => ⟨rfl, by rw [hU], by rw [hU]; exact hPc, KK.warm hW hKK, hDc.weaken (fun _ _ _ _ => trivial), SA.at hU hW ((hSA.kept hS.2.1).narrow hFc)⟩⟩ rfl rfl hl.1 rfl (lv_room (Nat.le_of_ble_eq_true rfl)) dX5_readItems_43 ⟨Nat.le_of_ble_eq_true rfl, Nat.le_of_ble_eq_true rfl⟩) hS (fun q _ h => hFc q h) hFc (fun r u t H1 locs ht hvm hw hB hz1 hk1 hS => ?_)
            obtain ⟨hP1, hD1⟩ := hB
            rw [ht] at hP1
            obtain ⟨hw, hz11⟩ := hw
            replace hw := hw.symm
            subst hw
            obtain ⟨hP, hD⟩ := va_join (wr := []) (w1 := [(aX, .inr (8, [.ref aX_bytes, .int X_length])), (aX_bytes, .inl (cI, 200, .inl X_bytes)), (aD, .inr (5, [.ref aX, .ref aF, .int y10.2.1, .int y10.2.2.1, .int y10.2.2.2.1, .int y10.2.2.2.2.1])), (aF, .inr (1, [.ref aF_slips, .ref aF_lates, .ref aF_copied, .int y10.2.2.2.2.2.1, .int F_littleOnes])), (aF_slips, .inl (cI, 6, .inl y10.2.2.2.2.2.2.1)), (aF_lates, .inl (cI, 6, .inl y10.2.2.2.2.2.2.2.1)), (aF_copied, .inl (cI, 6, .inl y10.2.2.2.2.2.2.2.2))]) hP hD [0, 1, 2, 3, 4, 5, 6] [] rfl rfl (by decide) (by decide) hk1 hFc hP1 hD1
            generalize H1 = H at hP hS ⊢
            have hP : va_P D vwCl [(aX, .inr (8, [.ref aX_bytes, .int X_length])), (aX_bytes, .inl (cI, 200, .inl X_bytes)), (aD, .inr (5, [.ref aX, .ref aF, .int y10.2.1, .int y10.2.2.1, .int y10.2.2.2.1, .int y10.2.2.2.2.1])), (aF, .inr (1, [.ref aF_slips, .ref aF_lates, .ref aF_copied, .int y10.2.2.2.2.2.1, .int F_littleOnes])), (aF_slips, .inl (cI, 6, .inl y10.2.2.2.2.2.2.1)), (aF_lates, .inl (cI, 6, .inl y10.2.2.2.2.2.2.2.1)), (aF_copied, .inl (cI, 6, .inl y10.2.2.2.2.2.2.2.2))] H := hP.sub [0, 1, 2, 3, 4, 5, 6] rfl
            have hD : va_D A [(aX, .inr (8, [.ref aX_bytes, .int X_length])), (aX_bytes, .inl (cI, 200, .inl X_bytes)), (aD, .inr (5, [.ref aX, .ref aF, .int y10.2.1, .int y10.2.2.1, .int y10.2.2.2.1, .int y10.2.2.2.2.1])), (aF, .inr (1, [.ref aF_slips, .ref aF_lates, .ref aF_copied, .int y10.2.2.2.2.2.1, .int F_littleOnes])), (aF_slips, .inl (cI, 6, .inl y10.2.2.2.2.2.2.1)), (aF_lates, .inl (cI, 6, .inl y10.2.2.2.2.2.2.2.1)), (aF_copied, .inl (cI, 6, .inl y10.2.2.2.2.2.2.2.2))] := hD.sub [0, 1, 2, 3, 4, 5, 6] (by decide) rfl
            refine lv_goto (tgt := 69) hx hb dX5_readItems_46 (by decide) ?_
            exact L69 (f_X5_readItems_L18 X_length X_bytes n) ih y10.2.1 y10.2.2.1 y10.2.2.2.1 y10.2.2.2.2.1 y10.2.2.2.2.2.1 F_littleOnes y10.2.2.2.2.2.2.1 y10.2.2.2.2.2.2.2.1 y10.2.2.2.2.2.2.2.2 y10.1 x1 _ _ hP hD hS ls (lv_sub hl [0, 1] rfl) h
        · replace h := if_p c_4 h
          refine lv_iload_n hx hb dX5_readItems_32 rfl (lv_at hl 1 rfl) ?_
          have hy := Option.some.inj h
          subst hy
          exact W.iret (v := x1) hx hb hr (fun t ht hW => ⟨⟨x1, (), rfl, rfl, by rw [ht]; exact hP, hD⟩, hS.F ht⟩) hS.2.2 dX5_readItems_33
  unfold f_X5_readItems at h
  refine lv_aload_n hx hb dX5_readItems_0 rfl (lv_at hl 0 rfl) ?_
  refine va_get (D := D) (ci := 5) (v := .ref aF) (C := RX5) (T := TX5) (N := 6) hx hb hts inX5 hown hK hP 2 rfl rfl 1 (by decide) fl_18 (fun _ h9 => h9) rfl dX5_readItems_1 ?_
  obtain ⟨y1, qy1, h⟩ := ob_some h
  have hPc : va_P D vwCl [(aF, .inr (1, [.ref aF_slips, .ref aF_lates, .ref aF_copied, .int F_size, .int F_littleOnes]))] s.heap := hP.sub [3] rfl
  have hDc : va_D A [(aF, .inr (1, [.ref aF_slips, .ref aF_lates, .ref aF_copied, .int F_size, .int F_littleOnes]))] := hD.sub [3] (by decide) rfl
  have hFc := va_free (wc := [(aF, .inr (1, [.ref aF_slips, .ref aF_lates, .ref aF_copied, .int F_size, .int F_littleOnes]))]) hD hS hA [3] rfl
  refine va_callv (va_runV (As := []) (rest := []) ⟨hx, hb, hml, hown, hts⟩ (c_X1_forget l D cI cJ cZ cO aF aF_slips aF_lates aF_copied F_size F_littleOnes s.heap.size y1 qy1) (cwV 0 hts gX5_readItems_X1_forget rfl rfl rfl (by decide +kernel) ⟨Nat.le_of_ble_eq_true rfl, Nat.le_of_ble_eq_true rfl⟩) ⟨fb_i, va_recv hK hP (ci := 1) (q0 := 3) rfl rfl, fun U hU hW => ⟨rfl, by rw [hU], by rw [hU]; exact hPc, KK.warm hW hKK, hDc.weaken (fun _ _ _ _ => trivial)⟩⟩ rfl rfl hl.1 rfl (lv_room (Nat.le_of_ble_eq_true rfl)) dX5_readItems_4 ⟨Nat.le_of_ble_eq_true rfl, Nat.le_of_ble_eq_true rfl⟩) hS (fun q _ h => hFc q h) hFc (fun u t H1 locs ht hvm hw hB hz1 hk1 hS => ?_)
  obtain ⟨hP1, hD1⟩ := hB
  rw [ht] at hP1
  obtain ⟨hP, hD⟩ := va_join (wr := [(aX, .inr (8, [.ref aX_bytes, .int X_length])), (aX_bytes, .inl (cI, 200, .inl X_bytes)), (aD, .inr (5, [.ref aX, .ref aF, .int D_token, .int D_start, .int D_end, .int D_value])), (aF_slips, .inl (cI, 6, .inl F_slips)), (aF_lates, .inl (cI, 6, .inl F_lates)), (aF_copied, .inl (cI, 6, .inl F_copied))]) (w1 := [(aF, .inr (1, [.ref aF_slips, .ref aF_lates, .ref aF_copied, .int y1.1, .int y1.2]))]) hP hD [3] [0, 1, 2, 4, 5, 6] rfl rfl (by decide) (by decide) hk1 hFc hP1 hD1
  generalize H1 = H at hP hS ⊢
  have hP : va_P D vwCl [(aX, .inr (8, [.ref aX_bytes, .int X_length])), (aX_bytes, .inl (cI, 200, .inl X_bytes)), (aD, .inr (5, [.ref aX, .ref aF, .int D_token, .int D_start, .int D_end, .int D_value])), (aF, .inr (1, [.ref aF_slips, .ref aF_lates, .ref aF_copied, .int y1.1, .int y1.2])), (aF_slips, .inl (cI, 6, .inl F_slips)), (aF_lates, .inl (cI, 6, .inl F_lates)), (aF_copied, .inl (cI, 6, .inl F_copied))] H := hP.sub [0, 1, 2, 6, 3, 4, 5] rfl
  have hD : va_D A [(aX, .inr (8, [.ref aX_bytes, .int X_length])), (aX_bytes, .inl (cI, 200, .inl X_bytes)), (aD, .inr (5, [.ref aX, .ref aF, .int D_token, .int D_start, .int D_end, .int D_value])), (aF, .inr (1, [.ref aF_slips, .ref aF_lates, .ref aF_copied, .int y1.1, .int y1.2])), (aF_slips, .inl (cI, 6, .inl F_slips)), (aF_lates, .inl (cI, 6, .inl F_lates)), (aF_copied, .inl (cI, 6, .inl F_copied))] := hD.sub [0, 1, 2, 6, 3, 4, 5] (by decide) rfl
  refine lv_aload_n hx hb dX5_readItems_7 rfl (lv_at hl 0 rfl) ?_
  refine lv_iconst (v := (0 : Int32)) hx hb dX5_readItems_8 (by decide) ?_
  refine va_put (D := D) (ci := 5) (v := .int (0 : Int32)) (ty := .int) (C := RX5) (T := TX5) (N := 6) hx hb hts inX5 tyX5 tyX5_ok nmX5 hown hK hP hD hS 2 rfl rfl 4 (by decide) fl_25 (fun _ h9 => h9) rfl (by decide +kernel) rfl rfl (Nat.le_of_ble_eq_true rfl) dX5_readItems_9 (fun H locs hP hD hS => ?_)
  have hP : va_P D vwCl [(aX, .inr (8, [.ref aX_bytes, .int X_length])), (aX_bytes, .inl (cI, 200, .inl X_bytes)), (aD, .inr (5, [.ref aX, .ref aF, .int D_token, .int D_start, .int (0 : Int32), .int D_value])), (aF, .inr (1, [.ref aF_slips, .ref aF_lates, .ref aF_copied, .int y1.1, .int y1.2])), (aF_slips, .inl (cI, 6, .inl F_slips)), (aF_lates, .inl (cI, 6, .inl F_lates)), (aF_copied, .inl (cI, 6, .inl F_copied))] H := hP
  have hD : va_D A [(aX, .inr (8, [.ref aX_bytes, .int X_length])), (aX_bytes, .inl (cI, 200, .inl X_bytes)), (aD, .inr (5, [.ref aX, .ref aF, .int D_token, .int D_start, .int (0 : Int32), .int D_value])), (aF, .inr (1, [.ref aF_slips, .ref aF_lates, .ref aF_copied, .int y1.1, .int y1.2])), (aF_slips, .inl (cI, 6, .inl F_slips)), (aF_lates, .inl (cI, 6, .inl F_lates)), (aF_copied, .inl (cI, 6, .inl F_copied))] := hD
  refine lv_aload_n hx hb dX5_readItems_12 rfl (lv_at hl 0 rfl) ?_
  obtain ⟨y2, qy2, h⟩ := ob_some h
  have hPc : va_P D vwCl [(aX, .inr (8, [.ref aX_bytes, .int X_length])), (aX_bytes, .inl (cI, 200, .inl X_bytes)), (aD, .inr (5, [.ref aX, .ref aF, .int D_token, .int D_start, .int (0 : Int32), .int D_value]))] H := hP.sub [0, 1, 2] rfl
  have hDc : va_D A [(aX, .inr (8, [.ref aX_bytes, .int X_length])), (aX_bytes, .inl (cI, 200, .inl X_bytes)), (aD, .inr (5, [.ref aX, .ref aF, .int D_token, .int D_start, .int (0 : Int32), .int D_value]))] := hD.sub [0, 1, 2] (by decide) rfl
  have hFc := va_free (wc := [(aX, .inr (8, [.ref aX_bytes, .int X_length])), (aX_bytes, .inl (cI, 200, .inl X_bytes)), (aD, .inr (5, [.ref aX, .ref aF, .int D_token, .int D_start, .int (0 : Int32), .int D_value]))]) hD hS hA [0, 1, 2] rfl
  refine va_callv (va_runV (As := []) (rest := []) ⟨hx, hb, hml, hown, hts⟩ (c_X5_advance l D cI cJ cZ cO adK adV aX aX_bytes aD aF X_length X_bytes D_token D_start (0 : Int32) D_value H.size y2 qy2) (cwV 0 hts gX5_readItems_X5_advance rfl rfl rfl (by decide +kernel) ⟨Nat.le_of_ble_eq_true rfl, Nat.le_of_ble_eq_true rfl⟩) ⟨fb_is, va_recv hK hP (ci := 5) (q0 := 2) rfl rfl, fun U hU hW => ⟨rfl, by rw [hU], by rw [hU]; exact hPc, KK.warm hW hKK, hDc.weaken (fun _ _ _ _ => trivial), SA.at hU hW ((hSA.kept hS.2.1).narrow hFc)⟩⟩ rfl rfl hl.1 rfl (lv_room (Nat.le_of_ble_eq_true rfl)) dX5_readItems_13 ⟨Nat.le_of_ble_eq_true rfl, Nat.le_of_ble_eq_true rfl⟩) hS (fun q _ h => hFc q h) hFc (fun u t H1 locs ht hvm hw hB hz1 hk1 hS => ?_)
  obtain ⟨hP1, hD1⟩ := hB
  rw [ht] at hP1
  obtain ⟨hP, hD⟩ := va_join (wr := [(aF, .inr (1, [.ref aF_slips, .ref aF_lates, .ref aF_copied, .int y1.1, .int y1.2])), (aF_slips, .inl (cI, 6, .inl F_slips)), (aF_lates, .inl (cI, 6, .inl F_lates)), (aF_copied, .inl (cI, 6, .inl F_copied))]) (w1 := [(aX, .inr (8, [.ref aX_bytes, .int X_length])), (aX_bytes, .inl (cI, 200, .inl X_bytes)), (aD, .inr (5, [.ref aX, .ref aF, .int y2.1, .int y2.2.1, .int y2.2.2.1, .int y2.2.2.2]))]) hP hD [0, 1, 2] [3, 4, 5, 6] rfl rfl (by decide) (by decide) hk1 hFc hP1 hD1
  generalize H1 = H at hP hS ⊢
  have hP : va_P D vwCl [(aX, .inr (8, [.ref aX_bytes, .int X_length])), (aX_bytes, .inl (cI, 200, .inl X_bytes)), (aD, .inr (5, [.ref aX, .ref aF, .int y2.1, .int y2.2.1, .int y2.2.2.1, .int y2.2.2.2])), (aF, .inr (1, [.ref aF_slips, .ref aF_lates, .ref aF_copied, .int y1.1, .int y1.2])), (aF_slips, .inl (cI, 6, .inl F_slips)), (aF_lates, .inl (cI, 6, .inl F_lates)), (aF_copied, .inl (cI, 6, .inl F_copied))] H := hP.sub [4, 5, 6, 0, 1, 2, 3] rfl
  have hD : va_D A [(aX, .inr (8, [.ref aX_bytes, .int X_length])), (aX_bytes, .inl (cI, 200, .inl X_bytes)), (aD, .inr (5, [.ref aX, .ref aF, .int y2.1, .int y2.2.1, .int y2.2.2.1, .int y2.2.2.2])), (aF, .inr (1, [.ref aF_slips, .ref aF_lates, .ref aF_copied, .int y1.1, .int y1.2])), (aF_slips, .inl (cI, 6, .inl F_slips)), (aF_lates, .inl (cI, 6, .inl F_lates)), (aF_copied, .inl (cI, 6, .inl F_copied))] := hD.sub [4, 5, 6, 0, 1, 2, 3] (by decide) rfl
  refine lv_iconst (v := (0 : Int32)) hx hb dX5_readItems_16 (by decide) ?_
  refine lv_istore_n (lv' := [(1, .int (0 : Int32)), (0, .ref aD)]) hx hb dX5_readItems_17 rfl hl (by decide) rfl (fun ls hl => ?_)
  exact L18 300 y2.1 y2.2.1 y2.2.2.1 y2.2.2.2 y1.1 y1.2 F_slips F_lates F_copied (0 : Int32) _ _ hP hD hS ls (lv_sub hl [1, 0] rfl) h
