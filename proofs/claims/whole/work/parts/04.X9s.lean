def f_X9_isOrder (p0 : Int32) : Int32 := (if p0 < (1 : Int32) then (0 : Int32) else (if (4 : Int32) < p0 then (0 : Int32) else (1 : Int32)))
set_option maxHeartbeats 8000000 in
set_option maxRecDepth 100000 in
theorem c_X9_isOrder (l : Launch) (D : va_G) (cI cJ cZ cO : ClassId)   (p0 : Int32)  (y0 : Int32) (h : f_X9_isOrder p0 = y0) : Met l yX9_isOrder wsX9_isOrder ({ frames := 0, cells := 0, slots := 0, locals := 0 } : Room) (va_Pc [.int p0] (fun U => va_P D vwCl [] U.heap ∧ KK D cI cJ cZ cO U)) (vp_Si (fun r => r = y0 ∧ zo r)) 0 0 (fun _ => False) := by
  refine Met.ofW (cc := cX9_isOrder) (maxL := 1) (ret := (some .boolean)) (by decide) rfl ?_
  intro p e s m args below meth c s₁ B hml hv
  obtain ⟨rfl, hP, hKK⟩ := hv
  have hx := B.exec
  have hb := B.bytes
  have hr := B.returns
  have hts := atoms_spec (ws := wsX9_isOrder) B.pre
  have hown : s.vm.findClass RX9 = some m.cls := findClass_of_methodNamed B.named
  have hlocks := B.notSynchronized
  have hK := hKK.1
  have hl := lv_entry ([.int p0]) (n := 1) (Nat.le_of_ble_eq_true rfl)
  rw [lg_entry_eq]
  generalize (lg_sl ([.int p0]) ++ List.replicate (1 - (lg_sl ([.int p0])).length) Slot.unset).toArray = ls at hl ⊢
  have hl : lv_has ls 1 [(0, .int p0)] := hl
  unfold f_X9_isOrder at h
  refine lv_iload_n hx hb dX9_isOrder_0 rfl (lv_at hl 0 rfl) ?_
  refine lv_iconst (v := (1 : Int32)) hx hb dX9_isOrder_1 (by decide) ?_
  refine lv_icmp_lt (tgt := 14) hx hb dX9_isOrder_2 (by decide) (fun c_1 => ?_) (fun c_1 => ?_)
  · replace h := if_p c_1 h
    refine lv_iconst (v := (0 : Int32)) hx hb dX9_isOrder_14 (by decide) ?_
    exact pr_z hx hb hr hlocks dX9_isOrder_15 h (by decide)
  · replace h := if_n c_1 h
    refine lv_iload_n hx hb dX9_isOrder_5 rfl (lv_at hl 0 rfl) ?_
    refine lv_iconst (v := (4 : Int32)) hx hb dX9_isOrder_6 (by decide) ?_
    refine lv_icmp_gt (tgt := 14) hx hb dX9_isOrder_7 (by decide) (fun c_2 => ?_) (fun c_2 => ?_)
    · replace h := if_p c_2 h
      refine lv_iconst (v := (0 : Int32)) hx hb dX9_isOrder_14 (by decide) ?_
      exact pr_z hx hb hr hlocks dX9_isOrder_15 h (by decide)
    · replace h := if_n c_2 h
      refine lv_iconst (v := (1 : Int32)) hx hb dX9_isOrder_10 (by decide) ?_
      refine lv_goto (tgt := 15) hx hb dX9_isOrder_11 (by decide) ?_
      exact pr_z hx hb hr hlocks dX9_isOrder_15 h (by decide)

def f_X9_isImage (p0 : Int32) : Int32 := (if p0 < 0 then (0 : Int32) else (if (2 : Int32) ≤ p0 then (0 : Int32) else (1 : Int32)))
set_option maxHeartbeats 8000000 in
set_option maxRecDepth 100000 in
theorem c_X9_isImage (l : Launch) (D : va_G) (cI cJ cZ cO : ClassId)   (p0 : Int32)  (y0 : Int32) (h : f_X9_isImage p0 = y0) : Met l yX9_isImage wsX9_isImage ({ frames := 0, cells := 0, slots := 0, locals := 0 } : Room) (va_Pc [.int p0] (fun U => va_P D vwCl [] U.heap ∧ KK D cI cJ cZ cO U)) (vp_Si (fun r => r = y0 ∧ zo r)) 0 0 (fun _ => False) := by
  refine Met.ofW (cc := cX9_isImage) (maxL := 1) (ret := (some .boolean)) (by decide) rfl ?_
  intro p e s m args below meth c s₁ B hml hv
  obtain ⟨rfl, hP, hKK⟩ := hv
  have hx := B.exec
  have hb := B.bytes
  have hr := B.returns
  have hts := atoms_spec (ws := wsX9_isImage) B.pre
  have hown : s.vm.findClass RX9 = some m.cls := findClass_of_methodNamed B.named
  have hlocks := B.notSynchronized
  have hK := hKK.1
  have hl := lv_entry ([.int p0]) (n := 1) (Nat.le_of_ble_eq_true rfl)
  rw [lg_entry_eq]
  generalize (lg_sl ([.int p0]) ++ List.replicate (1 - (lg_sl ([.int p0])).length) Slot.unset).toArray = ls at hl ⊢
  have hl : lv_has ls 1 [(0, .int p0)] := hl
  unfold f_X9_isImage at h
  refine lv_iload_n hx hb dX9_isImage_0 rfl (lv_at hl 0 rfl) ?_
  refine lv_if_lt (tgt := 13) hx hb dX9_isImage_1 (by decide) (fun c_1 => ?_) (fun c_1 => ?_)
  · replace h := if_p c_1 h
    refine lv_iconst (v := (0 : Int32)) hx hb dX9_isImage_13 (by decide) ?_
    exact pr_z hx hb hr hlocks dX9_isImage_14 h (by decide)
  · replace h := if_n c_1 h
    refine lv_iload_n hx hb dX9_isImage_4 rfl (lv_at hl 0 rfl) ?_
    refine lv_iconst (v := (2 : Int32)) hx hb dX9_isImage_5 (by decide) ?_
    refine lv_icmp_ge (tgt := 13) hx hb dX9_isImage_6 (by decide) (fun c_2 => ?_) (fun c_2 => ?_)
    · replace h := if_p c_2 h
      refine lv_iconst (v := (0 : Int32)) hx hb dX9_isImage_13 (by decide) ?_
      exact pr_z hx hb hr hlocks dX9_isImage_14 h (by decide)
    · replace h := if_n c_2 h
      refine lv_iconst (v := (1 : Int32)) hx hb dX9_isImage_9 (by decide) ?_
      refine lv_goto (tgt := 14) hx hb dX9_isImage_10 (by decide) ?_
      exact pr_z hx hb hr hlocks dX9_isImage_14 h (by decide)

def f_X9_isHalf (p0 : Int32) : Int32 := (if p0 = 0 then (1 : Int32) else (if p0 = (1 : Int32) then (1 : Int32) else (0 : Int32)))
set_option maxHeartbeats 8000000 in
set_option maxRecDepth 100000 in
theorem c_X9_isHalf (l : Launch) (D : va_G) (cI cJ cZ cO : ClassId)   (p0 : Int32)  (y0 : Int32) (h : f_X9_isHalf p0 = y0) : Met l yX9_isHalf wsX9_isHalf ({ frames := 0, cells := 0, slots := 0, locals := 0 } : Room) (va_Pc [.int p0] (fun U => va_P D vwCl [] U.heap ∧ KK D cI cJ cZ cO U)) (vp_Si (fun r => r = y0 ∧ zo r)) 0 0 (fun _ => False) := by
  refine Met.ofW (cc := cX9_isHalf) (maxL := 1) (ret := (some .boolean)) (by decide) rfl ?_
  intro p e s m args below meth c s₁ B hml hv
  obtain ⟨rfl, hP, hKK⟩ := hv
  have hx := B.exec
  have hb := B.bytes
  have hr := B.returns
  have hts := atoms_spec (ws := wsX9_isHalf) B.pre
  have hown : s.vm.findClass RX9 = some m.cls := findClass_of_methodNamed B.named
  have hlocks := B.notSynchronized
  have hK := hKK.1
  have hl := lv_entry ([.int p0]) (n := 1) (Nat.le_of_ble_eq_true rfl)
  rw [lg_entry_eq]
  generalize (lg_sl ([.int p0]) ++ List.replicate (1 - (lg_sl ([.int p0])).length) Slot.unset).toArray = ls at hl ⊢
  have hl : lv_has ls 1 [(0, .int p0)] := hl
  unfold f_X9_isHalf at h
  refine lv_iload_n hx hb dX9_isHalf_0 rfl (lv_at hl 0 rfl) ?_
  refine lv_if_eq (tgt := 9) hx hb dX9_isHalf_1 (by decide) (fun c_1 => ?_) (fun c_1 => ?_)
  · replace h := if_p c_1 h
    refine lv_iconst (v := (1 : Int32)) hx hb dX9_isHalf_9 (by decide) ?_
    refine lv_goto (tgt := 14) hx hb dX9_isHalf_10 (by decide) ?_
    exact pr_z hx hb hr hlocks dX9_isHalf_14 h (by decide)
  · replace h := if_n c_1 h
    refine lv_iload_n hx hb dX9_isHalf_4 rfl (lv_at hl 0 rfl) ?_
    refine lv_iconst (v := (1 : Int32)) hx hb dX9_isHalf_5 (by decide) ?_
    refine lv_icmp_ne (tgt := 13) hx hb dX9_isHalf_6 (by decide) (fun c_2 => ?_) (fun c_2 => ?_)
    · replace h := if_n c_2 h
      refine lv_iconst (v := (0 : Int32)) hx hb dX9_isHalf_13 (by decide) ?_
      exact pr_z hx hb hr hlocks dX9_isHalf_14 h (by decide)
    · replace h := if_p c_2 h
      refine lv_iconst (v := (1 : Int32)) hx hb dX9_isHalf_9 (by decide) ?_
      refine lv_goto (tgt := 14) hx hb dX9_isHalf_10 (by decide) ?_
      exact pr_z hx hb hr hlocks dX9_isHalf_14 h (by decide)

def f_X9_streakBehind_L10 (x1 : Int32) : Int32 := (if (x1 + (1 : Int32)) < (9 : Int32) then (x1 + (1 : Int32)) else (9 : Int32))
def f_X9_streakBehind (p0 : Int32) (p1 : Int32) : Int32 := (if p0 = (1 : Int32) then f_X9_streakBehind_L10 p1 else (if p0 = (4 : Int32) then f_X9_streakBehind_L10 p1 else (0 : Int32)))
set_option maxHeartbeats 8000000 in
set_option maxRecDepth 100000 in
theorem c_X9_streakBehind (l : Launch) (D : va_G) (cI cJ cZ cO : ClassId)   (p0 : Int32) (p1 : Int32)  (y0 : Int32) (h : f_X9_streakBehind p0 p1 = y0) : Met l yX9_streakBehind wsX9_streakBehind ({ frames := 1, cells := 0, slots := 0, locals := 24 } : Room) (va_Pc [.int p0, .int p1] (fun U => va_P D vwCl [] U.heap ∧ KK D cI cJ cZ cO U)) (vp_Si (fun r => r = y0)) 0 0 (fun _ => False) := by
  refine Met.ofW (cc := cX9_streakBehind) (maxL := 2) (ret := (some .int)) (by decide) rfl ?_
  intro p e s m args below meth c s₁ B hml hv
  obtain ⟨rfl, hP, hKK⟩ := hv
  have hx := B.exec
  have hb := B.bytes
  have hr := B.returns
  have hts := atoms_spec (ws := wsX9_streakBehind) B.pre
  have hown : s.vm.findClass RX9 = some m.cls := findClass_of_methodNamed B.named
  have hlocks := B.notSynchronized
  have hK := hKK.1
  have comin := hts (.code Lib.Math.min.name Lib.Math.min.code 2 (some .int)) (by decide +kernel)
  have inmin := hts (.initialized "java/lang/Math") (by decide +kernel)
  have mlmin265 := hts (.methodLink RX9 265 Lib.Math.min.name) (by decide +kernel)
  have stmin := hts (.static Lib.Math.min.name) (by decide +kernel)
  have hl := lv_entry ([.int p0, .int p1]) (n := 2) (Nat.le_of_ble_eq_true rfl)
  rw [lg_entry_eq]
  generalize (lg_sl ([.int p0, .int p1]) ++ List.replicate (2 - (lg_sl ([.int p0, .int p1])).length) Slot.unset).toArray = ls at hl ⊢
  have hl : lv_has ls 2 [(0, .int p0), (1, .int p1)] := hl
  have L10 : ∀ (x1 : Int32), ∀ (ls : Array Slot), lv_has ls 2 [(1, .int x1)] → f_X9_streakBehind_L10 x1 = y0 → W p l e (headSpec wsX9_streakBehind ({ frames := 1, cells := 0, slots := 0, locals := 24 } : Room)).room s m ([.int p0, .int p1] : List Value).toArray below meth c s.heap [] 0 0 (MQ below (vp_Si (fun r => r = y0)) ([.int p0, .int p1] : List Value).toArray s 0 0 (fun _ => False)) (F0 m 10 ls []) := by
    intro x1 ls hl h
    unfold f_X9_streakBehind_L10 at h
    refine lv_bipush (v := (9 : Int32)) hx hb dX9_streakBehind_10 (by decide) ?_
    refine lv_iload_n hx hb dX9_streakBehind_12 rfl (lv_at hl 0 rfl) ?_
    refine lv_iconst (v := (1 : Int32)) hx hb dX9_streakBehind_13 (by decide) ?_
    refine lv_iadd hx hb dX9_streakBehind_14 ?_
    refine va_mmin hx hb (hml.trans hl.1.symm) hown mlmin265 stmin inmin comin (Nat.le_of_ble_eq_true rfl) (Nat.le_of_ble_eq_true rfl) (Nat.le_of_ble_eq_true rfl) (Nat.le_of_ble_eq_true rfl) dX9_streakBehind_15 ?_
    refine lv_goto (tgt := 22) hx hb dX9_streakBehind_18 (by decide) ?_
    exact pr_i hx hb hr hlocks dX9_streakBehind_22 h
  unfold f_X9_streakBehind at h
  refine lv_iload_n hx hb dX9_streakBehind_0 rfl (lv_at hl 0 rfl) ?_
  refine lv_iconst (v := (1 : Int32)) hx hb dX9_streakBehind_1 (by decide) ?_
  refine lv_icmp_eq (tgt := 10) hx hb dX9_streakBehind_2 (by decide) (fun c_1 => ?_) (fun c_1 => ?_)
  · replace h := if_p c_1 h
    exact L10 p1 ls (lv_sub hl [1] rfl) h
  · replace h := if_n c_1 h
    refine lv_iload_n hx hb dX9_streakBehind_5 rfl (lv_at hl 0 rfl) ?_
    refine lv_iconst (v := (4 : Int32)) hx hb dX9_streakBehind_6 (by decide) ?_
    refine lv_icmp_ne (tgt := 21) hx hb dX9_streakBehind_7 (by decide) (fun c_2 => ?_) (fun c_2 => ?_)
    · replace h := if_n c_2 h
      refine lv_iconst (v := (0 : Int32)) hx hb dX9_streakBehind_21 (by decide) ?_
      exact pr_i hx hb hr hlocks dX9_streakBehind_22 h
    · replace h := if_p c_2 h
      exact L10 p1 ls (lv_sub hl [1] rfl) h

def f_X9_powerOfTen_L4  : Nat → Int32 → Int64 → Int32 → Option (Int64)
  | 0, _, _, _ => none
  | n + 1, x0, x1, x3 => (if x0 ≤ x3 then some x1 else f_X9_powerOfTen_L4 n x0 (x1 * (10 : Int64)) (x3 + (1 : Int32)))
def f_X9_powerOfTen (p0 : Int32) : Option (Int64) := f_X9_powerOfTen_L4 300 p0 (1 : Int64) (0 : Int32)
set_option maxHeartbeats 8000000 in
set_option maxRecDepth 100000 in
theorem c_X9_powerOfTen (l : Launch) (D : va_G) (cI cJ cZ cO : ClassId)   (p0 : Int32)  (y0 : Int64) (h : f_X9_powerOfTen p0 = some y0) : Met l yX9_powerOfTen wsX9_powerOfTen ({ frames := 0, cells := 0, slots := 0, locals := 0 } : Room) (va_Pc [.int p0] (fun U => va_P D vwCl [] U.heap ∧ KK D cI cJ cZ cO U)) (vp_Sl (fun r => r = y0)) 0 0 (fun _ => False) := by
  refine Met.ofW (cc := cX9_powerOfTen) (maxL := 4) (ret := (some .long)) (by decide) rfl ?_
  intro p e s m args below meth c s₁ B hml hv
  obtain ⟨rfl, hP, hKK⟩ := hv
  have hx := B.exec
  have hb := B.bytes
  have hr := B.returns
  have hts := atoms_spec (ws := wsX9_powerOfTen) B.pre
  have hown : s.vm.findClass RX9 = some m.cls := findClass_of_methodNamed B.named
  have hlocks := B.notSynchronized
  have hK := hKK.1
  have cst_270 := hts (.constantLong RX9 270 (10)) (by decide +kernel)
  have hl := lv_entry ([.int p0]) (n := 4) (Nat.le_of_ble_eq_true rfl)
  rw [lg_entry_eq]
  generalize (lg_sl ([.int p0]) ++ List.replicate (4 - (lg_sl ([.int p0])).length) Slot.unset).toArray = ls at hl ⊢
  have hl : lv_has ls 4 [(0, .int p0)] := hl
  have L4 : ∀ (n : Nat), ∀ (x0 : Int32) (x1 : Int64) (x3 : Int32), ∀ (ls : Array Slot), lv_has ls 4 [(0, .int x0), (1, .long x1), (3, .int x3)] → f_X9_powerOfTen_L4 n x0 x1 x3 = some y0 → W p l e (headSpec wsX9_powerOfTen ({ frames := 0, cells := 0, slots := 0, locals := 0 } : Room)).room s m ([.int p0] : List Value).toArray below meth c s.heap [] 0 0 (MQ below (vp_Sl (fun r => r = y0)) ([.int p0] : List Value).toArray s 0 0 (fun _ => False)) (F0 m 4 ls []) := by
    intro n
    induction n with
    | zero =>
      intro x0 x1 x3 ls hl h
      exact (ns h).elim
    | succ n ih =>
      intro x0 x1 x3 ls hl h
      unfold f_X9_powerOfTen_L4 at h
      refine lv_iload_n hx hb dX9_powerOfTen_4 rfl (lv_at hl 2 rfl) ?_
      refine lv_iload_n hx hb dX9_powerOfTen_5 rfl (lv_at hl 0 rfl) ?_
      refine lv_icmp_ge (tgt := 21) hx hb dX9_powerOfTen_6 (by decide) (fun c_1 => ?_) (fun c_1 => ?_)
      · replace h := if_p c_1 h
        refine lv_lload_n hx hb dX9_powerOfTen_21 rfl (lv_at hl 1 rfl) ?_
        exact pr_l hx hb hr hlocks dX9_powerOfTen_22 (Option.some.inj h)
      · replace h := if_n c_1 h
        refine lv_lload_n hx hb dX9_powerOfTen_9 rfl (lv_at hl 1 rfl) ?_
        refine lv_ldc2 (v := (10 : Int64)) hx hb hown cst_270 dX9_powerOfTen_10 ?_
        refine lv_lmul hx hb dX9_powerOfTen_13 ?_
        refine lv_lstore_n (lv' := [(1, .long (x1 * (10 : Int64))), (0, .int x0), (3, .int x3)]) hx hb dX9_powerOfTen_14 rfl hl (by decide) rfl (fun ls hl => ?_)
        refine lv_iinc (v := (x3 + (1 : Int32))) (lv' := [(3, .int (x3 + (1 : Int32))), (1, .long (x1 * (10 : Int64))), (0, .int x0)]) hx hb dX9_powerOfTen_15 hl (k := 2) rfl rfl (by decide) rfl (fun ls hl => ?_)
        refine lv_goto (tgt := 4) hx hb dX9_powerOfTen_18 (by decide) ?_
        exact ih x0 (x1 * (10 : Int64)) (x3 + (1 : Int32)) ls (lv_sub hl [2, 1, 0] rfl) h
  unfold f_X9_powerOfTen at h
  refine lv_lconst (v := (1 : Int64)) hx hb dX9_powerOfTen_0 (by decide) ?_
  refine lv_lstore_n (lv' := [(1, .long (1 : Int64)), (0, .int p0)]) hx hb dX9_powerOfTen_1 rfl hl (by decide) rfl (fun ls hl => ?_)
  refine lv_iconst (v := (0 : Int32)) hx hb dX9_powerOfTen_2 (by decide) ?_
  refine lv_istore_n (lv' := [(3, .int (0 : Int32)), (1, .long (1 : Int64)), (0, .int p0)]) hx hb dX9_powerOfTen_3 rfl hl (by decide) rfl (fun ls hl => ?_)
  exact L4 300 p0 (1 : Int64) (0 : Int32) ls (lv_sub hl [2, 1, 0] rfl) h

def f_X9_greatestDivisor_L9  : Nat → Int64 → Int64 → Int32 → Option (Int64)
  | 0, _, _, _ => none
  | n + 1, x4, x6, x8 => (if (200 : Int32) ≤ x8 then some x4 else (if (lg_cmp x6 (0 : Int64)) = 0 then some x4 else (if x6 = 0 then none else f_X9_greatestDivisor_L9 n x6 (x4 - x4 / x6 * x6) (x8 + (1 : Int32)))))
def f_X9_greatestDivisor (p0 : Int64) (p2 : Int64) : Option (Int64) := f_X9_greatestDivisor_L9 300 p0 p2 (0 : Int32)
set_option maxHeartbeats 8000000 in
set_option maxRecDepth 100000 in
theorem c_X9_greatestDivisor (l : Launch) (D : va_G) (cI cJ cZ cO : ClassId)   (p0 : Int64) (p2 : Int64)  (y0 : Int64) (h : f_X9_greatestDivisor p0 p2 = some y0) : Met l yX9_greatestDivisor wsX9_greatestDivisor ({ frames := 0, cells := 0, slots := 0, locals := 0 } : Room) (va_Pc [.long p0, .long p2] (fun U => va_P D vwCl [] U.heap ∧ KK D cI cJ cZ cO U)) (vp_Sl (fun r => r = y0)) 0 0 (fun _ => False) := by
  refine Met.ofW (cc := cX9_greatestDivisor) (maxL := 11) (ret := (some .long)) (by decide) rfl ?_
  intro p e s m args below meth c s₁ B hml hv
  obtain ⟨rfl, hP, hKK⟩ := hv
  have hx := B.exec
  have hb := B.bytes
  have hr := B.returns
  have hts := atoms_spec (ws := wsX9_greatestDivisor) B.pre
  have hown : s.vm.findClass RX9 = some m.cls := findClass_of_methodNamed B.named
  have hlocks := B.notSynchronized
  have hK := hKK.1
  have hl := lv_entry ([.long p0, .long p2]) (n := 11) (Nat.le_of_ble_eq_true rfl)
  rw [lg_entry_eq]
  generalize (lg_sl ([.long p0, .long p2]) ++ List.replicate (11 - (lg_sl ([.long p0, .long p2])).length) Slot.unset).toArray = ls at hl ⊢
  have hl : lv_has ls 11 [(0, .long p0), (2, .long p2)] := hl
  have L9 : ∀ (n : Nat), ∀ (x4 : Int64) (x6 : Int64) (x8 : Int32), ∀ (ls : Array Slot), lv_has ls 11 [(4, .long x4), (6, .long x6), (8, .int x8)] → f_X9_greatestDivisor_L9 n x4 x6 x8 = some y0 → W p l e (headSpec wsX9_greatestDivisor ({ frames := 0, cells := 0, slots := 0, locals := 0 } : Room)).room s m ([.long p0, .long p2] : List Value).toArray below meth c s.heap [] 0 0 (MQ below (vp_Sl (fun r => r = y0)) ([.long p0, .long p2] : List Value).toArray s 0 0 (fun _ => False)) (F0 m 9 ls []) := by
    intro n
    induction n with
    | zero =>
      intro x4 x6 x8 ls hl h
      exact (ns h).elim
    | succ n ih =>
      intro x4 x6 x8 ls hl h
      unfold f_X9_greatestDivisor_L9 at h
      refine lv_iload hx hb dX9_greatestDivisor_9 (lv_at hl 2 rfl) ?_
      refine lv_sipush (v := (200 : Int32)) hx hb dX9_greatestDivisor_11 (by decide) ?_
      refine lv_icmp_ge (tgt := 45) hx hb dX9_greatestDivisor_14 (by decide) (fun c_1 => ?_) (fun c_1 => ?_)
      · replace h := if_p c_1 h
        refine lv_lload hx hb dX9_greatestDivisor_45 (lv_at hl 0 rfl) ?_
        exact pr_l hx hb hr hlocks dX9_greatestDivisor_47 (Option.some.inj h)
      · replace h := if_n c_1 h
        refine lv_lload hx hb dX9_greatestDivisor_17 (lv_at hl 1 rfl) ?_
        refine lv_lconst (v := (0 : Int64)) hx hb dX9_greatestDivisor_19 (by decide) ?_
        refine W.lcmp hx hb dX9_greatestDivisor_20 ?_
        refine lv_if_eq (tgt := 45) hx hb dX9_greatestDivisor_21 (by decide) (fun c_2 => ?_) (fun c_2 => ?_)
        · replace h := if_p c_2 h
          refine lv_lload hx hb dX9_greatestDivisor_45 (lv_at hl 0 rfl) ?_
          exact pr_l hx hb hr hlocks dX9_greatestDivisor_47 (Option.some.inj h)
        · replace h := if_n c_2 h
          refine lv_lload hx hb dX9_greatestDivisor_24 (lv_at hl 0 rfl) ?_
          refine lv_lload hx hb dX9_greatestDivisor_26 (lv_at hl 1 rfl) ?_
          obtain ⟨hn3, h⟩ := gd_nzl h
          refine lv_lrem hx hb dX9_greatestDivisor_28 hn3 ?_
          refine lv_lstore (lv' := [(9, .long (x4 - x4 / x6 * x6)), (4, .long x4), (6, .long x6), (8, .int x8)]) hx hb dX9_greatestDivisor_29 hl (by decide) rfl (fun ls hl => ?_)
          refine lv_lload hx hb dX9_greatestDivisor_31 (lv_at hl 2 rfl) ?_
          refine lv_lstore (lv' := [(4, .long x6), (9, .long (x4 - x4 / x6 * x6)), (6, .long x6), (8, .int x8)]) hx hb dX9_greatestDivisor_33 hl (by decide) rfl (fun ls hl => ?_)
          refine lv_lload hx hb dX9_greatestDivisor_35 (lv_at hl 1 rfl) ?_
          refine lv_lstore (lv' := [(6, .long (x4 - x4 / x6 * x6)), (4, .long x6), (9, .long (x4 - x4 / x6 * x6)), (8, .int x8)]) hx hb dX9_greatestDivisor_37 hl (by decide) rfl (fun ls hl => ?_)
          refine lv_iinc (v := (x8 + (1 : Int32))) (lv' := [(8, .int (x8 + (1 : Int32))), (6, .long (x4 - x4 / x6 * x6)), (4, .long x6), (9, .long (x4 - x4 / x6 * x6))]) hx hb dX9_greatestDivisor_39 hl (k := 3) rfl rfl (by decide) rfl (fun ls hl => ?_)
          refine lv_goto (tgt := 9) hx hb dX9_greatestDivisor_42 (by decide) ?_
          exact ih x6 (x4 - x4 / x6 * x6) (x8 + (1 : Int32)) ls (lv_sub hl [2, 1, 0] rfl) h
  unfold f_X9_greatestDivisor at h
  refine lv_lload_n hx hb dX9_greatestDivisor_0 rfl (lv_at hl 0 rfl) ?_
  refine lv_lstore (lv' := [(4, .long p0), (0, .long p0), (2, .long p2)]) hx hb dX9_greatestDivisor_1 hl (by decide) rfl (fun ls hl => ?_)
  refine lv_lload_n hx hb dX9_greatestDivisor_3 rfl (lv_at hl 2 rfl) ?_
  refine lv_lstore (lv' := [(6, .long p2), (4, .long p0), (0, .long p0), (2, .long p2)]) hx hb dX9_greatestDivisor_4 hl (by decide) rfl (fun ls hl => ?_)
  refine lv_iconst (v := (0 : Int32)) hx hb dX9_greatestDivisor_6 (by decide) ?_
  refine lv_istore (lv' := [(8, .int (0 : Int32)), (6, .long p2), (4, .long p0), (0, .long p0), (2, .long p2)]) hx hb dX9_greatestDivisor_7 hl (by decide) rfl (fun ls hl => ?_)
  exact L9 300 p0 p2 (0 : Int32) ls (lv_sub hl [2, 1, 0] rfl) h

def f_X9_leastTerms_L17 (t0 : Int64) (x5 : Int64) : Option (Int64) := (if (lg_cmp x5 (1 : Int64)) ≤ 0 then some t0 else (if x5 = 0 then none else some (t0 / x5)))
def f_X9_leastTerms (p0 : Int64) (p2 : Int64) (p4 : Int32) : Option (Int64) := (Option.bind (f_X9_greatestDivisor p0 p2) (fun y1 => (if p4 = 0 then f_X9_leastTerms_L17 p0 y1 else f_X9_leastTerms_L17 p2 y1)))
set_option maxHeartbeats 8000000 in
set_option maxRecDepth 100000 in
theorem c_X9_leastTerms (l : Launch) (D : va_G) (cI cJ cZ cO : ClassId)   (p0 : Int64) (p2 : Int64) (p4 : Int32)  (y0 : Int64) (h : f_X9_leastTerms p0 p2 p4 = some y0) : Met l yX9_leastTerms wsX9_leastTerms ({ frames := 1, cells := 0, slots := 0, locals := 30 } : Room) (va_Pc [.long p0, .long p2, .int p4] (fun U => va_P D vwCl [] U.heap ∧ KK D cI cJ cZ cO U)) (vp_Sl (fun r => r = y0)) 0 0 (fun _ => False) := by
  refine Met.ofW (cc := cX9_leastTerms) (maxL := 9) (ret := (some .long)) (by decide) rfl ?_
  intro p e s m args below meth c s₁ B hml hv
  obtain ⟨rfl, hP, hKK⟩ := hv
  have hx := B.exec
  have hb := B.bytes
  have hr := B.returns
  have hts := atoms_spec (ws := wsX9_leastTerms) B.pre
  have hown : s.vm.findClass RX9 = some m.cls := findClass_of_methodNamed B.named
  have hlocks := B.notSynchronized
  have hK := hKK.1
  have hl := lv_entry ([.long p0, .long p2, .int p4]) (n := 9) (Nat.le_of_ble_eq_true rfl)
  rw [lg_entry_eq]
  generalize (lg_sl ([.long p0, .long p2, .int p4]) ++ List.replicate (9 - (lg_sl ([.long p0, .long p2, .int p4])).length) Slot.unset).toArray = ls at hl ⊢
  have hl : lv_has ls 9 [(0, .long p0), (2, .long p2), (4, .int p4)] := hl
  have L17 : ∀ (t0 : Int64) (x5 : Int64), ∀ (ls : Array Slot), lv_has ls 9 [(5, .long x5)] → f_X9_leastTerms_L17 t0 x5 = some y0 → W p l e (headSpec wsX9_leastTerms ({ frames := 1, cells := 0, slots := 0, locals := 30 } : Room)).room s m ([.long p0, .long p2, .int p4] : List Value).toArray below meth c s.heap [] 0 0 (MQ below (vp_Sl (fun r => r = y0)) ([.long p0, .long p2, .int p4] : List Value).toArray s 0 0 (fun _ => False)) (F0 m 17 ls [.long t0]) := by
    intro t0 x5 ls hl h
    unfold f_X9_leastTerms_L17 at h
    refine lv_lstore (lv' := [(7, .long t0), (5, .long x5)]) hx hb dX9_leastTerms_17 hl (by decide) rfl (fun ls hl => ?_)
    refine lv_lload hx hb dX9_leastTerms_19 (lv_at hl 1 rfl) ?_
    refine lv_lconst (v := (1 : Int64)) hx hb dX9_leastTerms_21 (by decide) ?_
    refine W.lcmp hx hb dX9_leastTerms_22 ?_
    refine lv_if_le (tgt := 34) hx hb dX9_leastTerms_23 (by decide) (fun c_3 => ?_) (fun c_3 => ?_)
    · replace h := if_p c_3 h
      refine lv_lload hx hb dX9_leastTerms_34 (lv_at hl 0 rfl) ?_
      exact pr_l hx hb hr hlocks dX9_leastTerms_36 (Option.some.inj h)
    · replace h := if_n c_3 h
      refine lv_lload hx hb dX9_leastTerms_26 (lv_at hl 0 rfl) ?_
      refine lv_lload hx hb dX9_leastTerms_28 (lv_at hl 1 rfl) ?_
      obtain ⟨hn4, h⟩ := gd_nzl h
      refine lv_ldiv hx hb dX9_leastTerms_30 hn4 ?_
      refine lv_goto (tgt := 36) hx hb dX9_leastTerms_31 (by decide) ?_
      exact pr_l hx hb hr hlocks dX9_leastTerms_36 (Option.some.inj h)
  unfold f_X9_leastTerms at h
  refine lv_lload_n hx hb dX9_leastTerms_0 rfl (lv_at hl 0 rfl) ?_
  refine lv_lload_n hx hb dX9_leastTerms_1 rfl (lv_at hl 1 rfl) ?_
  obtain ⟨y1, qy1, h⟩ := ob_some h
  have hPc : va_P D vwCl [] s.heap := hP.sub [] rfl
  refine vp_callSl (va_Run.run (va_runS (As := [.long p0, .long p2]) (rest := []) ⟨hx, hb, hml, hown, hts⟩ (c_X9_greatestDivisor l D cI cJ cZ cO p0 p2 y1 qy1) (cwS 2 hts gX9_leastTerms_X9_greatestDivisor rfl rfl rfl (by decide +kernel) ⟨Nat.le_of_ble_eq_true rfl, Nat.le_of_ble_eq_true rfl⟩) ⟨fb_p, fun U hU hW => ⟨rfl, by rw [hU]; exact hPc, KK.warm hW hKK⟩⟩ rfl rfl hl.1 rfl (lv_room (Nat.le_of_ble_eq_true rfl)) dX9_leastTerms_2 ⟨Nat.le_of_ble_eq_true rfl, Nat.le_of_ble_eq_true rfl⟩)) (fun r hr => ?_)
  replace hr := hr.symm
  subst hr
  refine lv_lstore (lv' := [(5, .long y1), (0, .long p0), (2, .long p2), (4, .int p4)]) hx hb dX9_leastTerms_5 hl (by decide) rfl (fun ls hl => ?_)
  refine lv_iload hx hb dX9_leastTerms_7 (lv_at hl 3 rfl) ?_
  refine lv_if_ne (tgt := 16) hx hb dX9_leastTerms_9 (by decide) (fun c_2 => ?_) (fun c_2 => ?_)
  · replace h := if_n c_2 h
    refine lv_lload_n hx hb dX9_leastTerms_16 rfl (lv_at hl 2 rfl) ?_
    exact L17 p2 y1 ls (lv_sub hl [0] rfl) h
  · replace h := if_p c_2 h
    refine lv_lload_n hx hb dX9_leastTerms_12 rfl (lv_at hl 1 rfl) ?_
    refine lv_goto (tgt := 17) hx hb dX9_leastTerms_13 (by decide) ?_
    exact L17 p0 y1 ls (lv_sub hl [0] rfl) h
