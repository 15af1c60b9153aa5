def f_X9_type_L36  : Nat → Int32 → (Nat → Int32) → Int64 → Int32 → Option (Int32 × Int32 × (Nat → Int32))
  | 0, _, _, _, _ => none
  | n + 1, X_length, X_bytes, x1, x4 => (if x4 < 0 then some ((f_X8_length X_length), X_length, X_bytes) else (Option.bind (f_X8_append X_length X_bytes ((((x1.toUInt64 >>> (((8 : Int32) * x4).toInt64.toUInt64 &&& Int64.toUInt64 63)).toInt64).toInt32) &&& (255 : Int32))) (fun y5 => f_X9_type_L36 n y5.1 y5.2 x1 (x4 + (-1 : Int32)))))
def f_X9_type (X_length : Int32) (X_bytes : Nat → Int32) (p1 : Int64) (p3 : Int32) : Option (Int32 × Int32 × (Nat → Int32)) := (if p3 < (1 : Int32) then some ((-1 : Int32), X_length, X_bytes) else (if p3 ≤ (8 : Int32) then (if ((f_X8_length X_length) + p3) ≤ (200 : Int32) then f_X9_type_L36 300 X_length X_bytes p1 (p3 - (1 : Int32)) else some ((-3 : Int32), X_length, X_bytes)) else some ((-1 : Int32), X_length, X_bytes)))
set_option maxHeartbeats 8000000 in
set_option maxRecDepth 100000 in
theorem c_X9_type (l : Launch) (D : va_G) (cI cJ cZ cO : ClassId) (aS : Nat) (aX : Nat) (aX_bytes : Nat) (aD : Nat) (aT : Nat) (aR : Nat) (aH : Nat) (aIM : Nat) (aW : Nat) (aC : Nat) (aK : Nat) (X_length : Int32) (X_bytes : Nat → Int32) (sz : Nat) (p1 : Int64) (p3 : Int32)  (y0 : Int32 × Int32 × (Nat → Int32)) (h : f_X9_type X_length X_bytes p1 p3 = some y0) : Met l yX9_type wsX9_type ({ frames := 1, cells := 0, slots := 0, locals := 21 } : Room) (va_Pc [.ref aS, .long p1, .int p3] (fun U => U.heap.size = sz ∧ va_P D vwCl [(aS, .inr (9, [.ref aX, .ref aD, .ref aT, .ref aR, .ref aH, .ref aIM, .ref aW, .ref aC, .ref aK])), (aX, .inr (8, [.ref aX_bytes, .int X_length])), (aX_bytes, .inl (cI, 200, .inl X_bytes))] U.heap ∧ KK D cI cJ cZ cO U ∧ va_D (fun _ => True) [(aS, .inr (9, [.ref aX, .ref aD, .ref aT, .ref aR, .ref aH, .ref aIM, .ref aW, .ref aC, .ref aK])), (aX, .inr (8, [.ref aX_bytes, .int X_length])), (aX_bytes, .inl (cI, 200, .inl X_bytes))])) (va_Qi (fun (r : Int32) (_ : Unit) => r = y0.1) (fun (_ : Unit) t => va_P D vwCl [(aS, .inr (9, [.ref aX, .ref aD, .ref aT, .ref aR, .ref aH, .ref aIM, .ref aW, .ref aC, .ref aK])), (aX, .inr (8, [.ref aX_bytes, .int y0.2.1])), (aX_bytes, .inl (cI, 200, .inl y0.2.2))] t.heap ∧ va_D (va_A [(aS, .inr (9, [.ref aX, .ref aD, .ref aT, .ref aR, .ref aH, .ref aIM, .ref aW, .ref aC, .ref aK])), (aX, .inr (8, [.ref aX_bytes, .int X_length])), (aX_bytes, .inl (cI, 200, .inl X_bytes))] sz) [(aS, .inr (9, [.ref aX, .ref aD, .ref aT, .ref aR, .ref aH, .ref aIM, .ref aW, .ref aC, .ref aK])), (aX, .inr (8, [.ref aX_bytes, .int y0.2.1])), (aX_bytes, .inl (cI, 200, .inl y0.2.2))]) (va_A [(aS, .inr (9, [.ref aX, .ref aD, .ref aT, .ref aR, .ref aH, .ref aIM, .ref aW, .ref aC, .ref aK])), (aX, .inr (8, [.ref aX_bytes, .int X_length])), (aX_bytes, .inl (cI, 200, .inl X_bytes))] sz)) 0 0 (va_A [(aS, .inr (9, [.ref aX, .ref aD, .ref aT, .ref aR, .ref aH, .ref aIM, .ref aW, .ref aC, .ref aK])), (aX, .inr (8, [.ref aX_bytes, .int X_length])), (aX_bytes, .inl (cI, 200, .inl X_bytes))] sz) := by
  refine Met.ofW (cc := cX9_type) (maxL := 5) (ret := (some .int)) (by decide) rfl ?_
  intro p e s m args below meth c s₁ B hml hv
  obtain ⟨rfl, hsz, hP, hKK, hD0⟩ := hv
  have hx := B.exec
  have hb := B.bytes
  have hr := B.returns
  have hts := atoms_spec (ws := wsX9_type) B.pre
  have hown : s.vm.findClass RX9 = some m.cls := findClass_of_methodNamed B.named
  have hlocks := B.notSynchronized
  have hK := hKK.1
  have fl_10 := hts (.fieldLink RX9 10 "SimonSays" "text" "LSimonSays$Text;") (by decide +kernel)
  have inX9 : ∀ w ∈ wsX90, w ∈ wsX9_type := by decide +kernel
  subst hsz
  have hD := hD0.self (sz := s.heap.size)
  generalize hAe : va_A [(aS, .inr (9, [.ref aX, .ref aD, .ref aT, .ref aR, .ref aH, .ref aIM, .ref aW, .ref aC, .ref aK])), (aX, .inr (8, [.ref aX_bytes, .int X_length])), (aX_bytes, .inl (cI, 200, .inl X_bytes))] s.heap.size = A at hD ⊢
  have hA : ∀ q : Nat, s.heap.size ≤ q → A q := fun q h => by rw [← hAe]; exact Or.inr h
  have hS : va_S A s.heap s.heap [] := va_S.rf
  have hl := lv_entry ([.ref aS, .long p1, .int p3]) (n := 5) (Nat.le_of_ble_eq_true rfl)
  rw [lg_entry_eq]
  generalize (lg_sl ([.ref aS, .long p1, .int p3]) ++ List.replicate (5 - (lg_sl ([.ref aS, .long p1, .int p3])).length) Slot.unset).toArray = ls at hl ⊢
  have hl : lv_has ls 5 [(0, .ref aS), (1, .long p1), (3, .int p3)] := hl
  have L36 : ∀ (n : Nat), ∀ (X_length : Int32) (X_bytes : Nat → Int32) (x1 : Int64) (x4 : Int32), ∀ (H : Heap) (locs : List Loc), va_P D vwCl [(aS, .inr (9, [.ref aX, .ref aD, .ref aT, .ref aR, .ref aH, .ref aIM, .ref aW, .ref aC, .ref aK])), (aX, .inr (8, [.ref aX_bytes, .int X_length])), (aX_bytes, .inl (cI, 200, .inl X_bytes))] H → va_D A [(aS, .inr (9, [.ref aX, .ref aD, .ref aT, .ref aR, .ref aH, .ref aIM, .ref aW, .ref aC, .ref aK])), (aX, .inr (8, [.ref aX_bytes, .int X_length])), (aX_bytes, .inl (cI, 200, .inl X_bytes))] → va_S A s.heap H locs → ∀ (ls : Array Slot), lv_has ls 5 [(0, .ref aS), (1, .long x1), (4, .int x4)] → f_X9_type_L36 n X_length X_bytes x1 x4 = some y0 → W p l e (headSpec wsX9_type ({ frames := 1, cells := 0, slots := 0, locals := 21 } : Room)).room s m ([.ref aS, .long p1, .int p3] : List Value).toArray below meth c H locs 0 0 (MQ below (va_Qi (fun (r : Int32) (_ : Unit) => r = y0.1) (fun (_ : Unit) t => va_P D vwCl [(aS, .inr (9, [.ref aX, .ref aD, .ref aT, .ref aR, .ref aH, .ref aIM, .ref aW, .ref aC, .ref aK])), (aX, .inr (8, [.ref aX_bytes, .int y0.2.1])), (aX_bytes, .inl (cI, 200, .inl y0.2.2))] t.heap ∧ va_D A [(aS, .inr (9, [.ref aX, .ref aD, .ref aT, .ref aR, .ref aH, .ref aIM, .ref aW, .ref aC, .ref aK])), (aX, .inr (8, [.ref aX_bytes, .int y0.2.1])), (aX_bytes, .inl (cI, 200, .inl y0.2.2))]) A) ([.ref aS, .long p1, .int p3] : List Value).toArray s 0 0 A) (F0 m 36 ls []) := by
    intro n
    induction n with
    | zero =>
      intro X_length X_bytes x1 x4 H locs hP hD hS ls hl h
      exact (ns h).elim
    | succ n ih =>
      intro X_length X_bytes x1 x4 H locs hP hD hS ls hl h
      unfold f_X9_type_L36 at h
      refine lv_iload hx hb dX9_type_36 (lv_at hl 2 rfl) ?_
      refine lv_if_lt (tgt := 66) hx hb dX9_type_38 (by decide) (fun c_4 => ?_) (fun c_4 => ?_)
      · replace h := if_p c_4 h
        refine lv_aload_n hx hb dX9_type_66 rfl (lv_at hl 0 rfl) ?_
        refine va_get (D := D) (ci := 9) (v := .ref aX) (C := RX9) (T := TX9) (N := 9) hx hb hts inX9 hown hK hP 0 rfl rfl 0 (by decide) fl_10 (fun _ h9 => h9) rfl dX9_type_67 ?_
        have hPc : va_P D vwCl [(aX, .inr (8, [.ref aX_bytes, .int X_length]))] H := hP.sub [1] rfl
        refine vp_callSi (va_Run.run (va_runV (As := []) (rest := []) ⟨hx, hb, hml, hown, hts⟩ (c_X8_length l D cI cJ cZ cO aX aX_bytes X_length _ rfl) (cwV 0 hts gX9_type_X8_length rfl rfl rfl (by decide +kernel) ⟨Nat.le_of_ble_eq_true rfl, Nat.le_of_ble_eq_true rfl⟩) ⟨fb_p, va_recv hK hP (ci := 8) (q0 := 1) rfl rfl, fun U hU hW => ⟨rfl, by rw [hU]; exact hPc, KK.warm hW hKK⟩⟩ rfl rfl hl.1 rfl (lv_room (Nat.le_of_ble_eq_true rfl)) dX9_type_70 ⟨Nat.le_of_ble_eq_true rfl, Nat.le_of_ble_eq_true rfl⟩)) (fun r hr => ?_)
        replace hr := hr.symm
        subst hr
        have hy := Option.some.inj h
        subst hy
        exact W.iret (v := (f_X8_length X_length)) hx hb hr (fun t ht hW => ⟨⟨(f_X8_length X_length), (), rfl, rfl, by rw [ht]; exact hP, hD⟩, hS.F ht⟩) hS.2.2 dX9_type_73
      · replace h := if_n c_4 h
        refine lv_aload_n hx hb dX9_type_41 rfl (lv_at hl 0 rfl) ?_
        refine va_get (D := D) (ci := 9) (v := .ref aX) (C := RX9) (T := TX9) (N := 9) hx hb hts inX9 hown hK hP 0 rfl rfl 0 (by decide) fl_10 (fun _ h9 => h9) rfl dX9_type_42 ?_
        refine lv_lload_n hx hb dX9_type_45 rfl (lv_at hl 1 rfl) ?_
        refine lv_bipush (v := (8 : Int32)) hx hb dX9_type_46 (by decide) ?_
        refine lv_iload hx hb dX9_type_48 (lv_at hl 2 rfl) ?_
        refine lv_imul hx hb dX9_type_50 ?_
        refine lv_lushr (v := (x1.toUInt64 >>> (((8 : Int32) * x4).toInt64.toUInt64 &&& Int64.toUInt64 63)).toInt64) hx hb dX9_type_51 rfl ?_
        refine lv_l2i (v := ((x1.toUInt64 >>> (((8 : Int32) * x4).toInt64.toUInt64 &&& Int64.toUInt64 63)).toInt64).toInt32) hx hb dX9_type_52 rfl ?_
        refine lv_sipush (v := (255 : Int32)) hx hb dX9_type_53 (by decide) ?_
        refine lv_iand hx hb dX9_type_56 ?_
        obtain ⟨y5, qy5, h⟩ := ob_some h
        have hPc : va_P D vwCl [(aX, .inr (8, [.ref aX_bytes, .int X_length])), (aX_bytes, .inl (cI, 200, .inl X_bytes))] H := hP.sub [1, 2] rfl
        have hDc : va_D A [(aX, .inr (8, [.ref aX_bytes, .int X_length])), (aX_bytes, .inl (cI, 200, .inl X_bytes))] := hD.sub [1, 2] (by decide) rfl
        have hFc := va_free (wc := [(aX, .inr (8, [.ref aX_bytes, .int X_length])), (aX_bytes, .inl (cI, 200, .inl X_bytes))]) hD hS hA [1, 2] rfl
        refine va_callv (va_runV (As := [.int ((((x1.toUInt64 >>> (((8 : Int32) * x4).toInt64.toUInt64 &&& Int64.toUInt64 63)).toInt64).toInt32) &&& (255 : Int32))]) (rest := []) ⟨hx, hb, hml, hown, hts⟩ (c_X8_append l D cI cJ cZ cO aX aX_bytes X_length X_bytes H.size ((((x1.toUInt64 >>> (((8 : Int32) * x4).toInt64.toUInt64 &&& Int64.toUInt64 63)).toInt64).toInt32) &&& (255 : Int32)) y5 qy5) (cwV 1 hts gX9_type_X8_append rfl rfl rfl (by decide +kernel) ⟨Nat.le_of_ble_eq_true rfl, Nat.le_of_ble_eq_true rfl⟩) ⟨fb_i, va_recv hK hP (ci := 8) (q0 := 1) rfl rfl, fun U hU hW => ⟨rfl, by rw [hU], by rw [hU]; exact hPc, KK.warm hW hKK, hDc.weaken (fun _ _ _ _ => trivial)⟩⟩ rfl rfl hl.1 rfl (lv_room (Nat.le_of_ble_eq_true rfl)) dX9_type_57 ⟨Nat.le_of_ble_eq_true rfl, Nat.le_of_ble_eq_true rfl⟩) hS (fun q _ h => hFc q h) hFc (fun u t H1 locs ht hvm hw hB hz1 hk1 hS => ?_)
        obtain ⟨hP1, hD1⟩ := hB
        rw [ht] at hP1
        obtain ⟨hP, hD⟩ := va_join (wr := [(aS, .inr (9, [.ref aX, .ref aD, .ref aT, .ref aR, .ref aH, .ref aIM, .ref aW, .ref aC, .ref aK]))]) (w1 := [(aX, .inr (8, [.ref aX_bytes, .int y5.1])), (aX_bytes, .inl (cI, 200, .inl y5.2))]) hP hD [1, 2] [0] rfl rfl (by decide) (by decide) hk1 hFc hP1 hD1
        generalize H1 = H at hP hS ⊢
        have hP : va_P D vwCl [(aS, .inr (9, [.ref aX, .ref aD, .ref aT, .ref aR, .ref aH, .ref aIM, .ref aW, .ref aC, .ref aK])), (aX, .inr (8, [.ref aX_bytes, .int y5.1])), (aX_bytes, .inl (cI, 200, .inl y5.2))] H := hP.sub [0, 1, 2] rfl
        have hD : va_D A [(aS, .inr (9, [.ref aX, .ref aD, .ref aT, .ref aR, .ref aH, .ref aIM, .ref aW, .ref aC, .ref aK])), (aX, .inr (8, [.ref aX_bytes, .int y5.1])), (aX_bytes, .inl (cI, 200, .inl y5.2))] := hD.sub [0, 1, 2] (by decide) rfl
        refine lv_iinc (v := (x4 + (-1 : Int32))) (lv' := [(4, .int (x4 + (-1 : Int32))), (0, .ref aS), (1, .long x1)]) hx hb dX9_type_60 hl (k := 2) rfl rfl (by decide) rfl (fun ls hl => ?_)
        refine lv_goto (tgt := 36) hx hb dX9_type_63 (by decide) ?_
        exact ih y5.1 y5.2 x1 (x4 + (-1 : Int32)) _ _ hP hD hS ls (lv_sub hl [1, 2, 0] rfl) h
  unfold f_X9_type at h
  refine lv_iload_n hx hb dX9_type_0 rfl (lv_at hl 2 rfl) ?_
  refine lv_iconst (v := (1 : Int32)) hx hb dX9_type_1 (by decide) ?_
  refine lv_icmp_lt (tgt := 11) hx hb dX9_type_2 (by decide) (fun c_1 => ?_) (fun c_1 => ?_)
  · replace h := if_p c_1 h
    refine lv_iconst (v := (-1 : Int32)) hx hb dX9_type_11 (by decide) ?_
    have hy := Option.some.inj h
    subst hy
    exact W.iret (v := (-1 : Int32)) hx hb hr (fun t ht hW => ⟨⟨(-1 : Int32), (), rfl, rfl, by rw [ht]; exact hP, hD⟩, hS.F ht⟩) hS.2.2 dX9_type_12
  · replace h := if_n c_1 h
    refine lv_iload_n hx hb dX9_type_5 rfl (lv_at hl 2 rfl) ?_
    refine lv_bipush (v := (8 : Int32)) hx hb dX9_type_6 (by decide) ?_
    refine lv_icmp_le (tgt := 13) hx hb dX9_type_8 (by decide) (fun c_2 => ?_) (fun c_2 => ?_)
    · replace h := if_p c_2 h
      refine lv_aload_n hx hb dX9_type_13 rfl (lv_at hl 0 rfl) ?_
      refine va_get (D := D) (ci := 9) (v := .ref aX) (C := RX9) (T := TX9) (N := 9) hx hb hts inX9 hown hK hP 0 rfl rfl 0 (by decide) fl_10 (fun _ h9 => h9) rfl dX9_type_14 ?_
      have hPc : va_P D vwCl [(aX, .inr (8, [.ref aX_bytes, .int X_length]))] s.heap := hP.sub [1] rfl
      refine vp_callSi (va_Run.run (va_runV (As := []) (rest := []) ⟨hx, hb, hml, hown, hts⟩ (c_X8_length l D cI cJ cZ cO aX aX_bytes X_length _ rfl) (cwV 0 hts gX9_type_X8_length rfl rfl rfl (by decide +kernel) ⟨Nat.le_of_ble_eq_true rfl, Nat.le_of_ble_eq_true rfl⟩) ⟨fb_p, va_recv hK hP (ci := 8) (q0 := 1) rfl rfl, fun U hU hW => ⟨rfl, by rw [hU]; exact hPc, KK.warm hW hKK⟩⟩ rfl rfl hl.1 rfl (lv_room (Nat.le_of_ble_eq_true rfl)) dX9_type_17 ⟨Nat.le_of_ble_eq_true rfl, Nat.le_of_ble_eq_true rfl⟩)) (fun r hr => ?_)
      replace hr := hr.symm
      subst hr
      refine lv_iload_n hx hb dX9_type_20 rfl (lv_at hl 2 rfl) ?_
      refine lv_iadd hx hb dX9_type_21 ?_
      refine lv_sipush (v := (200 : Int32)) hx hb dX9_type_22 (by decide) ?_
      refine lv_icmp_le (tgt := 31) hx hb dX9_type_25 (by decide) (fun c_3 => ?_) (fun c_3 => ?_)
      · replace h := if_p c_3 h
        refine lv_iload_n hx hb dX9_type_31 rfl (lv_at hl 2 rfl) ?_
        refine lv_iconst (v := (1 : Int32)) hx hb dX9_type_32 (by decide) ?_
        refine lv_isub hx hb dX9_type_33 ?_
        refine lv_istore (lv' := [(4, .int (p3 - (1 : Int32))), (0, .ref aS), (1, .long p1), (3, .int p3)]) hx hb dX9_type_34 hl (by decide) rfl (fun ls hl => ?_)
        exact L36 300 X_length X_bytes p1 (p3 - (1 : Int32)) _ _ hP hD hS ls (lv_sub hl [1, 2, 0] rfl) h
      · replace h := if_n c_3 h
        refine lv_bipush (v := (-3 : Int32)) hx hb dX9_type_28 (by decide) ?_
        have hy := Option.some.inj h
        subst hy
        exact W.iret (v := (-3 : Int32)) hx hb hr (fun t ht hW => ⟨⟨(-3 : Int32), (), rfl, rfl, by rw [ht]; exact hP, hD⟩, hS.F ht⟩) hS.2.2 dX9_type_30
    · replace h := if_n c_2 h
      refine lv_iconst (v := (-1 : Int32)) hx hb dX9_type_11 (by decide) ?_
      have hy := Option.some.inj h
      subst hy
      exact W.iret (v := (-1 : Int32)) hx hb hr (fun t ht hW => ⟨⟨(-1 : Int32), (), rfl, rfl, by rw [ht]; exact hP, hD⟩, hS.F ht⟩) hS.2.2 dX9_type_12

def f_X9_clear (X_length : Int32) : Option (Int32 × Int32) := (Option.bind (f_X8_drop X_length) (fun y1 => some ((f_X8_length X_length), y1)))
set_option maxHeartbeats 8000000 in
set_option maxRecDepth 100000 in
theorem c_X9_clear (l : Launch) (D : va_G) (cI cJ cZ cO : ClassId) (aS : Nat) (aX : Nat) (aD : Nat) (aT : Nat) (aR : Nat) (aH : Nat) (aIM : Nat) (aW : Nat) (aC : Nat) (aK : Nat) (aX_bytes : Nat) (X_length : Int32) (sz : Nat)   (y0 : Int32 × Int32) (h : f_X9_clear X_length = some y0) : Met l yX9_clear wsX9_clear ({ frames := 1, cells := 0, slots := 0, locals := 20 } : Room) (va_Pc [.ref aS] (fun U => U.heap.size = sz ∧ va_P D vwCl [(aS, .inr (9, [.ref aX, .ref aD, .ref aT, .ref aR, .ref aH, .ref aIM, .ref aW, .ref aC, .ref aK])), (aX, .inr (8, [.ref aX_bytes, .int X_length]))] U.heap ∧ KK D cI cJ cZ cO U ∧ va_D (fun _ => True) [(aS, .inr (9, [.ref aX, .ref aD, .ref aT, .ref aR, .ref aH, .ref aIM, .ref aW, .ref aC, .ref aK])), (aX, .inr (8, [.ref aX_bytes, .int X_length]))])) (va_Qi (fun (r : Int32) (_ : Unit) => r = y0.1) (fun (_ : Unit) t => va_P D vwCl [(aS, .inr (9, [.ref aX, .ref aD, .ref aT, .ref aR, .ref aH, .ref aIM, .ref aW, .ref aC, .ref aK])), (aX, .inr (8, [.ref aX_bytes, .int y0.2]))] t.heap ∧ va_D (va_A [(aS, .inr (9, [.ref aX, .ref aD, .ref aT, .ref aR, .ref aH, .ref aIM, .ref aW, .ref aC, .ref aK])), (aX, .inr (8, [.ref aX_bytes, .int X_length]))] sz) [(aS, .inr (9, [.ref aX, .ref aD, .ref aT, .ref aR, .ref aH, .ref aIM, .ref aW, .ref aC, .ref aK])), (aX, .inr (8, [.ref aX_bytes, .int y0.2]))]) (va_A [(aS, .inr (9, [.ref aX, .ref aD, .ref aT, .ref aR, .ref aH, .ref aIM, .ref aW, .ref aC, .ref aK])), (aX, .inr (8, [.ref aX_bytes, .int X_length]))] sz)) 0 0 (va_A [(aS, .inr (9, [.ref aX, .ref aD, .ref aT, .ref aR, .ref aH, .ref aIM, .ref aW, .ref aC, .ref aK])), (aX, .inr (8, [.ref aX_bytes, .int X_length]))] sz) := by
  refine Met.ofW (cc := cX9_clear) (maxL := 2) (ret := (some .int)) (by decide) rfl ?_
  intro p e s m args below meth c s₁ B hml hv
  obtain ⟨rfl, hsz, hP, hKK, hD0⟩ := hv
  have hx := B.exec
  have hb := B.bytes
  have hr := B.returns
  have hts := atoms_spec (ws := wsX9_clear) B.pre
  have hown : s.vm.findClass RX9 = some m.cls := findClass_of_methodNamed B.named
  have hlocks := B.notSynchronized
  have hK := hKK.1
  have fl_10 := hts (.fieldLink RX9 10 "SimonSays" "text" "LSimonSays$Text;") (by decide +kernel)
  have inX9 : ∀ w ∈ wsX90, w ∈ wsX9_clear := by decide +kernel
  subst hsz
  have hD := hD0.self (sz := s.heap.size)
  generalize hAe : va_A [(aS, .inr (9, [.ref aX, .ref aD, .ref aT, .ref aR, .ref aH, .ref aIM, .ref aW, .ref aC, .ref aK])), (aX, .inr (8, [.ref aX_bytes, .int X_length]))] s.heap.size = A at hD ⊢
  have hA : ∀ q : Nat, s.heap.size ≤ q → A q := fun q h => by rw [← hAe]; exact Or.inr h
  have hS : va_S A s.heap s.heap [] := va_S.rf
  have hl := lv_entry ([.ref aS]) (n := 2) (Nat.le_of_ble_eq_true rfl)
  rw [lg_entry_eq]
  generalize (lg_sl ([.ref aS]) ++ List.replicate (2 - (lg_sl ([.ref aS])).length) Slot.unset).toArray = ls at hl ⊢
  have hl : lv_has ls 2 [(0, .ref aS)] := hl
  unfold f_X9_clear at h
  refine lv_aload_n hx hb dX9_clear_0 rfl (lv_at hl 0 rfl) ?_
  refine va_get (D := D) (ci := 9) (v := .ref aX) (C := RX9) (T := TX9) (N := 9) hx hb hts inX9 hown hK hP 0 rfl rfl 0 (by decide) fl_10 (fun _ h9 => h9) rfl dX9_clear_1 ?_
  have hPc : va_P D vwCl [(aX, .inr (8, [.ref aX_bytes, .int X_length]))] s.heap := hP.sub [1] rfl
  refine vp_callSi (va_Run.run (va_runV (As := []) (rest := []) ⟨hx, hb, hml, hown, hts⟩ (c_X8_length l D cI cJ cZ cO aX aX_bytes X_length _ rfl) (cwV 0 hts gX9_clear_X8_length rfl rfl rfl (by decide +kernel) ⟨Nat.le_of_ble_eq_true rfl, Nat.le_of_ble_eq_true rfl⟩) ⟨fb_p, va_recv hK hP (ci := 8) (q0 := 1) rfl rfl, fun U hU hW => ⟨rfl, by rw [hU]; exact hPc, KK.warm hW hKK⟩⟩ rfl rfl hl.1 rfl (lv_room (Nat.le_of_ble_eq_true rfl)) dX9_clear_4 ⟨Nat.le_of_ble_eq_true rfl, Nat.le_of_ble_eq_true rfl⟩)) (fun r hr => ?_)
  replace hr := hr.symm
  subst hr
  refine lv_istore_n (lv' := [(1, .int (f_X8_length X_length)), (0, .ref aS)]) hx hb dX9_clear_7 rfl hl (by decide) rfl (fun ls hl => ?_)
  refine lv_aload_n hx hb dX9_clear_8 rfl (lv_at hl 1 rfl) ?_
  refine va_get (D := D) (ci := 9) (v := .ref aX) (C := RX9) (T := TX9) (N := 9) hx hb hts inX9 hown hK hP 0 rfl rfl 0 (by decide) fl_10 (fun _ h9 => h9) rfl dX9_clear_9 ?_
  obtain ⟨y1, qy1, h⟩ := ob_some h
  have hPc : va_P D vwCl [(aX, .inr (8, [.ref aX_bytes, .int X_length]))] s.heap := hP.sub [1] rfl
  have hDc : va_D A [(aX, .inr (8, [.ref aX_bytes, .int X_length]))] := hD.sub [1] (by decide) rfl
  have hFc := va_free (wc := [(aX, .inr (8, [.ref aX_bytes, .int X_length]))]) hD hS hA [1] rfl
  refine va_callv (va_runV (As := []) (rest := []) ⟨hx, hb, hml, hown, hts⟩ (c_X8_drop l D cI cJ cZ cO aX aX_bytes X_length s.heap.size y1 qy1) (cwV 0 hts gX9_clear_X8_drop rfl rfl rfl (by decide +kernel) ⟨Nat.le_of_ble_eq_true rfl, Nat.le_of_ble_eq_true rfl⟩) ⟨fb_i, va_recv hK hP (ci := 8) (q0 := 1) rfl rfl, fun U hU hW => ⟨rfl, by rw [hU], by rw [hU]; exact hPc, KK.warm hW hKK, hDc.weaken (fun _ _ _ _ => trivial)⟩⟩ rfl rfl hl.1 rfl (lv_room (Nat.le_of_ble_eq_true rfl)) dX9_clear_12 ⟨Nat.le_of_ble_eq_true rfl, Nat.le_of_ble_eq_true rfl⟩) hS (fun q _ h => hFc q h) hFc (fun u t H1 locs ht hvm hw hB hz1 hk1 hS => ?_)
  obtain ⟨hP1, hD1⟩ := hB
  rw [ht] at hP1
  obtain ⟨hP, hD⟩ := va_join (wr := [(aS, .inr (9, [.ref aX, .ref aD, .ref aT, .ref aR, .ref aH, .ref aIM, .ref aW, .ref aC, .ref aK]))]) (w1 := [(aX, .inr (8, [.ref aX_bytes, .int y1]))]) hP hD [1] [0] rfl rfl (by decide) (by decide) hk1 hFc hP1 hD1
  generalize H1 = H at hP hS ⊢
  have hP : va_P D vwCl [(aS, .inr (9, [.ref aX, .ref aD, .ref aT, .ref aR, .ref aH, .ref aIM, .ref aW, .ref aC, .ref aK])), (aX, .inr (8, [.ref aX_bytes, .int y1]))] H := hP.sub [0, 1] rfl
  have hD : va_D A [(aS, .inr (9, [.ref aX, .ref aD, .ref aT, .ref aR, .ref aH, .ref aIM, .ref aW, .ref aC, .ref aK])), (aX, .inr (8, [.ref aX_bytes, .int y1]))] := hD.sub [0, 1] (by decide) rfl
  refine lv_iload_n hx hb dX9_clear_15 rfl (lv_at hl 0 rfl) ?_
  have hy := Option.some.inj h
  subst hy
  exact W.iret (v := (f_X8_length X_length)) hx hb hr (fun t ht hW => ⟨⟨(f_X8_length X_length), (), rfl, rfl, by rw [ht]; exact hP, hD⟩, hS.F ht⟩) hS.2.2 dX9_clear_16

def f_X9_children_L53 (X_bytes : Nat → Int32) : Nat → Int32 → Int32 → Int32 → Int32 → Int32 → Int32 → Int32 → (Nat → Int32) → (Nat → Int32) → (Nat → Int32) → Int32 → Int32 → Int32 → Int32 → (Nat → Int32) → (Nat → Int32) → (Nat → Int32) → Int32 → Int32 → Int32 → Int32 → Int32 → Option (Int32 × Int32 × Int32 × Int32 × Int32 × Int32 × Int32 × Int32 × (Nat → Int32) × (Nat → Int32) × (Nat → Int32) × Int32 × Int32 × Int32 × Int32 × (Nat → Int32) × (Nat → Int32) × (Nat → Int32) × Int32 × Int32 × Int32)
  | 0, _, _, _, _, _, _, _, _, _, _, _, _, _, _, _, _, _, _, _, _, _, _ => none
  | n + 1, X_length, D_token, D_start, D_end, D_value, F_size, F_littleOnes, F_slips, F_lates, F_copied, R_in, R_streak, T_size, T_littleOnes, T_slips, T_lates, T_copied, H_size, I0_kept, I1_kept, x1, x2 => (if (2 : Int32) ≤ x2 then (Option.bind (f_X8_drop X_length) (fun y7 => some (x1, y7, D_token, D_start, D_end, D_value, F_size, F_littleOnes, F_slips, F_lates, F_copied, R_in, R_streak, T_size, T_littleOnes, T_slips, T_lates, T_copied, H_size, I0_kept, I1_kept))) else (if x2 = (0 : Int32) then (Option.bind (f_X3_forget I0_kept) (fun y8 => f_X9_children_L53 X_bytes n X_length D_token D_start D_end D_value F_size F_littleOnes F_slips F_lates F_copied R_in R_streak T_size T_littleOnes T_slips T_lates T_copied H_size y8 I1_kept x1 (x2 + (1 : Int32)))) else if x2 = (1 : Int32) then (Option.bind (f_X3_forget I1_kept) (fun y9 => f_X9_children_L53 X_bytes n X_length D_token D_start D_end D_value F_size F_littleOnes F_slips F_lates F_copied R_in R_streak T_size T_littleOnes T_slips T_lates T_copied H_size I0_kept y9 x1 (x2 + (1 : Int32)))) else none))
def f_X9_children (X_length : Int32) (X_bytes : Nat → Int32) (D_token : Int32) (D_start : Int32) (D_end : Int32) (D_value : Int32) (F_size : Int32) (F_littleOnes : Int32) (F_slips : Nat → Int32) (F_lates : Nat → Int32) (F_copied : Nat → Int32) (R_in : Int32) (R_streak : Int32) (T_size : Int32) (T_littleOnes : Int32) (T_slips : Nat → Int32) (T_lates : Nat → Int32) (T_copied : Nat → Int32) (H_size : Int32) (I0_kept : Int32) (I1_kept : Int32) : Option (Int32 × Int32 × Int32 × Int32 × Int32 × Int32 × Int32 × Int32 × (Nat → Int32) × (Nat → Int32) × (Nat → Int32) × Int32 × Int32 × Int32 × Int32 × (Nat → Int32) × (Nat → Int32) × (Nat → Int32) × Int32 × Int32 × Int32) := (Option.bind (f_X5_readItems X_length X_bytes D_token D_start D_end D_value F_size F_littleOnes F_slips F_lates F_copied) (fun y1 => (if 0 ≤ y1.1 then (Option.bind (f_X1_takeOver y1.2.2.2.2.2.1 y1.2.2.2.2.2.2.1 y1.2.2.2.2.2.2.2.1 y1.2.2.2.2.2.2.2.2.1 y1.2.2.2.2.2.2.2.2.2 T_size T_littleOnes T_slips T_lates T_copied) (fun y3 => (Option.bind (f_X6_startAnew R_in R_streak y3.1) (fun y4 => (Option.bind (f_X2_forget H_size) (fun y5 => f_X9_children_L53 X_bytes 300 X_length y1.2.1 y1.2.2.1 y1.2.2.2.1 y1.2.2.2.2.1 y1.2.2.2.2.2.1 y1.2.2.2.2.2.2.1 y1.2.2.2.2.2.2.2.1 y1.2.2.2.2.2.2.2.2.1 y1.2.2.2.2.2.2.2.2.2 y4.1 y4.2 y3.1 y3.2.1 y3.2.2.1 y3.2.2.2.1 y3.2.2.2.2 y5 I0_kept I1_kept y1.1 (0 : Int32))))))) else some (((-10 : Int32) - (f_X5_fault y1.2.2.1)), X_length, y1.2.1, y1.2.2.1, y1.2.2.2.1, y1.2.2.2.2.1, y1.2.2.2.2.2.1, y1.2.2.2.2.2.2.1, y1.2.2.2.2.2.2.2.1, y1.2.2.2.2.2.2.2.2.1, y1.2.2.2.2.2.2.2.2.2, R_in, R_streak, T_size, T_littleOnes, T_slips, T_lates, T_copied, H_size, I0_kept, I1_kept))))
set_option maxHeartbeats 8000000 in
set_option maxRecDepth 100000 in
theorem c_X9_children (l : Launch) (D : va_G) (cI cJ cZ cO : ClassId) (adK adV : Nat → Nat) (aS : Nat) (aX : Nat) (aX_bytes : Nat) (aD : Nat) (aF : Nat) (aF_slips : Nat) (aF_lates : Nat) (aF_copied : Nat) (aR : Nat) (aT : Nat) (aT_slips : Nat) (aT_lates : Nat) (aT_copied : Nat) (aH : Nat) (aIM : Nat) (aI0 : Nat) (aI1 : Nat) (aW : Nat) (aC : Nat) (aK : Nat) (aH_ins : Nat) (aH_streaks : Nat) (X_length : Int32) (X_bytes : Nat → Int32) (D_token : Int32) (D_start : Int32) (D_end : Int32) (D_value : Int32) (F_size : Int32) (F_littleOnes : Int32) (F_slips : Nat → Int32) (F_lates : Nat → Int32) (F_copied : Nat → Int32) (R_in : Int32) (R_streak : Int32) (R_lot : Int32) (T_size : Int32) (T_littleOnes : Int32) (T_slips : Nat → Int32) (T_lates : Nat → Int32) (T_copied : Nat → Int32) (H_size : Int32) (I0_kept : Int32) (I0_in : Int32) (I0_streak : Int32) (I0_lot : Int32) (I1_kept : Int32) (I1_in : Int32) (I1_streak : Int32) (I1_lot : Int32) (sz : Nat)   (y0 : Int32 × Int32 × Int32 × Int32 × Int32 × Int32 × Int32 × Int32 × (Nat → Int32) × (Nat → Int32) × (Nat → Int32) × Int32 × Int32 × Int32 × Int32 × (Nat → Int32) × (Nat → Int32) × (Nat → Int32) × Int32 × Int32 × Int32) (h : f_X9_children X_length X_bytes D_token D_start D_end D_value F_size F_littleOnes F_slips F_lates F_copied R_in R_streak T_size T_littleOnes T_slips T_lates T_copied H_size I0_kept I1_kept = some y0) : Met l yX9_children wsX9_children ({ frames := 9, cells := 0, slots := 0, locals := 199 } : Room) (va_Pc [.ref aS] (fun U => U.heap.size = sz ∧ va_P D vwCl [(aS, .inr (9, [.ref aX, .ref aD, .ref aT, .ref aR, .ref aH, .ref aIM, .ref aW, .ref aC, .ref aK])), (aX, .inr (8, [.ref aX_bytes, .int X_length])), (aX_bytes, .inl (cI, 200, .inl X_bytes)), (aD, .inr (5, [.ref aX, .ref aF, .int D_token, .int D_start, .int D_end, .int D_value])), (aF, .inr (1, [.ref aF_slips, .ref aF_lates, .ref aF_copied, .int F_size, .int F_littleOnes])), (aF_slips, .inl (cI, 6, .inl F_slips)), (aF_lates, .inl (cI, 6, .inl F_lates)), (aF_copied, .inl (cI, 6, .inl F_copied)), (aR, .inr (6, [.ref aT, .int R_in, .int R_streak, .int R_lot])), (aT, .inr (1, [.ref aT_slips, .ref aT_lates, .ref aT_copied, .int T_size, .int T_littleOnes])), (aT_slips, .inl (cI, 6, .inl T_slips)), (aT_lates, .inl (cI, 6, .inl T_lates)), (aT_copied, .inl (cI, 6, .inl T_copied)), (aH, .inr (2, [.ref aH_ins, .ref aH_streaks, .int H_size])), (aIM, .inl (cO, 2, .inr (.inr (.inr (.inr (gIm aI0 aI1)))))), (aI0, .inr (3, [.int I0_kept, .int I0_in, .int I0_streak, .int I0_lot])), (aI1, .inr (3, [.int I1_kept, .int I1_in, .int I1_streak, .int I1_lot]))] U.heap ∧ KK D cI cJ cZ cO U ∧ va_D (fun _ => True) [(aS, .inr (9, [.ref aX, .ref aD, .ref aT, .ref aR, .ref aH, .ref aIM, .ref aW, .ref aC, .ref aK])), (aX, .inr (8, [.ref aX_bytes, .int X_length])), (aX_bytes, .inl (cI, 200, .inl X_bytes)), (aD, .inr (5, [.ref aX, .ref aF, .int D_token, .int D_start, .int D_end, .int D_value])), (aF, .inr (1, [.ref aF_slips, .ref aF_lates, .ref aF_copied, .int F_size, .int F_littleOnes])), (aF_slips, .inl (cI, 6, .inl F_slips)), (aF_lates, .inl (cI, 6, .inl F_lates)), (aF_copied, .inl (cI, 6, .inl F_copied)), (aR, .inr (6, [.ref aT, .int R_in, .int R_streak, .int R_lot])), (aT, .inr (1, [.ref aT_slips, .ref aT_lates, .ref aT_copied, .int T_size, .int T_littleOnes])), (aT_slips, .inl (cI, 6, .inl T_slips)), (aT_lates, .inl (cI, 6, .inl T_lates)), (aT_copied, .inl (cI, 6, .inl T_copied)), (aH, .inr (2, [.ref aH_ins, .ref aH_streaks, .int H_size])), (aIM, .inl (cO, 2, .inr (.inr (.inr (.inr (gIm aI0 aI1)))))), (aI0, .inr (3, [.int I0_kept, .int I0_in, .int I0_streak, .int I0_lot])), (aI1, .inr (3, [.int I1_kept, .int I1_in, .int I1_streak, .int I1_lot]))] ∧ SA adK adV (va_A [(aS, .inr (9, [.ref aX, .ref aD, .ref aT, .ref aR, .ref aH, .ref aIM, .ref aW, .ref aC, .ref aK])), (aX, .inr (8, [.ref aX_bytes, .int X_length])), (aX_bytes, .inl (cI, 200, .inl X_bytes)), (aD, .inr (5, [.ref aX, .ref aF, .int D_token, .int D_start, .int D_end, .int D_value])), (aF, .inr (1, [.ref aF_slips, .ref aF_lates, .ref aF_copied, .int F_size, .int F_littleOnes])), (aF_slips, .inl (cI, 6, .inl F_slips)), (aF_lates, .inl (cI, 6, .inl F_lates)), (aF_copied, .inl (cI, 6, .inl F_copied)), (aR, .inr (6, [.ref aT, .int R_in, .int R_streak, .int R_lot])), (aT, .inr (1, [.ref aT_slips, .ref aT_lates, .ref aT_copied, .int T_size, .int T_littleOnes])), (aT_slips, .inl (cI, 6, .inl T_slips)), (aT_lates, .inl (cI, 6, .inl T_lates)), (aT_copied, .inl (cI, 6, .inl T_copied)), (aH, .inr (2, [.ref aH_ins, .ref aH_streaks, .int H_size])), (aIM, .inl (cO, 2, .inr (.inr (.inr (.inr (gIm aI0 aI1)))))), (aI0, .inr (3, [.int I0_kept, .int I0_in, .int I0_streak, .int I0_lot])), (aI1, .inr (3, [.int I1_kept, .int I1_in, .int I1_streak, .int I1_lot]))] sz) U U.heap)) (va_Qi (fun (r : Int32) (_ : Unit) => r = y0.1) (fun (_ : Unit) t => va_P D vwCl [(aS, .inr (9, [.ref aX, .ref aD, .ref aT, .ref aR, .ref aH, .ref aIM, .ref aW, .ref aC, .ref aK])), (aX, .inr (8, [.ref aX_bytes, .int y0.2.1])), (aX_bytes, .inl (cI, 200, .inl X_bytes)), (aD, .inr (5, [.ref aX, .ref aF, .int y0.2.2.1, .int y0.2.2.2.1, .int y0.2.2.2.2.1, .int y0.2.2.2.2.2.1])), (aF, .inr (1, [.ref aF_slips, .ref aF_lates, .ref aF_copied, .int y0.2.2.2.2.2.2.1, .int y0.2.2.2.2.2.2.2.1])), (aF_slips, .inl (cI, 6, .inl y0.2.2.2.2.2.2.2.2.1)), (aF_lates, .inl (cI, 6, .inl y0.2.2.2.2.2.2.2.2.2.1)), (aF_copied, .inl (cI, 6, .inl y0.2.2.2.2.2.2.2.2.2.2.1)), (aR, .inr (6, [.ref aT, .int y0.2.2.2.2.2.2.2.2.2.2.2.1, .int y0.2.2.2.2.2.2.2.2.2.2.2.2.1, .int R_lot])), (aT, .inr (1, [.ref aT_slips, .ref aT_lates, .ref aT_copied, .int y0.2.2.2.2.2.2.2.2.2.2.2.2.2.1, .int y0.2.2.2.2.2.2.2.2.2.2.2.2.2.2.1])), (aT_slips, .inl (cI, 6, .inl y0.2.2.2.2.2.2.2.2.2.2.2.2.2.2.2.1)), (aT_lates, .inl (cI, 6, .inl y0.2.2.2.2.2.2.2.2.2.2.2.2.2.2.2.2.1)), (aT_copied, .inl (cI, 6, .inl y0.2.2.2.2.2.2.2.2.2.2.2.2.2.2.2.2.2.1)), (aH, .inr (2, [.ref aH_ins, .ref aH_streaks, .int y0.2.2.2.2.2.2.2.2.2.2.2.2.2.2.2.2.2.2.1])), (aIM, .inl (cO, 2, .inr (.inr (.inr (.inr (gIm aI0 aI1)))))), (aI0, .inr (3, [.int y0.2.2.2.2.2.2.2.2.2.2.2.2.2.2.2.2.2.2.2.1, .int I0_in, .int I0_streak, .int I0_lot])), (aI1, .inr (3, [.int y0.2.2.2.2.2.2.2.2.2.2.2.2.2.2.2.2.2.2.2.2, .int I1_in, .int I1_streak, .int I1_lot]))] t.heap ∧ va_D (va_A [(aS, .inr (9, [.ref aX, .ref aD, .ref aT, .ref aR, .ref aH, .ref aIM, .ref aW, .ref aC, .ref aK])), (aX, .inr (8, [.ref aX_bytes, .int X_length])), (aX_bytes, .inl (cI, 200, .inl X_bytes)), (aD, .inr (5, [.ref aX, .ref aF, .int D_token, .int D_start, .int D_end, .int D_value])), (aF, .inr (1, [.ref aF_slips, .ref aF_lates, .ref aF_copied, .int F_size, .int F_littleOnes])), (aF_slips, .inl (cI, 6, .inl F_slips)), (aF_lates, .inl (cI, 6, .inl F_lates)), (aF_copied, .inl (cI, 6, .inl F_copied)), (aR, .inr (6, [.ref aT, .int R_in, .int R_streak, .int R_lot])), (aT, .inr (1, [.ref aT_slips, .ref aT_lates, .ref aT_copied, .int T_size, .int T_littleOnes])), (aT_slips, .inl (cI, 6, .inl T_slips)), (aT_lates, .inl (cI, 6, .inl T_lates)), (aT_copied, .inl (cI, 6, .inl T_copied)), (aH, .inr (2, [.ref aH_ins, .ref aH_streaks, .int H_size])), (aIM, .inl (cO, 2, .inr (.inr (.inr (.inr (gIm aI0 aI1)))))), (aI0, .inr (3, [.int I0_kept, .int I0_in, .int I0_streak, .int I0_lot])), (aI1, .inr (3, [.int I1_kept, .int I1_in, .int I1_streak, .int I1_lot]))] sz) [(aS, .inr (9, [.ref aX, .ref aD, .ref aT, .ref aR, .ref aH, .ref aIM, .ref aW, .ref aC, .ref aK])), (aX, .inr (8, [.ref aX_bytes, .int y0.2.1])), (aX_bytes, .inl (cI, 200, .inl X_bytes)), (aD, .inr (5, [.ref aX, .ref aF, .int y0.2.2.1, .int y0.2.2.2.1, .int y0.2.2.2.2.1, .int y0.2.2.2.2.2.1])), (aF, .inr (1, [.ref aF_slips, .ref aF_lates, .ref aF_copied, .int y0.2.2.2.2.2.2.1, .int y0.2.2.2.2.2.2.2.1])), (aF_slips, .inl (cI, 6, .inl y0.2.2.2.2.2.2.2.2.1)), (aF_lates, .inl (cI, 6, .inl y0.2.2.2.2.2.2.2.2.2.1)), (aF_copied, .inl (cI, 6, .inl y0.2.2.2.2.2.2.2.2.2.2.1)), (aR, .inr (6, [.ref aT, .int y0.2.2.2.2.2.2.2.2.2.2.2.1, .int y0.2.2.2.2.2.2.2.2.2.2.2.2.1, .int R_lot])), (aT, .inr (1, [.ref aT_slips, .ref aT_lates, .ref aT_copied, .int y0.2.2.2.2.2.2.2.2.2.2.2.2.2.1, .int y0.2.2.2.2.2.2.2.2.2.2.2.2.2.2.1])), (aT_slips, .inl (cI, 6, .inl y0.2.2.2.2.2.2.2.2.2.2.2.2.2.2.2.1)), (aT_lates, .inl (cI, 6, .inl y0.2.2.2.2.2.2.2.2.2.2.2.2.2.2.2.2.1)), (aT_copied, .inl (cI, 6, .inl y0.2.2.2.2.2.2.2.2.2.2.2.2.2.2.2.2.2.1)), (aH, .inr (2, [.ref aH_ins, .ref aH_streaks, .int y0.2.2.2.2.2.2.2.2.2.2.2.2.2.2.2.2.2.2.1])), (aIM, .inl (cO, 2, .inr (.inr (.inr (.inr (gIm aI0 aI1)))))), (aI0, .inr (3, [.int y0.2.2.2.2.2.2.2.2.2.2.2.2.2.2.2.2.2.2.2.1, .int I0_in, .int I0_streak, .int I0_lot])), (aI1, .inr (3, [.int y0.2.2.2.2.2.2.2.2.2.2.2.2.2.2.2.2.2.2.2.2, .int I1_in, .int I1_streak, .int I1_lot]))]) (va_A [(aS, .inr (9, [.ref aX, .ref aD, .ref aT, .ref aR, .ref aH, .ref aIM, .ref aW, .ref aC, .ref aK])), (aX, .inr (8, [.ref aX_bytes, .int X_length])), (aX_bytes, .inl (cI, 200, .inl X_bytes)), (aD, .inr (5, [.ref aX, .ref aF, .int D_token, .int D_start, .int D_end, .int D_value])), (aF, .inr (1, [.ref aF_slips, .ref aF_lates, .ref aF_copied, .int F_size, .int F_littleOnes])), (aF_slips, .inl (cI, 6, .inl F_slips)), (aF_lates, .inl (cI, 6, .inl F_lates)), (aF_copied, .inl (cI, 6, .inl F_copied)), (aR, .inr (6, [.ref aT, .int R_in, .int R_streak, .int R_lot])), (aT, .inr (1, [.ref aT_slips, .ref aT_lates, .ref aT_copied, .int T_size, .int T_littleOnes])), (aT_slips, .inl (cI, 6, .inl T_slips)), (aT_lates, .inl (cI, 6, .inl T_lates)), (aT_copied, .inl (cI, 6, .inl T_copied)), (aH, .inr (2, [.ref aH_ins, .ref aH_streaks, .int H_size])), (aIM, .inl (cO, 2, .inr (.inr (.inr (.inr (gIm aI0 aI1)))))), (aI0, .inr (3, [.int I0_kept, .int I0_in, .int I0_streak, .int I0_lot])), (aI1, .inr (3, [.int I1_kept, .int I1_in, .int I1_streak, .int I1_lot]))] sz)) 0 0 (va_A [(aS, .inr (9, [.ref aX, .ref aD, .ref aT, .ref aR, .ref aH, .ref aIM, .ref aW, .ref aC, .ref aK])), (aX, .inr (8, [.ref aX_bytes, .int X_length])), (aX_bytes, .inl (cI, 200, .inl X_bytes)), (aD, .inr (5, [.ref aX, .ref aF, .int D_token, .int D_start, .int D_end, .int D_value])), (aF, .inr (1, [.ref aF_slips, .ref aF_lates, .ref aF_copied, .int F_size, .int F_littleOnes])), (aF_slips, .inl (cI, 6, .inl F_slips)), (aF_lates, .inl (cI, 6, .inl F_lates)), (aF_copied, .inl (cI, 6, .inl F_copied)), (aR, .inr (6, [.ref aT, .int R_in, .int R_streak, .int R_lot])), (aT, .inr (1, [.ref aT_slips, .ref aT_lates, .ref aT_copied, .int T_size, .int T_littleOnes])), (aT_slips, .inl (cI, 6, .inl T_slips)), (aT_lates, .inl (cI, 6, .inl T_lates)), (aT_copied, .inl (cI, 6, .inl T_copied)), (aH, .inr (2, [.ref aH_ins, .ref aH_streaks, .int H_size])), (aIM, .inl (cO, 2, .inr (.inr (.inr (.inr (gIm aI0 aI1)))))), (aI0, .inr (3, [.int I0_kept, .int I0_in, .int I0_streak, .int I0_lot])), (aI1, .inr (3, [.int I1_kept, .int I1_in, .int I1_streak, .int I1_lot]))] sz) := by
  refine Met.ofW (cc := cX9_children) (maxL := 3) (ret := (some .int)) (by decide) rfl ?_
  intro p e s m args below meth c s₁ B hml hv
  obtain ⟨rfl, hsz, hP, hKK, hD0, hSA⟩ := hv
  have hx := B.exec
  have hb := B.bytes
  have hr := B.returns
  have hts := atoms_spec (ws := wsX9_children) B.pre
  have hown : s.vm.findClass RX9 = some m.cls := findClass_of_methodNamed B.named
  have hlocks := B.notSynchronized
  have hK := hKK.1
  have fl_10 := hts (.fieldLink RX9 10 "SimonSays" "text" "LSimonSays$Text;") (by decide +kernel)
  have fl_21 := hts (.fieldLink RX9 21 "SimonSays" "reader" "LSimonSays$Reader;") (by decide +kernel)
  have fl_28 := hts (.fieldLink RX9 28 "SimonSays" "told" "LSimonSays$Children;") (by decide +kernel)
  have fl_37 := hts (.fieldLink RX9 37 "SimonSays" "round" "LSimonSays$Round;") (by decide +kernel)
  have fl_44 := hts (.fieldLink RX9 44 "SimonSays" "history" "LSimonSays$History;") (by decide +kernel)
  have fl_50 := hts (.fieldLink RX9 50 "SimonSays" "images" "[LSimonSays$Image;") (by decide +kernel)
  have inX9 : ∀ w ∈ wsX90, w ∈ wsX9_children := by decide +kernel
  subst hsz
  have hD := hD0.self (sz := s.heap.size)
  generalize hAe : va_A [(aS, .inr (9, [.ref aX, .ref aD, .ref aT, .ref aR, .ref aH, .ref aIM, .ref aW, .ref aC, .ref aK])), (aX, .inr (8, [.ref aX_bytes, .int X_length])), (aX_bytes, .inl (cI, 200, .inl X_bytes)), (aD, .inr (5, [.ref aX, .ref aF, .int D_token, .int D_start, .int D_end, .int D_value])), (aF, .inr (1, [.ref aF_slips, .ref aF_lates, .ref aF_copied, .int F_size, .int F_littleOnes])), (aF_slips, .inl (cI, 6, .inl F_slips)), (aF_lates, .inl (cI, 6, .inl F_lates)), (aF_copied, .inl (cI, 6, .inl F_copied)), (aR, .inr (6, [.ref aT, .int R_in, .int R_streak, .int R_lot])), (aT, .inr (1, [.ref aT_slips, .ref aT_lates, .ref aT_copied, .int T_size, .int T_littleOnes])), (aT_slips, .inl (cI, 6, .inl T_slips)), (aT_lates, .inl (cI, 6, .inl T_lates)), (aT_copied, .inl (cI, 6, .inl T_copied)), (aH, .inr (2, [.ref aH_ins, .ref aH_streaks, .int H_size])), (aIM, .inl (cO, 2, .inr (.inr (.inr (.inr (gIm aI0 aI1)))))), (aI0, .inr (3, [.int I0_kept, .int I0_in, .int I0_streak, .int I0_lot])), (aI1, .inr (3, [.int I1_kept, .int I1_in, .int I1_streak, .int I1_lot]))] s.heap.size = A at hD hSA ⊢
  have hA : ∀ q : Nat, s.heap.size ≤ q → A q := fun q h => by rw [← hAe]; exact Or.inr h
  have hS : va_S A s.heap s.heap [] := va_S.rf
  have hl := lv_entry ([.ref aS]) (n := 3) (Nat.le_of_ble_eq_true rfl)
  rw [lg_entry_eq]
  generalize (lg_sl ([.ref aS]) ++ List.replicate (3 - (lg_sl ([.ref aS])).length) Slot.unset).toArray = ls at hl ⊢
  have hl : lv_has ls 3 [(0, .ref aS)] := hl
  have L53 : ∀ (n : Nat), ∀ (X_length : Int32) (D_token : Int32) (D_start : Int32) (D_end : Int32) (D_value : Int32) (F_size : Int32) (F_littleOnes : Int32) (F_slips : Nat → Int32) (F_lates : Nat → Int32) (F_copied : Nat → Int32) (R_in : Int32) (R_streak : Int32) (T_size : Int32) (T_littleOnes : Int32) (T_slips : Nat → Int32) (T_lates : Nat → Int32) (T_copied : Nat → Int32) (H_size : Int32) (I0_kept : Int32) (I1_kept : Int32) (x1 : Int32) (x2 : Int32), ∀ (H : Heap) (locs : List Loc), va_P D vwCl [(aS, .inr (9, [.ref aX, .ref aD, .ref aT, .ref aR, .ref aH, .ref aIM, .ref aW, .ref aC, .ref aK])), (aX, .inr (8, [.ref aX_bytes, .int X_length])), (aX_bytes, .inl (cI, 200, .inl X_bytes)), (aD, .inr (5, [.ref aX, .ref aF, .int D_token, .int D_start, .int D_end, .int D_value])), (aF, .inr (1, [.ref aF_slips, .ref aF_lates, .ref aF_copied, .int F_size, .int F_littleOnes])), (aF_slips, .inl (cI, 6, .inl F_slips)), (aF_lates, .inl (cI, 6, .inl F_lates)), (aF_copied, .inl (cI, 6, .inl F_copied)), (aR, .inr (6, [.ref aT, .int R_in, .int R_streak, .int R_lot])), (aT, .inr (1, [.ref aT_slips, .ref aT_lates, .ref aT_copied, .int T_size, .int T_littleOnes])), (aT_slips, .inl (cI, 6, .inl T_slips)), (aT_lates, .inl (cI, 6, .inl T_lates)), (aT_copied, .inl (cI, 6, .inl T_copied)), (aH, .inr (2, [.ref aH_ins, .ref aH_streaks, .int H_size])), (aIM, .inl (cO, 2, .inr (.inr (.inr (.inr (gIm aI0 aI1)))))), (aI0, .inr (3, [.int I0_kept, .int I0_in, .int I0_streak, .int I0_lot])), (aI1, .inr (3, [.int I1_kept, .int I1_in, .int I1_streak, .int I1_lot]))] H → va_D A [(aS, .inr (9, [.ref aX, .ref aD, .ref aT, .ref aR, .ref aH, .ref aIM, .ref aW, .ref aC, .ref aK])), (aX, .inr (8, [.ref aX_bytes, .int X_length])), (aX_bytes, .inl (cI, 200, .inl X_bytes)), (aD, .inr (5, [.ref aX, .ref aF, .int D_token, .int D_start, .int D_end, .int D_value])), (aF, .inr (1, [.ref aF_slips, .ref aF_lates, .ref aF_copied, .int F_size, .int F_littleOnes])), (aF_slips, .inl (cI, 6, .inl F_slips)), (aF_lates, .inl (cI, 6, .inl F_lates)), (aF_copied, .inl (cI, 6, .inl F_copied)), (aR, .inr (6, [.ref aT, .int R_in, .int R_streak, .int R_lot])), (aT, .inr (1, [.ref aT_slips, .ref aT_lates, .ref aT_copied, .int T_size, .int T_littleOnes])), (aT_slips, .inl (cI, 6, .inl T_slips)), (aT_lates, .inl (cI, 6, .inl T_lates)), (aT_copied, .inl (cI, 6, .inl T_copied)), (aH, .inr (2, [.ref aH_ins, .ref aH_streaks, .int H_size])), (aIM, .inl (cO, 2, .inr (.inr (.inr (.inr (gIm aI0 aI1)))))), (aI0, .inr (3, [.int I0_kept, .int I0_in, .int I0_streak, .int I0_lot])), (aI1, .inr (3, [.int I1_kept, .int I1_in, .int I1_streak, .int I1_lot]))] → va_S A s.heap H locs → ∀ (ls : Array Slot), lv_has ls 3 [(0, .ref aS), (1, .int x1), (2, .int x2)] → f_X9_children_L53 X_bytes n X_length D_token D_start D_end D_value F_size F_littleOnes F_slips F_lates F_copied R_in R_streak T_size T_littleOnes T_slips T_lates T_copied H_size I0_kept I1_kept x1 x2 = some y0 → W p l e (headSpec wsX9_children ({ frames := 9, cells := 0, slots := 0, locals := 199 } : Room)).room s m ([.ref aS] : List Value).toArray below meth c H locs 0 0 (MQ below (va_Qi (fun (r : Int32) (_ : Unit) => r = y0.1) (fun (_ : Unit) t => va_P D vwCl [(aS, .inr (9, [.ref aX, .ref aD, .ref aT, .ref aR, .ref aH, .ref aIM, .ref aW, .ref aC, .ref aK])), (aX, .inr (8, [.ref aX_bytes, .int y0.2.1])), (aX_bytes, .inl (cI, 200, .inl X_bytes)), (aD, .inr (5, [.ref aX, .ref aF, .int y0.2.2.1, .int y0.2.2.2.1, .int y0.2.2.2.2.1, .int y0.2.2.2.2.2.1])), (aF, .inr (1, [.ref aF_slips, .ref aF_lates, .ref aF_copied, .int y0.2.2.2.2.2.2.1, .int y0.2.2.2.2.2.2.2.1])), (aF_slips, .inl (cI, 6, .inl y0.2.2.2.2.2.2.2.2.1)), (aF_lates, .inl (cI, 6, .inl y0.2.2.2.2.2.2.2.2.2.1)), (aF_copied, .inl (cI, 6, .inl y0.2.2.2.2.2.2.2.2.2.2.1)), (aR, .inr (6, [.ref aT, .int y0.2.2.2.2.2.2.2.2.2.2.2.1, .int y0.2.2.2.2.2.2.2.2.2.2.2.2.1, .int R_lot])), (aT, .inr (1, [.ref aT_slips, .ref aT_lates, .ref aT_copied, .int y0.2.2.2.2.2.2.2.2.2.2.2.2.2.1, .int y0.2.2.2.2.2.2.2.2.2.2.2.2.2.2.1])), (aT_slips, .inl (cI, 6, .inl y0.2.2.2.2.2.2.2.2.2.2.2.2.2.2.2.1)), (aT_lates, .inl (cI, 6, .inl y0.2.2.2.2.2.2.2.2.2.2.2.2.2.2.2.2.1)), (aT_copied, .inl (cI, 6, .inl y0.2.2.2.2.2.2.2.2.2.2.2.2.2.2.2.2.2.1)), (aH, .inr (2, [.ref aH_ins, .ref aH_streaks, .int y0.2.2.2.2.2.2.2.2.2.2.2.2.2.2.2.2.2.2.1])), (aIM, .inl (cO, 2, .inr (.inr (.inr (.inr (gIm aI0 aI1)))))), (aI0, .inr (3, [.int y0.2.2.2.2.2.2.2.2.2.2.2.2.2.2.2.2.2.2.2.1, .int I0_in, .int I0_streak, .int I0_lot])), (aI1, .inr (3, [.int y0.2.2.2.2.2.2.2.2.2.2.2.2.2.2.2.2.2.2.2.2, .int I1_in, .int I1_streak, .int I1_lot]))] t.heap ∧ va_D A [(aS, .inr (9, [.ref aX, .ref aD, .ref aT, .ref aR, .ref aH, .ref aIM, .ref aW, .ref aC, .ref aK])), (aX, .inr (8, [.ref aX_bytes, .int y0.2.1])), (aX_bytes, .inl (cI, 200, .inl X_bytes)), (aD, .inr (5, [.ref aX, .ref aF, .int y0.2.2.1, .int y0.2.2.2.1, .int y0.2.2.2.2.1, .int y0.2.2.2.2.2.1])), (aF, .inr (1, [.ref aF_slips, .ref aF_lates, .ref aF_copied, .int y0.2.2.2.2.2.2.1, .int y0.2.2.2.2.2.2.2.1])), (aF_slips, .inl (cI, 6, .inl y0.2.2.2.2.2.2.2.2.1)), (aF_lates, .inl (cI, 6, .inl y0.2.2.2.2.2.2.2.2.2.1)), (aF_copied, .inl (cI, 6, .inl y0.2.2.2.2.2.2.2.2.2.2.1)), (aR, .inr (6, [.ref aT, .int y0.2.2.2.2.2.2.2.2.2.2.2.1, .int y0.2.2.2.2.2.2.2.2.2.2.2.2.1, .int R_lot])), (aT, .inr (1, [.ref aT_slips, .ref aT_lates, .ref aT_copied, .int y0.2.2.2.2.2.2.2.2.2.2.2.2.2.1, .int y0.2.2.2.2.2.2.2.2.2.2.2.2.2.2.1])), (aT_slips, .inl (cI, 6, .inl y0.2.2.2.2.2.2.2.2.2.2.2.2.2.2.2.1)), (aT_lates, .inl (cI, 6, .inl y0.2.2.2.2.2.2.2.2.2.2.2.2.2.2.2.2.1)), (aT_copied, .inl (cI, 6, .inl y0.2.2.2.2.2.2.2.2.2.2.2.2.2.2.2.2.2.1)), (aH, .inr (2, [.ref aH_ins, .ref aH_streaks, .int y0.2.2.2.2.2.2.2.2.2.2.2.2.2.2.2.2.2.2.1])), (aIM, .inl (cO, 2, .inr (.inr (.inr (.inr (gIm aI0 aI1)))))), (aI0, .inr (3, [.int y0.2.2.2.2.2.2.2.2.2.2.2.2.2.2.2.2.2.2.2.1, .int I0_in, .int I0_streak, .int I0_lot])), (aI1, .inr (3, [.int y0.2.2.2.2.2.2.2.2.2.2.2.2.2.2.2.2.2.2.2.2, .int I1_in, .int I1_streak, .int I1_lot]))]) A) ([.ref aS] : List Value).toArray s 0 0 A) (F0 m 53 ls []) := by
    intro n
    induction n with
    | zero =>
      intro X_length D_token D_start D_end D_value F_size F_littleOnes F_slips F_lates F_copied R_in R_streak T_size T_littleOnes T_slips T_lates T_copied H_size I0_kept I1_kept x1 x2 H locs hP hD hS ls hl h
      exact (ns h).elim
    | succ n ih =>
      intro X_length D_token D_start D_end D_value F_size F_littleOnes F_slips F_lates F_copied R_in R_streak T_size T_littleOnes T_slips T_lates T_copied H_size I0_kept I1_kept x1 x2 H locs hP hD hS ls hl h
      unfold f_X9_children_L53 at h
      refine lv_iload_n hx hb dX9_children_53 rfl (lv_at hl 2 rfl) ?_
      refine lv_iconst (v := (2 : Int32)) hx hb dX9_children_54 (by decide) ?_
      refine lv_icmp_ge (tgt := 73) hx hb dX9_children_55 (by decide) (fun c_6 => ?_) (fun c_6 => ?_)
      · replace h := if_p c_6 h
        refine lv_aload_n hx hb dX9_children_73 rfl (lv_at hl 0 rfl) ?_
        refine va_get (D := D) (ci := 9) (v := .ref aX) (C := RX9) (T := TX9) (N := 9) hx hb hts inX9 hown hK hP 0 rfl rfl 0 (by decide) fl_10 (fun _ h9 => h9) rfl dX9_children_74 ?_
        obtain ⟨y7, qy7, h⟩ := ob_some h
        have hPc : va_P D vwCl [(aX, .inr (8, [.ref aX_bytes, .int X_length]))] H := hP.sub [1] rfl
        have hDc : va_D A [(aX, .inr (8, [.ref aX_bytes, .int X_length]))] := hD.sub [1] (by decide) rfl
        have hFc := va_free (wc := [(aX, .inr (8, [.ref aX_bytes, .int X_length]))]) hD hS hA [1] rfl
        refine va_callv (va_runV (As := []) (rest := []) ⟨hx, hb, hml, hown, hts⟩ (c_X8_drop l D cI cJ cZ cO aX aX_bytes X_length H.size y7 qy7) (cwV 0 hts gX9_children_X8_drop rfl rfl rfl (by decide +kernel) ⟨Nat.le_of_ble_eq_true rfl, Nat.le_of_ble_eq_true rfl⟩) ⟨fb_i, va_recv hK hP (ci := 8) (q0 := 1) rfl rfl, fun U hU hW => ⟨rfl, by rw [hU], by rw [hU]; exact hPc, KK.warm hW hKK, hDc.weaken (fun _ _ _ _ => trivial)⟩⟩ rfl rfl hl.1 rfl (lv_room (Nat.le_of_ble_eq_true rfl)) dX9_children_77 ⟨Nat.le_of_ble_eq_true rfl, Nat.le_of_ble_eq_true rfl⟩) hS (fun q _ h => hFc q h) hFc (fun u t H1 locs ht hvm hw hB hz1 hk1 hS => ?_)
        obtain ⟨hP1, hD1⟩ := hB
        rw [ht] at hP1
        obtain ⟨hP, hD⟩ := va_join (wr := [(aS, .inr (9, [.ref aX, .ref aD, .ref aT, .ref aR, .ref aH, .ref aIM, .ref aW, .ref aC, .ref aK])), (aX_bytes, .inl (cI, 200, .inl X_bytes)), (aD, .inr (5, [.ref aX, .ref aF, .int D_token, .int D_start, .int D_end, .int D_value])), (aF, .inr (1, [.ref aF_slips, .ref aF_lates, .ref aF_copied, .int F_size, .int F_littleOnes])), (aF_slips, .inl (cI, 6, .inl F_slips)), (aF_lates, .inl (cI, 6, .inl F_lates)), (aF_copied, .inl (cI, 6, .inl F_copied)), (aR, .inr (6, [.ref aT, .int R_in, .int R_streak, .int R_lot])), (aT, .inr (1, [.ref aT_slips, .ref aT_lates, .ref aT_copied, .int T_size, .int T_littleOnes])), (aT_slips, .inl (cI, 6, .inl T_slips)), (aT_lates, .inl (cI, 6, .inl T_lates)), (aT_copied, .inl (cI, 6, .inl T_copied)), (aH, .inr (2, [.ref aH_ins, .ref aH_streaks, .int H_size])), (aIM, .inl (cO, 2, .inr (.inr (.inr (.inr (gIm aI0 aI1)))))), (aI0, .inr (3, [.int I0_kept, .int I0_in, .int I0_streak, .int I0_lot])), (aI1, .inr (3, [.int I1_kept, .int I1_in, .int I1_streak, .int I1_lot]))]) (w1 := [(aX, .inr (8, [.ref aX_bytes, .int y7]))]) hP hD [1] [0, 2, 3, 4, 5, 6, 7, 8, 9, 10, 11, 12, 13, 14, 15, 16] rfl rfl (by decide) (by decide) hk1 hFc hP1 hD1
        generalize H1 = H at hP hS ⊢
        have hP : va_P D vwCl [(aS, .inr (9, [.ref aX, .ref aD, .ref aT, .ref aR, .ref aH, .ref aIM, .ref aW, .ref aC, .ref aK])), (aX, .inr (8, [.ref aX_bytes, .int y7])), (aX_bytes, .inl (cI, 200, .inl X_bytes)), (aD, .inr (5, [.ref aX, .ref aF, .int D_token, .int D_start, .int D_end, .int D_value])), (aF, .inr (1, [.ref aF_slips, .ref aF_lates, .ref aF_copied, .int F_size, .int F_littleOnes])), (aF_slips, .inl (cI, 6, .inl F_slips)), (aF_lates, .inl (cI, 6, .inl F_lates)), (aF_copied, .inl (cI, 6, .inl F_copied)), (aR, .inr (6, [.ref aT, .int R_in, .int R_streak, .int R_lot])), (aT, .inr (1, [.ref aT_slips, .ref aT_lates, .ref aT_copied, .int T_size, .int T_littleOnes])), (aT_slips, .inl (cI, 6, .inl T_slips)), (aT_lates, .inl (cI, 6, .inl T_lates)), (aT_copied, .inl (cI, 6, .inl T_copied)), (aH, .inr (2, [.ref aH_ins, .ref aH_streaks, .int H_size])), (aIM, .inl (cO, 2, .inr (.inr (.inr (.inr (gIm aI0 aI1)))))), (aI0, .inr (3, [.int I0_kept, .int I0_in, .int I0_streak, .int I0_lot])), (aI1, .inr (3, [.int I1_kept, .int I1_in, .int I1_streak, .int I1_lot]))] H := hP.sub [0, 16, 1, 2, 3, 4, 5, 6, 7, 8, 9, 10, 11, 12, 13, 14, 15] rfl
        have hD : va_D A [(aS, .inr (9, [.ref aX, .ref aD, .ref aT, .ref aR, .ref aH, .ref aIM, .ref aW, .ref aC, .ref aK])), (aX, .inr (8, [.ref aX_bytes, .int y7])), (aX_bytes, .inl (cI, 200, .inl X_bytes)), (aD, .inr (5, [.ref aX, .ref aF, .int D_token, .int D_start, .int D_end, .int D_value])), (aF, .inr (1, [.ref aF_slips, .ref aF_lates, .ref aF_copied, .int F_size, .int F_littleOnes])), (aF_slips, .inl (cI, 6, .inl F_slips)), (aF_lates, .inl (cI, 6, .inl F_lates)), (aF_copied, .inl (cI, 6, .inl F_copied)), (aR, .inr (6, [.ref aT, .int R_in, .int R_streak, .int R_lot])), (aT, .inr (1, [.ref aT_slips, .ref aT_lates, .ref aT_copied, .int T_size, .int T_littleOnes])), (aT_slips, .inl (cI, 6, .inl T_slips)), (aT_lates, .inl (cI, 6, .inl T_lates)), (aT_copied, .inl (cI, 6, .inl T_copied)), (aH, .inr (2, [.ref aH_ins, .ref aH_streaks, .int H_size])), (aIM, .inl (cO, 2, .inr (.inr (.inr (.inr (gIm aI0 aI1)))))), (aI0, .inr (3, [.int I0_kept, .int I0_in, .int I0_streak, .int I0_lot])), (aI1, .inr (3, [.int I1_kept, .int I1_in, .int I1_streak, .int I1_lot]))] := hD.sub [0, 16, 1, 2, 3, 4, 5, 6, 7, 8, 9, 10, 11, 12, 13, 14, 15] (by decide) rfl
        refine lv_iload_n hx hb dX9_children_80 rfl (lv_at hl 1 rfl) ?_
        have hy := Option.some.inj h
        subst hy
        exact W.iret (v := x1) hx hb hr (fun t ht hW => ⟨⟨x1, (), rfl, rfl, by rw [ht]; exact hP, hD⟩, hS.F ht⟩) hS.2.2 dX9_children_81
      · replace h := if_n c_6 h
        refine lv_aload_n hx hb dX9_children_58 rfl (lv_at hl 0 rfl) ?_
        refine va_get (D := D) (ci := 9) (v := .ref aIM) (C := RX9) (T := TX9) (N := 9) hx hb hts inX9 hown hK hP 0 rfl rfl 5 (by decide) fl_50 (fun _ h9 => h9) rfl dX9_children_59 ?_
        refine lv_iload_n hx hb dX9_children_62 rfl (lv_at hl 2 rfl) ?_
        by_cases s_10 : x2 = (0 : Int32)
        · replace h := if_p s_10 h
          refine va_aldq (i := x2) (C := "SimonSays$Image") hx hb hK hP 14 3 rfl rfl (gIn_iff.mp (by rw [s_10]; decide)) dX9_children_63 ?_
          rw [show va_rf (gIm aI0 aI1 x2.toNatClampNeg) = .ref aI0 from by rw [s_10]; rfl]
          obtain ⟨y8, qy8, h⟩ := ob_some h
          have hPc : va_P D vwCl [(aI0, .inr (3, [.int I0_kept, .int I0_in, .int I0_streak, .int I0_lot]))] H := hP.sub [15] rfl
          have hDc : va_D A [(aI0, .inr (3, [.int I0_kept, .int I0_in, .int I0_streak, .int I0_lot]))] := hD.sub [15] (by decide) rfl
          have hFc := va_free (wc := [(aI0, .inr (3, [.int I0_kept, .int I0_in, .int I0_streak, .int I0_lot]))]) hD hS hA [15] rfl
          refine va_callv (va_runV (As := []) (rest := []) ⟨hx, hb, hml, hown, hts⟩ (c_X3_forget l D cI cJ cZ cO aI0 I0_kept I0_in I0_streak I0_lot H.size y8 qy8) (cwV 0 hts gX9_children_X3_forget rfl rfl rfl (by decide +kernel) ⟨Nat.le_of_ble_eq_true rfl, Nat.le_of_ble_eq_true rfl⟩) ⟨fb_i, va_recv hK hP (ci := 3) (q0 := 15) rfl rfl, fun U hU hW => ⟨rfl, by rw [hU], by rw [hU]; exact hPc, KK.warm hW hKK, hDc.weaken (fun _ _ _ _ => trivial)⟩⟩ rfl rfl hl.1 rfl (lv_room (Nat.le_of_ble_eq_true rfl)) dX9_children_64 ⟨Nat.le_of_ble_eq_true rfl, Nat.le_of_ble_eq_true rfl⟩) hS (fun q _ h => hFc q h) hFc (fun u t H1 locs ht hvm hw hB hz1 hk1 hS => ?_)
          obtain ⟨hP1, hD1⟩ := hB
          rw [ht] at hP1
          obtain ⟨hP, hD⟩ := va_join (wr := [(aS, .inr (9, [.ref aX, .ref aD, .ref aT, .ref aR, .ref aH, .ref aIM, .ref aW, .ref aC, .ref aK])), (aX, .inr (8, [.ref aX_bytes, .int X_length])), (aX_bytes, .inl (cI, 200, .inl X_bytes)), (aD, .inr (5, [.ref aX, .ref aF, .int D_token, .int D_start, .int D_end, .int D_value])), (aF, .inr (1, [.ref aF_slips, .ref aF_lates, .ref aF_copied, .int F_size, .int F_littleOnes])), (aF_slips, .inl (cI, 6, .inl F_slips)), (aF_lates, .inl (cI, 6, .inl F_lates)), (aF_copied, .inl (cI, 6, .inl F_copied)), (aR, .inr (6, [.ref aT, .int R_in, .int R_streak, .int R_lot])), (aT, .inr (1, [.ref aT_slips, .ref aT_lates, .ref aT_copied, .int T_size, .int T_littleOnes])), (aT_slips, .inl (cI, 6, .inl T_slips)), (aT_lates, .inl (cI, 6, .inl T_lates)), (aT_copied, .inl (cI, 6, .inl T_copied)), (aH, .inr (2, [.ref aH_ins, .ref aH_streaks, .int H_size])), (aIM, .inl (cO, 2, .inr (.inr (.inr (.inr (gIm aI0 aI1)))))), (aI1, .inr (3, [.int I1_kept, .int I1_in, .int I1_streak, .int I1_lot]))]) (w1 := [(aI0, .inr (3, [.int y8, .int I0_in, .int I0_streak, .int I0_lot]))]) hP hD [15] [0, 1, 2, 3, 4, 5, 6, 7, 8, 9, 10, 11, 12, 13, 14, 16] rfl rfl (by decide) (by decide) hk1 hFc hP1 hD1
          generalize H1 = H at hP hS ⊢
          have hP : va_P D vwCl [(aS, .inr (9, [.ref aX, .ref aD, .ref aT, .ref aR, .ref aH, .ref aIM, .ref aW, .ref aC, .ref aK])), (aX, .inr (8, [.ref aX_bytes, .int X_length])), (aX_bytes, .inl (cI, 200, .inl X_bytes)), (aD, .inr (5, [.ref aX, .ref aF, .int D_token, .int D_start, .int D_end, .int D_value])), (aF, .inr (1, [.ref aF_slips, .ref aF_lates, .ref aF_copied, .int F_size, .int F_littleOnes])), (aF_slips, .inl (cI, 6, .inl F_slips)), (aF_lates, .inl (cI, 6, .inl F_lates)), (aF_copied, .inl (cI, 6, .inl F_copied)), (aR, .inr (6, [.ref aT, .int R_in, .int R_streak, .int R_lot])), (aT, .inr (1, [.ref aT_slips, .ref aT_lates, .ref aT_copied, .int T_size, .int T_littleOnes])), (aT_slips, .inl (cI, 6, .inl T_slips)), (aT_lates, .inl (cI, 6, .inl T_lates)), (aT_copied, .inl (cI, 6, .inl T_copied)), (aH, .inr (2, [.ref aH_ins, .ref aH_streaks, .int H_size])), (aIM, .inl (cO, 2, .inr (.inr (.inr (.inr (gIm aI0 aI1)))))), (aI0, .inr (3, [.int y8, .int I0_in, .int I0_streak, .int I0_lot])), (aI1, .inr (3, [.int I1_kept, .int I1_in, .int I1_streak, .int I1_lot]))] H := hP.sub [0, 1, 2, 3, 4, 5, 6, 7, 8, 9, 10, 11, 12, 13, 14, 16, 15] rfl
          have hD : va_D A [(aS, .inr (9, [.ref aX, .ref aD, .ref aT, .ref aR, .ref aH, .ref aIM, .ref aW, .ref aC, .ref aK])), (aX, .inr (8, [.ref aX_bytes, .int X_length])), (aX_bytes, .inl (cI, 200, .inl X_bytes)), (aD, .inr (5, [.ref aX, .ref aF, .int D_token, .int D_start, .int D_end, .int D_value])), (aF, .inr (1, [.ref aF_slips, .ref aF_lates, .ref aF_copied, .int F_size, .int F_littleOnes])), (aF_slips, .inl (cI, 6, .inl F_slips)), (aF_lates, .inl (cI, 6, .inl F_lates)), (aF_copied, .inl (cI, 6, .inl F_copied)), (aR, .inr (6, [.ref aT, .int R_in, .int R_streak, .int R_lot])), (aT, .inr (1, [.ref aT_slips, .ref aT_lates, .ref aT_copied, .int T_size, .int T_littleOnes])), (aT_slips, .inl (cI, 6, .inl T_slips)), (aT_lates, .inl (cI, 6, .inl T_lates)), (aT_copied, .inl (cI, 6, .inl T_copied)), (aH, .inr (2, [.ref aH_ins, .ref aH_streaks, .int H_size])), (aIM, .inl (cO, 2, .inr (.inr (.inr (.inr (gIm aI0 aI1)))))), (aI0, .inr (3, [.int y8, .int I0_in, .int I0_streak, .int I0_lot])), (aI1, .inr (3, [.int I1_kept, .int I1_in, .int I1_streak, .int I1_lot]))] := hD.sub [0, 1, 2, 3, 4, 5, 6, 7, 8, 9, 10, 11, 12, 13, 14, 16, 15] (by decide) rfl
          refine lv_iinc (v := (x2 + (1 : Int32))) (lv' := [(2, .int (x2 + (1 : Int32))), (0, .ref aS), (1, .int x1)]) hx hb dX9_children_67 hl (k := 2) rfl rfl (by decide) rfl (fun ls hl => ?_)
          refine lv_goto (tgt := 53) hx hb dX9_children_70 (by decide) ?_
          exact ih X_length D_token D_start D_end D_value F_size F_littleOnes F_slips F_lates F_copied R_in R_streak T_size T_littleOnes T_slips T_lates T_copied H_size y8 I1_kept x1 (x2 + (1 : Int32)) _ _ hP hD hS ls (lv_sub hl [1, 2, 0] rfl) h
        replace h := if_n s_10 h
        by_cases s_11 : x2 = (1 : Int32)
        · replace h := if_p s_11 h
          refine va_aldq (i := x2) (C := "SimonSays$Image") hx hb hK hP 14 3 rfl rfl (gIn_iff.mp (by rw [s_11]; decide)) dX9_children_63 ?_
          rw [show va_rf (gIm aI0 aI1 x2.toNatClampNeg) = .ref aI1 from by rw [s_11]; rfl]
          obtain ⟨y9, qy9, h⟩ := ob_some h
          have hPc : va_P D vwCl [(aI1, .inr (3, [.int I1_kept, .int I1_in, .int I1_streak, .int I1_lot]))] H := hP.sub [16] rfl
          have hDc : va_D A [(aI1, .inr (3, [.int I1_kept, .int I1_in, .int I1_streak, .int I1_lot]))] := hD.sub [16] (by decide) rfl
          have hFc := va_free (wc := [(aI1, .inr (3, [.int I1_kept, .int I1_in, .int I1_streak, .int I1_lot]))]) hD hS hA [16] rfl
          refine va_callv (va_runV (As := []) (rest := []) ⟨hx, hb, hml, hown, hts⟩ (c_X3_forget l D cI cJ cZ cO aI1 I1_kept I1_in I1_streak I1_lot H.size y9 qy9) (cwV 0 hts gX9_children_X3_forget rfl rfl rfl (by decide +kernel) ⟨Nat.le_of_ble_eq_true rfl, Nat.le_of_ble_eq_true rfl⟩) ⟨fb_i, va_recv hK hP (ci := 3) (q0 := 16) rfl rfl, fun U hU hW => ⟨rfl, by rw [hU], by rw [hU]; exact hPc, KK.warm hW hKK, hDc.weaken (fun _ _ _ _ => trivial)⟩⟩ rfl rfl hl.1 rfl (lv_room (Nat.le_of_ble_eq_true rfl)) dX9_children_64 ⟨Nat.le_of_ble_eq_true rfl, Nat.le_of_ble_eq_true rfl⟩) hS (fun q _ h => hFc q h) hFc (fun u t H1 locs ht hvm hw hB hz1 hk1 hS => ?_)
          obtain ⟨hP1, hD1⟩ := hB
          rw [ht] at hP1
          obtain ⟨hP, hD⟩ := va_join (wr := [(aS, .inr (9, [.ref aX, .ref aD, .ref aT, .ref aR, .ref aH, .ref aIM, .ref aW, .ref aC, .ref aK])), (aX, .inr (8, [.ref aX_bytes, .int X_length])), (aX_bytes, .inl (cI, 200, .inl X_bytes)), (aD, .inr (5, [.ref aX, .ref aF, .int D_token, .int D_start, .int D_end, .int D_value])), (aF, .inr (1, [.ref aF_slips, .ref aF_lates, .ref aF_copied, .int F_size, .int F_littleOnes])), (aF_slips, .inl (cI, 6, .inl F_slips)), (aF_lates, .inl (cI, 6, .inl F_lates)), (aF_copied, .inl (cI, 6, .inl F_copied)), (aR, .inr (6, [.ref aT, .int R_in, .int R_streak, .int R_lot])), (aT, .inr (1, [.ref aT_slips, .ref aT_lates, .ref aT_copied, .int T_size, .int T_littleOnes])), (aT_slips, .inl (cI, 6, .inl T_slips)), (aT_lates, .inl (cI, 6, .inl T_lates)), (aT_copied, .inl (cI, 6, .inl T_copied)), (aH, .inr (2, [.ref aH_ins, .ref aH_streaks, .int H_size])), (aIM, .inl (cO, 2, .inr (.inr (.inr (.inr (gIm aI0 aI1)))))), (aI0, .inr (3, [.int I0_kept, .int I0_in, .int I0_streak, .int I0_lot]))]) (w1 := [(aI1, .inr (3, [.int y9, .int I1_in, .int I1_streak, .int I1_lot]))]) hP hD [16] [0, 1, 2, 3, 4, 5, 6, 7, 8, 9, 10, 11, 12, 13, 14, 15] rfl rfl (by decide) (by decide) hk1 hFc hP1 hD1
          generalize H1 = H at hP hS ⊢
          have hP : va_P D vwCl [(aS, .inr (9, [.ref aX, .ref aD, .ref aT, .ref aR, .ref aH, .ref aIM, .ref aW, .ref aC, .ref aK])), (aX, .inr (8, [.ref aX_bytes, .int X_length])), (aX_bytes, .inl (cI, 200, .inl X_bytes)), (aD, .inr (5, [.ref aX, .ref aF, .int D_token, .int D_start, .int D_end, .int D_value])), (aF, .inr (1, [.ref aF_slips, .ref aF_lates, .ref aF_copied, .int F_size, .int F_littleOnes])), (aF_slips, .inl (cI, 6, .inl F_slips)), (aF_lates, .inl (cI, 6, .inl F_lates)), (aF_copied, .inl (cI, 6, .inl F_copied)), (aR, .inr (6, [.ref aT, .int R_in, .int R_streak, .int R_lot])), (aT, .inr (1, [.ref aT_slips, .ref aT_lates, .ref aT_copied, .int T_size, .int T_littleOnes])), (aT_slips, .inl (cI, 6, .inl T_slips)), (aT_lates, .inl (cI, 6, .inl T_lates)), (aT_copied, .inl (cI, 6, .inl T_copied)), (aH, .inr (2, [.ref aH_ins, .ref aH_streaks, .int H_size])), (aIM, .inl (cO, 2, .inr (.inr (.inr (.inr (gIm aI0 aI1)))))), (aI0, .inr (3, [.int I0_kept, .int I0_in, .int I0_streak, .int I0_lot])), (aI1, .inr (3, [.int y9, .int I1_in, .int I1_streak, .int I1_lot]))] H := hP.sub [0, 1, 2, 3, 4, 5, 6, 7, 8, 9, 10, 11, 12, 13, 14, 15, 16] rfl
          have hD : va_D A [(aS, .inr (9, [.ref aX, .ref aD, .ref aT, .ref aR, .ref aH, .ref aIM, .ref aW, .ref aC, .ref aK])), (aX, .inr (8, [.ref aX_bytes, .int X_length])), (aX_bytes, .inl (cI, 200, .inl X_bytes)), (aD, .inr (5, [.ref aX, .ref aF, .int D_token, .int D_start, .int D_end, .int D_value])), (aF, .inr (1, [.ref aF_slips, .ref aF_lates, .ref aF_copied, .int F_size, .int F_littleOnes])), (aF_slips, .inl (cI, 6, .inl F_slips)), (aF_lates, .inl (cI, 6, .inl F_lates)), (aF_copied, .inl (cI, 6, .inl F_copied)), (aR, .inr (6, [.ref aT, .int R_in, .int R_streak, .int R_lot])), (aT, .inr (1, [.ref aT_slips, .ref aT_lates, .ref aT_copied, .int T_size, .int T_littleOnes])), (aT_slips, .inl (cI, 6, .inl T_slips)), (aT_lates, .inl (cI, 6, .inl T_lates)), (aT_copied, .inl (cI, 6, .inl T_copied)), (aH, .inr (2, [.ref aH_ins, .ref aH_streaks, .int H_size])), (aIM, .inl (cO, 2, .inr (.inr (.inr (.inr (gIm aI0 aI1)))))), (aI0, .inr (3, [.int I0_kept, .int I0_in, .int I0_streak, .int I0_lot])), (aI1, .inr (3, [.int y9, .int I1_in, .int I1_streak, .int I1_lot]))] := hD.sub [0, 1, 2, 3, 4, 5, 6, 7, 8, 9, 10, 11, 12, 13, 14, 15, 16] (by decide) rfl
          refine lv_iinc (v := (x2 + (1 : Int32))) (lv' := [(2, .int (x2 + (1 : Int32))), (0, .ref aS), (1, .int x1)]) hx hb dX9_children_67 hl (k := 2) rfl rfl (by decide) rfl (fun ls hl => ?_)
          refine lv_goto (tgt := 53) hx hb dX9_children_70 (by decide) ?_
          exact ih X_length D_token D_start D_end D_value F_size F_littleOnes F_slips F_lates F_copied R_in R_streak T_size T_littleOnes T_slips T_lates T_copied H_size I0_kept y9 x1 (x2 + (1 : Int32)) _ _ hP hD hS ls (lv_sub hl [1, 2, 0] rfl) h
        replace h := if_n s_11 h
        exact (ns h).elim
  unfold f_X9_children at h
  refine lv_aload_n hx hb dX9_children_0 rfl (lv_at hl 0 rfl) ?_
  refine va_get (D := D) (ci := 9) (v := .ref aD) (C := RX9) (T := TX9) (N := 9) hx hb hts inX9 hown hK hP 0 rfl rfl 1 (by decide) fl_21 (fun _ h9 => h9) rfl dX9_children_1 ?_
  obtain ⟨y1, qy1, h⟩ := ob_some h
  have hPc : va_P D vwCl [(aX, .inr (8, [.ref aX_bytes, .int X_length])), (aX_bytes, .inl (cI, 200, .inl X_bytes)), (aD, .inr (5, [.ref aX, .ref aF, .int D_token, .int D_start, .int D_end, .int D_value])), (aF, .inr (1, [.ref aF_slips, .ref aF_lates, .ref aF_copied, .int F_size, .int F_littleOnes])), (aF_slips, .inl (cI, 6, .inl F_slips)), (aF_lates, .inl (cI, 6, .inl F_lates)), (aF_copied, .inl (cI, 6, .inl F_copied))] s.heap := hP.sub [1, 2, 3, 4, 5, 6, 7] rfl
  have hDc : va_D A [(aX, .inr (8, [.ref aX_bytes, .int X_length])), (aX_bytes, .inl (cI, 200, .inl X_bytes)), (aD, .inr (5, [.ref aX, .ref aF, .int D_token, .int D_start, .int D_end, .int D_value])), (aF, .inr (1, [.ref aF_slips, .ref aF_lates, .ref aF_copied, .int F_size, .int F_littleOnes])), (aF_slips, .inl (cI, 6, .inl F_slips)), (aF_lates, .inl (cI, 6, .inl F_lates)), (aF_copied, .inl (cI, 6, .inl F_copied))] := hD.sub [1, 2, 3, 4, 5, 6, 7] (by decide) rfl
  have hFc := va_free (wc := [(aX, .inr (8, [.ref aX_bytes, .int X_length])), (aX_bytes, .inl (cI, 200, .inl X_bytes)), (aD, .inr (5, [.ref aX, .ref aF, .int D_token, .int D_start, .int D_end, .int D_value])), (aF, .inr (1, [.ref aF_slips, .ref aF_lates, .ref aF_copied, .int F_size, .int F_littleOnes])), (aF_slips, .inl (cI, 6, .inl F_slips)), (aF_lates, .inl (cI, 6, .inl F_lates)), (aF_copied, .inl (cI, 6, .inl F_copied))]) hD hS hA [1, 2, 3, 4, 5, 6, 7] rfl
  refine va_calli (va_runV (As := []) (rest := []) ⟨hx, hb, hml, hown, hts⟩ (c_X5_readItems l D cI cJ cZ cO adK adV aX aX_bytes aD aF aF_slips aF_lates aF_copied X_length X_bytes D_token D_start D_end D_value F_size F_littleOnes F_slips F_lates F_copied s.heap.size y1 qy1) (cwV 0 hts gX9_children_X5_readItems rfl rfl rfl (by decide +kernel) ⟨Nat.le_of_ble_eq_true rfl, Nat.le_of_ble_eq_true rfl⟩) ⟨fb_is, va_recv hK hP (ci := 5) (q0 := 3) rfl rfl, fun U hU hW => ⟨rfl, by rw [hU], by rw [hU]; exact hPc, KK.warm hW hKK, hDc.weaken (fun _ _ _ _ => trivial), SA.at hU hW ((hSA.kept hS.2.1).narrow hFc)⟩⟩ rfl rfl hl.1 rfl (lv_room (Nat.le_of_ble_eq_true rfl)) dX9_children_4 ⟨Nat.le_of_ble_eq_true rfl, Nat.le_of_ble_eq_true rfl⟩) hS (fun q _ h => hFc q h) hFc (fun r u t H1 locs ht hvm hw hB hz1 hk1 hS => ?_)
  obtain ⟨hP1, hD1⟩ := hB
  rw [ht] at hP1
  replace hw := hw.symm
  subst hw
  obtain ⟨hP, hD⟩ := va_join (wr := [(aS, .inr (9, [.ref aX, .ref aD, .ref aT, .ref aR, .ref aH, .ref aIM, .ref aW, .ref aC, .ref aK])), (aR, .inr (6, [.ref aT, .int R_in, .int R_streak, .int R_lot])), (aT, .inr (1, [.ref aT_slips, .ref aT_lates, .ref aT_copied, .int T_size, .int T_littleOnes])), (aT_slips, .inl (cI, 6, .inl T_slips)), (aT_lates, .inl (cI, 6, .inl T_lates)), (aT_copied, .inl (cI, 6, .inl T_copied)), (aH, .inr (2, [.ref aH_ins, .ref aH_streaks, .int H_size])), (aIM, .inl (cO, 2, .inr (.inr (.inr (.inr (gIm aI0 aI1)))))), (aI0, .inr (3, [.int I0_kept, .int I0_in, .int I0_streak, .int I0_lot])), (aI1, .inr (3, [.int I1_kept, .int I1_in, .int I1_streak, .int I1_lot]))]) (w1 := [(aX, .inr (8, [.ref aX_bytes, .int X_length])), (aX_bytes, .inl (cI, 200, .inl X_bytes)), (aD, .inr (5, [.ref aX, .ref aF, .int y1.2.1, .int y1.2.2.1, .int y1.2.2.2.1, .int y1.2.2.2.2.1])), (aF, .inr (1, [.ref aF_slips, .ref aF_lates, .ref aF_copied, .int y1.2.2.2.2.2.1, .int y1.2.2.2.2.2.2.1])), (aF_slips, .inl (cI, 6, .inl y1.2.2.2.2.2.2.2.1)), (aF_lates, .inl (cI, 6, .inl y1.2.2.2.2.2.2.2.2.1)), (aF_copied, .inl (cI, 6, .inl y1.2.2.2.2.2.2.2.2.2))]) hP hD [1, 2, 3, 4, 5, 6, 7] [0, 8, 9, 10, 11, 12, 13, 14, 15, 16] rfl rfl (by decide) (by decide) hk1 hFc hP1 hD1
  generalize H1 = H at hP hS ⊢
  have hP : va_P D vwCl [(aS, .inr (9, [.ref aX, .ref aD, .ref aT, .ref aR, .ref aH, .ref aIM, .ref aW, .ref aC, .ref aK])), (aX, .inr (8, [.ref aX_bytes, .int X_length])), (aX_bytes, .inl (cI, 200, .inl X_bytes)), (aD, .inr (5, [.ref aX, .ref aF, .int y1.2.1, .int y1.2.2.1, .int y1.2.2.2.1, .int y1.2.2.2.2.1])), (aF, .inr (1, [.ref aF_slips, .ref aF_lates, .ref aF_copied, .int y1.2.2.2.2.2.1, .int y1.2.2.2.2.2.2.1])), (aF_slips, .inl (cI, 6, .inl y1.2.2.2.2.2.2.2.1)), (aF_lates, .inl (cI, 6, .inl y1.2.2.2.2.2.2.2.2.1)), (aF_copied, .inl (cI, 6, .inl y1.2.2.2.2.2.2.2.2.2)), (aR, .inr (6, [.ref aT, .int R_in, .int R_streak, .int R_lot])), (aT, .inr (1, [.ref aT_slips, .ref aT_lates, .ref aT_copied, .int T_size, .int T_littleOnes])), (aT_slips, .inl (cI, 6, .inl T_slips)), (aT_lates, .inl (cI, 6, .inl T_lates)), (aT_copied, .inl (cI, 6, .inl T_copied)), (aH, .inr (2, [.ref aH_ins, .ref aH_streaks, .int H_size])), (aIM, .inl (cO, 2, .inr (.inr (.inr (.inr (gIm aI0 aI1)))))), (aI0, .inr (3, [.int I0_kept, .int I0_in, .int I0_streak, .int I0_lot])), (aI1, .inr (3, [.int I1_kept, .int I1_in, .int I1_streak, .int I1_lot]))] H := hP.sub [0, 10, 11, 12, 13, 14, 15, 16, 1, 2, 3, 4, 5, 6, 7, 8, 9] rfl
  have hD : va_D A [(aS, .inr (9, [.ref aX, .ref aD, .ref aT, .ref aR, .ref aH, .ref aIM, .ref aW, .ref aC, .ref aK])), (aX, .inr (8, [.ref aX_bytes, .int X_length])), (aX_bytes, .inl (cI, 200, .inl X_bytes)), (aD, .inr (5, [.ref aX, .ref aF, .int y1.2.1, .int y1.2.2.1, .int y1.2.2.2.1, .int y1.2.2.2.2.1])), (aF, .inr (1, [.ref aF_slips, .ref aF_lates, .ref aF_copied, .int y1.2.2.2.2.2.1, .int y1.2.2.2.2.2.2.1])), (aF_slips, .inl (cI, 6, .inl y1.2.2.2.2.2.2.2.1)), (aF_lates, .inl (cI, 6, .inl y1.2.2.2.2.2.2.2.2.1)), (aF_copied, .inl (cI, 6, .inl y1.2.2.2.2.2.2.2.2.2)), (aR, .inr (6, [.ref aT, .int R_in, .int R_streak, .int R_lot])), (aT, .inr (1, [.ref aT_slips, .ref aT_lates, .ref aT_copied, .int T_size, .int T_littleOnes])), (aT_slips, .inl (cI, 6, .inl T_slips)), (aT_lates, .inl (cI, 6, .inl T_lates)), (aT_copied, .inl (cI, 6, .inl T_copied)), (aH, .inr (2, [.ref aH_ins, .ref aH_streaks, .int H_size])), (aIM, .inl (cO, 2, .inr (.inr (.inr (.inr (gIm aI0 aI1)))))), (aI0, .inr (3, [.int I0_kept, .int I0_in, .int I0_streak, .int I0_lot])), (aI1, .inr (3, [.int I1_kept, .int I1_in, .int I1_streak, .int I1_lot]))] := hD.sub [0, 10, 11, 12, 13, 14, 15, 16, 1, 2, 3, 4, 5, 6, 7, 8, 9] (by decide) rfl
  refine lv_istore_n (lv' := [(1, .int y1.1), (0, .ref aS)]) hx hb dX9_children_7 rfl hl (by decide) rfl (fun ls hl => ?_)
  refine lv_iload_n hx hb dX9_children_8 rfl (lv_at hl 0 rfl) ?_
  refine lv_if_ge (tgt := 23) hx hb dX9_children_9 (by decide) (fun c_2 => ?_) (fun c_2 => ?_)
  · replace h := if_p c_2 h
    refine lv_aload_n hx hb dX9_children_23 rfl (lv_at hl 1 rfl) ?_
    refine va_get (D := D) (ci := 9) (v := .ref aT) (C := RX9) (T := TX9) (N := 9) hx hb hts inX9 hown hK hP 0 rfl rfl 2 (by decide) fl_28 (fun _ h9 => h9) rfl dX9_children_24 ?_
    refine lv_aload_n hx hb dX9_children_27 rfl (lv_at hl 1 rfl) ?_
    refine va_get (D := D) (ci := 9) (v := .ref aD) (C := RX9) (T := TX9) (N := 9) hx hb hts inX9 hown hK hP 0 rfl rfl 1 (by decide) fl_21 (fun _ h9 => h9) rfl dX9_children_28 ?_
    have hPc : va_P D vwCl [(aD, .inr (5, [.ref aX, .ref aF, .int y1.2.1, .int y1.2.2.1, .int y1.2.2.2.1, .int y1.2.2.2.2.1]))] H := hP.sub [3] rfl
    refine va_csr (ad := fun _ => .ref aF) (va_Run.run (va_runV (As := []) (rest := [.ref aT]) ⟨hx, hb, hml, hown, hts⟩ (c_X5_found l D cI cJ cZ cO aD aX aF y1.2.1 y1.2.2.1 y1.2.2.2.1 y1.2.2.2.2.1) (cwV 0 hts gX9_children_X5_found rfl rfl rfl (by decide +kernel) ⟨Nat.le_of_ble_eq_true rfl, Nat.le_of_ble_eq_true rfl⟩) ⟨fb_p, va_recv hK hP (ci := 5) (q0 := 3) rfl rfl, fun U hU hW => ⟨rfl, by rw [hU]; exact hPc, KK.warm hW hKK⟩⟩ rfl rfl hl.1 rfl (lv_room (Nat.le_of_ble_eq_true rfl)) dX9_children_31 ⟨Nat.le_of_ble_eq_true rfl, Nat.le_of_ble_eq_true rfl⟩)) (fun _ _ => ?_)
    obtain ⟨y3, qy3, h⟩ := ob_some h
    have hPc : va_P D vwCl [(aF, .inr (1, [.ref aF_slips, .ref aF_lates, .ref aF_copied, .int y1.2.2.2.2.2.1, .int y1.2.2.2.2.2.2.1])), (aF_slips, .inl (cI, 6, .inl y1.2.2.2.2.2.2.2.1)), (aF_lates, .inl (cI, 6, .inl y1.2.2.2.2.2.2.2.2.1)), (aF_copied, .inl (cI, 6, .inl y1.2.2.2.2.2.2.2.2.2)), (aT, .inr (1, [.ref aT_slips, .ref aT_lates, .ref aT_copied, .int T_size, .int T_littleOnes])), (aT_slips, .inl (cI, 6, .inl T_slips)), (aT_lates, .inl (cI, 6, .inl T_lates)), (aT_copied, .inl (cI, 6, .inl T_copied))] H := hP.sub [4, 5, 6, 7, 9, 10, 11, 12] rfl
    have hDc : va_D A [(aF, .inr (1, [.ref aF_slips, .ref aF_lates, .ref aF_copied, .int y1.2.2.2.2.2.1, .int y1.2.2.2.2.2.2.1])), (aF_slips, .inl (cI, 6, .inl y1.2.2.2.2.2.2.2.1)), (aF_lates, .inl (cI, 6, .inl y1.2.2.2.2.2.2.2.2.1)), (aF_copied, .inl (cI, 6, .inl y1.2.2.2.2.2.2.2.2.2)), (aT, .inr (1, [.ref aT_slips, .ref aT_lates, .ref aT_copied, .int T_size, .int T_littleOnes])), (aT_slips, .inl (cI, 6, .inl T_slips)), (aT_lates, .inl (cI, 6, .inl T_lates)), (aT_copied, .inl (cI, 6, .inl T_copied))] := hD.sub [4, 5, 6, 7, 9, 10, 11, 12] (by decide) rfl
    have hFc := va_free (wc := [(aF, .inr (1, [.ref aF_slips, .ref aF_lates, .ref aF_copied, .int y1.2.2.2.2.2.1, .int y1.2.2.2.2.2.2.1])), (aF_slips, .inl (cI, 6, .inl y1.2.2.2.2.2.2.2.1)), (aF_lates, .inl (cI, 6, .inl y1.2.2.2.2.2.2.2.2.1)), (aF_copied, .inl (cI, 6, .inl y1.2.2.2.2.2.2.2.2.2)), (aT, .inr (1, [.ref aT_slips, .ref aT_lates, .ref aT_copied, .int T_size, .int T_littleOnes])), (aT_slips, .inl (cI, 6, .inl T_slips)), (aT_lates, .inl (cI, 6, .inl T_lates)), (aT_copied, .inl (cI, 6, .inl T_copied))]) hD hS hA [4, 5, 6, 7, 9, 10, 11, 12] rfl
    refine va_callv (va_runV (As := [.ref aF]) (rest := []) ⟨hx, hb, hml, hown, hts⟩ (c_X1_takeOver l D cI cJ cZ cO aF aF_slips aF_lates aF_copied aT aT_slips aT_lates aT_copied y1.2.2.2.2.2.1 y1.2.2.2.2.2.2.1 y1.2.2.2.2.2.2.2.1 y1.2.2.2.2.2.2.2.2.1 y1.2.2.2.2.2.2.2.2.2 T_size T_littleOnes T_slips T_lates T_copied H.size y3 qy3) (cwV 1 hts gX9_children_X1_takeOver rfl rfl rfl (by decide +kernel) ⟨Nat.le_of_ble_eq_true rfl, Nat.le_of_ble_eq_true rfl⟩) ⟨fb_i, va_recv hK hP (ci := 1) (q0 := 9) rfl rfl, fun U hU hW => ⟨rfl, by rw [hU], by rw [hU]; exact hPc, KK.warm hW hKK, hDc.weaken (fun _ _ _ _ => trivial)⟩⟩ rfl rfl hl.1 rfl (lv_room (Nat.le_of_ble_eq_true rfl)) dX9_children_34 ⟨Nat.le_of_ble_eq_true rfl, Nat.le_of_ble_eq_true rfl⟩) hS (fun q _ h => hFc q h) hFc (fun u t H1 locs ht hvm hw hB hz1 hk1 hS => ?_)
    obtain ⟨hP1, hD1⟩ := hB
    rw [ht] at hP1
    obtain ⟨hP, hD⟩ := va_join (wr := [(aS, .inr (9, [.ref aX, .ref aD, .ref aT, .ref aR, .ref aH, .ref aIM, .ref aW, .ref aC, .ref aK])), (aX, .inr (8, [.ref aX_bytes, .int X_length])), (aX_bytes, .inl (cI, 200, .inl X_bytes)), (aD, .inr (5, [.ref aX, .ref aF, .int y1.2.1, .int y1.2.2.1, .int y1.2.2.2.1, .int y1.2.2.2.2.1])), (aR, .inr (6, [.ref aT, .int R_in, .int R_streak, .int R_lot])), (aH, .inr (2, [.ref aH_ins, .ref aH_streaks, .int H_size])), (aIM, .inl (cO, 2, .inr (.inr (.inr (.inr (gIm aI0 aI1)))))), (aI0, .inr (3, [.int I0_kept, .int I0_in, .int I0_streak, .int I0_lot])), (aI1, .inr (3, [.int I1_kept, .int I1_in, .int I1_streak, .int I1_lot]))]) (w1 := [(aF, .inr (1, [.ref aF_slips, .ref aF_lates, .ref aF_copied, .int y1.2.2.2.2.2.1, .int y1.2.2.2.2.2.2.1])), (aF_slips, .inl (cI, 6, .inl y1.2.2.2.2.2.2.2.1)), (aF_lates, .inl (cI, 6, .inl y1.2.2.2.2.2.2.2.2.1)), (aF_copied, .inl (cI, 6, .inl y1.2.2.2.2.2.2.2.2.2)), (aT, .inr (1, [.ref aT_slips, .ref aT_lates, .ref aT_copied, .int y3.1, .int y3.2.1])), (aT_slips, .inl (cI, 6, .inl y3.2.2.1)), (aT_lates, .inl (cI, 6, .inl y3.2.2.2.1)), (aT_copied, .inl (cI, 6, .inl y3.2.2.2.2))]) hP hD [4, 5, 6, 7, 9, 10, 11, 12] [0, 1, 2, 3, 8, 13, 14, 15, 16] rfl rfl (by decide) (by decide) hk1 hFc hP1 hD1
    generalize H1 = H at hP hS ⊢
    have hP : va_P D vwCl [(aS, .inr (9, [.ref aX, .ref aD, .ref aT, .ref aR, .ref aH, .ref aIM, .ref aW, .ref aC, .ref aK])), (aX, .inr (8, [.ref aX_bytes, .int X_length])), (aX_bytes, .inl (cI, 200, .inl X_bytes)), (aD, .inr (5, [.ref aX, .ref aF, .int y1.2.1, .int y1.2.2.1, .int y1.2.2.2.1, .int y1.2.2.2.2.1])), (aF, .inr (1, [.ref aF_slips, .ref aF_lates, .ref aF_copied, .int y1.2.2.2.2.2.1, .int y1.2.2.2.2.2.2.1])), (aF_slips, .inl (cI, 6, .inl y1.2.2.2.2.2.2.2.1)), (aF_lates, .inl (cI, 6, .inl y1.2.2.2.2.2.2.2.2.1)), (aF_copied, .inl (cI, 6, .inl y1.2.2.2.2.2.2.2.2.2)), (aR, .inr (6, [.ref aT, .int R_in, .int R_streak, .int R_lot])), (aT, .inr (1, [.ref aT_slips, .ref aT_lates, .ref aT_copied, .int y3.1, .int y3.2.1])), (aT_slips, .inl (cI, 6, .inl y3.2.2.1)), (aT_lates, .inl (cI, 6, .inl y3.2.2.2.1)), (aT_copied, .inl (cI, 6, .inl y3.2.2.2.2)), (aH, .inr (2, [.ref aH_ins, .ref aH_streaks, .int H_size])), (aIM, .inl (cO, 2, .inr (.inr (.inr (.inr (gIm aI0 aI1)))))), (aI0, .inr (3, [.int I0_kept, .int I0_in, .int I0_streak, .int I0_lot])), (aI1, .inr (3, [.int I1_kept, .int I1_in, .int I1_streak, .int I1_lot]))] H := hP.sub [0, 1, 2, 3, 9, 10, 11, 12, 4, 13, 14, 15, 16, 5, 6, 7, 8] rfl
    have hD : va_D A [(aS, .inr (9, [.ref aX, .ref aD, .ref aT, .ref aR, .ref aH, .ref aIM, .ref aW, .ref aC, .ref aK])), (aX, .inr (8, [.ref aX_bytes, .int X_length])), (aX_bytes, .inl (cI, 200, .inl X_bytes)), (aD, .inr (5, [.ref aX, .ref aF, .int y1.2.1, .int y1.2.2.1, .int y1.2.2.2.1, .int y1.2.2.2.2.1])), (aF, .inr (1, [.ref aF_slips, .ref aF_lates, .ref aF_copied, .int y1.2.2.2.2.2.1, .int y1.2.2.2.2.2.2.1])), (aF_slips, .inl (cI, 6, .inl y1.2.2.2.2.2.2.2.1)), (aF_lates, .inl (cI, 6, .inl y1.2.2.2.2.2.2.2.2.1)), (aF_copied, .inl (cI, 6, .inl y1.2.2.2.2.2.2.2.2.2)), (aR, .inr (6, [.ref aT, .int R_in, .int R_streak, .int R_lot])), (aT, .inr (1, [.ref aT_slips, .ref aT_lates, .ref aT_copied, .int y3.1, .int y3.2.1])), (aT_slips, .inl (cI, 6, .inl y3.2.2.1)), (aT_lates, .inl (cI, 6, .inl y3.2.2.2.1)), (aT_copied, .inl (cI, 6, .inl y3.2.2.2.2)), (aH, .inr (2, [.ref aH_ins, .ref aH_streaks, .int H_size])), (aIM, .inl (cO, 2, .inr (.inr (.inr (.inr (gIm aI0 aI1)))))), (aI0, .inr (3, [.int I0_kept, .int I0_in, .int I0_streak, .int I0_lot])), (aI1, .inr (3, [.int I1_kept, .int I1_in, .int I1_streak, .int I1_lot]))] := hD.sub [0, 1, 2, 3, 9, 10, 11, 12, 4, 13, 14, 15, 16, 5, 6, 7, 8] (by decide) rfl
    refine lv_aload_n hx hb dX9_children_37 rfl (lv_at hl 1 rfl) ?_
    refine va_get (D := D) (ci := 9) (v := .ref aR) (C := RX9) (T := TX9) (N := 9) hx hb hts inX9 hown hK hP 0 rfl rfl 3 (by decide) fl_37 (fun _ h9 => h9) rfl dX9_children_38 ?_
    obtain ⟨y4, qy4, h⟩ := ob_some h
    have hPc : va_P D vwCl [(aR, .inr (6, [.ref aT, .int R_in, .int R_streak, .int R_lot])), (aT, .inr (1, [.ref aT_slips, .ref aT_lates, .ref aT_copied, .int y3.1, .int y3.2.1]))] H := hP.sub [8, 9] rfl
    have hDc : va_D A [(aR, .inr (6, [.ref aT, .int R_in, .int R_streak, .int R_lot])), (aT, .inr (1, [.ref aT_slips, .ref aT_lates, .ref aT_copied, .int y3.1, .int y3.2.1]))] := hD.sub [8, 9] (by decide) rfl
    have hFc := va_free (wc := [(aR, .inr (6, [.ref aT, .int R_in, .int R_streak, .int R_lot])), (aT, .inr (1, [.ref aT_slips, .ref aT_lates, .ref aT_copied, .int y3.1, .int y3.2.1]))]) hD hS hA [8, 9] rfl
    refine va_callv (va_runV (As := []) (rest := []) ⟨hx, hb, hml, hown, hts⟩ (c_X6_startAnew l D cI cJ cZ cO aR aT aT_slips aT_lates aT_copied R_in R_streak R_lot y3.1 y3.2.1 H.size y4 qy4) (cwV 0 hts gX9_children_X6_startAnew rfl rfl rfl (by decide +kernel) ⟨Nat.le_of_ble_eq_true rfl, Nat.le_of_ble_eq_true rfl⟩) ⟨fb_i, va_recv hK hP (ci := 6) (q0 := 8) rfl rfl, fun U hU hW => ⟨rfl, by rw [hU], by rw [hU]; exact hPc, KK.warm hW hKK, hDc.weaken (fun _ _ _ _ => trivial)⟩⟩ rfl rfl hl.1 rfl (lv_room (Nat.le_of_ble_eq_true rfl)) dX9_children_41 ⟨Nat.le_of_ble_eq_true rfl, Nat.le_of_ble_eq_true rfl⟩) hS (fun q _ h => hFc q h) hFc (fun u t H1 locs ht hvm hw hB hz1 hk1 hS => ?_)
    obtain ⟨hP1, hD1⟩ := hB
    rw [ht] at hP1
    obtain ⟨hP, hD⟩ := va_join (wr := [(aS, .inr (9, [.ref aX, .ref aD, .ref aT, .ref aR, .ref aH, .ref aIM, .ref aW, .ref aC, .ref aK])), (aX, .inr (8, [.ref aX_bytes, .int X_length])), (aX_bytes, .inl (cI, 200, .inl X_bytes)), (aD, .inr (5, [.ref aX, .ref aF, .int y1.2.1, .int y1.2.2.1, .int y1.2.2.2.1, .int y1.2.2.2.2.1])), (aF, .inr (1, [.ref aF_slips, .ref aF_lates, .ref aF_copied, .int y1.2.2.2.2.2.1, .int y1.2.2.2.2.2.2.1])), (aF_slips, .inl (cI, 6, .inl y1.2.2.2.2.2.2.2.1)), (aF_lates, .inl (cI, 6, .inl y1.2.2.2.2.2.2.2.2.1)), (aF_copied, .inl (cI, 6, .inl y1.2.2.2.2.2.2.2.2.2)), (aT_slips, .inl (cI, 6, .inl y3.2.2.1)), (aT_lates, .inl (cI, 6, .inl y3.2.2.2.1)), (aT_copied, .inl (cI, 6, .inl y3.2.2.2.2)), (aH, .inr (2, [.ref aH_ins, .ref aH_streaks, .int H_size])), (aIM, .inl (cO, 2, .inr (.inr (.inr (.inr (gIm aI0 aI1)))))), (aI0, .inr (3, [.int I0_kept, .int I0_in, .int I0_streak, .int I0_lot])), (aI1, .inr (3, [.int I1_kept, .int I1_in, .int I1_streak, .int I1_lot]))]) (w1 := [(aR, .inr (6, [.ref aT, .int y4.1, .int y4.2, .int R_lot])), (aT, .inr (1, [.ref aT_slips, .ref aT_lates, .ref aT_copied, .int y3.1, .int y3.2.1]))]) hP hD [8, 9] [0, 1, 2, 3, 4, 5, 6, 7, 10, 11, 12, 13, 14, 15, 16] rfl rfl (by decide) (by decide) hk1 hFc hP1 hD1
    generalize H1 = H at hP hS ⊢
    have hP : va_P D vwCl [(aS, .inr (9, [.ref aX, .ref aD, .ref aT, .ref aR, .ref aH, .ref aIM, .ref aW, .ref aC, .ref aK])), (aX, .inr (8, [.ref aX_bytes, .int X_length])), (aX_bytes, .inl (cI, 200, .inl X_bytes)), (aD, .inr (5, [.ref aX, .ref aF, .int y1.2.1, .int y1.2.2.1, .int y1.2.2.2.1, .int y1.2.2.2.2.1])), (aF, .inr (1, [.ref aF_slips, .ref aF_lates, .ref aF_copied, .int y1.2.2.2.2.2.1, .int y1.2.2.2.2.2.2.1])), (aF_slips, .inl (cI, 6, .inl y1.2.2.2.2.2.2.2.1)), (aF_lates, .inl (cI, 6, .inl y1.2.2.2.2.2.2.2.2.1)), (aF_copied, .inl (cI, 6, .inl y1.2.2.2.2.2.2.2.2.2)), (aR, .inr (6, [.ref aT, .int y4.1, .int y4.2, .int R_lot])), (aT, .inr (1, [.ref aT_slips, .ref aT_lates, .ref aT_copied, .int y3.1, .int y3.2.1])), (aT_slips, .inl (cI, 6, .inl y3.2.2.1)), (aT_lates, .inl (cI, 6, .inl y3.2.2.2.1)), (aT_copied, .inl (cI, 6, .inl y3.2.2.2.2)), (aH, .inr (2, [.ref aH_ins, .ref aH_streaks, .int H_size])), (aIM, .inl (cO, 2, .inr (.inr (.inr (.inr (gIm aI0 aI1)))))), (aI0, .inr (3, [.int I0_kept, .int I0_in, .int I0_streak, .int I0_lot])), (aI1, .inr (3, [.int I1_kept, .int I1_in, .int I1_streak, .int I1_lot]))] H := hP.sub [0, 1, 2, 3, 4, 5, 6, 7, 15, 16, 8, 9, 10, 11, 12, 13, 14] rfl
    have hD : va_D A [(aS, .inr (9, [.ref aX, .ref aD, .ref aT, .ref aR, .ref aH, .ref aIM, .ref aW, .ref aC, .ref aK])), (aX, .inr (8, [.ref aX_bytes, .int X_length])), (aX_bytes, .inl (cI, 200, .inl X_bytes)), (aD, .inr (5, [.ref aX, .ref aF, .int y1.2.1, .int y1.2.2.1, .int y1.2.2.2.1, .int y1.2.2.2.2.1])), (aF, .inr (1, [.ref aF_slips, .ref aF_lates, .ref aF_copied, .int y1.2.2.2.2.2.1, .int y1.2.2.2.2.2.2.1])), (aF_slips, .inl (cI, 6, .inl y1.2.2.2.2.2.2.2.1)), (aF_lates, .inl (cI, 6, .inl y1.2.2.2.2.2.2.2.2.1)), (aF_copied, .inl (cI, 6, .inl y1.2.2.2.2.2.2.2.2.2)), (aR, .inr (6, [.ref aT, .int y4.1, .int y4.2, .int R_lot])), (aT, .inr (1, [.ref aT_slips, .ref aT_lates, .ref aT_copied, .int y3.1, .int y3.2.1])), (aT_slips, .inl (cI, 6, .inl y3.2.2.1)), (aT_lates, .inl (cI, 6, .inl y3.2.2.2.1)), (aT_copied, .inl (cI, 6, .inl y3.2.2.2.2)), (aH, .inr (2, [.ref aH_ins, .ref aH_streaks, .int H_size])), (aIM, .inl (cO, 2, .inr (.inr (.inr (.inr (gIm aI0 aI1)))))), (aI0, .inr (3, [.int I0_kept, .int I0_in, .int I0_streak, .int I0_lot])), (aI1, .inr (3, [.int I1_kept, .int I1_in, .int I1_streak, .int I1_lot]))] := hD.sub [0, 1, 2, 3, 4, 5, 6, 7, 15, 16, 8, 9, 10, 11, 12, 13, 14] (by decide) rfl
    refine lv_aload_n hx hb dX9_children_44 rfl (lv_at hl 1 rfl) ?_
    refine va_get (D := D) (ci := 9) (v := .ref aH) (C := RX9) (T := TX9) (N := 9) hx hb hts inX9 hown hK hP 0 rfl rfl 4 (by decide) fl_44 (fun _ h9 => h9) rfl dX9_children_45 ?_
    obtain ⟨y5, qy5, h⟩ := ob_some h
    have hPc : va_P D vwCl [(aH, .inr (2, [.ref aH_ins, .ref aH_streaks, .int H_size]))] H := hP.sub [13] rfl
    have hDc : va_D A [(aH, .inr (2, [.ref aH_ins, .ref aH_streaks, .int H_size]))] := hD.sub [13] (by decide) rfl
    have hFc := va_free (wc := [(aH, .inr (2, [.ref aH_ins, .ref aH_streaks, .int H_size]))]) hD hS hA [13] rfl
    refine va_callv (va_runV (As := []) (rest := []) ⟨hx, hb, hml, hown, hts⟩ (c_X2_forget l D cI cJ cZ cO aH aH_ins aH_streaks H_size H.size y5 qy5) (cwV 0 hts gX9_children_X2_forget rfl rfl rfl (by decide +kernel) ⟨Nat.le_of_ble_eq_true rfl, Nat.le_of_ble_eq_true rfl⟩) ⟨fb_i, va_recv hK hP (ci := 2) (q0 := 13) rfl rfl, fun U hU hW => ⟨rfl, by rw [hU], by rw [hU]; exact hPc, KK.warm hW hKK, hDc.weaken (fun _ _ _ _ => trivial)⟩⟩ rfl rfl hl.1 rfl (lv_room (Nat.le_of_ble_eq_true rfl)) dX9_children_48 ⟨Nat.le_of_ble_eq_true rfl, Nat.le_of_ble_eq_true rfl⟩) hS (fun q _ h => hFc q h) hFc (fun u t H1 locs ht hvm hw hB hz1 hk1 hS => ?_)
    obtain ⟨hP1, hD1⟩ := hB
    rw [ht] at hP1
    obtain ⟨hP, hD⟩ := va_join (wr := [(aS, .inr (9, [.ref aX, .ref aD, .ref aT, .ref aR, .ref aH, .ref aIM, .ref aW, .ref aC, .ref aK])), (aX, .inr (8, [.ref aX_bytes, .int X_length])), (aX_bytes, .inl (cI, 200, .inl X_bytes)), (aD, .inr (5, [.ref aX, .ref aF, .int y1.2.1, .int y1.2.2.1, .int y1.2.2.2.1, .int y1.2.2.2.2.1])), (aF, .inr (1, [.ref aF_slips, .ref aF_lates, .ref aF_copied, .int y1.2.2.2.2.2.1, .int y1.2.2.2.2.2.2.1])), (aF_slips, .inl (cI, 6, .inl y1.2.2.2.2.2.2.2.1)), (aF_lates, .inl (cI, 6, .inl y1.2.2.2.2.2.2.2.2.1)), (aF_copied, .inl (cI, 6, .inl y1.2.2.2.2.2.2.2.2.2)), (aR, .inr (6, [.ref aT, .int y4.1, .int y4.2, .int R_lot])), (aT, .inr (1, [.ref aT_slips, .ref aT_lates, .ref aT_copied, .int y3.1, .int y3.2.1])), (aT_slips, .inl (cI, 6, .inl y3.2.2.1)), (aT_lates, .inl (cI, 6, .inl y3.2.2.2.1)), (aT_copied, .inl (cI, 6, .inl y3.2.2.2.2)), (aIM, .inl (cO, 2, .inr (.inr (.inr (.inr (gIm aI0 aI1)))))), (aI0, .inr (3, [.int I0_kept, .int I0_in, .int I0_streak, .int I0_lot])), (aI1, .inr (3, [.int I1_kept, .int I1_in, .int I1_streak, .int I1_lot]))]) (w1 := [(aH, .inr (2, [.ref aH_ins, .ref aH_streaks, .int y5]))]) hP hD [13] [0, 1, 2, 3, 4, 5, 6, 7, 8, 9, 10, 11, 12, 14, 15, 16] rfl rfl (by decide) (by decide) hk1 hFc hP1 hD1
    generalize H1 = H at hP hS ⊢
    have hP : va_P D vwCl [(aS, .inr (9, [.ref aX, .ref aD, .ref aT, .ref aR, .ref aH, .ref aIM, .ref aW, .ref aC, .ref aK])), (aX, .inr (8, [.ref aX_bytes, .int X_length])), (aX_bytes, .inl (cI, 200, .inl X_bytes)), (aD, .inr (5, [.ref aX, .ref aF, .int y1.2.1, .int y1.2.2.1, .int y1.2.2.2.1, .int y1.2.2.2.2.1])), (aF, .inr (1, [.ref aF_slips, .ref aF_lates, .ref aF_copied, .int y1.2.2.2.2.2.1, .int y1.2.2.2.2.2.2.1])), (aF_slips, .inl (cI, 6, .inl y1.2.2.2.2.2.2.2.1)), (aF_lates, .inl (cI, 6, .inl y1.2.2.2.2.2.2.2.2.1)), (aF_copied, .inl (cI, 6, .inl y1.2.2.2.2.2.2.2.2.2)), (aR, .inr (6, [.ref aT, .int y4.1, .int y4.2, .int R_lot])), (aT, .inr (1, [.ref aT_slips, .ref aT_lates, .ref aT_copied, .int y3.1, .int y3.2.1])), (aT_slips, .inl (cI, 6, .inl y3.2.2.1)), (aT_lates, .inl (cI, 6, .inl y3.2.2.2.1)), (aT_copied, .inl (cI, 6, .inl y3.2.2.2.2)), (aH, .inr (2, [.ref aH_ins, .ref aH_streaks, .int y5])), (aIM, .inl (cO, 2, .inr (.inr (.inr (.inr (gIm aI0 aI1)))))), (aI0, .inr (3, [.int I0_kept, .int I0_in, .int I0_streak, .int I0_lot])), (aI1, .inr (3, [.int I1_kept, .int I1_in, .int I1_streak, .int I1_lot]))] H := hP.sub [0, 1, 2, 3, 4, 5, 6, 7, 8, 9, 10, 11, 12, 16, 13, 14, 15] rfl
    have hD : va_D A [(aS, .inr (9, [.ref aX, .ref aD, .ref aT, .ref aR, .ref aH, .ref aIM, .ref aW, .ref aC, .ref aK])), (aX, .inr (8, [.ref aX_bytes, .int X_length])), (aX_bytes, .inl (cI, 200, .inl X_bytes)), (aD, .inr (5, [.ref aX, .ref aF, .int y1.2.1, .int y1.2.2.1, .int y1.2.2.2.1, .int y1.2.2.2.2.1])), (aF, .inr (1, [.ref aF_slips, .ref aF_lates, .ref aF_copied, .int y1.2.2.2.2.2.1, .int y1.2.2.2.2.2.2.1])), (aF_slips, .inl (cI, 6, .inl y1.2.2.2.2.2.2.2.1)), (aF_lates, .inl (cI, 6, .inl y1.2.2.2.2.2.2.2.2.1)), (aF_copied, .inl (cI, 6, .inl y1.2.2.2.2.2.2.2.2.2)), (aR, .inr (6, [.ref aT, .int y4.1, .int y4.2, .int R_lot])), (aT, .inr (1, [.ref aT_slips, .ref aT_lates, .ref aT_copied, .int y3.1, .int y3.2.1])), (aT_slips, .inl (cI, 6, .inl y3.2.2.1)), (aT_lates, .inl (cI, 6, .inl y3.2.2.2.1)), (aT_copied, .inl (cI, 6, .inl y3.2.2.2.2)), (aH, .inr (2, [.ref aH_ins, .ref aH_streaks, .int y5])), (aIM, .inl (cO, 2, .inr (.inr (.inr (.inr (gIm aI0 aI1)))))), (aI0, .inr (3, [.int I0_kept, .int I0_in, .int I0_streak, .int I0_lot])), (aI1, .inr (3, [.int I1_kept, .int I1_in, .int I1_streak, .int I1_lot]))] := hD.sub [0, 1, 2, 3, 4, 5, 6, 7, 8, 9, 10, 11, 12, 16, 13, 14, 15] (by decide) rfl
    refine lv_iconst (v := (0 : Int32)) hx hb dX9_children_51 (by decide) ?_
    refine lv_istore_n (lv' := [(2, .int (0 : Int32)), (1, .int y1.1), (0, .ref aS)]) hx hb dX9_children_52 rfl hl (by decide) rfl (fun ls hl => ?_)
    exact L53 300 X_length y1.2.1 y1.2.2.1 y1.2.2.2.1 y1.2.2.2.2.1 y1.2.2.2.2.2.1 y1.2.2.2.2.2.2.1 y1.2.2.2.2.2.2.2.1 y1.2.2.2.2.2.2.2.2.1 y1.2.2.2.2.2.2.2.2.2 y4.1 y4.2 y3.1 y3.2.1 y3.2.2.1 y3.2.2.2.1 y3.2.2.2.2 y5 I0_kept I1_kept y1.1 (0 : Int32) _ _ hP hD hS ls (lv_sub hl [2, 1, 0] rfl) h
  · replace h := if_n c_2 h
    refine lv_bipush (v := (-10 : Int32)) hx hb dX9_children_12 (by decide) ?_
    refine lv_aload_n hx hb dX9_children_14 rfl (lv_at hl 1 rfl) ?_
    refine va_get (D := D) (ci := 9) (v := .ref aD) (C := RX9) (T := TX9) (N := 9) hx hb hts inX9 hown hK hP 0 rfl rfl 1 (by decide) fl_21 (fun _ h9 => h9) rfl dX9_children_15 ?_
    have hPc : va_P D vwCl [(aD, .inr (5, [.ref aX, .ref aF, .int y1.2.1, .int y1.2.2.1, .int y1.2.2.2.1, .int y1.2.2.2.2.1]))] H := hP.sub [3] rfl
    refine vp_callSi (va_Run.run (va_runV (As := []) (rest := [.int (-10 : Int32)]) ⟨hx, hb, hml, hown, hts⟩ (c_X5_fault l D cI cJ cZ cO aD aX aF y1.2.1 y1.2.2.1 y1.2.2.2.1 y1.2.2.2.2.1 _ rfl) (cwV 0 hts gX9_children_X5_fault rfl rfl rfl (by decide +kernel) ⟨Nat.le_of_ble_eq_true rfl, Nat.le_of_ble_eq_true rfl⟩) ⟨fb_p, va_recv hK hP (ci := 5) (q0 := 3) rfl rfl, fun U hU hW => ⟨rfl, by rw [hU]; exact hPc, KK.warm hW hKK⟩⟩ rfl rfl hl.1 rfl (lv_room (Nat.le_of_ble_eq_true rfl)) dX9_children_18 ⟨Nat.le_of_ble_eq_true rfl, Nat.le_of_ble_eq_true rfl⟩)) (fun r hr => ?_)
    replace hr := hr.symm
    subst hr
    refine lv_isub hx hb dX9_children_21 ?_
    have hy := Option.some.inj h
    subst hy
    exact W.iret (v := ((-10 : Int32) - (f_X5_fault y1.2.2.1))) hx hb hr (fun t ht hW => ⟨⟨((-10 : Int32) - (f_X5_fault y1.2.2.1)), (), rfl, rfl, by rw [ht]; exact hP, hD⟩, hS.F ht⟩) hS.2.2 dX9_children_22

def f_X9_child (R_in : Int32) (T_size : Int32) (T_littleOnes : Int32) (T_slips : Nat → Int32) (T_lates : Nat → Int32) (T_copied : Nat → Int32) (p1 : Int32) (p2 : Int32) : Option (Int32) := (if (f_X1_has T_size p1) = 0 then some (-1 : Int32) else (if p2 = (0 : Int32) then (Option.bind (f_X1_slipOf T_size T_slips p1) (fun y3 => some y3)) else (if p2 = (1 : Int32) then (Option.bind (f_X1_lateOf T_size T_lates p1) (fun y5 => some y5)) else (if p2 = (2 : Int32) then (Option.bind (f_X1_copiedBy T_size T_copied p1) (fun y7 => some y7)) else (if p2 = (3 : Int32) then (if (f_X1_isLittle T_size T_littleOnes p1) = 0 then some (0 : Int32) else some (1 : Int32)) else (if p2 = (4 : Int32) then (if (f_X6_isIn R_in T_size p1) = 0 then some (0 : Int32) else some (1 : Int32)) else (if p2 = (5 : Int32) then (if (f_X6_isIn R_in T_size p1) = 0 then some (-9 : Int32) else (Option.bind (f_X6_leaderOf R_in T_size T_copied p1) (fun y17 => some y17))) else some (-1 : Int32))))))))
set_option maxHeartbeats 8000000 in
set_option maxRecDepth 100000 in
theorem c_X9_child (l : Launch) (D : va_G) (cI cJ cZ cO : ClassId) (aS : Nat) (aR : Nat) (aT : Nat) (aT_slips : Nat) (aT_lates : Nat) (aT_copied : Nat) (aX : Nat) (aD : Nat) (aH : Nat) (aIM : Nat) (aW : Nat) (aC : Nat) (aK : Nat) (R_in : Int32) (R_streak : Int32) (R_lot : Int32) (T_size : Int32) (T_littleOnes : Int32) (T_slips : Nat → Int32) (T_lates : Nat → Int32) (T_copied : Nat → Int32)  (p1 : Int32) (p2 : Int32)  (y0 : Int32) (h : f_X9_child R_in T_size T_littleOnes T_slips T_lates T_copied p1 p2 = some y0) : Met l yX9_child wsX9_child ({ frames := 3, cells := 0, slots := 0, locals := 66 } : Room) (va_Pc [.ref aS, .int p1, .int p2] (fun U => va_P D vwCl [(aS, .inr (9, [.ref aX, .ref aD, .ref aT, .ref aR, .ref aH, .ref aIM, .ref aW, .ref aC, .ref aK])), (aR, .inr (6, [.ref aT, .int R_in, .int R_streak, .int R_lot])), (aT, .inr (1, [.ref aT_slips, .ref aT_lates, .ref aT_copied, .int T_size, .int T_littleOnes])), (aT_slips, .inl (cI, 6, .inl T_slips)), (aT_lates, .inl (cI, 6, .inl T_lates)), (aT_copied, .inl (cI, 6, .inl T_copied))] U.heap ∧ KK D cI cJ cZ cO U)) (vp_Si (fun r => r = y0)) 0 0 (fun _ => False) := by
  refine Met.ofW (cc := cX9_child) (maxL := 3) (ret := (some .int)) (by decide) rfl ?_
  intro p e s m args below meth c s₁ B hml hv
  obtain ⟨rfl, hP, hKK⟩ := hv
  have hx := B.exec
  have hb := B.bytes
  have hr := B.returns
  have hts := atoms_spec (ws := wsX9_child) B.pre
  have hown : s.vm.findClass RX9 = some m.cls := findClass_of_methodNamed B.named
  have hlocks := B.notSynchronized
  have hK := hKK.1
  have fl_28 := hts (.fieldLink RX9 28 "SimonSays" "told" "LSimonSays$Children;") (by decide +kernel)
  have fl_37 := hts (.fieldLink RX9 37 "SimonSays" "round" "LSimonSays$Round;") (by decide +kernel)
  have inX9 : ∀ w ∈ wsX90, w ∈ wsX9_child := by decide +kernel
  have hl := lv_entry ([.ref aS, .int p1, .int p2]) (n := 3) (Nat.le_of_ble_eq_true rfl)
  rw [lg_entry_eq]
  generalize (lg_sl ([.ref aS, .int p1, .int p2]) ++ List.replicate (3 - (lg_sl ([.ref aS, .int p1, .int p2])).length) Slot.unset).toArray = ls at hl ⊢
  have hl : lv_has ls 3 [(0, .ref aS), (1, .int p1), (2, .int p2)] := hl
  unfold f_X9_child at h
  refine lv_aload_n hx hb dX9_child_0 rfl (lv_at hl 0 rfl) ?_
  refine va_get (D := D) (ci := 9) (v := .ref aT) (C := RX9) (T := TX9) (N := 9) hx hb hts inX9 hown hK hP 0 rfl rfl 2 (by decide) fl_28 (fun _ h9 => h9) rfl dX9_child_1 ?_
  refine lv_iload_n hx hb dX9_child_4 rfl (lv_at hl 1 rfl) ?_
  have hPc : va_P D vwCl [(aT, .inr (1, [.ref aT_slips, .ref aT_lates, .ref aT_copied, .int T_size, .int T_littleOnes]))] s.heap := hP.sub [2] rfl
  refine vp_callSi (va_Run.run (va_runV (As := [.int p1]) (rest := []) ⟨hx, hb, hml, hown, hts⟩ (c_X1_has l D cI cJ cZ cO aT aT_slips aT_lates aT_copied T_size T_littleOnes p1 _ rfl) (cwV 1 hts gX9_child_X1_has rfl rfl rfl (by decide +kernel) ⟨Nat.le_of_ble_eq_true rfl, Nat.le_of_ble_eq_true rfl⟩) ⟨fb_p, va_recv hK hP (ci := 1) (q0 := 2) rfl rfl, fun U hU hW => ⟨rfl, by rw [hU]; exact hPc, KK.warm hW hKK⟩⟩ rfl rfl hl.1 rfl (lv_room (Nat.le_of_ble_eq_true rfl)) dX9_child_5 ⟨Nat.le_of_ble_eq_true rfl, Nat.le_of_ble_eq_true rfl⟩)) (fun r hr => ?_)
  obtain ⟨hr, hz1⟩ := hr
  replace hr := hr.symm
  subst hr
  refine lv_if_ne (tgt := 13) hx hb dX9_child_8 (by decide) (fun c_2 => ?_) (fun c_2 => ?_)
  · replace h := if_n c_2 h
    refine lv_iload_n hx hb dX9_child_13 rfl (lv_at hl 2 rfl) ?_
    by_cases s_4 : p2 = (0 : Int32)
    · replace h := if_p s_4 h
      refine lv_tableIn (off := 38) (tgt := 52) hx hb dX9_child_14 (by rw [s_4]; decide) (by rw [s_4]; decide) (by rw [s_4]; decide) (by decide) ?_
      refine lv_aload_n hx hb dX9_child_52 rfl (lv_at hl 0 rfl) ?_
      refine va_get (D := D) (ci := 9) (v := .ref aT) (C := RX9) (T := TX9) (N := 9) hx hb hts inX9 hown hK hP 0 rfl rfl 2 (by decide) fl_28 (fun _ h9 => h9) rfl dX9_child_53 ?_
      refine lv_iload_n hx hb dX9_child_56 rfl (lv_at hl 1 rfl) ?_
      obtain ⟨y3, qy3, h⟩ := ob_some h
      have hPc : va_P D vwCl [(aT, .inr (1, [.ref aT_slips, .ref aT_lates, .ref aT_copied, .int T_size, .int T_littleOnes])), (aT_slips, .inl (cI, 6, .inl T_slips))] s.heap := hP.sub [2, 3] rfl
      refine vp_callSi (va_Run.run (va_runV (As := [.int p1]) (rest := []) ⟨hx, hb, hml, hown, hts⟩ (c_X1_slipOf l D cI cJ cZ cO aT aT_slips aT_lates aT_copied T_size T_littleOnes T_slips p1 y3 qy3) (cwV 1 hts gX9_child_X1_slipOf rfl rfl rfl (by decide +kernel) ⟨Nat.le_of_ble_eq_true rfl, Nat.le_of_ble_eq_true rfl⟩) ⟨fb_p, va_recv hK hP (ci := 1) (q0 := 2) rfl rfl, fun U hU hW => ⟨rfl, by rw [hU]; exact hPc, KK.warm hW hKK⟩⟩ rfl rfl hl.1 rfl (lv_room (Nat.le_of_ble_eq_true rfl)) dX9_child_57 ⟨Nat.le_of_ble_eq_true rfl, Nat.le_of_ble_eq_true rfl⟩)) (fun r hr => ?_)
      replace hr := hr.symm
      subst hr
      exact pr_i hx hb hr hlocks dX9_child_60 (Option.some.inj h)
    replace h := if_n s_4 h
    by_cases s_6 : p2 = (1 : Int32)
    · replace h := if_p s_6 h
      refine lv_tableIn (off := 47) (tgt := 61) hx hb dX9_child_14 (by rw [s_6]; decide) (by rw [s_6]; decide) (by rw [s_6]; decide) (by decide) ?_
      refine lv_aload_n hx hb dX9_child_61 rfl (lv_at hl 0 rfl) ?_
      refine va_get (D := D) (ci := 9) (v := .ref aT) (C := RX9) (T := TX9) (N := 9) hx hb hts inX9 hown hK hP 0 rfl rfl 2 (by decide) fl_28 (fun _ h9 => h9) rfl dX9_child_62 ?_
      refine lv_iload_n hx hb dX9_child_65 rfl (lv_at hl 1 rfl) ?_
      obtain ⟨y5, qy5, h⟩ := ob_some h
      have hPc : va_P D vwCl [(aT, .inr (1, [.ref aT_slips, .ref aT_lates, .ref aT_copied, .int T_size, .int T_littleOnes])), (aT_lates, .inl (cI, 6, .inl T_lates))] s.heap := hP.sub [2, 4] rfl
      refine vp_callSi (va_Run.run (va_runV (As := [.int p1]) (rest := []) ⟨hx, hb, hml, hown, hts⟩ (c_X1_lateOf l D cI cJ cZ cO aT aT_lates aT_slips aT_copied T_size T_littleOnes T_lates p1 y5 qy5) (cwV 1 hts gX9_child_X1_lateOf rfl rfl rfl (by decide +kernel) ⟨Nat.le_of_ble_eq_true rfl, Nat.le_of_ble_eq_true rfl⟩) ⟨fb_p, va_recv hK hP (ci := 1) (q0 := 2) rfl rfl, fun U hU hW => ⟨rfl, by rw [hU]; exact hPc, KK.warm hW hKK⟩⟩ rfl rfl hl.1 rfl (lv_room (Nat.le_of_ble_eq_true rfl)) dX9_child_66 ⟨Nat.le_of_ble_eq_true rfl, Nat.le_of_ble_eq_true rfl⟩)) (fun r hr => ?_)
      replace hr := hr.symm
      subst hr
      exact pr_i hx hb hr hlocks dX9_child_69 (Option.some.inj h)
    replace h := if_n s_6 h
    by_cases s_8 : p2 = (2 : Int32)
    · replace h := if_p s_8 h
      refine lv_tableIn (off := 56) (tgt := 70) hx hb dX9_child_14 (by rw [s_8]; decide) (by rw [s_8]; decide) (by rw [s_8]; decide) (by decide) ?_
      refine lv_aload_n hx hb dX9_child_70 rfl (lv_at hl 0 rfl) ?_
      refine va_get (D := D) (ci := 9) (v := .ref aT) (C := RX9) (T := TX9) (N := 9) hx hb hts inX9 hown hK hP 0 rfl rfl 2 (by decide) fl_28 (fun _ h9 => h9) rfl dX9_child_71 ?_
      refine lv_iload_n hx hb dX9_child_74 rfl (lv_at hl 1 rfl) ?_
      obtain ⟨y7, qy7, h⟩ := ob_some h
      have hPc : va_P D vwCl [(aT, .inr (1, [.ref aT_slips, .ref aT_lates, .ref aT_copied, .int T_size, .int T_littleOnes])), (aT_copied, .inl (cI, 6, .inl T_copied))] s.heap := hP.sub [2, 5] rfl
      refine vp_callSi (va_Run.run (va_runV (As := [.int p1]) (rest := []) ⟨hx, hb, hml, hown, hts⟩ (c_X1_copiedBy l D cI cJ cZ cO aT aT_copied aT_slips aT_lates T_size T_littleOnes T_copied p1 y7 qy7) (cwV 1 hts gX9_child_X1_copiedBy rfl rfl rfl (by decide +kernel) ⟨Nat.le_of_ble_eq_true rfl, Nat.le_of_ble_eq_true rfl⟩) ⟨fb_p, va_recv hK hP (ci := 1) (q0 := 2) rfl rfl, fun U hU hW => ⟨rfl, by rw [hU]; exact hPc, KK.warm hW hKK⟩⟩ rfl rfl hl.1 rfl (lv_room (Nat.le_of_ble_eq_true rfl)) dX9_child_75 ⟨Nat.le_of_ble_eq_true rfl, Nat.le_of_ble_eq_true rfl⟩)) (fun r hr => ?_)
      replace hr := hr.symm
      subst hr
      exact pr_i hx hb hr hlocks dX9_child_78 (Option.some.inj h)
    replace h := if_n s_8 h
    by_cases s_11 : p2 = (3 : Int32)
    · replace h := if_p s_11 h
      refine lv_tableIn (off := 65) (tgt := 79) hx hb dX9_child_14 (by rw [s_11]; decide) (by rw [s_11]; decide) (by rw [s_11]; decide) (by decide) ?_
      refine lv_aload_n hx hb dX9_child_79 rfl (lv_at hl 0 rfl) ?_
      refine va_get (D := D) (ci := 9) (v := .ref aT) (C := RX9) (T := TX9) (N := 9) hx hb hts inX9 hown hK hP 0 rfl rfl 2 (by decide) fl_28 (fun _ h9 => h9) rfl dX9_child_80 ?_
      refine lv_iload_n hx hb dX9_child_83 rfl (lv_at hl 1 rfl) ?_
      have hPc : va_P D vwCl [(aT, .inr (1, [.ref aT_slips, .ref aT_lates, .ref aT_copied, .int T_size, .int T_littleOnes]))] s.heap := hP.sub [2] rfl
      refine vp_callSi (va_Run.run (va_runV (As := [.int p1]) (rest := []) ⟨hx, hb, hml, hown, hts⟩ (c_X1_isLittle l D cI cJ cZ cO aT aT_slips aT_lates aT_copied T_size T_littleOnes p1 _ rfl) (cwV 1 hts gX9_child_X1_isLittle rfl rfl rfl (by decide +kernel) ⟨Nat.le_of_ble_eq_true rfl, Nat.le_of_ble_eq_true rfl⟩) ⟨fb_p, va_recv hK hP (ci := 1) (q0 := 2) rfl rfl, fun U hU hW => ⟨rfl, by rw [hU]; exact hPc, KK.warm hW hKK⟩⟩ rfl rfl hl.1 rfl (lv_room (Nat.le_of_ble_eq_true rfl)) dX9_child_84 ⟨Nat.le_of_ble_eq_true rfl, Nat.le_of_ble_eq_true rfl⟩)) (fun r hr => ?_)
      obtain ⟨hr, hz9⟩ := hr
      replace hr := hr.symm
      subst hr
      refine lv_if_eq (tgt := 94) hx hb dX9_child_87 (by decide) (fun c_10 => ?_) (fun c_10 => ?_)
      · replace h := if_p c_10 h
        refine lv_iconst (v := (0 : Int32)) hx hb dX9_child_94 (by decide) ?_
        exact pr_i hx hb hr hlocks dX9_child_95 (Option.some.inj h)
      · replace h := if_n c_10 h
        refine lv_iconst (v := (1 : Int32)) hx hb dX9_child_90 (by decide) ?_
        refine lv_goto (tgt := 95) hx hb dX9_child_91 (by decide) ?_
        exact pr_i hx hb hr hlocks dX9_child_95 (Option.some.inj h)
    replace h := if_n s_11 h
    by_cases s_14 : p2 = (4 : Int32)
    · replace h := if_p s_14 h
      refine lv_tableIn (off := 82) (tgt := 96) hx hb dX9_child_14 (by rw [s_14]; decide) (by rw [s_14]; decide) (by rw [s_14]; decide) (by decide) ?_
      refine lv_aload_n hx hb dX9_child_96 rfl (lv_at hl 0 rfl) ?_
      refine va_get (D := D) (ci := 9) (v := .ref aR) (C := RX9) (T := TX9) (N := 9) hx hb hts inX9 hown hK hP 0 rfl rfl 3 (by decide) fl_37 (fun _ h9 => h9) rfl dX9_child_97 ?_
      refine lv_iload_n hx hb dX9_child_100 rfl (lv_at hl 1 rfl) ?_
      have hPc : va_P D vwCl [(aR, .inr (6, [.ref aT, .int R_in, .int R_streak, .int R_lot])), (aT, .inr (1, [.ref aT_slips, .ref aT_lates, .ref aT_copied, .int T_size, .int T_littleOnes]))] s.heap := hP.sub [1, 2] rfl
      refine vp_callSi (va_Run.run (va_runV (As := [.int p1]) (rest := []) ⟨hx, hb, hml, hown, hts⟩ (c_X6_isIn l D cI cJ cZ cO aR aT aT_slips aT_lates aT_copied R_in R_streak R_lot T_size T_littleOnes p1 _ rfl) (cwV 1 hts gX9_child_X6_isIn rfl rfl rfl (by decide +kernel) ⟨Nat.le_of_ble_eq_true rfl, Nat.le_of_ble_eq_true rfl⟩) ⟨fb_p, va_recv hK hP (ci := 6) (q0 := 1) rfl rfl, fun U hU hW => ⟨rfl, by rw [hU]; exact hPc, KK.warm hW hKK⟩⟩ rfl rfl hl.1 rfl (lv_room (Nat.le_of_ble_eq_true rfl)) dX9_child_101 ⟨Nat.le_of_ble_eq_true rfl, Nat.le_of_ble_eq_true rfl⟩)) (fun r hr => ?_)
      obtain ⟨hr, hz12⟩ := hr
      replace hr := hr.symm
      subst hr
      refine lv_if_eq (tgt := 111) hx hb dX9_child_104 (by decide) (fun c_13 => ?_) (fun c_13 => ?_)
      · replace h := if_p c_13 h
        refine lv_iconst (v := (0 : Int32)) hx hb dX9_child_111 (by decide) ?_
        exact pr_i hx hb hr hlocks dX9_child_112 (Option.some.inj h)
      · replace h := if_n c_13 h
        refine lv_iconst (v := (1 : Int32)) hx hb dX9_child_107 (by decide) ?_
        refine lv_goto (tgt := 112) hx hb dX9_child_108 (by decide) ?_
        exact pr_i hx hb hr hlocks dX9_child_112 (Option.some.inj h)
    replace h := if_n s_14 h
    by_cases s_18 : p2 = (5 : Int32)
    · replace h := if_p s_18 h
      refine lv_tableIn (off := 99) (tgt := 113) hx hb dX9_child_14 (by rw [s_18]; decide) (by rw [s_18]; decide) (by rw [s_18]; decide) (by decide) ?_
      refine lv_aload_n hx hb dX9_child_113 rfl (lv_at hl 0 rfl) ?_
      refine va_get (D := D) (ci := 9) (v := .ref aR) (C := RX9) (T := TX9) (N := 9) hx hb hts inX9 hown hK hP 0 rfl rfl 3 (by decide) fl_37 (fun _ h9 => h9) rfl dX9_child_114 ?_
      refine lv_iload_n hx hb dX9_child_117 rfl (lv_at hl 1 rfl) ?_
      have hPc : va_P D vwCl [(aR, .inr (6, [.ref aT, .int R_in, .int R_streak, .int R_lot])), (aT, .inr (1, [.ref aT_slips, .ref aT_lates, .ref aT_copied, .int T_size, .int T_littleOnes]))] s.heap := hP.sub [1, 2] rfl
      refine vp_callSi (va_Run.run (va_runV (As := [.int p1]) (rest := []) ⟨hx, hb, hml, hown, hts⟩ (c_X6_isIn l D cI cJ cZ cO aR aT aT_slips aT_lates aT_copied R_in R_streak R_lot T_size T_littleOnes p1 _ rfl) (cwV 1 hts gX9_child_X6_isIn rfl rfl rfl (by decide +kernel) ⟨Nat.le_of_ble_eq_true rfl, Nat.le_of_ble_eq_true rfl⟩) ⟨fb_p, va_recv hK hP (ci := 6) (q0 := 1) rfl rfl, fun U hU hW => ⟨rfl, by rw [hU]; exact hPc, KK.warm hW hKK⟩⟩ rfl rfl hl.1 rfl (lv_room (Nat.le_of_ble_eq_true rfl)) dX9_child_118 ⟨Nat.le_of_ble_eq_true rfl, Nat.le_of_ble_eq_true rfl⟩)) (fun r hr => ?_)
      obtain ⟨hr, hz15⟩ := hr
      replace hr := hr.symm
      subst hr
      refine lv_if_eq (tgt := 135) hx hb dX9_child_121 (by decide) (fun c_16 => ?_) (fun c_16 => ?_)
      · replace h := if_p c_16 h
        refine lv_bipush (v := (-9 : Int32)) hx hb dX9_child_135 (by decide) ?_
        exact pr_i hx hb hr hlocks dX9_child_137 (Option.some.inj h)
      · replace h := if_n c_16 h
        refine lv_aload_n hx hb dX9_child_124 rfl (lv_at hl 0 rfl) ?_
        refine va_get (D := D) (ci := 9) (v := .ref aR) (C := RX9) (T := TX9) (N := 9) hx hb hts inX9 hown hK hP 0 rfl rfl 3 (by decide) fl_37 (fun _ h9 => h9) rfl dX9_child_125 ?_
        refine lv_iload_n hx hb dX9_child_128 rfl (lv_at hl 1 rfl) ?_
        obtain ⟨y17, qy17, h⟩ := ob_some h
        have hPc : va_P D vwCl [(aR, .inr (6, [.ref aT, .int R_in, .int R_streak, .int R_lot])), (aT, .inr (1, [.ref aT_slips, .ref aT_lates, .ref aT_copied, .int T_size, .int T_littleOnes])), (aT_copied, .inl (cI, 6, .inl T_copied))] s.heap := hP.sub [1, 2, 5] rfl
        refine vp_callSi (va_Run.run (va_runV (As := [.int p1]) (rest := []) ⟨hx, hb, hml, hown, hts⟩ (c_X6_leaderOf l D cI cJ cZ cO aR aT aT_copied aT_slips aT_lates R_in R_streak R_lot T_size T_littleOnes T_copied p1 y17 qy17) (cwV 1 hts gX9_child_X6_leaderOf rfl rfl rfl (by decide +kernel) ⟨Nat.le_of_ble_eq_true rfl, Nat.le_of_ble_eq_true rfl⟩) ⟨fb_p, va_recv hK hP (ci := 6) (q0 := 1) rfl rfl, fun U hU hW => ⟨rfl, by rw [hU]; exact hPc, KK.warm hW hKK⟩⟩ rfl rfl hl.1 rfl (lv_room (Nat.le_of_ble_eq_true rfl)) dX9_child_129 ⟨Nat.le_of_ble_eq_true rfl, Nat.le_of_ble_eq_true rfl⟩)) (fun r hr => ?_)
        replace hr := hr.symm
        subst hr
        refine lv_goto (tgt := 137) hx hb dX9_child_132 (by decide) ?_
        exact pr_i hx hb hr hlocks dX9_child_137 (Option.some.inj h)
    replace h := if_n s_18 h
    refine lv_tableOut (tgt := 138) hx hb dX9_child_14 (by have e0 := i32_nek (0) (0 : Int32) (by decide) s_4; have e1 := i32_nek (1) (1 : Int32) (by decide) s_6; have e2 := i32_nek (2) (2 : Int32) (by decide) s_8; have e3 := i32_nek (3) (3 : Int32) (by decide) s_11; have e4 := i32_nek (4) (4 : Int32) (by decide) s_14; have e5 := i32_nek (5) (5 : Int32) (by decide) s_18; omega) (by decide) ?_
    refine lv_iconst (v := (-1 : Int32)) hx hb dX9_child_138 (by decide) ?_
    exact pr_i hx hb hr hlocks dX9_child_139 (Option.some.inj h)
  · replace h := if_p c_2 h
    refine lv_iconst (v := (-1 : Int32)) hx hb dX9_child_11 (by decide) ?_
    exact pr_i hx hb hr hlocks dX9_child_12 (Option.some.inj h)

def f_X9_now (R_in : Int32) (R_streak : Int32) (T_littleOnes : Int32) (H_size : Int32) (p1 : Int32) : Int32 := (if p1 = (0 : Int32) then (f_X6_whoIsIn R_in) else (if p1 = (1 : Int32) then (f_X6_streak R_streak) else (if p1 = (2 : Int32) then (if (f_X6_isFair R_in T_littleOnes) = 0 then (0 : Int32) else (1 : Int32)) else (if p1 = (3 : Int32) then (f_X2_size H_size) else (-1 : Int32)))))
set_option maxHeartbeats 8000000 in
set_option maxRecDepth 100000 in
theorem c_X9_now (l : Launch) (D : va_G) (cI cJ cZ cO : ClassId) (aS : Nat) (aR : Nat) (aT : Nat) (aH : Nat) (aX : Nat) (aD : Nat) (aIM : Nat) (aW : Nat) (aC : Nat) (aK : Nat) (aT_slips : Nat) (aT_lates : Nat) (aT_copied : Nat) (aH_ins : Nat) (aH_streaks : Nat) (R_in : Int32) (R_streak : Int32) (R_lot : Int32) (T_size : Int32) (T_littleOnes : Int32) (H_size : Int32)  (p1 : Int32)  (y0 : Int32) (h : f_X9_now R_in R_streak T_littleOnes H_size p1 = y0) : Met l yX9_now wsX9_now ({ frames := 2, cells := 0, slots := 0, locals := 42 } : Room) (va_Pc [.ref aS, .int p1] (fun U => va_P D vwCl [(aS, .inr (9, [.ref aX, .ref aD, .ref aT, .ref aR, .ref aH, .ref aIM, .ref aW, .ref aC, .ref aK])), (aR, .inr (6, [.ref aT, .int R_in, .int R_streak, .int R_lot])), (aT, .inr (1, [.ref aT_slips, .ref aT_lates, .ref aT_copied, .int T_size, .int T_littleOnes])), (aH, .inr (2, [.ref aH_ins, .ref aH_streaks, .int H_size]))] U.heap ∧ KK D cI cJ cZ cO U)) (vp_Si (fun r => r = y0)) 0 0 (fun _ => False) := by
  refine Met.ofW (cc := cX9_now) (maxL := 2) (ret := (some .int)) (by decide) rfl ?_
  intro p e s m args below meth c s₁ B hml hv
  obtain ⟨rfl, hP, hKK⟩ := hv
  have hx := B.exec
  have hb := B.bytes
  have hr := B.returns
  have hts := atoms_spec (ws := wsX9_now) B.pre
  have hown : s.vm.findClass RX9 = some m.cls := findClass_of_methodNamed B.named
  have hlocks := B.notSynchronized
  have hK := hKK.1
  have fl_37 := hts (.fieldLink RX9 37 "SimonSays" "round" "LSimonSays$Round;") (by decide +kernel)
  have fl_44 := hts (.fieldLink RX9 44 "SimonSays" "history" "LSimonSays$History;") (by decide +kernel)
  have inX9 : ∀ w ∈ wsX90, w ∈ wsX9_now := by decide +kernel
  have hl := lv_entry ([.ref aS, .int p1]) (n := 2) (Nat.le_of_ble_eq_true rfl)
  rw [lg_entry_eq]
  generalize (lg_sl ([.ref aS, .int p1]) ++ List.replicate (2 - (lg_sl ([.ref aS, .int p1])).length) Slot.unset).toArray = ls at hl ⊢
  have hl : lv_has ls 2 [(0, .ref aS), (1, .int p1)] := hl
  unfold f_X9_now at h
  refine lv_iload_n hx hb dX9_now_0 rfl (lv_at hl 1 rfl) ?_
  by_cases s_1 : p1 = (0 : Int32)
  · replace h := if_p s_1 h
    refine lv_tableIn (off := 31) (tgt := 32) hx hb dX9_now_1 (by rw [s_1]; decide) (by rw [s_1]; decide) (by rw [s_1]; decide) (by decide) ?_
    refine lv_aload_n hx hb dX9_now_32 rfl (lv_at hl 0 rfl) ?_
    refine va_get (D := D) (ci := 9) (v := .ref aR) (C := RX9) (T := TX9) (N := 9) hx hb hts inX9 hown hK hP 0 rfl rfl 3 (by decide) fl_37 (fun _ h9 => h9) rfl dX9_now_33 ?_
    have hPc : va_P D vwCl [(aR, .inr (6, [.ref aT, .int R_in, .int R_streak, .int R_lot]))] s.heap := hP.sub [1] rfl
    refine vp_callSi (va_Run.run (va_runV (As := []) (rest := []) ⟨hx, hb, hml, hown, hts⟩ (c_X6_whoIsIn l D cI cJ cZ cO aR aT R_in R_streak R_lot _ rfl) (cwV 0 hts gX9_now_X6_whoIsIn rfl rfl rfl (by decide +kernel) ⟨Nat.le_of_ble_eq_true rfl, Nat.le_of_ble_eq_true rfl⟩) ⟨fb_p, va_recv hK hP (ci := 6) (q0 := 1) rfl rfl, fun U hU hW => ⟨rfl, by rw [hU]; exact hPc, KK.warm hW hKK⟩⟩ rfl rfl hl.1 rfl (lv_room (Nat.le_of_ble_eq_true rfl)) dX9_now_36 ⟨Nat.le_of_ble_eq_true rfl, Nat.le_of_ble_eq_true rfl⟩)) (fun r hr => ?_)
    replace hr := hr.symm
    subst hr
    exact pr_i hx hb hr hlocks dX9_now_39 h
  replace h := if_n s_1 h
  by_cases s_2 : p1 = (1 : Int32)
  · replace h := if_p s_2 h
    refine lv_tableIn (off := 39) (tgt := 40) hx hb dX9_now_1 (by rw [s_2]; decide) (by rw [s_2]; decide) (by rw [s_2]; decide) (by decide) ?_
    refine lv_aload_n hx hb dX9_now_40 rfl (lv_at hl 0 rfl) ?_
    refine va_get (D := D) (ci := 9) (v := .ref aR) (C := RX9) (T := TX9) (N := 9) hx hb hts inX9 hown hK hP 0 rfl rfl 3 (by decide) fl_37 (fun _ h9 => h9) rfl dX9_now_41 ?_
    have hPc : va_P D vwCl [(aR, .inr (6, [.ref aT, .int R_in, .int R_streak, .int R_lot]))] s.heap := hP.sub [1] rfl
    refine vp_callSi (va_Run.run (va_runV (As := []) (rest := []) ⟨hx, hb, hml, hown, hts⟩ (c_X6_streak l D cI cJ cZ cO aR aT R_in R_streak R_lot _ rfl) (cwV 0 hts gX9_now_X6_streak rfl rfl rfl (by decide +kernel) ⟨Nat.le_of_ble_eq_true rfl, Nat.le_of_ble_eq_true rfl⟩) ⟨fb_p, va_recv hK hP (ci := 6) (q0 := 1) rfl rfl, fun U hU hW => ⟨rfl, by rw [hU]; exact hPc, KK.warm hW hKK⟩⟩ rfl rfl hl.1 rfl (lv_room (Nat.le_of_ble_eq_true rfl)) dX9_now_44 ⟨Nat.le_of_ble_eq_true rfl, Nat.le_of_ble_eq_true rfl⟩)) (fun r hr => ?_)
    replace hr := hr.symm
    subst hr
    exact pr_i hx hb hr hlocks dX9_now_47 h
  replace h := if_n s_2 h
  by_cases s_5 : p1 = (2 : Int32)
  · replace h := if_p s_5 h
    refine lv_tableIn (off := 47) (tgt := 48) hx hb dX9_now_1 (by rw [s_5]; decide) (by rw [s_5]; decide) (by rw [s_5]; decide) (by decide) ?_
    refine lv_aload_n hx hb dX9_now_48 rfl (lv_at hl 0 rfl) ?_
    refine va_get (D := D) (ci := 9) (v := .ref aR) (C := RX9) (T := TX9) (N := 9) hx hb hts inX9 hown hK hP 0 rfl rfl 3 (by decide) fl_37 (fun _ h9 => h9) rfl dX9_now_49 ?_
    have hPc : va_P D vwCl [(aR, .inr (6, [.ref aT, .int R_in, .int R_streak, .int R_lot])), (aT, .inr (1, [.ref aT_slips, .ref aT_lates, .ref aT_copied, .int T_size, .int T_littleOnes]))] s.heap := hP.sub [1, 2] rfl
    refine vp_callSi (va_Run.run (va_runV (As := []) (rest := []) ⟨hx, hb, hml, hown, hts⟩ (c_X6_isFair l D cI cJ cZ cO aR aT aT_slips aT_lates aT_copied R_in R_streak R_lot T_size T_littleOnes _ rfl) (cwV 0 hts gX9_now_X6_isFair rfl rfl rfl (by decide +kernel) ⟨Nat.le_of_ble_eq_true rfl, Nat.le_of_ble_eq_true rfl⟩) ⟨fb_p, va_recv hK hP (ci := 6) (q0 := 1) rfl rfl, fun U hU hW => ⟨rfl, by rw [hU]; exact hPc, KK.warm hW hKK⟩⟩ rfl rfl hl.1 rfl (lv_room (Nat.le_of_ble_eq_true rfl)) dX9_now_52 ⟨Nat.le_of_ble_eq_true rfl, Nat.le_of_ble_eq_true rfl⟩)) (fun r hr => ?_)
    obtain ⟨hr, hz3⟩ := hr
    replace hr := hr.symm
    subst hr
    refine lv_if_eq (tgt := 62) hx hb dX9_now_55 (by decide) (fun c_4 => ?_) (fun c_4 => ?_)
    · replace h := if_p c_4 h
      refine lv_iconst (v := (0 : Int32)) hx hb dX9_now_62 (by decide) ?_
      exact pr_i hx hb hr hlocks dX9_now_63 h
    · replace h := if_n c_4 h
      refine lv_iconst (v := (1 : Int32)) hx hb dX9_now_58 (by decide) ?_
      refine lv_goto (tgt := 63) hx hb dX9_now_59 (by decide) ?_
      exact pr_i hx hb hr hlocks dX9_now_63 h
  replace h := if_n s_5 h
  by_cases s_6 : p1 = (3 : Int32)
  · replace h := if_p s_6 h
    refine lv_tableIn (off := 63) (tgt := 64) hx hb dX9_now_1 (by rw [s_6]; decide) (by rw [s_6]; decide) (by rw [s_6]; decide) (by decide) ?_
    refine lv_aload_n hx hb dX9_now_64 rfl (lv_at hl 0 rfl) ?_
    refine va_get (D := D) (ci := 9) (v := .ref aH) (C := RX9) (T := TX9) (N := 9) hx hb hts inX9 hown hK hP 0 rfl rfl 4 (by decide) fl_44 (fun _ h9 => h9) rfl dX9_now_65 ?_
    have hPc : va_P D vwCl [(aH, .inr (2, [.ref aH_ins, .ref aH_streaks, .int H_size]))] s.heap := hP.sub [3] rfl
    refine vp_callSi (va_Run.run (va_runV (As := []) (rest := []) ⟨hx, hb, hml, hown, hts⟩ (c_X2_size l D cI cJ cZ cO aH aH_ins aH_streaks H_size _ rfl) (cwV 0 hts gX9_now_X2_size rfl rfl rfl (by decide +kernel) ⟨Nat.le_of_ble_eq_true rfl, Nat.le_of_ble_eq_true rfl⟩) ⟨fb_p, va_recv hK hP (ci := 2) (q0 := 3) rfl rfl, fun U hU hW => ⟨rfl, by rw [hU]; exact hPc, KK.warm hW hKK⟩⟩ rfl rfl hl.1 rfl (lv_room (Nat.le_of_ble_eq_true rfl)) dX9_now_68 ⟨Nat.le_of_ble_eq_true rfl, Nat.le_of_ble_eq_true rfl⟩)) (fun r hr => ?_)
    replace hr := hr.symm
    subst hr
    exact pr_i hx hb hr hlocks dX9_now_71 h
  replace h := if_n s_6 h
  refine lv_tableOut (tgt := 72) hx hb dX9_now_1 (by have e0 := i32_nek (0) (0 : Int32) (by decide) s_1; have e1 := i32_nek (1) (1 : Int32) (by decide) s_2; have e2 := i32_nek (2) (2 : Int32) (by decide) s_5; have e3 := i32_nek (3) (3 : Int32) (by decide) s_6; omega) (by decide) ?_
  refine lv_iconst (v := (-1 : Int32)) hx hb dX9_now_72 (by decide) ?_
  exact pr_i hx hb hr hlocks dX9_now_73 h

def f_X9_errs (R_in : Int32) (R_streak : Int32) (T_size : Int32) (T_slips : Nat → Int32) (T_lates : Nat → Int32) (p1 : Int32) (p2 : Int32) : Option (Int32) := (if (f_X1_has T_size p1) = 0 then some (-1 : Int32) else (if (f_X9_isOrder p2) = 0 then some (-1 : Int32) else (if (f_X6_isIn R_in T_size p1) = 0 then some (-2 : Int32) else (Option.bind (f_X1_errsOf T_size T_slips T_lates p1 p2 (f_X6_streak R_streak)) (fun y7 => some y7)))))
set_option maxHeartbeats 8000000 in
set_option maxRecDepth 100000 in
theorem c_X9_errs (l : Launch) (D : va_G) (cI cJ cZ cO : ClassId) (aS : Nat) (aR : Nat) (aT : Nat) (aT_slips : Nat) (aT_lates : Nat) (aX : Nat) (aD : Nat) (aH : Nat) (aIM : Nat) (aW : Nat) (aC : Nat) (aK : Nat) (aT_copied : Nat) (R_in : Int32) (R_streak : Int32) (R_lot : Int32) (T_size : Int32) (T_littleOnes : Int32) (T_slips : Nat → Int32) (T_lates : Nat → Int32)  (p1 : Int32) (p2 : Int32)  (y0 : Int32) (h : f_X9_errs R_in R_streak T_size T_slips T_lates p1 p2 = some y0) : Met l yX9_errs wsX9_errs ({ frames := 3, cells := 0, slots := 0, locals := 65 } : Room) (va_Pc [.ref aS, .int p1, .int p2] (fun U => va_P D vwCl [(aS, .inr (9, [.ref aX, .ref aD, .ref aT, .ref aR, .ref aH, .ref aIM, .ref aW, .ref aC, .ref aK])), (aR, .inr (6, [.ref aT, .int R_in, .int R_streak, .int R_lot])), (aT, .inr (1, [.ref aT_slips, .ref aT_lates, .ref aT_copied, .int T_size, .int T_littleOnes])), (aT_slips, .inl (cI, 6, .inl T_slips)), (aT_lates, .inl (cI, 6, .inl T_lates))] U.heap ∧ KK D cI cJ cZ cO U)) (vp_Si (fun r => r = y0)) 0 0 (fun _ => False) := by
  refine Met.ofW (cc := cX9_errs) (maxL := 3) (ret := (some .int)) (by decide) rfl ?_
  intro p e s m args below meth c s₁ B hml hv
  obtain ⟨rfl, hP, hKK⟩ := hv
  have hx := B.exec
  have hb := B.bytes
  have hr := B.returns
  have hts := atoms_spec (ws := wsX9_errs) B.pre
  have hown : s.vm.findClass RX9 = some m.cls := findClass_of_methodNamed B.named
  have hlocks := B.notSynchronized
  have hK := hKK.1
  have fl_28 := hts (.fieldLink RX9 28 "SimonSays" "told" "LSimonSays$Children;") (by decide +kernel)
  have fl_37 := hts (.fieldLink RX9 37 "SimonSays" "round" "LSimonSays$Round;") (by decide +kernel)
  have inX9 : ∀ w ∈ wsX90, w ∈ wsX9_errs := by decide +kernel
  have hl := lv_entry ([.ref aS, .int p1, .int p2]) (n := 3) (Nat.le_of_ble_eq_true rfl)
  rw [lg_entry_eq]
  generalize (lg_sl ([.ref aS, .int p1, .int p2]) ++ List.replicate (3 - (lg_sl ([.ref aS, .int p1, .int p2])).length) Slot.unset).toArray = ls at hl ⊢
  have hl : lv_has ls 3 [(0, .ref aS), (1, .int p1), (2, .int p2)] := hl
  unfold f_X9_errs at h
  refine lv_aload_n hx hb dX9_errs_0 rfl (lv_at hl 0 rfl) ?_
  refine va_get (D := D) (ci := 9) (v := .ref aT) (C := RX9) (T := TX9) (N := 9) hx hb hts inX9 hown hK hP 0 rfl rfl 2 (by decide) fl_28 (fun _ h9 => h9) rfl dX9_errs_1 ?_
  refine lv_iload_n hx hb dX9_errs_4 rfl (lv_at hl 1 rfl) ?_
  have hPc : va_P D vwCl [(aT, .inr (1, [.ref aT_slips, .ref aT_lates, .ref aT_copied, .int T_size, .int T_littleOnes]))] s.heap := hP.sub [2] rfl
  refine vp_callSi (va_Run.run (va_runV (As := [.int p1]) (rest := []) ⟨hx, hb, hml, hown, hts⟩ (c_X1_has l D cI cJ cZ cO aT aT_slips aT_lates aT_copied T_size T_littleOnes p1 _ rfl) (cwV 1 hts gX9_errs_X1_has rfl rfl rfl (by decide +kernel) ⟨Nat.le_of_ble_eq_true rfl, Nat.le_of_ble_eq_true rfl⟩) ⟨fb_p, va_recv hK hP (ci := 1) (q0 := 2) rfl rfl, fun U hU hW => ⟨rfl, by rw [hU]; exact hPc, KK.warm hW hKK⟩⟩ rfl rfl hl.1 rfl (lv_room (Nat.le_of_ble_eq_true rfl)) dX9_errs_5 ⟨Nat.le_of_ble_eq_true rfl, Nat.le_of_ble_eq_true rfl⟩)) (fun r hr => ?_)
  obtain ⟨hr, hz1⟩ := hr
  replace hr := hr.symm
  subst hr
  refine lv_if_eq (tgt := 18) hx hb dX9_errs_8 (by decide) (fun c_2 => ?_) (fun c_2 => ?_)
  · replace h := if_p c_2 h
    refine lv_iconst (v := (-1 : Int32)) hx hb dX9_errs_18 (by decide) ?_
    exact pr_i hx hb hr hlocks dX9_errs_19 (Option.some.inj h)
  · replace h := if_n c_2 h
    refine lv_iload_n hx hb dX9_errs_11 rfl (lv_at hl 2 rfl) ?_
    have hPc : va_P D vwCl [] s.heap := hP.sub [] rfl
    refine vp_callSi (va_Run.run (va_runS (As := [.int p2]) (rest := []) ⟨hx, hb, hml, hown, hts⟩ (c_X9_isOrder l D cI cJ cZ cO p2 _ rfl) (cwS 1 hts gX9_errs_X9_isOrder rfl rfl rfl (by decide +kernel) ⟨Nat.le_of_ble_eq_true rfl, Nat.le_of_ble_eq_true rfl⟩) ⟨fb_p, fun U hU hW => ⟨rfl, by rw [hU]; exact hPc, KK.warm hW hKK⟩⟩ rfl rfl hl.1 rfl (lv_room (Nat.le_of_ble_eq_true rfl)) dX9_errs_12 ⟨Nat.le_of_ble_eq_true rfl, Nat.le_of_ble_eq_true rfl⟩)) (fun r hr => ?_)
    obtain ⟨hr, hz3⟩ := hr
    replace hr := hr.symm
    subst hr
    refine lv_if_ne (tgt := 20) hx hb dX9_errs_15 (by decide) (fun c_4 => ?_) (fun c_4 => ?_)
    · replace h := if_n c_4 h
      refine lv_aload_n hx hb dX9_errs_20 rfl (lv_at hl 0 rfl) ?_
      refine va_get (D := D) (ci := 9) (v := .ref aR) (C := RX9) (T := TX9) (N := 9) hx hb hts inX9 hown hK hP 0 rfl rfl 3 (by decide) fl_37 (fun _ h9 => h9) rfl dX9_errs_21 ?_
      refine lv_iload_n hx hb dX9_errs_24 rfl (lv_at hl 1 rfl) ?_
      have hPc : va_P D vwCl [(aR, .inr (6, [.ref aT, .int R_in, .int R_streak, .int R_lot])), (aT, .inr (1, [.ref aT_slips, .ref aT_lates, .ref aT_copied, .int T_size, .int T_littleOnes]))] s.heap := hP.sub [1, 2] rfl
      refine vp_callSi (va_Run.run (va_runV (As := [.int p1]) (rest := []) ⟨hx, hb, hml, hown, hts⟩ (c_X6_isIn l D cI cJ cZ cO aR aT aT_slips aT_lates aT_copied R_in R_streak R_lot T_size T_littleOnes p1 _ rfl) (cwV 1 hts gX9_errs_X6_isIn rfl rfl rfl (by decide +kernel) ⟨Nat.le_of_ble_eq_true rfl, Nat.le_of_ble_eq_true rfl⟩) ⟨fb_p, va_recv hK hP (ci := 6) (q0 := 1) rfl rfl, fun U hU hW => ⟨rfl, by rw [hU]; exact hPc, KK.warm hW hKK⟩⟩ rfl rfl hl.1 rfl (lv_room (Nat.le_of_ble_eq_true rfl)) dX9_errs_25 ⟨Nat.le_of_ble_eq_true rfl, Nat.le_of_ble_eq_true rfl⟩)) (fun r hr => ?_)
      obtain ⟨hr, hz5⟩ := hr
      replace hr := hr.symm
      subst hr
      refine lv_if_ne (tgt := 34) hx hb dX9_errs_28 (by decide) (fun c_6 => ?_) (fun c_6 => ?_)
      · replace h := if_n c_6 h
        refine lv_aload_n hx hb dX9_errs_34 rfl (lv_at hl 0 rfl) ?_
        refine va_get (D := D) (ci := 9) (v := .ref aT) (C := RX9) (T := TX9) (N := 9) hx hb hts inX9 hown hK hP 0 rfl rfl 2 (by decide) fl_28 (fun _ h9 => h9) rfl dX9_errs_35 ?_
        refine lv_iload_n hx hb dX9_errs_38 rfl (lv_at hl 1 rfl) ?_
        refine lv_iload_n hx hb dX9_errs_39 rfl (lv_at hl 2 rfl) ?_
        refine lv_aload_n hx hb dX9_errs_40 rfl (lv_at hl 0 rfl) ?_
        refine va_get (D := D) (ci := 9) (v := .ref aR) (C := RX9) (T := TX9) (N := 9) hx hb hts inX9 hown hK hP 0 rfl rfl 3 (by decide) fl_37 (fun _ h9 => h9) rfl dX9_errs_41 ?_
        have hPc : va_P D vwCl [(aR, .inr (6, [.ref aT, .int R_in, .int R_streak, .int R_lot]))] s.heap := hP.sub [1] rfl
        refine vp_callSi (va_Run.run (va_runV (As := []) (rest := [.int p2, .int p1, .ref aT]) ⟨hx, hb, hml, hown, hts⟩ (c_X6_streak l D cI cJ cZ cO aR aT R_in R_streak R_lot _ rfl) (cwV 0 hts gX9_errs_X6_streak rfl rfl rfl (by decide +kernel) ⟨Nat.le_of_ble_eq_true rfl, Nat.le_of_ble_eq_true rfl⟩) ⟨fb_p, va_recv hK hP (ci := 6) (q0 := 1) rfl rfl, fun U hU hW => ⟨rfl, by rw [hU]; exact hPc, KK.warm hW hKK⟩⟩ rfl rfl hl.1 rfl (lv_room (Nat.le_of_ble_eq_true rfl)) dX9_errs_44 ⟨Nat.le_of_ble_eq_true rfl, Nat.le_of_ble_eq_true rfl⟩)) (fun r hr => ?_)
        replace hr := hr.symm
        subst hr
        obtain ⟨y7, qy7, h⟩ := ob_some h
        have hPc : va_P D vwCl [(aT, .inr (1, [.ref aT_slips, .ref aT_lates, .ref aT_copied, .int T_size, .int T_littleOnes])), (aT_slips, .inl (cI, 6, .inl T_slips)), (aT_lates, .inl (cI, 6, .inl T_lates))] s.heap := hP.sub [2, 3, 4] rfl
        refine vp_callSi (va_Run.run (va_runV (As := [.int p1, .int p2, .int (f_X6_streak R_streak)]) (rest := []) ⟨hx, hb, hml, hown, hts⟩ (c_X1_errsOf l D cI cJ cZ cO aT aT_slips aT_lates aT_copied T_size T_littleOnes T_slips T_lates p1 p2 (f_X6_streak R_streak) y7 qy7) (cwV 3 hts gX9_errs_X1_errsOf rfl rfl rfl (by decide +kernel) ⟨Nat.le_of_ble_eq_true rfl, Nat.le_of_ble_eq_true rfl⟩) ⟨fb_p, va_recv hK hP (ci := 1) (q0 := 2) rfl rfl, fun U hU hW => ⟨rfl, by rw [hU]; exact hPc, KK.warm hW hKK⟩⟩ rfl rfl hl.1 rfl (lv_room (Nat.le_of_ble_eq_true rfl)) dX9_errs_47 ⟨Nat.le_of_ble_eq_true rfl, Nat.le_of_ble_eq_true rfl⟩)) (fun r hr => ?_)
        replace hr := hr.symm
        subst hr
        exact pr_i hx hb hr hlocks dX9_errs_50 (Option.some.inj h)
      · replace h := if_p c_6 h
        refine lv_bipush (v := (-2 : Int32)) hx hb dX9_errs_31 (by decide) ?_
        exact pr_i hx hb hr hlocks dX9_errs_33 (Option.some.inj h)
    · replace h := if_p c_4 h
      refine lv_iconst (v := (-1 : Int32)) hx hb dX9_errs_18 (by decide) ?_
      exact pr_i hx hb hr hlocks dX9_errs_19 (Option.some.inj h)

def f_X9_call (R_in : Int32) (R_streak : Int32) (R_lot : Int32) (T_size : Int32) (T_slips : Nat → Int32) (T_lates : Nat → Int32) (T_copied : Nat → Int32) (H_size : Int32) (H_ins : Nat → Int32) (H_streaks : Nat → Int32) (p1 : Int32) : Option (Int32 × Int32 × Int32 × Int32 × Int32 × (Nat → Int32) × (Nat → Int32)) := (if (f_X9_isOrder p1) = 0 then some ((-1 : Int32), R_in, R_streak, R_lot, H_size, H_ins, H_streaks) else (if (f_X6_whoIsIn R_in) = 0 then some ((-2 : Int32), R_in, R_streak, R_lot, H_size, H_ins, H_streaks) else (Option.bind (f_X2_add H_size H_ins H_streaks (f_X6_whoIsIn R_in) (f_X6_streak R_streak)) (fun y4 => (Option.bind (f_X6_obey R_in R_streak R_lot T_size T_slips T_lates T_copied p1) (fun y5 => some (y5.1, y5.2.1, y5.2.2.1, y5.2.2.2, y4.1, y4.2.1, y4.2.2)))))))
set_option maxHeartbeats 8000000 in
set_option maxRecDepth 100000 in
theorem c_X9_call (l : Launch) (D : va_G) (cI cJ cZ cO : ClassId) (aS : Nat) (aR : Nat) (aT : Nat) (aT_slips : Nat) (aT_lates : Nat) (aT_copied : Nat) (aH : Nat) (aH_ins : Nat) (aH_streaks : Nat) (aX : Nat) (aD : Nat) (aIM : Nat) (aW : Nat) (aC : Nat) (aK : Nat) (R_in : Int32) (R_streak : Int32) (R_lot : Int32) (T_size : Int32) (T_littleOnes : Int32) (T_slips : Nat → Int32) (T_lates : Nat → Int32) (T_copied : Nat → Int32) (H_size : Int32) (H_ins : Nat → Int32) (H_streaks : Nat → Int32) (sz : Nat) (p1 : Int32)  (y0 : Int32 × Int32 × Int32 × Int32 × Int32 × (Nat → Int32) × (Nat → Int32)) (h : f_X9_call R_in R_streak R_lot T_size T_slips T_lates T_copied H_size H_ins H_streaks p1 = some y0) : Met l yX9_call wsX9_call ({ frames := 5, cells := 0, slots := 0, locals := 112 } : Room) (va_Pc [.ref aS, .int p1] (fun U => U.heap.size = sz ∧ va_P D vwCl [(aS, .inr (9, [.ref aX, .ref aD, .ref aT, .ref aR, .ref aH, .ref aIM, .ref aW, .ref aC, .ref aK])), (aR, .inr (6, [.ref aT, .int R_in, .int R_streak, .int R_lot])), (aT, .inr (1, [.ref aT_slips, .ref aT_lates, .ref aT_copied, .int T_size, .int T_littleOnes])), (aT_slips, .inl (cI, 6, .inl T_slips)), (aT_lates, .inl (cI, 6, .inl T_lates)), (aT_copied, .inl (cI, 6, .inl T_copied)), (aH, .inr (2, [.ref aH_ins, .ref aH_streaks, .int H_size])), (aH_ins, .inl (cI, 12, .inl H_ins)), (aH_streaks, .inl (cI, 12, .inl H_streaks))] U.heap ∧ KK D cI cJ cZ cO U ∧ va_D (fun _ => True) [(aS, .inr (9, [.ref aX, .ref aD, .ref aT, .ref aR, .ref aH, .ref aIM, .ref aW, .ref aC, .ref aK])), (aR, .inr (6, [.ref aT, .int R_in, .int R_streak, .int R_lot])), (aT, .inr (1, [.ref aT_slips, .ref aT_lates, .ref aT_copied, .int T_size, .int T_littleOnes])), (aT_slips, .inl (cI, 6, .inl T_slips)), (aT_lates, .inl (cI, 6, .inl T_lates)), (aT_copied, .inl (cI, 6, .inl T_copied)), (aH, .inr (2, [.ref aH_ins, .ref aH_streaks, .int H_size])), (aH_ins, .inl (cI, 12, .inl H_ins)), (aH_streaks, .inl (cI, 12, .inl H_streaks))])) (va_Qi (fun (r : Int32) (_ : Unit) => r = y0.1) (fun (_ : Unit) t => va_P D vwCl [(aS, .inr (9, [.ref aX, .ref aD, .ref aT, .ref aR, .ref aH, .ref aIM, .ref aW, .ref aC, .ref aK])), (aR, .inr (6, [.ref aT, .int y0.2.1, .int y0.2.2.1, .int y0.2.2.2.1])), (aT, .inr (1, [.ref aT_slips, .ref aT_lates, .ref aT_copied, .int T_size, .int T_littleOnes])), (aT_slips, .inl (cI, 6, .inl T_slips)), (aT_lates, .inl (cI, 6, .inl T_lates)), (aT_copied, .inl (cI, 6, .inl T_copied)), (aH, .inr (2, [.ref aH_ins, .ref aH_streaks, .int y0.2.2.2.2.1])), (aH_ins, .inl (cI, 12, .inl y0.2.2.2.2.2.1)), (aH_streaks, .inl (cI, 12, .inl y0.2.2.2.2.2.2))] t.heap ∧ va_D (va_A [(aS, .inr (9, [.ref aX, .ref aD, .ref aT, .ref aR, .ref aH, .ref aIM, .ref aW, .ref aC, .ref aK])), (aR, .inr (6, [.ref aT, .int R_in, .int R_streak, .int R_lot])), (aT, .inr (1, [.ref aT_slips, .ref aT_lates, .ref aT_copied, .int T_size, .int T_littleOnes])), (aT_slips, .inl (cI, 6, .inl T_slips)), (aT_lates, .inl (cI, 6, .inl T_lates)), (aT_copied, .inl (cI, 6, .inl T_copied)), (aH, .inr (2, [.ref aH_ins, .ref aH_streaks, .int H_size])), (aH_ins, .inl (cI, 12, .inl H_ins)), (aH_streaks, .inl (cI, 12, .inl H_streaks))] sz) [(aS, .inr (9, [.ref aX, .ref aD, .ref aT, .ref aR, .ref aH, .ref aIM, .ref aW, .ref aC, .ref aK])), (aR, .inr (6, [.ref aT, .int y0.2.1, .int y0.2.2.1, .int y0.2.2.2.1])), (aT, .inr (1, [.ref aT_slips, .ref aT_lates, .ref aT_copied, .int T_size, .int T_littleOnes])), (aT_slips, .inl (cI, 6, .inl T_slips)), (aT_lates, .inl (cI, 6, .inl T_lates)), (aT_copied, .inl (cI, 6, .inl T_copied)), (aH, .inr (2, [.ref aH_ins, .ref aH_streaks, .int y0.2.2.2.2.1])), (aH_ins, .inl (cI, 12, .inl y0.2.2.2.2.2.1)), (aH_streaks, .inl (cI, 12, .inl y0.2.2.2.2.2.2))]) (va_A [(aS, .inr (9, [.ref aX, .ref aD, .ref aT, .ref aR, .ref aH, .ref aIM, .ref aW, .ref aC, .ref aK])), (aR, .inr (6, [.ref aT, .int R_in, .int R_streak, .int R_lot])), (aT, .inr (1, [.ref aT_slips, .ref aT_lates, .ref aT_copied, .int T_size, .int T_littleOnes])), (aT_slips, .inl (cI, 6, .inl T_slips)), (aT_lates, .inl (cI, 6, .inl T_lates)), (aT_copied, .inl (cI, 6, .inl T_copied)), (aH, .inr (2, [.ref aH_ins, .ref aH_streaks, .int H_size])), (aH_ins, .inl (cI, 12, .inl H_ins)), (aH_streaks, .inl (cI, 12, .inl H_streaks))] sz)) 0 0 (va_A [(aS, .inr (9, [.ref aX, .ref aD, .ref aT, .ref aR, .ref aH, .ref aIM, .ref aW, .ref aC, .ref aK])), (aR, .inr (6, [.ref aT, .int R_in, .int R_streak, .int R_lot])), (aT, .inr (1, [.ref aT_slips, .ref aT_lates, .ref aT_copied, .int T_size, .int T_littleOnes])), (aT_slips, .inl (cI, 6, .inl T_slips)), (aT_lates, .inl (cI, 6, .inl T_lates)), (aT_copied, .inl (cI, 6, .inl T_copied)), (aH, .inr (2, [.ref aH_ins, .ref aH_streaks, .int H_size])), (aH_ins, .inl (cI, 12, .inl H_ins)), (aH_streaks, .inl (cI, 12, .inl H_streaks))] sz) := by
  refine Met.ofW (cc := cX9_call) (maxL := 2) (ret := (some .int)) (by decide) rfl ?_
  intro p e s m args below meth c s₁ B hml hv
  obtain ⟨rfl, hsz, hP, hKK, hD0⟩ := hv
  have hx := B.exec
  have hb := B.bytes
  have hr := B.returns
  have hts := atoms_spec (ws := wsX9_call) B.pre
  have hown : s.vm.findClass RX9 = some m.cls := findClass_of_methodNamed B.named
  have hlocks := B.notSynchronized
  have hK := hKK.1
  have fl_37 := hts (.fieldLink RX9 37 "SimonSays" "round" "LSimonSays$Round;") (by decide +kernel)
  have fl_44 := hts (.fieldLink RX9 44 "SimonSays" "history" "LSimonSays$History;") (by decide +kernel)
  have inX9 : ∀ w ∈ wsX90, w ∈ wsX9_call := by decide +kernel
  subst hsz
  have hD := hD0.self (sz := s.heap.size)
  generalize hAe : va_A [(aS, .inr (9, [.ref aX, .ref aD, .ref aT, .ref aR, .ref aH, .ref aIM, .ref aW, .ref aC, .ref aK])), (aR, .inr (6, [.ref aT, .int R_in, .int R_streak, .int R_lot])), (aT, .inr (1, [.ref aT_slips, .ref aT_lates, .ref aT_copied, .int T_size, .int T_littleOnes])), (aT_slips, .inl (cI, 6, .inl T_slips)), (aT_lates, .inl (cI, 6, .inl T_lates)), (aT_copied, .inl (cI, 6, .inl T_copied)), (aH, .inr (2, [.ref aH_ins, .ref aH_streaks, .int H_size])), (aH_ins, .inl (cI, 12, .inl H_ins)), (aH_streaks, .inl (cI, 12, .inl H_streaks))] s.heap.size = A at hD ⊢
  have hA : ∀ q : Nat, s.heap.size ≤ q → A q := fun q h => by rw [← hAe]; exact Or.inr h
  have hS : va_S A s.heap s.heap [] := va_S.rf
  have hl := lv_entry ([.ref aS, .int p1]) (n := 2) (Nat.le_of_ble_eq_true rfl)
  rw [lg_entry_eq]
  generalize (lg_sl ([.ref aS, .int p1]) ++ List.replicate (2 - (lg_sl ([.ref aS, .int p1])).length) Slot.unset).toArray = ls at hl ⊢
  have hl : lv_has ls 2 [(0, .ref aS), (1, .int p1)] := hl
  unfold f_X9_call at h
  refine lv_iload_n hx hb dX9_call_0 rfl (lv_at hl 1 rfl) ?_
  have hPc : va_P D vwCl [] s.heap := hP.sub [] rfl
  refine vp_callSi (va_Run.run (va_runS (As := [.int p1]) (rest := []) ⟨hx, hb, hml, hown, hts⟩ (c_X9_isOrder l D cI cJ cZ cO p1 _ rfl) (cwS 1 hts gX9_call_X9_isOrder rfl rfl rfl (by decide +kernel) ⟨Nat.le_of_ble_eq_true rfl, Nat.le_of_ble_eq_true rfl⟩) ⟨fb_p, fun U hU hW => ⟨rfl, by rw [hU]; exact hPc, KK.warm hW hKK⟩⟩ rfl rfl hl.1 rfl (lv_room (Nat.le_of_ble_eq_true rfl)) dX9_call_1 ⟨Nat.le_of_ble_eq_true rfl, Nat.le_of_ble_eq_true rfl⟩)) (fun r hr => ?_)
  obtain ⟨hr, hz1⟩ := hr
  replace hr := hr.symm
  subst hr
  refine lv_if_ne (tgt := 9) hx hb dX9_call_4 (by decide) (fun c_2 => ?_) (fun c_2 => ?_)
  · replace h := if_n c_2 h
    refine lv_aload_n hx hb dX9_call_9 rfl (lv_at hl 0 rfl) ?_
    refine va_get (D := D) (ci := 9) (v := .ref aR) (C := RX9) (T := TX9) (N := 9) hx hb hts inX9 hown hK hP 0 rfl rfl 3 (by decide) fl_37 (fun _ h9 => h9) rfl dX9_call_10 ?_
    have hPc : va_P D vwCl [(aR, .inr (6, [.ref aT, .int R_in, .int R_streak, .int R_lot]))] s.heap := hP.sub [1] rfl
    refine vp_callSi (va_Run.run (va_runV (As := []) (rest := []) ⟨hx, hb, hml, hown, hts⟩ (c_X6_whoIsIn l D cI cJ cZ cO aR aT R_in R_streak R_lot _ rfl) (cwV 0 hts gX9_call_X6_whoIsIn rfl rfl rfl (by decide +kernel) ⟨Nat.le_of_ble_eq_true rfl, Nat.le_of_ble_eq_true rfl⟩) ⟨fb_p, va_recv hK hP (ci := 6) (q0 := 1) rfl rfl, fun U hU hW => ⟨rfl, by rw [hU]; exact hPc, KK.warm hW hKK⟩⟩ rfl rfl hl.1 rfl (lv_room (Nat.le_of_ble_eq_true rfl)) dX9_call_13 ⟨Nat.le_of_ble_eq_true rfl, Nat.le_of_ble_eq_true rfl⟩)) (fun r hr => ?_)
    replace hr := hr.symm
    subst hr
    refine lv_if_ne (tgt := 22) hx hb dX9_call_16 (by decide) (fun c_3 => ?_) (fun c_3 => ?_)
    · replace h := if_n c_3 h
      refine lv_aload_n hx hb dX9_call_22 rfl (lv_at hl 0 rfl) ?_
      refine va_get (D := D) (ci := 9) (v := .ref aH) (C := RX9) (T := TX9) (N := 9) hx hb hts inX9 hown hK hP 0 rfl rfl 4 (by decide) fl_44 (fun _ h9 => h9) rfl dX9_call_23 ?_
      refine lv_aload_n hx hb dX9_call_26 rfl (lv_at hl 0 rfl) ?_
      refine va_get (D := D) (ci := 9) (v := .ref aR) (C := RX9) (T := TX9) (N := 9) hx hb hts inX9 hown hK hP 0 rfl rfl 3 (by decide) fl_37 (fun _ h9 => h9) rfl dX9_call_27 ?_
      have hPc : va_P D vwCl [(aR, .inr (6, [.ref aT, .int R_in, .int R_streak, .int R_lot]))] s.heap := hP.sub [1] rfl
      refine vp_callSi (va_Run.run (va_runV (As := []) (rest := [.ref aH]) ⟨hx, hb, hml, hown, hts⟩ (c_X6_whoIsIn l D cI cJ cZ cO aR aT R_in R_streak R_lot _ rfl) (cwV 0 hts gX9_call_X6_whoIsIn rfl rfl rfl (by decide +kernel) ⟨Nat.le_of_ble_eq_true rfl, Nat.le_of_ble_eq_true rfl⟩) ⟨fb_p, va_recv hK hP (ci := 6) (q0 := 1) rfl rfl, fun U hU hW => ⟨rfl, by rw [hU]; exact hPc, KK.warm hW hKK⟩⟩ rfl rfl hl.1 rfl (lv_room (Nat.le_of_ble_eq_true rfl)) dX9_call_30 ⟨Nat.le_of_ble_eq_true rfl, Nat.le_of_ble_eq_true rfl⟩)) (fun r hr => ?_)
      replace hr := hr.symm
      subst hr
      refine lv_aload_n hx hb dX9_call_33 rfl (lv_at hl 0 rfl) ?_
      refine va_get (D := D) (ci := 9) (v := .ref aR) (C := RX9) (T := TX9) (N := 9) hx hb hts inX9 hown hK hP 0 rfl rfl 3 (by decide) fl_37 (fun _ h9 => h9) rfl dX9_call_34 ?_
      have hPc : va_P D vwCl [(aR, .inr (6, [.ref aT, .int R_in, .int R_streak, .int R_lot]))] s.heap := hP.sub [1] rfl
      refine vp_callSi (va_Run.run (va_runV (As := []) (rest := [.int (f_X6_whoIsIn R_in), .ref aH]) ⟨hx, hb, hml, hown, hts⟩ (c_X6_streak l D cI cJ cZ cO aR aT R_in R_streak R_lot _ rfl) (cwV 0 hts gX9_call_X6_streak rfl rfl rfl (by decide +kernel) ⟨Nat.le_of_ble_eq_true rfl, Nat.le_of_ble_eq_true rfl⟩) ⟨fb_p, va_recv hK hP (ci := 6) (q0 := 1) rfl rfl, fun U hU hW => ⟨rfl, by rw [hU]; exact hPc, KK.warm hW hKK⟩⟩ rfl rfl hl.1 rfl (lv_room (Nat.le_of_ble_eq_true rfl)) dX9_call_37 ⟨Nat.le_of_ble_eq_true rfl, Nat.le_of_ble_eq_true rfl⟩)) (fun r hr => ?_)
      replace hr := hr.symm
      subst hr
      obtain ⟨y4, qy4, h⟩ := ob_some h
      have hPc : va_P D vwCl [(aH, .inr (2, [.ref aH_ins, .ref aH_streaks, .int H_size])), (aH_ins, .inl (cI, 12, .inl H_ins)), (aH_streaks, .inl (cI, 12, .inl H_streaks))] s.heap := hP.sub [6, 7, 8] rfl
      have hDc : va_D A [(aH, .inr (2, [.ref aH_ins, .ref aH_streaks, .int H_size])), (aH_ins, .inl (cI, 12, .inl H_ins)), (aH_streaks, .inl (cI, 12, .inl H_streaks))] := hD.sub [6, 7, 8] (by decide) rfl
      have hFc := va_free (wc := [(aH, .inr (2, [.ref aH_ins, .ref aH_streaks, .int H_size])), (aH_ins, .inl (cI, 12, .inl H_ins)), (aH_streaks, .inl (cI, 12, .inl H_streaks))]) hD hS hA [6, 7, 8] rfl
      refine va_callv (va_runV (As := [.int (f_X6_whoIsIn R_in), .int (f_X6_streak R_streak)]) (rest := []) ⟨hx, hb, hml, hown, hts⟩ (c_X2_add l D cI cJ cZ cO aH aH_ins aH_streaks H_size H_ins H_streaks s.heap.size (f_X6_whoIsIn R_in) (f_X6_streak R_streak) y4 qy4) (cwV 2 hts gX9_call_X2_add rfl rfl rfl (by decide +kernel) ⟨Nat.le_of_ble_eq_true rfl, Nat.le_of_ble_eq_true rfl⟩) ⟨fb_i, va_recv hK hP (ci := 2) (q0 := 6) rfl rfl, fun U hU hW => ⟨rfl, by rw [hU], by rw [hU]; exact hPc, KK.warm hW hKK, hDc.weaken (fun _ _ _ _ => trivial)⟩⟩ rfl rfl hl.1 rfl (lv_room (Nat.le_of_ble_eq_true rfl)) dX9_call_40 ⟨Nat.le_of_ble_eq_true rfl, Nat.le_of_ble_eq_true rfl⟩) hS (fun q _ h => hFc q h) hFc (fun u t H1 locs ht hvm hw hB hz1 hk1 hS => ?_)
      obtain ⟨hP1, hD1⟩ := hB
      rw [ht] at hP1
      obtain ⟨hP, hD⟩ := va_join (wr := [(aS, .inr (9, [.ref aX, .ref aD, .ref aT, .ref aR, .ref aH, .ref aIM, .ref aW, .ref aC, .ref aK])), (aR, .inr (6, [.ref aT, .int R_in, .int R_streak, .int R_lot])), (aT, .inr (1, [.ref aT_slips, .ref aT_lates, .ref aT_copied, .int T_size, .int T_littleOnes])), (aT_slips, .inl (cI, 6, .inl T_slips)), (aT_lates, .inl (cI, 6, .inl T_lates)), (aT_copied, .inl (cI, 6, .inl T_copied))]) (w1 := [(aH, .inr (2, [.ref aH_ins, .ref aH_streaks, .int y4.1])), (aH_ins, .inl (cI, 12, .inl y4.2.1)), (aH_streaks, .inl (cI, 12, .inl y4.2.2))]) hP hD [6, 7, 8] [0, 1, 2, 3, 4, 5] rfl rfl (by decide) (by decide) hk1 hFc hP1 hD1
      generalize H1 = H at hP hS ⊢
      have hP : va_P D vwCl [(aS, .inr (9, [.ref aX, .ref aD, .ref aT, .ref aR, .ref aH, .ref aIM, .ref aW, .ref aC, .ref aK])), (aR, .inr (6, [.ref aT, .int R_in, .int R_streak, .int R_lot])), (aT, .inr (1, [.ref aT_slips, .ref aT_lates, .ref aT_copied, .int T_size, .int T_littleOnes])), (aT_slips, .inl (cI, 6, .inl T_slips)), (aT_lates, .inl (cI, 6, .inl T_lates)), (aT_copied, .inl (cI, 6, .inl T_copied)), (aH, .inr (2, [.ref aH_ins, .ref aH_streaks, .int y4.1])), (aH_ins, .inl (cI, 12, .inl y4.2.1)), (aH_streaks, .inl (cI, 12, .inl y4.2.2))] H := hP.sub [0, 1, 2, 3, 4, 5, 6, 7, 8] rfl
      have hD : va_D A [(aS, .inr (9, [.ref aX, .ref aD, .ref aT, .ref aR, .ref aH, .ref aIM, .ref aW, .ref aC, .ref aK])), (aR, .inr (6, [.ref aT, .int R_in, .int R_streak, .int R_lot])), (aT, .inr (1, [.ref aT_slips, .ref aT_lates, .ref aT_copied, .int T_size, .int T_littleOnes])), (aT_slips, .inl (cI, 6, .inl T_slips)), (aT_lates, .inl (cI, 6, .inl T_lates)), (aT_copied, .inl (cI, 6, .inl T_copied)), (aH, .inr (2, [.ref aH_ins, .ref aH_streaks, .int y4.1])), (aH_ins, .inl (cI, 12, .inl y4.2.1)), (aH_streaks, .inl (cI, 12, .inl y4.2.2))] := hD.sub [0, 1, 2, 3, 4, 5, 6, 7, 8] (by decide) rfl
      refine lv_aload_n hx hb dX9_call_43 rfl (lv_at hl 0 rfl) ?_
      refine va_get (D := D) (ci := 9) (v := .ref aR) (C := RX9) (T := TX9) (N := 9) hx hb hts inX9 hown hK hP 0 rfl rfl 3 (by decide) fl_37 (fun _ h9 => h9) rfl dX9_call_44 ?_
      refine lv_iload_n hx hb dX9_call_47 rfl (lv_at hl 1 rfl) ?_
      obtain ⟨y5, qy5, h⟩ := ob_some h
      have hPc : va_P D vwCl [(aR, .inr (6, [.ref aT, .int R_in, .int R_streak, .int R_lot])), (aT, .inr (1, [.ref aT_slips, .ref aT_lates, .ref aT_copied, .int T_size, .int T_littleOnes])), (aT_slips, .inl (cI, 6, .inl T_slips)), (aT_lates, .inl (cI, 6, .inl T_lates)), (aT_copied, .inl (cI, 6, .inl T_copied))] H := hP.sub [1, 2, 3, 4, 5] rfl
      have hDc : va_D A [(aR, .inr (6, [.ref aT, .int R_in, .int R_streak, .int R_lot])), (aT, .inr (1, [.ref aT_slips, .ref aT_lates, .ref aT_copied, .int T_size, .int T_littleOnes])), (aT_slips, .inl (cI, 6, .inl T_slips)), (aT_lates, .inl (cI, 6, .inl T_lates)), (aT_copied, .inl (cI, 6, .inl T_copied))] := hD.sub [1, 2, 3, 4, 5] (by decide) rfl
      have hFc := va_free (wc := [(aR, .inr (6, [.ref aT, .int R_in, .int R_streak, .int R_lot])), (aT, .inr (1, [.ref aT_slips, .ref aT_lates, .ref aT_copied, .int T_size, .int T_littleOnes])), (aT_slips, .inl (cI, 6, .inl T_slips)), (aT_lates, .inl (cI, 6, .inl T_lates)), (aT_copied, .inl (cI, 6, .inl T_copied))]) hD hS hA [1, 2, 3, 4, 5] rfl
      refine va_calli (va_runV (As := [.int p1]) (rest := []) ⟨hx, hb, hml, hown, hts⟩ (c_X6_obey l D cI cJ cZ cO aR aT aT_slips aT_lates aT_copied R_in R_streak R_lot T_size T_littleOnes T_slips T_lates T_copied H.size p1 y5 qy5) (cwV 1 hts gX9_call_X6_obey rfl rfl rfl (by decide +kernel) ⟨Nat.le_of_ble_eq_true rfl, Nat.le_of_ble_eq_true rfl⟩) ⟨fb_i, va_recv hK hP (ci := 6) (q0 := 1) rfl rfl, fun U hU hW => ⟨rfl, by rw [hU], by rw [hU]; exact hPc, KK.warm hW hKK, hDc.weaken (fun _ _ _ _ => trivial)⟩⟩ rfl rfl hl.1 rfl (lv_room (Nat.le_of_ble_eq_true rfl)) dX9_call_48 ⟨Nat.le_of_ble_eq_true rfl, Nat.le_of_ble_eq_true rfl⟩) hS (fun q _ h => hFc q h) hFc (fun r u t H1 locs ht hvm hw hB hz1 hk1 hS => ?_)
      obtain ⟨hP1, hD1⟩ := hB
      rw [ht] at hP1
      replace hw := hw.symm
      subst hw
      obtain ⟨hP, hD⟩ := va_join (wr := [(aS, .inr (9, [.ref aX, .ref aD, .ref aT, .ref aR, .ref aH, .ref aIM, .ref aW, .ref aC, .ref aK])), (aH, .inr (2, [.ref aH_ins, .ref aH_streaks, .int y4.1])), (aH_ins, .inl (cI, 12, .inl y4.2.1)), (aH_streaks, .inl (cI, 12, .inl y4.2.2))]) (w1 := [(aR, .inr (6, [.ref aT, .int y5.2.1, .int y5.2.2.1, .int y5.2.2.2])), (aT, .inr (1, [.ref aT_slips, .ref aT_lates, .ref aT_copied, .int T_size, .int T_littleOnes])), (aT_slips, .inl (cI, 6, .inl T_slips)), (aT_lates, .inl (cI, 6, .inl T_lates)), (aT_copied, .inl (cI, 6, .inl T_copied))]) hP hD [1, 2, 3, 4, 5] [0, 6, 7, 8] rfl rfl (by decide) (by decide) hk1 hFc hP1 hD1
      generalize H1 = H at hP hS ⊢
      have hP : va_P D vwCl [(aS, .inr (9, [.ref aX, .ref aD, .ref aT, .ref aR, .ref aH, .ref aIM, .ref aW, .ref aC, .ref aK])), (aR, .inr (6, [.ref aT, .int y5.2.1, .int y5.2.2.1, .int y5.2.2.2])), (aT, .inr (1, [.ref aT_slips, .ref aT_lates, .ref aT_copied, .int T_size, .int T_littleOnes])), (aT_slips, .inl (cI, 6, .inl T_slips)), (aT_lates, .inl (cI, 6, .inl T_lates)), (aT_copied, .inl (cI, 6, .inl T_copied)), (aH, .inr (2, [.ref aH_ins, .ref aH_streaks, .int y4.1])), (aH_ins, .inl (cI, 12, .inl y4.2.1)), (aH_streaks, .inl (cI, 12, .inl y4.2.2))] H := hP.sub [0, 4, 5, 6, 7, 8, 1, 2, 3] rfl
      have hD : va_D A [(aS, .inr (9, [.ref aX, .ref aD, .ref aT, .ref aR, .ref aH, .ref aIM, .ref aW, .ref aC, .ref aK])), (aR, .inr (6, [.ref aT, .int y5.2.1, .int y5.2.2.1, .int y5.2.2.2])), (aT, .inr (1, [.ref aT_slips, .ref aT_lates, .ref aT_copied, .int T_size, .int T_littleOnes])), (aT_slips, .inl (cI, 6, .inl T_slips)), (aT_lates, .inl (cI, 6, .inl T_lates)), (aT_copied, .inl (cI, 6, .inl T_copied)), (aH, .inr (2, [.ref aH_ins, .ref aH_streaks, .int y4.1])), (aH_ins, .inl (cI, 12, .inl y4.2.1)), (aH_streaks, .inl (cI, 12, .inl y4.2.2))] := hD.sub [0, 4, 5, 6, 7, 8, 1, 2, 3] (by decide) rfl
      have hy := Option.some.inj h
      subst hy
      exact W.iret (v := y5.1) hx hb hr (fun t ht hW => ⟨⟨y5.1, (), rfl, rfl, by rw [ht]; exact hP, hD⟩, hS.F ht⟩) hS.2.2 dX9_call_51
    · replace h := if_p c_3 h
      refine lv_bipush (v := (-2 : Int32)) hx hb dX9_call_19 (by decide) ?_
      have hy := Option.some.inj h
      subst hy
      exact W.iret (v := (-2 : Int32)) hx hb hr (fun t ht hW => ⟨⟨(-2 : Int32), (), rfl, rfl, by rw [ht]; exact hP, hD⟩, hS.F ht⟩) hS.2.2 dX9_call_21
  · replace h := if_p c_2 h
    refine lv_iconst (v := (-1 : Int32)) hx hb dX9_call_7 (by decide) ?_
    have hy := Option.some.inj h
    subst hy
    exact W.iret (v := (-1 : Int32)) hx hb hr (fun t ht hW => ⟨⟨(-1 : Int32), (), rfl, rfl, by rw [ht]; exact hP, hD⟩, hS.F ht⟩) hS.2.2 dX9_call_8

def f_X9_comesBack (R_in : Int32) (R_streak : Int32) (T_size : Int32) (H_size : Int32) (H_ins : Nat → Int32) (H_streaks : Nat → Int32) (p1 : Int32) : Option (Int32 × Int32 × Int32 × (Nat → Int32) × (Nat → Int32)) := (if (f_X1_has T_size p1) = 0 then some ((-1 : Int32), R_in, H_size, H_ins, H_streaks) else (if (f_X6_isIn R_in T_size p1) = 0 then (Option.bind (f_X2_add H_size H_ins H_streaks (f_X6_whoIsIn R_in) (f_X6_streak R_streak)) (fun y5 => (Option.bind (f_X6_letIn R_in p1) (fun y6 => some ((f_X6_howManyIn y6), y6, y5.1, y5.2.1, y5.2.2))))) else some ((-2 : Int32), R_in, H_size, H_ins, H_streaks)))
set_option maxHeartbeats 8000000 in
set_option maxRecDepth 100000 in
theorem c_X9_comesBack (l : Launch) (D : va_G) (cI cJ cZ cO : ClassId) (aS : Nat) (aR : Nat) (aT : Nat) (aH : Nat) (aH_ins : Nat) (aH_streaks : Nat) (aX : Nat) (aD : Nat) (aIM : Nat) (aW : Nat) (aC : Nat) (aK : Nat) (aT_slips : Nat) (aT_lates : Nat) (aT_copied : Nat) (R_in : Int32) (R_streak : Int32) (R_lot : Int32) (T_size : Int32) (T_littleOnes : Int32) (H_size : Int32) (H_ins : Nat → Int32) (H_streaks : Nat → Int32) (sz : Nat) (p1 : Int32)  (y0 : Int32 × Int32 × Int32 × (Nat → Int32) × (Nat → Int32)) (h : f_X9_comesBack R_in R_streak T_size H_size H_ins H_streaks p1 = some y0) : Met l yX9_comesBack wsX9_comesBack ({ frames := 3, cells := 0, slots := 0, locals := 82 } : Room) (va_Pc [.ref aS, .int p1] (fun U => U.heap.size = sz ∧ va_P D vwCl [(aS, .inr (9, [.ref aX, .ref aD, .ref aT, .ref aR, .ref aH, .ref aIM, .ref aW, .ref aC, .ref aK])), (aR, .inr (6, [.ref aT, .int R_in, .int R_streak, .int R_lot])), (aT, .inr (1, [.ref aT_slips, .ref aT_lates, .ref aT_copied, .int T_size, .int T_littleOnes])), (aH, .inr (2, [.ref aH_ins, .ref aH_streaks, .int H_size])), (aH_ins, .inl (cI, 12, .inl H_ins)), (aH_streaks, .inl (cI, 12, .inl H_streaks))] U.heap ∧ KK D cI cJ cZ cO U ∧ va_D (fun _ => True) [(aS, .inr (9, [.ref aX, .ref aD, .ref aT, .ref aR, .ref aH, .ref aIM, .ref aW, .ref aC, .ref aK])), (aR, .inr (6, [.ref aT, .int R_in, .int R_streak, .int R_lot])), (aT, .inr (1, [.ref aT_slips, .ref aT_lates, .ref aT_copied, .int T_size, .int T_littleOnes])), (aH, .inr (2, [.ref aH_ins, .ref aH_streaks, .int H_size])), (aH_ins, .inl (cI, 12, .inl H_ins)), (aH_streaks, .inl (cI, 12, .inl H_streaks))])) (va_Qi (fun (r : Int32) (_ : Unit) => r = y0.1) (fun (_ : Unit) t => va_P D vwCl [(aS, .inr (9, [.ref aX, .ref aD, .ref aT, .ref aR, .ref aH, .ref aIM, .ref aW, .ref aC, .ref aK])), (aR, .inr (6, [.ref aT, .int y0.2.1, .int R_streak, .int R_lot])), (aT, .inr (1, [.ref aT_slips, .ref aT_lates, .ref aT_copied, .int T_size, .int T_littleOnes])), (aH, .inr (2, [.ref aH_ins, .ref aH_streaks, .int y0.2.2.1])), (aH_ins, .inl (cI, 12, .inl y0.2.2.2.1)), (aH_streaks, .inl (cI, 12, .inl y0.2.2.2.2))] t.heap ∧ va_D (va_A [(aS, .inr (9, [.ref aX, .ref aD, .ref aT, .ref aR, .ref aH, .ref aIM, .ref aW, .ref aC, .ref aK])), (aR, .inr (6, [.ref aT, .int R_in, .int R_streak, .int R_lot])), (aT, .inr (1, [.ref aT_slips, .ref aT_lates, .ref aT_copied, .int T_size, .int T_littleOnes])), (aH, .inr (2, [.ref aH_ins, .ref aH_streaks, .int H_size])), (aH_ins, .inl (cI, 12, .inl H_ins)), (aH_streaks, .inl (cI, 12, .inl H_streaks))] sz) [(aS, .inr (9, [.ref aX, .ref aD, .ref aT, .ref aR, .ref aH, .ref aIM, .ref aW, .ref aC, .ref aK])), (aR, .inr (6, [.ref aT, .int y0.2.1, .int R_streak, .int R_lot])), (aT, .inr (1, [.ref aT_slips, .ref aT_lates, .ref aT_copied, .int T_size, .int T_littleOnes])), (aH, .inr (2, [.ref aH_ins, .ref aH_streaks, .int y0.2.2.1])), (aH_ins, .inl (cI, 12, .inl y0.2.2.2.1)), (aH_streaks, .inl (cI, 12, .inl y0.2.2.2.2))]) (va_A [(aS, .inr (9, [.ref aX, .ref aD, .ref aT, .ref aR, .ref aH, .ref aIM, .ref aW, .ref aC, .ref aK])), (aR, .inr (6, [.ref aT, .int R_in, .int R_streak, .int R_lot])), (aT, .inr (1, [.ref aT_slips, .ref aT_lates, .ref aT_copied, .int T_size, .int T_littleOnes])), (aH, .inr (2, [.ref aH_ins, .ref aH_streaks, .int H_size])), (aH_ins, .inl (cI, 12, .inl H_ins)), (aH_streaks, .inl (cI, 12, .inl H_streaks))] sz)) 0 0 (va_A [(aS, .inr (9, [.ref aX, .ref aD, .ref aT, .ref aR, .ref aH, .ref aIM, .ref aW, .ref aC, .ref aK])), (aR, .inr (6, [.ref aT, .int R_in, .int R_streak, .int R_lot])), (aT, .inr (1, [.ref aT_slips, .ref aT_lates, .ref aT_copied, .int T_size, .int T_littleOnes])), (aH, .inr (2, [.ref aH_ins, .ref aH_streaks, .int H_size])), (aH_ins, .inl (cI, 12, .inl H_ins)), (aH_streaks, .inl (cI, 12, .inl H_streaks))] sz) := by
  refine Met.ofW (cc := cX9_comesBack) (maxL := 2) (ret := (some .int)) (by decide) rfl ?_
  intro p e s m args below meth c s₁ B hml hv
  obtain ⟨rfl, hsz, hP, hKK, hD0⟩ := hv
  have hx := B.exec
  have hb := B.bytes
  have hr := B.returns
  have hts := atoms_spec (ws := wsX9_comesBack) B.pre
  have hown : s.vm.findClass RX9 = some m.cls := findClass_of_methodNamed B.named
  have hlocks := B.notSynchronized
  have hK := hKK.1
  have fl_28 := hts (.fieldLink RX9 28 "SimonSays" "told" "LSimonSays$Children;") (by decide +kernel)
  have fl_37 := hts (.fieldLink RX9 37 "SimonSays" "round" "LSimonSays$Round;") (by decide +kernel)
  have fl_44 := hts (.fieldLink RX9 44 "SimonSays" "history" "LSimonSays$History;") (by decide +kernel)
  have inX9 : ∀ w ∈ wsX90, w ∈ wsX9_comesBack := by decide +kernel
  subst hsz
  have hD := hD0.self (sz := s.heap.size)
  generalize hAe : va_A [(aS, .inr (9, [.ref aX, .ref aD, .ref aT, .ref aR, .ref aH, .ref aIM, .ref aW, .ref aC, .ref aK])), (aR, .inr (6, [.ref aT, .int R_in, .int R_streak, .int R_lot])), (aT, .inr (1, [.ref aT_slips, .ref aT_lates, .ref aT_copied, .int T_size, .int T_littleOnes])), (aH, .inr (2, [.ref aH_ins, .ref aH_streaks, .int H_size])), (aH_ins, .inl (cI, 12, .inl H_ins)), (aH_streaks, .inl (cI, 12, .inl H_streaks))] s.heap.size = A at hD ⊢
  have hA : ∀ q : Nat, s.heap.size ≤ q → A q := fun q h => by rw [← hAe]; exact Or.inr h
  have hS : va_S A s.heap s.heap [] := va_S.rf
  have hl := lv_entry ([.ref aS, .int p1]) (n := 2) (Nat.le_of_ble_eq_true rfl)
  rw [lg_entry_eq]
  generalize (lg_sl ([.ref aS, .int p1]) ++ List.replicate (2 - (lg_sl ([.ref aS, .int p1])).length) Slot.unset).toArray = ls at hl ⊢
  have hl : lv_has ls 2 [(0, .ref aS), (1, .int p1)] := hl
  unfold f_X9_comesBack at h
  refine lv_aload_n hx hb dX9_comesBack_0 rfl (lv_at hl 0 rfl) ?_
  refine va_get (D := D) (ci := 9) (v := .ref aT) (C := RX9) (T := TX9) (N := 9) hx hb hts inX9 hown hK hP 0 rfl rfl 2 (by decide) fl_28 (fun _ h9 => h9) rfl dX9_comesBack_1 ?_
  refine lv_iload_n hx hb dX9_comesBack_4 rfl (lv_at hl 1 rfl) ?_
  have hPc : va_P D vwCl [(aT, .inr (1, [.ref aT_slips, .ref aT_lates, .ref aT_copied, .int T_size, .int T_littleOnes]))] s.heap := hP.sub [2] rfl
  refine vp_callSi (va_Run.run (va_runV (As := [.int p1]) (rest := []) ⟨hx, hb, hml, hown, hts⟩ (c_X1_has l D cI cJ cZ cO aT aT_slips aT_lates aT_copied T_size T_littleOnes p1 _ rfl) (cwV 1 hts gX9_comesBack_X1_has rfl rfl rfl (by decide +kernel) ⟨Nat.le_of_ble_eq_true rfl, Nat.le_of_ble_eq_true rfl⟩) ⟨fb_p, va_recv hK hP (ci := 1) (q0 := 2) rfl rfl, fun U hU hW => ⟨rfl, by rw [hU]; exact hPc, KK.warm hW hKK⟩⟩ rfl rfl hl.1 rfl (lv_room (Nat.le_of_ble_eq_true rfl)) dX9_comesBack_5 ⟨Nat.le_of_ble_eq_true rfl, Nat.le_of_ble_eq_true rfl⟩)) (fun r hr => ?_)
  obtain ⟨hr, hz1⟩ := hr
  replace hr := hr.symm
  subst hr
  refine lv_if_ne (tgt := 13) hx hb dX9_comesBack_8 (by decide) (fun c_2 => ?_) (fun c_2 => ?_)
  · replace h := if_n c_2 h
    refine lv_aload_n hx hb dX9_comesBack_13 rfl (lv_at hl 0 rfl) ?_
    refine va_get (D := D) (ci := 9) (v := .ref aR) (C := RX9) (T := TX9) (N := 9) hx hb hts inX9 hown hK hP 0 rfl rfl 3 (by decide) fl_37 (fun _ h9 => h9) rfl dX9_comesBack_14 ?_
    refine lv_iload_n hx hb dX9_comesBack_17 rfl (lv_at hl 1 rfl) ?_
    have hPc : va_P D vwCl [(aR, .inr (6, [.ref aT, .int R_in, .int R_streak, .int R_lot])), (aT, .inr (1, [.ref aT_slips, .ref aT_lates, .ref aT_copied, .int T_size, .int T_littleOnes]))] s.heap := hP.sub [1, 2] rfl
    refine vp_callSi (va_Run.run (va_runV (As := [.int p1]) (rest := []) ⟨hx, hb, hml, hown, hts⟩ (c_X6_isIn l D cI cJ cZ cO aR aT aT_slips aT_lates aT_copied R_in R_streak R_lot T_size T_littleOnes p1 _ rfl) (cwV 1 hts gX9_comesBack_X6_isIn rfl rfl rfl (by decide +kernel) ⟨Nat.le_of_ble_eq_true rfl, Nat.le_of_ble_eq_true rfl⟩) ⟨fb_p, va_recv hK hP (ci := 6) (q0 := 1) rfl rfl, fun U hU hW => ⟨rfl, by rw [hU]; exact hPc, KK.warm hW hKK⟩⟩ rfl rfl hl.1 rfl (lv_room (Nat.le_of_ble_eq_true rfl)) dX9_comesBack_18 ⟨Nat.le_of_ble_eq_true rfl, Nat.le_of_ble_eq_true rfl⟩)) (fun r hr => ?_)
    obtain ⟨hr, hz3⟩ := hr
    replace hr := hr.symm
    subst hr
    refine lv_if_eq (tgt := 27) hx hb dX9_comesBack_21 (by decide) (fun c_4 => ?_) (fun c_4 => ?_)
    · replace h := if_p c_4 h
      refine lv_aload_n hx hb dX9_comesBack_27 rfl (lv_at hl 0 rfl) ?_
      refine va_get (D := D) (ci := 9) (v := .ref aH) (C := RX9) (T := TX9) (N := 9) hx hb hts inX9 hown hK hP 0 rfl rfl 4 (by decide) fl_44 (fun _ h9 => h9) rfl dX9_comesBack_28 ?_
      refine lv_aload_n hx hb dX9_comesBack_31 rfl (lv_at hl 0 rfl) ?_
      refine va_get (D := D) (ci := 9) (v := .ref aR) (C := RX9) (T := TX9) (N := 9) hx hb hts inX9 hown hK hP 0 rfl rfl 3 (by decide) fl_37 (fun _ h9 => h9) rfl dX9_comesBack_32 ?_
      have hPc : va_P D vwCl [(aR, .inr (6, [.ref aT, .int R_in, .int R_streak, .int R_lot]))] s.heap := hP.sub [1] rfl
      refine vp_callSi (va_Run.run (va_runV (As := []) (rest := [.ref aH]) ⟨hx, hb, hml, hown, hts⟩ (c_X6_whoIsIn l D cI cJ cZ cO aR aT R_in R_streak R_lot _ rfl) (cwV 0 hts gX9_comesBack_X6_whoIsIn rfl rfl rfl (by decide +kernel) ⟨Nat.le_of_ble_eq_true rfl, Nat.le_of_ble_eq_true rfl⟩) ⟨fb_p, va_recv hK hP (ci := 6) (q0 := 1) rfl rfl, fun U hU hW => ⟨rfl, by rw [hU]; exact hPc, KK.warm hW hKK⟩⟩ rfl rfl hl.1 rfl (lv_room (Nat.le_of_ble_eq_true rfl)) dX9_comesBack_35 ⟨Nat.le_of_ble_eq_true rfl, Nat.le_of_ble_eq_true rfl⟩)) (fun r hr => ?_)
      replace hr := hr.symm
      subst hr
      refine lv_aload_n hx hb dX9_comesBack_38 rfl (lv_at hl 0 rfl) ?_
      refine va_get (D := D) (ci := 9) (v := .ref aR) (C := RX9) (T := TX9) (N := 9) hx hb hts inX9 hown hK hP 0 rfl rfl 3 (by decide) fl_37 (fun _ h9 => h9) rfl dX9_comesBack_39 ?_
      have hPc : va_P D vwCl [(aR, .inr (6, [.ref aT, .int R_in, .int R_streak, .int R_lot]))] s.heap := hP.sub [1] rfl
      refine vp_callSi (va_Run.run (va_runV (As := []) (rest := [.int (f_X6_whoIsIn R_in), .ref aH]) ⟨hx, hb, hml, hown, hts⟩ (c_X6_streak l D cI cJ cZ cO aR aT R_in R_streak R_lot _ rfl) (cwV 0 hts gX9_comesBack_X6_streak rfl rfl rfl (by decide +kernel) ⟨Nat.le_of_ble_eq_true rfl, Nat.le_of_ble_eq_true rfl⟩) ⟨fb_p, va_recv hK hP (ci := 6) (q0 := 1) rfl rfl, fun U hU hW => ⟨rfl, by rw [hU]; exact hPc, KK.warm hW hKK⟩⟩ rfl rfl hl.1 rfl (lv_room (Nat.le_of_ble_eq_true rfl)) dX9_comesBack_42 ⟨Nat.le_of_ble_eq_true rfl, Nat.le_of_ble_eq_true rfl⟩)) (fun r hr => ?_)
      replace hr := hr.symm
      subst hr
      obtain ⟨y5, qy5, h⟩ := ob_some h
      have hPc : va_P D vwCl [(aH, .inr (2, [.ref aH_ins, .ref aH_streaks, .int H_size])), (aH_ins, .inl (cI, 12, .inl H_ins)), (aH_streaks, .inl (cI, 12, .inl H_streaks))] s.heap := hP.sub [3, 4, 5] rfl
      have hDc : va_D A [(aH, .inr (2, [.ref aH_ins, .ref aH_streaks, .int H_size])), (aH_ins, .inl (cI, 12, .inl H_ins)), (aH_streaks, .inl (cI, 12, .inl H_streaks))] := hD.sub [3, 4, 5] (by decide) rfl
      have hFc := va_free (wc := [(aH, .inr (2, [.ref aH_ins, .ref aH_streaks, .int H_size])), (aH_ins, .inl (cI, 12, .inl H_ins)), (aH_streaks, .inl (cI, 12, .inl H_streaks))]) hD hS hA [3, 4, 5] rfl
      refine va_callv (va_runV (As := [.int (f_X6_whoIsIn R_in), .int (f_X6_streak R_streak)]) (rest := []) ⟨hx, hb, hml, hown, hts⟩ (c_X2_add l D cI cJ cZ cO aH aH_ins aH_streaks H_size H_ins H_streaks s.heap.size (f_X6_whoIsIn R_in) (f_X6_streak R_streak) y5 qy5) (cwV 2 hts gX9_comesBack_X2_add rfl rfl rfl (by decide +kernel) ⟨Nat.le_of_ble_eq_true rfl, Nat.le_of_ble_eq_true rfl⟩) ⟨fb_i, va_recv hK hP (ci := 2) (q0 := 3) rfl rfl, fun U hU hW => ⟨rfl, by rw [hU], by rw [hU]; exact hPc, KK.warm hW hKK, hDc.weaken (fun _ _ _ _ => trivial)⟩⟩ rfl rfl hl.1 rfl (lv_room (Nat.le_of_ble_eq_true rfl)) dX9_comesBack_45 ⟨Nat.le_of_ble_eq_true rfl, Nat.le_of_ble_eq_true rfl⟩) hS (fun q _ h => hFc q h) hFc (fun u t H1 locs ht hvm hw hB hz1 hk1 hS => ?_)
      obtain ⟨hP1, hD1⟩ := hB
      rw [ht] at hP1
      obtain ⟨hP, hD⟩ := va_join (wr := [(aS, .inr (9, [.ref aX, .ref aD, .ref aT, .ref aR, .ref aH, .ref aIM, .ref aW, .ref aC, .ref aK])), (aR, .inr (6, [.ref aT, .int R_in, .int R_streak, .int R_lot])), (aT, .inr (1, [.ref aT_slips, .ref aT_lates, .ref aT_copied, .int T_size, .int T_littleOnes]))]) (w1 := [(aH, .inr (2, [.ref aH_ins, .ref aH_streaks, .int y5.1])), (aH_ins, .inl (cI, 12, .inl y5.2.1)), (aH_streaks, .inl (cI, 12, .inl y5.2.2))]) hP hD [3, 4, 5] [0, 1, 2] rfl rfl (by decide) (by decide) hk1 hFc hP1 hD1
      generalize H1 = H at hP hS ⊢
      have hP : va_P D vwCl [(aS, .inr (9, [.ref aX, .ref aD, .ref aT, .ref aR, .ref aH, .ref aIM, .ref aW, .ref aC, .ref aK])), (aR, .inr (6, [.ref aT, .int R_in, .int R_streak, .int R_lot])), (aT, .inr (1, [.ref aT_slips, .ref aT_lates, .ref aT_copied, .int T_size, .int T_littleOnes])), (aH, .inr (2, [.ref aH_ins, .ref aH_streaks, .int y5.1])), (aH_ins, .inl (cI, 12, .inl y5.2.1)), (aH_streaks, .inl (cI, 12, .inl y5.2.2))] H := hP.sub [0, 1, 2, 3, 4, 5] rfl
      have hD : va_D A [(aS, .inr (9, [.ref aX, .ref aD, .ref aT, .ref aR, .ref aH, .ref aIM, .ref aW, .ref aC, .ref aK])), (aR, .inr (6, [.ref aT, .int R_in, .int R_streak, .int R_lot])), (aT, .inr (1, [.ref aT_slips, .ref aT_lates, .ref aT_copied, .int T_size, .int T_littleOnes])), (aH, .inr (2, [.ref aH_ins, .ref aH_streaks, .int y5.1])), (aH_ins, .inl (cI, 12, .inl y5.2.1)), (aH_streaks, .inl (cI, 12, .inl y5.2.2))] := hD.sub [0, 1, 2, 3, 4, 5] (by decide) rfl
      refine lv_aload_n hx hb dX9_comesBack_48 rfl (lv_at hl 0 rfl) ?_
      refine va_get (D := D) (ci := 9) (v := .ref aR) (C := RX9) (T := TX9) (N := 9) hx hb hts inX9 hown hK hP 0 rfl rfl 3 (by decide) fl_37 (fun _ h9 => h9) rfl dX9_comesBack_49 ?_
      refine lv_iload_n hx hb dX9_comesBack_52 rfl (lv_at hl 1 rfl) ?_
      obtain ⟨y6, qy6, h⟩ := ob_some h
      have hPc : va_P D vwCl [(aR, .inr (6, [.ref aT, .int R_in, .int R_streak, .int R_lot]))] H := hP.sub [1] rfl
      have hDc : va_D A [(aR, .inr (6, [.ref aT, .int R_in, .int R_streak, .int R_lot]))] := hD.sub [1] (by decide) rfl
      have hFc := va_free (wc := [(aR, .inr (6, [.ref aT, .int R_in, .int R_streak, .int R_lot]))]) hD hS hA [1] rfl
      refine va_callv (va_runV (As := [.int p1]) (rest := []) ⟨hx, hb, hml, hown, hts⟩ (c_X6_letIn l D cI cJ cZ cO aR aT R_in R_streak R_lot H.size p1 y6 qy6) (cwV 1 hts gX9_comesBack_X6_letIn rfl rfl rfl (by decide +kernel) ⟨Nat.le_of_ble_eq_true rfl, Nat.le_of_ble_eq_true rfl⟩) ⟨fb_i, va_recv hK hP (ci := 6) (q0 := 1) rfl rfl, fun U hU hW => ⟨rfl, by rw [hU], by rw [hU]; exact hPc, KK.warm hW hKK, hDc.weaken (fun _ _ _ _ => trivial)⟩⟩ rfl rfl hl.1 rfl (lv_room (Nat.le_of_ble_eq_true rfl)) dX9_comesBack_53 ⟨Nat.le_of_ble_eq_true rfl, Nat.le_of_ble_eq_true rfl⟩) hS (fun q _ h => hFc q h) hFc (fun u t H1 locs ht hvm hw hB hz1 hk1 hS => ?_)
      obtain ⟨hP1, hD1⟩ := hB
      rw [ht] at hP1
      obtain ⟨hP, hD⟩ := va_join (wr := [(aS, .inr (9, [.ref aX, .ref aD, .ref aT, .ref aR, .ref aH, .ref aIM, .ref aW, .ref aC, .ref aK])), (aT, .inr (1, [.ref aT_slips, .ref aT_lates, .ref aT_copied, .int T_size, .int T_littleOnes])), (aH, .inr (2, [.ref aH_ins, .ref aH_streaks, .int y5.1])), (aH_ins, .inl (cI, 12, .inl y5.2.1)), (aH_streaks, .inl (cI, 12, .inl y5.2.2))]) (w1 := [(aR, .inr (6, [.ref aT, .int y6, .int R_streak, .int R_lot]))]) hP hD [1] [0, 2, 3, 4, 5] rfl rfl (by decide) (by decide) hk1 hFc hP1 hD1
      generalize H1 = H at hP hS ⊢
      have hP : va_P D vwCl [(aS, .inr (9, [.ref aX, .ref aD, .ref aT, .ref aR, .ref aH, .ref aIM, .ref aW, .ref aC, .ref aK])), (aR, .inr (6, [.ref aT, .int y6, .int R_streak, .int R_lot])), (aT, .inr (1, [.ref aT_slips, .ref aT_lates, .ref aT_copied, .int T_size, .int T_littleOnes])), (aH, .inr (2, [.ref aH_ins, .ref aH_streaks, .int y5.1])), (aH_ins, .inl (cI, 12, .inl y5.2.1)), (aH_streaks, .inl (cI, 12, .inl y5.2.2))] H := hP.sub [0, 5, 1, 2, 3, 4] rfl
      have hD : va_D A [(aS, .inr (9, [.ref aX, .ref aD, .ref aT, .ref aR, .ref aH, .ref aIM, .ref aW, .ref aC, .ref aK])), (aR, .inr (6, [.ref aT, .int y6, .int R_streak, .int R_lot])), (aT, .inr (1, [.ref aT_slips, .ref aT_lates, .ref aT_copied, .int T_size, .int T_littleOnes])), (aH, .inr (2, [.ref aH_ins, .ref aH_streaks, .int y5.1])), (aH_ins, .inl (cI, 12, .inl y5.2.1)), (aH_streaks, .inl (cI, 12, .inl y5.2.2))] := hD.sub [0, 5, 1, 2, 3, 4] (by decide) rfl
      refine lv_aload_n hx hb dX9_comesBack_56 rfl (lv_at hl 0 rfl) ?_
      refine va_get (D := D) (ci := 9) (v := .ref aR) (C := RX9) (T := TX9) (N := 9) hx hb hts inX9 hown hK hP 0 rfl rfl 3 (by decide) fl_37 (fun _ h9 => h9) rfl dX9_comesBack_57 ?_
      have hPc : va_P D vwCl [(aR, .inr (6, [.ref aT, .int y6, .int R_streak, .int R_lot]))] H := hP.sub [1] rfl
      refine vp_callSi (va_Run.run (va_runV (As := []) (rest := []) ⟨hx, hb, hml, hown, hts⟩ (c_X6_howManyIn l D cI cJ cZ cO aR aT y6 R_streak R_lot _ rfl) (cwV 0 hts gX9_comesBack_X6_howManyIn rfl rfl rfl (by decide +kernel) ⟨Nat.le_of_ble_eq_true rfl, Nat.le_of_ble_eq_true rfl⟩) ⟨fb_p, va_recv hK hP (ci := 6) (q0 := 1) rfl rfl, fun U hU hW => ⟨rfl, by rw [hU]; exact hPc, KK.warm hW hKK⟩⟩ rfl rfl hl.1 rfl (lv_room (Nat.le_of_ble_eq_true rfl)) dX9_comesBack_60 ⟨Nat.le_of_ble_eq_true rfl, Nat.le_of_ble_eq_true rfl⟩)) (fun r hr => ?_)
      replace hr := hr.symm
      subst hr
      have hy := Option.some.inj h
      subst hy
      exact W.iret (v := (f_X6_howManyIn y6)) hx hb hr (fun t ht hW => ⟨⟨(f_X6_howManyIn y6), (), rfl, rfl, by rw [ht]; exact hP, hD⟩, hS.F ht⟩) hS.2.2 dX9_comesBack_63
    · replace h := if_n c_4 h
      refine lv_bipush (v := (-2 : Int32)) hx hb dX9_comesBack_24 (by decide) ?_
      have hy := Option.some.inj h
      subst hy
      exact W.iret (v := (-2 : Int32)) hx hb hr (fun t ht hW => ⟨⟨(-2 : Int32), (), rfl, rfl, by rw [ht]; exact hP, hD⟩, hS.F ht⟩) hS.2.2 dX9_comesBack_26
  · replace h := if_p c_2 h
    refine lv_iconst (v := (-1 : Int32)) hx hb dX9_comesBack_11 (by decide) ?_
    have hy := Option.some.inj h
    subst hy
    exact W.iret (v := (-1 : Int32)) hx hb hr (fun t ht hW => ⟨⟨(-1 : Int32), (), rfl, rfl, by rw [ht]; exact hP, hD⟩, hS.F ht⟩) hS.2.2 dX9_comesBack_12

def f_X9_undo (R_in : Int32) (R_streak : Int32) (H_size : Int32) (H_ins : Nat → Int32) (H_streaks : Nat → Int32) : Option (Int32 × Int32 × Int32 × Int32) := (if (f_X2_size H_size) = 0 then some ((-2 : Int32), R_in, R_streak, H_size) else (Option.bind (f_X2_dropLatest H_size) (fun y2 => (Option.bind (f_X2_droppedIn y2 H_ins) (fun y3 => (Option.bind (f_X2_droppedStreak y2 H_streaks) (fun y4 => (Option.bind (f_X6_become R_in R_streak y3 y4) (fun y5 => some ((f_X2_size y2), y5.1, y5.2, y2))))))))))
set_option maxHeartbeats 8000000 in
set_option maxRecDepth 100000 in
theorem c_X9_undo (l : Launch) (D : va_G) (cI cJ cZ cO : ClassId) (aS : Nat) (aR : Nat) (aH : Nat) (aH_ins : Nat) (aH_streaks : Nat) (aX : Nat) (aD : Nat) (aT : Nat) (aIM : Nat) (aW : Nat) (aC : Nat) (aK : Nat) (R_in : Int32) (R_streak : Int32) (R_lot : Int32) (H_size : Int32) (H_ins : Nat → Int32) (H_streaks : Nat → Int32) (sz : Nat)   (y0 : Int32 × Int32 × Int32 × Int32) (h : f_X9_undo R_in R_streak H_size H_ins H_streaks = some y0) : Met l yX9_undo wsX9_undo ({ frames := 1, cells := 0, slots := 0, locals := 22 } : Room) (va_Pc [.ref aS] (fun U => U.heap.size = sz ∧ va_P D vwCl [(aS, .inr (9, [.ref aX, .ref aD, .ref aT, .ref aR, .ref aH, .ref aIM, .ref aW, .ref aC, .ref aK])), (aR, .inr (6, [.ref aT, .int R_in, .int R_streak, .int R_lot])), (aH, .inr (2, [.ref aH_ins, .ref aH_streaks, .int H_size])), (aH_ins, .inl (cI, 12, .inl H_ins)), (aH_streaks, .inl (cI, 12, .inl H_streaks))] U.heap ∧ KK D cI cJ cZ cO U ∧ va_D (fun _ => True) [(aS, .inr (9, [.ref aX, .ref aD, .ref aT, .ref aR, .ref aH, .ref aIM, .ref aW, .ref aC, .ref aK])), (aR, .inr (6, [.ref aT, .int R_in, .int R_streak, .int R_lot])), (aH, .inr (2, [.ref aH_ins, .ref aH_streaks, .int H_size])), (aH_ins, .inl (cI, 12, .inl H_ins)), (aH_streaks, .inl (cI, 12, .inl H_streaks))])) (va_Qi (fun (r : Int32) (_ : Unit) => r = y0.1) (fun (_ : Unit) t => va_P D vwCl [(aS, .inr (9, [.ref aX, .ref aD, .ref aT, .ref aR, .ref aH, .ref aIM, .ref aW, .ref aC, .ref aK])), (aR, .inr (6, [.ref aT, .int y0.2.1, .int y0.2.2.1, .int R_lot])), (aH, .inr (2, [.ref aH_ins, .ref aH_streaks, .int y0.2.2.2])), (aH_ins, .inl (cI, 12, .inl H_ins)), (aH_streaks, .inl (cI, 12, .inl H_streaks))] t.heap ∧ va_D (va_A [(aS, .inr (9, [.ref aX, .ref aD, .ref aT, .ref aR, .ref aH, .ref aIM, .ref aW, .ref aC, .ref aK])), (aR, .inr (6, [.ref aT, .int R_in, .int R_streak, .int R_lot])), (aH, .inr (2, [.ref aH_ins, .ref aH_streaks, .int H_size])), (aH_ins, .inl (cI, 12, .inl H_ins)), (aH_streaks, .inl (cI, 12, .inl H_streaks))] sz) [(aS, .inr (9, [.ref aX, .ref aD, .ref aT, .ref aR, .ref aH, .ref aIM, .ref aW, .ref aC, .ref aK])), (aR, .inr (6, [.ref aT, .int y0.2.1, .int y0.2.2.1, .int R_lot])), (aH, .inr (2, [.ref aH_ins, .ref aH_streaks, .int y0.2.2.2])), (aH_ins, .inl (cI, 12, .inl H_ins)), (aH_streaks, .inl (cI, 12, .inl H_streaks))]) (va_A [(aS, .inr (9, [.ref aX, .ref aD, .ref aT, .ref aR, .ref aH, .ref aIM, .ref aW, .ref aC, .ref aK])), (aR, .inr (6, [.ref aT, .int R_in, .int R_streak, .int R_lot])), (aH, .inr (2, [.ref aH_ins, .ref aH_streaks, .int H_size])), (aH_ins, .inl (cI, 12, .inl H_ins)), (aH_streaks, .inl (cI, 12, .inl H_streaks))] sz)) 0 0 (va_A [(aS, .inr (9, [.ref aX, .ref aD, .ref aT, .ref aR, .ref aH, .ref aIM, .ref aW, .ref aC, .ref aK])), (aR, .inr (6, [.ref aT, .int R_in, .int R_streak, .int R_lot])), (aH, .inr (2, [.ref aH_ins, .ref aH_streaks, .int H_size])), (aH_ins, .inl (cI, 12, .inl H_ins)), (aH_streaks, .inl (cI, 12, .inl H_streaks))] sz) := by
  refine Met.ofW (cc := cX9_undo) (maxL := 1) (ret := (some .int)) (by decide) rfl ?_
  intro p e s m args below meth c s₁ B hml hv
  obtain ⟨rfl, hsz, hP, hKK, hD0⟩ := hv
  have hx := B.exec
  have hb := B.bytes
  have hr := B.returns
  have hts := atoms_spec (ws := wsX9_undo) B.pre
  have hown : s.vm.findClass RX9 = some m.cls := findClass_of_methodNamed B.named
  have hlocks := B.notSynchronized
  have hK := hKK.1
  have fl_37 := hts (.fieldLink RX9 37 "SimonSays" "round" "LSimonSays$Round;") (by decide +kernel)
  have fl_44 := hts (.fieldLink RX9 44 "SimonSays" "history" "LSimonSays$History;") (by decide +kernel)
  have inX9 : ∀ w ∈ wsX90, w ∈ wsX9_undo := by decide +kernel
  subst hsz
  have hD := hD0.self (sz := s.heap.size)
  generalize hAe : va_A [(aS, .inr (9, [.ref aX, .ref aD, .ref aT, .ref aR, .ref aH, .ref aIM, .ref aW, .ref aC, .ref aK])), (aR, .inr (6, [.ref aT, .int R_in, .int R_streak, .int R_lot])), (aH, .inr (2, [.ref aH_ins, .ref aH_streaks, .int H_size])), (aH_ins, .inl (cI, 12, .inl H_ins)), (aH_streaks, .inl (cI, 12, .inl H_streaks))] s.heap.size = A at hD ⊢
  have hA : ∀ q : Nat, s.heap.size ≤ q → A q := fun q h => by rw [← hAe]; exact Or.inr h
  have hS : va_S A s.heap s.heap [] := va_S.rf
  have hl := lv_entry ([.ref aS]) (n := 1) (Nat.le_of_ble_eq_true rfl)
  rw [lg_entry_eq]
  generalize (lg_sl ([.ref aS]) ++ List.replicate (1 - (lg_sl ([.ref aS])).length) Slot.unset).toArray = ls at hl ⊢
  have hl : lv_has ls 1 [(0, .ref aS)] := hl
  unfold f_X9_undo at h
  refine lv_aload_n hx hb dX9_undo_0 rfl (lv_at hl 0 rfl) ?_
  refine va_get (D := D) (ci := 9) (v := .ref aH) (C := RX9) (T := TX9) (N := 9) hx hb hts inX9 hown hK hP 0 rfl rfl 4 (by decide) fl_44 (fun _ h9 => h9) rfl dX9_undo_1 ?_
  have hPc : va_P D vwCl [(aH, .inr (2, [.ref aH_ins, .ref aH_streaks, .int H_size]))] s.heap := hP.sub [2] rfl
  refine vp_callSi (va_Run.run (va_runV (As := []) (rest := []) ⟨hx, hb, hml, hown, hts⟩ (c_X2_size l D cI cJ cZ cO aH aH_ins aH_streaks H_size _ rfl) (cwV 0 hts gX9_undo_X2_size rfl rfl rfl (by decide +kernel) ⟨Nat.le_of_ble_eq_true rfl, Nat.le_of_ble_eq_true rfl⟩) ⟨fb_p, va_recv hK hP (ci := 2) (q0 := 2) rfl rfl, fun U hU hW => ⟨rfl, by rw [hU]; exact hPc, KK.warm hW hKK⟩⟩ rfl rfl hl.1 rfl (lv_room (Nat.le_of_ble_eq_true rfl)) dX9_undo_4 ⟨Nat.le_of_ble_eq_true rfl, Nat.le_of_ble_eq_true rfl⟩)) (fun r hr => ?_)
  replace hr := hr.symm
  subst hr
  refine lv_if_ne (tgt := 13) hx hb dX9_undo_7 (by decide) (fun c_1 => ?_) (fun c_1 => ?_)
  · replace h := if_n c_1 h
    refine lv_aload_n hx hb dX9_undo_13 rfl (lv_at hl 0 rfl) ?_
    refine va_get (D := D) (ci := 9) (v := .ref aH) (C := RX9) (T := TX9) (N := 9) hx hb hts inX9 hown hK hP 0 rfl rfl 4 (by decide) fl_44 (fun _ h9 => h9) rfl dX9_undo_14 ?_
    obtain ⟨y2, qy2, h⟩ := ob_some h
    have hPc : va_P D vwCl [(aH, .inr (2, [.ref aH_ins, .ref aH_streaks, .int H_size]))] s.heap := hP.sub [2] rfl
    have hDc : va_D A [(aH, .inr (2, [.ref aH_ins, .ref aH_streaks, .int H_size]))] := hD.sub [2] (by decide) rfl
    have hFc := va_free (wc := [(aH, .inr (2, [.ref aH_ins, .ref aH_streaks, .int H_size]))]) hD hS hA [2] rfl
    refine va_callv (va_runV (As := []) (rest := []) ⟨hx, hb, hml, hown, hts⟩ (c_X2_dropLatest l D cI cJ cZ cO aH aH_ins aH_streaks H_size s.heap.size y2 qy2) (cwV 0 hts gX9_undo_X2_dropLatest rfl rfl rfl (by decide +kernel) ⟨Nat.le_of_ble_eq_true rfl, Nat.le_of_ble_eq_true rfl⟩) ⟨fb_i, va_recv hK hP (ci := 2) (q0 := 2) rfl rfl, fun U hU hW => ⟨rfl, by rw [hU], by rw [hU]; exact hPc, KK.warm hW hKK, hDc.weaken (fun _ _ _ _ => trivial)⟩⟩ rfl rfl hl.1 rfl (lv_room (Nat.le_of_ble_eq_true rfl)) dX9_undo_17 ⟨Nat.le_of_ble_eq_true rfl, Nat.le_of_ble_eq_true rfl⟩) hS (fun q _ h => hFc q h) hFc (fun u t H1 locs ht hvm hw hB hz1 hk1 hS => ?_)
    obtain ⟨hP1, hD1⟩ := hB
    rw [ht] at hP1
    obtain ⟨hP, hD⟩ := va_join (wr := [(aS, .inr (9, [.ref aX, .ref aD, .ref aT, .ref aR, .ref aH, .ref aIM, .ref aW, .ref aC, .ref aK])), (aR, .inr (6, [.ref aT, .int R_in, .int R_streak, .int R_lot])), (aH_ins, .inl (cI, 12, .inl H_ins)), (aH_streaks, .inl (cI, 12, .inl H_streaks))]) (w1 := [(aH, .inr (2, [.ref aH_ins, .ref aH_streaks, .int y2]))]) hP hD [2] [0, 1, 3, 4] rfl rfl (by decide) (by decide) hk1 hFc hP1 hD1
    generalize H1 = H at hP hS ⊢
    have hP : va_P D vwCl [(aS, .inr (9, [.ref aX, .ref aD, .ref aT, .ref aR, .ref aH, .ref aIM, .ref aW, .ref aC, .ref aK])), (aR, .inr (6, [.ref aT, .int R_in, .int R_streak, .int R_lot])), (aH, .inr (2, [.ref aH_ins, .ref aH_streaks, .int y2])), (aH_ins, .inl (cI, 12, .inl H_ins)), (aH_streaks, .inl (cI, 12, .inl H_streaks))] H := hP.sub [0, 1, 4, 2, 3] rfl
    have hD : va_D A [(aS, .inr (9, [.ref aX, .ref aD, .ref aT, .ref aR, .ref aH, .ref aIM, .ref aW, .ref aC, .ref aK])), (aR, .inr (6, [.ref aT, .int R_in, .int R_streak, .int R_lot])), (aH, .inr (2, [.ref aH_ins, .ref aH_streaks, .int y2])), (aH_ins, .inl (cI, 12, .inl H_ins)), (aH_streaks, .inl (cI, 12, .inl H_streaks))] := hD.sub [0, 1, 4, 2, 3] (by decide) rfl
    refine lv_aload_n hx hb dX9_undo_20 rfl (lv_at hl 0 rfl) ?_
    refine va_get (D := D) (ci := 9) (v := .ref aR) (C := RX9) (T := TX9) (N := 9) hx hb hts inX9 hown hK hP 0 rfl rfl 3 (by decide) fl_37 (fun _ h9 => h9) rfl dX9_undo_21 ?_
    refine lv_aload_n hx hb dX9_undo_24 rfl (lv_at hl 0 rfl) ?_
    refine va_get (D := D) (ci := 9) (v := .ref aH) (C := RX9) (T := TX9) (N := 9) hx hb hts inX9 hown hK hP 0 rfl rfl 4 (by decide) fl_44 (fun _ h9 => h9) rfl dX9_undo_25 ?_
    obtain ⟨y3, qy3, h⟩ := ob_some h
    have hPc : va_P D vwCl [(aH, .inr (2, [.ref aH_ins, .ref aH_streaks, .int y2])), (aH_ins, .inl (cI, 12, .inl H_ins))] H := hP.sub [2, 3] rfl
    refine vp_callSi (va_Run.run (va_runV (As := []) (rest := [.ref aR]) ⟨hx, hb, hml, hown, hts⟩ (c_X2_droppedIn l D cI cJ cZ cO aH aH_ins aH_streaks y2 H_ins y3 qy3) (cwV 0 hts gX9_undo_X2_droppedIn rfl rfl rfl (by decide +kernel) ⟨Nat.le_of_ble_eq_true rfl, Nat.le_of_ble_eq_true rfl⟩) ⟨fb_p, va_recv hK hP (ci := 2) (q0 := 2) rfl rfl, fun U hU hW => ⟨rfl, by rw [hU]; exact hPc, KK.warm hW hKK⟩⟩ rfl rfl hl.1 rfl (lv_room (Nat.le_of_ble_eq_true rfl)) dX9_undo_28 ⟨Nat.le_of_ble_eq_true rfl, Nat.le_of_ble_eq_true rfl⟩)) (fun r hr => ?_)
    replace hr := hr.symm
    subst hr
    refine lv_aload_n hx hb dX9_undo_31 rfl (lv_at hl 0 rfl) ?_
    refine va_get (D := D) (ci := 9) (v := .ref aH) (C := RX9) (T := TX9) (N := 9) hx hb hts inX9 hown hK hP 0 rfl rfl 4 (by decide) fl_44 (fun _ h9 => h9) rfl dX9_undo_32 ?_
    obtain ⟨y4, qy4, h⟩ := ob_some h
    have hPc : va_P D vwCl [(aH, .inr (2, [.ref aH_ins, .ref aH_streaks, .int y2])), (aH_streaks, .inl (cI, 12, .inl H_streaks))] H := hP.sub [2, 4] rfl
    refine vp_callSi (va_Run.run (va_runV (As := []) (rest := [.int y3, .ref aR]) ⟨hx, hb, hml, hown, hts⟩ (c_X2_droppedStreak l D cI cJ cZ cO aH aH_streaks aH_ins y2 H_streaks y4 qy4) (cwV 0 hts gX9_undo_X2_droppedStreak rfl rfl rfl (by decide +kernel) ⟨Nat.le_of_ble_eq_true rfl, Nat.le_of_ble_eq_true rfl⟩) ⟨fb_p, va_recv hK hP (ci := 2) (q0 := 2) rfl rfl, fun U hU hW => ⟨rfl, by rw [hU]; exact hPc, KK.warm hW hKK⟩⟩ rfl rfl hl.1 rfl (lv_room (Nat.le_of_ble_eq_true rfl)) dX9_undo_35 ⟨Nat.le_of_ble_eq_true rfl, Nat.le_of_ble_eq_true rfl⟩)) (fun r hr => ?_)
    replace hr := hr.symm
    subst hr
    obtain ⟨y5, qy5, h⟩ := ob_some h
    have hPc : va_P D vwCl [(aR, .inr (6, [.ref aT, .int R_in, .int R_streak, .int R_lot]))] H := hP.sub [1] rfl
    have hDc : va_D A [(aR, .inr (6, [.ref aT, .int R_in, .int R_streak, .int R_lot]))] := hD.sub [1] (by decide) rfl
    have hFc := va_free (wc := [(aR, .inr (6, [.ref aT, .int R_in, .int R_streak, .int R_lot]))]) hD hS hA [1] rfl
    refine va_callv (va_runV (As := [.int y3, .int y4]) (rest := []) ⟨hx, hb, hml, hown, hts⟩ (c_X6_become l D cI cJ cZ cO aR aT R_in R_streak R_lot H.size y3 y4 y5 qy5) (cwV 2 hts gX9_undo_X6_become rfl rfl rfl (by decide +kernel) ⟨Nat.le_of_ble_eq_true rfl, Nat.le_of_ble_eq_true rfl⟩) ⟨fb_i, va_recv hK hP (ci := 6) (q0 := 1) rfl rfl, fun U hU hW => ⟨rfl, by rw [hU], by rw [hU]; exact hPc, KK.warm hW hKK, hDc.weaken (fun _ _ _ _ => trivial)⟩⟩ rfl rfl hl.1 rfl (lv_room (Nat.le_of_ble_eq_true rfl)) dX9_undo_38 ⟨Nat.le_of_ble_eq_true rfl, Nat.le_of_ble_eq_true rfl⟩) hS (fun q _ h => hFc q h) hFc (fun u t H1 locs ht hvm hw hB hz1 hk1 hS => ?_)
    obtain ⟨hP1, hD1⟩ := hB
    rw [ht] at hP1
    obtain ⟨hP, hD⟩ := va_join (wr := [(aS, .inr (9, [.ref aX, .ref aD, .ref aT, .ref aR, .ref aH, .ref aIM, .ref aW, .ref aC, .ref aK])), (aH, .inr (2, [.ref aH_ins, .ref aH_streaks, .int y2])), (aH_ins, .inl (cI, 12, .inl H_ins)), (aH_streaks, .inl (cI, 12, .inl H_streaks))]) (w1 := [(aR, .inr (6, [.ref aT, .int y5.1, .int y5.2, .int R_lot]))]) hP hD [1] [0, 2, 3, 4] rfl rfl (by decide) (by decide) hk1 hFc hP1 hD1
    generalize H1 = H at hP hS ⊢
    have hP : va_P D vwCl [(aS, .inr (9, [.ref aX, .ref aD, .ref aT, .ref aR, .ref aH, .ref aIM, .ref aW, .ref aC, .ref aK])), (aR, .inr (6, [.ref aT, .int y5.1, .int y5.2, .int R_lot])), (aH, .inr (2, [.ref aH_ins, .ref aH_streaks, .int y2])), (aH_ins, .inl (cI, 12, .inl H_ins)), (aH_streaks, .inl (cI, 12, .inl H_streaks))] H := hP.sub [0, 4, 1, 2, 3] rfl
    have hD : va_D A [(aS, .inr (9, [.ref aX, .ref aD, .ref aT, .ref aR, .ref aH, .ref aIM, .ref aW, .ref aC, .ref aK])), (aR, .inr (6, [.ref aT, .int y5.1, .int y5.2, .int R_lot])), (aH, .inr (2, [.ref aH_ins, .ref aH_streaks, .int y2])), (aH_ins, .inl (cI, 12, .inl H_ins)), (aH_streaks, .inl (cI, 12, .inl H_streaks))] := hD.sub [0, 4, 1, 2, 3] (by decide) rfl
    refine lv_aload_n hx hb dX9_undo_41 rfl (lv_at hl 0 rfl) ?_
    refine va_get (D := D) (ci := 9) (v := .ref aH) (C := RX9) (T := TX9) (N := 9) hx hb hts inX9 hown hK hP 0 rfl rfl 4 (by decide) fl_44 (fun _ h9 => h9) rfl dX9_undo_42 ?_
    have hPc : va_P D vwCl [(aH, .inr (2, [.ref aH_ins, .ref aH_streaks, .int y2]))] H := hP.sub [2] rfl
    refine vp_callSi (va_Run.run (va_runV (As := []) (rest := []) ⟨hx, hb, hml, hown, hts⟩ (c_X2_size l D cI cJ cZ cO aH aH_ins aH_streaks y2 _ rfl) (cwV 0 hts gX9_undo_X2_size rfl rfl rfl (by decide +kernel) ⟨Nat.le_of_ble_eq_true rfl, Nat.le_of_ble_eq_true rfl⟩) ⟨fb_p, va_recv hK hP (ci := 2) (q0 := 2) rfl rfl, fun U hU hW => ⟨rfl, by rw [hU]; exact hPc, KK.warm hW hKK⟩⟩ rfl rfl hl.1 rfl (lv_room (Nat.le_of_ble_eq_true rfl)) dX9_undo_45 ⟨Nat.le_of_ble_eq_true rfl, Nat.le_of_ble_eq_true rfl⟩)) (fun r hr => ?_)
    replace hr := hr.symm
    subst hr
    have hy := Option.some.inj h
    subst hy
    exact W.iret (v := (f_X2_size y2)) hx hb hr (fun t ht hW => ⟨⟨(f_X2_size y2), (), rfl, rfl, by rw [ht]; exact hP, hD⟩, hS.F ht⟩) hS.2.2 dX9_undo_48
  · replace h := if_p c_1 h
    refine lv_bipush (v := (-2 : Int32)) hx hb dX9_undo_10 (by decide) ?_
    have hy := Option.some.inj h
    subst hy
    exact W.iret (v := (-2 : Int32)) hx hb hr (fun t ht hW => ⟨⟨(-2 : Int32), (), rfl, rfl, by rw [ht]; exact hP, hD⟩, hS.F ht⟩) hS.2.2 dX9_undo_12

def f_X9_lot (R_lot : Int32) (p1 : Int32) : Option (Int32 × Int32) := (Option.bind (f_X6_setLot R_lot p1) (fun y1 => some ((f_X6_theLot R_lot), y1)))
set_option maxHeartbeats 8000000 in
set_option maxRecDepth 100000 in
theorem c_X9_lot (l : Launch) (D : va_G) (cI cJ cZ cO : ClassId) (aS : Nat) (aR : Nat) (aX : Nat) (aD : Nat) (aT : Nat) (aH : Nat) (aIM : Nat) (aW : Nat) (aC : Nat) (aK : Nat) (R_in : Int32) (R_streak : Int32) (R_lot : Int32) (sz : Nat) (p1 : Int32)  (y0 : Int32 × Int32) (h : f_X9_lot R_lot p1 = some y0) : Met l yX9_lot wsX9_lot ({ frames := 1, cells := 0, slots := 0, locals := 21 } : Room) (va_Pc [.ref aS, .int p1] (fun U => U.heap.size = sz ∧ va_P D vwCl [(aS, .inr (9, [.ref aX, .ref aD, .ref aT, .ref aR, .ref aH, .ref aIM, .ref aW, .ref aC, .ref aK])), (aR, .inr (6, [.ref aT, .int R_in, .int R_streak, .int R_lot]))] U.heap ∧ KK D cI cJ cZ cO U ∧ va_D (fun _ => True) [(aS, .inr (9, [.ref aX, .ref aD, .ref aT, .ref aR, .ref aH, .ref aIM, .ref aW, .ref aC, .ref aK])), (aR, .inr (6, [.ref aT, .int R_in, .int R_streak, .int R_lot]))])) (va_Qi (fun (r : Int32) (_ : Unit) => r = y0.1) (fun (_ : Unit) t => va_P D vwCl [(aS, .inr (9, [.ref aX, .ref aD, .ref aT, .ref aR, .ref aH, .ref aIM, .ref aW, .ref aC, .ref aK])), (aR, .inr (6, [.ref aT, .int R_in, .int R_streak, .int y0.2]))] t.heap ∧ va_D (va_A [(aS, .inr (9, [.ref aX, .ref aD, .ref aT, .ref aR, .ref aH, .ref aIM, .ref aW, .ref aC, .ref aK])), (aR, .inr (6, [.ref aT, .int R_in, .int R_streak, .int R_lot]))] sz) [(aS, .inr (9, [.ref aX, .ref aD, .ref aT, .ref aR, .ref aH, .ref aIM, .ref aW, .ref aC, .ref aK])), (aR, .inr (6, [.ref aT, .int R_in, .int R_streak, .int y0.2]))]) (va_A [(aS, .inr (9, [.ref aX, .ref aD, .ref aT, .ref aR, .ref aH, .ref aIM, .ref aW, .ref aC, .ref aK])), (aR, .inr (6, [.ref aT, .int R_in, .int R_streak, .int R_lot]))] sz)) 0 0 (va_A [(aS, .inr (9, [.ref aX, .ref aD, .ref aT, .ref aR, .ref aH, .ref aIM, .ref aW, .ref aC, .ref aK])), (aR, .inr (6, [.ref aT, .int R_in, .int R_streak, .int R_lot]))] sz) := by
  refine Met.ofW (cc := cX9_lot) (maxL := 3) (ret := (some .int)) (by decide) rfl ?_
  intro p e s m args below meth c s₁ B hml hv
  obtain ⟨rfl, hsz, hP, hKK, hD0⟩ := hv
  have hx := B.exec
  have hb := B.bytes
  have hr := B.returns
  have hts := atoms_spec (ws := wsX9_lot) B.pre
  have hown : s.vm.findClass RX9 = some m.cls := findClass_of_methodNamed B.named
  have hlocks := B.notSynchronized
  have hK := hKK.1
  have fl_37 := hts (.fieldLink RX9 37 "SimonSays" "round" "LSimonSays$Round;") (by decide +kernel)
  have inX9 : ∀ w ∈ wsX90, w ∈ wsX9_lot := by decide +kernel
  subst hsz
  have hD := hD0.self (sz := s.heap.size)
  generalize hAe : va_A [(aS, .inr (9, [.ref aX, .ref aD, .ref aT, .ref aR, .ref aH, .ref aIM, .ref aW, .ref aC, .ref aK])), (aR, .inr (6, [.ref aT, .int R_in, .int R_streak, .int R_lot]))] s.heap.size = A at hD ⊢
  have hA : ∀ q : Nat, s.heap.size ≤ q → A q := fun q h => by rw [← hAe]; exact Or.inr h
  have hS : va_S A s.heap s.heap [] := va_S.rf
  have hl := lv_entry ([.ref aS, .int p1]) (n := 3) (Nat.le_of_ble_eq_true rfl)
  rw [lg_entry_eq]
  generalize (lg_sl ([.ref aS, .int p1]) ++ List.replicate (3 - (lg_sl ([.ref aS, .int p1])).length) Slot.unset).toArray = ls at hl ⊢
  have hl : lv_has ls 3 [(0, .ref aS), (1, .int p1)] := hl
  unfold f_X9_lot at h
  refine lv_aload_n hx hb dX9_lot_0 rfl (lv_at hl 0 rfl) ?_
  refine va_get (D := D) (ci := 9) (v := .ref aR) (C := RX9) (T := TX9) (N := 9) hx hb hts inX9 hown hK hP 0 rfl rfl 3 (by decide) fl_37 (fun _ h9 => h9) rfl dX9_lot_1 ?_
  have hPc : va_P D vwCl [(aR, .inr (6, [.ref aT, .int R_in, .int R_streak, .int R_lot]))] s.heap := hP.sub [1] rfl
  refine vp_callSi (va_Run.run (va_runV (As := []) (rest := []) ⟨hx, hb, hml, hown, hts⟩ (c_X6_theLot l D cI cJ cZ cO aR aT R_in R_streak R_lot _ rfl) (cwV 0 hts gX9_lot_X6_theLot rfl rfl rfl (by decide +kernel) ⟨Nat.le_of_ble_eq_true rfl, Nat.le_of_ble_eq_true rfl⟩) ⟨fb_p, va_recv hK hP (ci := 6) (q0 := 1) rfl rfl, fun U hU hW => ⟨rfl, by rw [hU]; exact hPc, KK.warm hW hKK⟩⟩ rfl rfl hl.1 rfl (lv_room (Nat.le_of_ble_eq_true rfl)) dX9_lot_4 ⟨Nat.le_of_ble_eq_true rfl, Nat.le_of_ble_eq_true rfl⟩)) (fun r hr => ?_)
  replace hr := hr.symm
  subst hr
  refine lv_istore_n (lv' := [(2, .int (f_X6_theLot R_lot)), (0, .ref aS), (1, .int p1)]) hx hb dX9_lot_7 rfl hl (by decide) rfl (fun ls hl => ?_)
  refine lv_aload_n hx hb dX9_lot_8 rfl (lv_at hl 1 rfl) ?_
  refine va_get (D := D) (ci := 9) (v := .ref aR) (C := RX9) (T := TX9) (N := 9) hx hb hts inX9 hown hK hP 0 rfl rfl 3 (by decide) fl_37 (fun _ h9 => h9) rfl dX9_lot_9 ?_
  refine lv_iload_n hx hb dX9_lot_12 rfl (lv_at hl 2 rfl) ?_
  obtain ⟨y1, qy1, h⟩ := ob_some h
  have hPc : va_P D vwCl [(aR, .inr (6, [.ref aT, .int R_in, .int R_streak, .int R_lot]))] s.heap := hP.sub [1] rfl
  have hDc : va_D A [(aR, .inr (6, [.ref aT, .int R_in, .int R_streak, .int R_lot]))] := hD.sub [1] (by decide) rfl
  have hFc := va_free (wc := [(aR, .inr (6, [.ref aT, .int R_in, .int R_streak, .int R_lot]))]) hD hS hA [1] rfl
  refine va_callv (va_runV (As := [.int p1]) (rest := []) ⟨hx, hb, hml, hown, hts⟩ (c_X6_setLot l D cI cJ cZ cO aR aT R_in R_streak R_lot s.heap.size p1 y1 qy1) (cwV 1 hts gX9_lot_X6_setLot rfl rfl rfl (by decide +kernel) ⟨Nat.le_of_ble_eq_true rfl, Nat.le_of_ble_eq_true rfl⟩) ⟨fb_i, va_recv hK hP (ci := 6) (q0 := 1) rfl rfl, fun U hU hW => ⟨rfl, by rw [hU], by rw [hU]; exact hPc, KK.warm hW hKK, hDc.weaken (fun _ _ _ _ => trivial)⟩⟩ rfl rfl hl.1 rfl (lv_room (Nat.le_of_ble_eq_true rfl)) dX9_lot_13 ⟨Nat.le_of_ble_eq_true rfl, Nat.le_of_ble_eq_true rfl⟩) hS (fun q _ h => hFc q h) hFc (fun u t H1 locs ht hvm hw hB hz1 hk1 hS => ?_)
  obtain ⟨hP1, hD1⟩ := hB
  rw [ht] at hP1
  obtain ⟨hP, hD⟩ := va_join (wr := [(aS, .inr (9, [.ref aX, .ref aD, .ref aT, .ref aR, .ref aH, .ref aIM, .ref aW, .ref aC, .ref aK]))]) (w1 := [(aR, .inr (6, [.ref aT, .int R_in, .int R_streak, .int y1]))]) hP hD [1] [0] rfl rfl (by decide) (by decide) hk1 hFc hP1 hD1
  generalize H1 = H at hP hS ⊢
  have hP : va_P D vwCl [(aS, .inr (9, [.ref aX, .ref aD, .ref aT, .ref aR, .ref aH, .ref aIM, .ref aW, .ref aC, .ref aK])), (aR, .inr (6, [.ref aT, .int R_in, .int R_streak, .int y1]))] H := hP.sub [0, 1] rfl
  have hD : va_D A [(aS, .inr (9, [.ref aX, .ref aD, .ref aT, .ref aR, .ref aH, .ref aIM, .ref aW, .ref aC, .ref aK])), (aR, .inr (6, [.ref aT, .int R_in, .int R_streak, .int y1]))] := hD.sub [0, 1] (by decide) rfl
  refine lv_iload_n hx hb dX9_lot_16 rfl (lv_at hl 0 rfl) ?_
  have hy := Option.some.inj h
  subst hy
  exact W.iret (v := (f_X6_theLot R_lot)) hx hb hr (fun t ht hW => ⟨⟨(f_X6_theLot R_lot), (), rfl, rfl, by rw [ht]; exact hP, hD⟩, hS.F ht⟩) hS.2.2 dX9_lot_17

def f_X9_falls (R_in : Int32) (R_streak : Int32) (T_size : Int32) (T_slips : Nat → Int32) (T_lates : Nat → Int32) (T_copied : Nat → Int32) (p1 : Int32) (p2 : Int32) (p3 : Int32) : Option (Int64) := (if (f_X9_isOrder p1) = 0 then some (-1 : Int64) else (if (f_X1_isSet T_size p2) = 0 then some (-1 : Int64) else (if (f_X9_isHalf p3) = 0 then some (-1 : Int64) else (Option.bind (f_X0_setFalls R_in R_streak T_size T_slips T_lates T_copied p1 p2) (fun y7 => (Option.bind (f_X0_lower R_in T_size T_copied (1 : Int32)) (fun y8 => (Option.bind (f_X9_leastTerms y7 y8 p3) (fun y9 => some y9)))))))))
set_option maxHeartbeats 8000000 in
set_option maxRecDepth 100000 in
theorem c_X9_falls (l : Launch) (D : va_G) (cI cJ cZ cO : ClassId) (aS : Nat) (aR : Nat) (aT : Nat) (aT_slips : Nat) (aT_lates : Nat) (aT_copied : Nat) (aC : Nat) (aX : Nat) (aD : Nat) (aH : Nat) (aIM : Nat) (aW : Nat) (aK : Nat) (aC_byNumber : Nat) (R_in : Int32) (R_streak : Int32) (R_lot : Int32) (T_size : Int32) (T_littleOnes : Int32) (T_slips : Nat → Int32) (T_lates : Nat → Int32) (T_copied : Nat → Int32)  (p1 : Int32) (p2 : Int32) (p3 : Int32)  (y0 : Int64) (h : f_X9_falls R_in R_streak T_size T_slips T_lates T_copied p1 p2 p3 = some y0) : Met l yX9_falls wsX9_falls ({ frames := 5, cells := 0, slots := 0, locals := 116 } : Room) (va_Pc [.ref aS, .int p1, .int p2, .int p3] (fun U => va_P D vwCl [(aS, .inr (9, [.ref aX, .ref aD, .ref aT, .ref aR, .ref aH, .ref aIM, .ref aW, .ref aC, .ref aK])), (aR, .inr (6, [.ref aT, .int R_in, .int R_streak, .int R_lot])), (aT, .inr (1, [.ref aT_slips, .ref aT_lates, .ref aT_copied, .int T_size, .int T_littleOnes])), (aT_slips, .inl (cI, 6, .inl T_slips)), (aT_lates, .inl (cI, 6, .inl T_lates)), (aT_copied, .inl (cI, 6, .inl T_copied)), (aC, .inr (0, [.ref aT, .ref aR, .ref aW, .ref aC_byNumber]))] U.heap ∧ KK D cI cJ cZ cO U)) (vp_Sl (fun r => r = y0)) 0 0 (fun _ => False) := by
  refine Met.ofW (cc := cX9_falls) (maxL := 4) (ret := (some .long)) (by decide) rfl ?_
  intro p e s m args below meth c s₁ B hml hv
  obtain ⟨rfl, hP, hKK⟩ := hv
  have hx := B.exec
  have hb := B.bytes
  have hr := B.returns
  have hts := atoms_spec (ws := wsX9_falls) B.pre
  have hown : s.vm.findClass RX9 = some m.cls := findClass_of_methodNamed B.named
  have hlocks := B.notSynchronized
  have hK := hKK.1
  have fl_28 := hts (.fieldLink RX9 28 "SimonSays" "told" "LSimonSays$Children;") (by decide +kernel)
  have fl_67 := hts (.fieldLink RX9 67 "SimonSays" "chances" "LSimonSays$Chances;") (by decide +kernel)
  have cst_191 := hts (.constantLong RX9 191 (-1)) (by decide +kernel)
  have inX9 : ∀ w ∈ wsX90, w ∈ wsX9_falls := by decide +kernel
  have hl := lv_entry ([.ref aS, .int p1, .int p2, .int p3]) (n := 4) (Nat.le_of_ble_eq_true rfl)
  rw [lg_entry_eq]
  generalize (lg_sl ([.ref aS, .int p1, .int p2, .int p3]) ++ List.replicate (4 - (lg_sl ([.ref aS, .int p1, .int p2, .int p3])).length) Slot.unset).toArray = ls at hl ⊢
  have hl : lv_has ls 4 [(0, .ref aS), (1, .int p1), (2, .int p2), (3, .int p3)] := hl
  unfold f_X9_falls at h
  refine lv_iload_n hx hb dX9_falls_0 rfl (lv_at hl 1 rfl) ?_
  have hPc : va_P D vwCl [] s.heap := hP.sub [] rfl
  refine vp_callSi (va_Run.run (va_runS (As := [.int p1]) (rest := []) ⟨hx, hb, hml, hown, hts⟩ (c_X9_isOrder l D cI cJ cZ cO p1 _ rfl) (cwS 1 hts gX9_falls_X9_isOrder rfl rfl rfl (by decide +kernel) ⟨Nat.le_of_ble_eq_true rfl, Nat.le_of_ble_eq_true rfl⟩) ⟨fb_p, fun U hU hW => ⟨rfl, by rw [hU]; exact hPc, KK.warm hW hKK⟩⟩ rfl rfl hl.1 rfl (lv_room (Nat.le_of_ble_eq_true rfl)) dX9_falls_1 ⟨Nat.le_of_ble_eq_true rfl, Nat.le_of_ble_eq_true rfl⟩)) (fun r hr => ?_)
  obtain ⟨hr, hz1⟩ := hr
  replace hr := hr.symm
  subst hr
  refine lv_if_eq (tgt := 25) hx hb dX9_falls_4 (by decide) (fun c_2 => ?_) (fun c_2 => ?_)
  · replace h := if_p c_2 h
    refine lv_ldc2 (v := (-1 : Int64)) hx hb hown cst_191 dX9_falls_25 ?_
    exact pr_l hx hb hr hlocks dX9_falls_28 (Option.some.inj h)
  · replace h := if_n c_2 h
    refine lv_aload_n hx hb dX9_falls_7 rfl (lv_at hl 0 rfl) ?_
    refine va_get (D := D) (ci := 9) (v := .ref aT) (C := RX9) (T := TX9) (N := 9) hx hb hts inX9 hown hK hP 0 rfl rfl 2 (by decide) fl_28 (fun _ h9 => h9) rfl dX9_falls_8 ?_
    refine lv_iload_n hx hb dX9_falls_11 rfl (lv_at hl 2 rfl) ?_
    have hPc : va_P D vwCl [(aT, .inr (1, [.ref aT_slips, .ref aT_lates, .ref aT_copied, .int T_size, .int T_littleOnes]))] s.heap := hP.sub [2] rfl
    refine vp_callSi (va_Run.run (va_runV (As := [.int p2]) (rest := []) ⟨hx, hb, hml, hown, hts⟩ (c_X1_isSet l D cI cJ cZ cO aT aT_slips aT_lates aT_copied T_size T_littleOnes p2 _ rfl) (cwV 1 hts gX9_falls_X1_isSet rfl rfl rfl (by decide +kernel) ⟨Nat.le_of_ble_eq_true rfl, Nat.le_of_ble_eq_true rfl⟩) ⟨fb_p, va_recv hK hP (ci := 1) (q0 := 2) rfl rfl, fun U hU hW => ⟨rfl, by rw [hU]; exact hPc, KK.warm hW hKK⟩⟩ rfl rfl hl.1 rfl (lv_room (Nat.le_of_ble_eq_true rfl)) dX9_falls_12 ⟨Nat.le_of_ble_eq_true rfl, Nat.le_of_ble_eq_true rfl⟩)) (fun r hr => ?_)
    obtain ⟨hr, hz3⟩ := hr
    replace hr := hr.symm
    subst hr
    refine lv_if_eq (tgt := 25) hx hb dX9_falls_15 (by decide) (fun c_4 => ?_) (fun c_4 => ?_)
    · replace h := if_p c_4 h
      refine lv_ldc2 (v := (-1 : Int64)) hx hb hown cst_191 dX9_falls_25 ?_
      exact pr_l hx hb hr hlocks dX9_falls_28 (Option.some.inj h)
    · replace h := if_n c_4 h
      refine lv_iload_n hx hb dX9_falls_18 rfl (lv_at hl 3 rfl) ?_
      have hPc : va_P D vwCl [] s.heap := hP.sub [] rfl
      refine vp_callSi (va_Run.run (va_runS (As := [.int p3]) (rest := []) ⟨hx, hb, hml, hown, hts⟩ (c_X9_isHalf l D cI cJ cZ cO p3 _ rfl) (cwS 1 hts gX9_falls_X9_isHalf rfl rfl rfl (by decide +kernel) ⟨Nat.le_of_ble_eq_true rfl, Nat.le_of_ble_eq_true rfl⟩) ⟨fb_p, fun U hU hW => ⟨rfl, by rw [hU]; exact hPc, KK.warm hW hKK⟩⟩ rfl rfl hl.1 rfl (lv_room (Nat.le_of_ble_eq_true rfl)) dX9_falls_19 ⟨Nat.le_of_ble_eq_true rfl, Nat.le_of_ble_eq_true rfl⟩)) (fun r hr => ?_)
      obtain ⟨hr, hz5⟩ := hr
      replace hr := hr.symm
      subst hr
      refine lv_if_ne (tgt := 29) hx hb dX9_falls_22 (by decide) (fun c_6 => ?_) (fun c_6 => ?_)
      · replace h := if_n c_6 h
        refine lv_aload_n hx hb dX9_falls_29 rfl (lv_at hl 0 rfl) ?_
        refine va_get (D := D) (ci := 9) (v := .ref aC) (C := RX9) (T := TX9) (N := 9) hx hb hts inX9 hown hK hP 0 rfl rfl 7 (by decide) fl_67 (fun _ h9 => h9) rfl dX9_falls_30 ?_
        refine lv_iload_n hx hb dX9_falls_33 rfl (lv_at hl 1 rfl) ?_
        refine lv_iload_n hx hb dX9_falls_34 rfl (lv_at hl 2 rfl) ?_
        obtain ⟨y7, qy7, h⟩ := ob_some h
        have hPc : va_P D vwCl [(aR, .inr (6, [.ref aT, .int R_in, .int R_streak, .int R_lot])), (aT, .inr (1, [.ref aT_slips, .ref aT_lates, .ref aT_copied, .int T_size, .int T_littleOnes])), (aT_slips, .inl (cI, 6, .inl T_slips)), (aT_lates, .inl (cI, 6, .inl T_lates)), (aT_copied, .inl (cI, 6, .inl T_copied)), (aC, .inr (0, [.ref aT, .ref aR, .ref aW, .ref aC_byNumber]))] s.heap := hP.sub [1, 2, 3, 4, 5, 6] rfl
        refine vp_callSl (va_Run.run (va_runV (As := [.int p1, .int p2]) (rest := []) ⟨hx, hb, hml, hown, hts⟩ (c_X0_setFalls l D cI cJ cZ cO aR aT aT_slips aT_lates aT_copied aC aW aC_byNumber R_in R_streak R_lot T_size T_littleOnes T_slips T_lates T_copied p1 p2 y7 qy7) (cwV 2 hts gX9_falls_X0_setFalls rfl rfl rfl (by decide +kernel) ⟨Nat.le_of_ble_eq_true rfl, Nat.le_of_ble_eq_true rfl⟩) ⟨fb_p, va_recv hK hP (ci := 0) (q0 := 6) rfl rfl, fun U hU hW => ⟨rfl, by rw [hU]; exact hPc, KK.warm hW hKK⟩⟩ rfl rfl hl.1 rfl (lv_room (Nat.le_of_ble_eq_true rfl)) dX9_falls_35 ⟨Nat.le_of_ble_eq_true rfl, Nat.le_of_ble_eq_true rfl⟩)) (fun r hr => ?_)
        replace hr := hr.symm
        subst hr
        refine lv_aload_n hx hb dX9_falls_38 rfl (lv_at hl 0 rfl) ?_
        refine va_get (D := D) (ci := 9) (v := .ref aC) (C := RX9) (T := TX9) (N := 9) hx hb hts inX9 hown hK hP 0 rfl rfl 7 (by decide) fl_67 (fun _ h9 => h9) rfl dX9_falls_39 ?_
        refine lv_iconst (v := (1 : Int32)) hx hb dX9_falls_42 (by decide) ?_
        obtain ⟨y8, qy8, h⟩ := ob_some h
        have hPc : va_P D vwCl [(aR, .inr (6, [.ref aT, .int R_in, .int R_streak, .int R_lot])), (aT, .inr (1, [.ref aT_slips, .ref aT_lates, .ref aT_copied, .int T_size, .int T_littleOnes])), (aT_copied, .inl (cI, 6, .inl T_copied)), (aC, .inr (0, [.ref aT, .ref aR, .ref aW, .ref aC_byNumber]))] s.heap := hP.sub [1, 2, 5, 6] rfl
        refine vp_callSl (va_Run.run (va_runV (As := [.int (1 : Int32)]) (rest := [.long y7]) ⟨hx, hb, hml, hown, hts⟩ (c_X0_lower l D cI cJ cZ cO aR aT aT_copied aC aT_slips aT_lates aW aC_byNumber R_in R_streak R_lot T_size T_littleOnes T_copied (1 : Int32) y8 qy8) (cwV 1 hts gX9_falls_X0_lower rfl rfl rfl (by decide +kernel) ⟨Nat.le_of_ble_eq_true rfl, Nat.le_of_ble_eq_true rfl⟩) ⟨fb_p, va_recv hK hP (ci := 0) (q0 := 6) rfl rfl, fun U hU hW => ⟨rfl, by rw [hU]; exact hPc, KK.warm hW hKK⟩⟩ rfl rfl hl.1 rfl (lv_room (Nat.le_of_ble_eq_true rfl)) dX9_falls_43 ⟨Nat.le_of_ble_eq_true rfl, Nat.le_of_ble_eq_true rfl⟩)) (fun r hr => ?_)
        replace hr := hr.symm
        subst hr
        refine lv_iload_n hx hb dX9_falls_46 rfl (lv_at hl 3 rfl) ?_
        obtain ⟨y9, qy9, h⟩ := ob_some h
        have hPc : va_P D vwCl [] s.heap := hP.sub [] rfl
        refine vp_callSl (va_Run.run (va_runS (As := [.long y7, .long y8, .int p3]) (rest := []) ⟨hx, hb, hml, hown, hts⟩ (c_X9_leastTerms l D cI cJ cZ cO y7 y8 p3 y9 qy9) (cwS 3 hts gX9_falls_X9_leastTerms rfl rfl rfl (by decide +kernel) ⟨Nat.le_of_ble_eq_true rfl, Nat.le_of_ble_eq_true rfl⟩) ⟨fb_p, fun U hU hW => ⟨rfl, by rw [hU]; exact hPc, KK.warm hW hKK⟩⟩ rfl rfl hl.1 rfl (lv_room (Nat.le_of_ble_eq_true rfl)) dX9_falls_47 ⟨Nat.le_of_ble_eq_true rfl, Nat.le_of_ble_eq_true rfl⟩)) (fun r hr => ?_)
        replace hr := hr.symm
        subst hr
        exact pr_l hx hb hr hlocks dX9_falls_50 (Option.some.inj h)
      · replace h := if_p c_6 h
        refine lv_ldc2 (v := (-1 : Int64)) hx hb hown cst_191 dX9_falls_25 ?_
        exact pr_l hx hb hr hlocks dX9_falls_28 (Option.some.inj h)

def f_X9_many (R_in : Int32) (R_streak : Int32) (T_size : Int32) (T_slips : Nat → Int32) (T_lates : Nat → Int32) (T_copied : Nat → Int32) (C_byNumber : Nat → Int64) (p1 : Int32) (p2 : Int32) (p3 : Int32) : Option (Int64 × (Nat → Int64)) := (if (f_X9_isOrder p1) = 0 then some ((-1 : Int64), C_byNumber) else (if p2 < 0 then some ((-1 : Int64), C_byNumber) else (if (6 : Int32) < p2 then some ((-1 : Int64), C_byNumber) else (if (f_X9_isHalf p3) = 0 then some ((-1 : Int64), C_byNumber) else (Option.bind (f_X0_numberFalls R_in R_streak T_size T_slips T_lates T_copied C_byNumber p1 p2) (fun y7 => (Option.bind (f_X0_lower R_in T_size T_copied (1 : Int32)) (fun y8 => (Option.bind (f_X9_leastTerms y7.1 y8 p3) (fun y9 => some (y9, y7.2)))))))))))
set_option maxHeartbeats 8000000 in
set_option maxRecDepth 100000 in
theorem c_X9_many (l : Launch) (D : va_G) (cI cJ cZ cO : ClassId) (aS : Nat) (aR : Nat) (aT : Nat) (aT_slips : Nat) (aT_lates : Nat) (aT_copied : Nat) (aC : Nat) (aC_byNumber : Nat) (aX : Nat) (aD : Nat) (aH : Nat) (aIM : Nat) (aW : Nat) (aK : Nat) (R_in : Int32) (R_streak : Int32) (R_lot : Int32) (T_size : Int32) (T_littleOnes : Int32) (T_slips : Nat → Int32) (T_lates : Nat → Int32) (T_copied : Nat → Int32) (C_byNumber : Nat → Int64) (sz : Nat) (p1 : Int32) (p2 : Int32) (p3 : Int32)  (y0 : Int64 × (Nat → Int64)) (h : f_X9_many R_in R_streak T_size T_slips T_lates T_copied C_byNumber p1 p2 p3 = some y0) : Met l yX9_many wsX9_many ({ frames := 5, cells := 0, slots := 0, locals := 112 } : Room) (va_Pc [.ref aS, .int p1, .int p2, .int p3] (fun U => U.heap.size = sz ∧ va_P D vwCl [(aS, .inr (9, [.ref aX, .ref aD, .ref aT, .ref aR, .ref aH, .ref aIM, .ref aW, .ref aC, .ref aK])), (aR, .inr (6, [.ref aT, .int R_in, .int R_streak, .int R_lot])), (aT, .inr (1, [.ref aT_slips, .ref aT_lates, .ref aT_copied, .int T_size, .int T_littleOnes])), (aT_slips, .inl (cI, 6, .inl T_slips)), (aT_lates, .inl (cI, 6, .inl T_lates)), (aT_copied, .inl (cI, 6, .inl T_copied)), (aC, .inr (0, [.ref aT, .ref aR, .ref aW, .ref aC_byNumber])), (aC_byNumber, .inl (cJ, 7, .inr (.inl C_byNumber)))] U.heap ∧ KK D cI cJ cZ cO U ∧ va_D (fun _ => True) [(aS, .inr (9, [.ref aX, .ref aD, .ref aT, .ref aR, .ref aH, .ref aIM, .ref aW, .ref aC, .ref aK])), (aR, .inr (6, [.ref aT, .int R_in, .int R_streak, .int R_lot])), (aT, .inr (1, [.ref aT_slips, .ref aT_lates, .ref aT_copied, .int T_size, .int T_littleOnes])), (aT_slips, .inl (cI, 6, .inl T_slips)), (aT_lates, .inl (cI, 6, .inl T_lates)), (aT_copied, .inl (cI, 6, .inl T_copied)), (aC, .inr (0, [.ref aT, .ref aR, .ref aW, .ref aC_byNumber])), (aC_byNumber, .inl (cJ, 7, .inr (.inl C_byNumber)))])) (va_Ql (fun (r : Int64) (_ : Unit) => r = y0.1) (fun (_ : Unit) t => va_P D vwCl [(aS, .inr (9, [.ref aX, .ref aD, .ref aT, .ref aR, .ref aH, .ref aIM, .ref aW, .ref aC, .ref aK])), (aR, .inr (6, [.ref aT, .int R_in, .int R_streak, .int R_lot])), (aT, .inr (1, [.ref aT_slips, .ref aT_lates, .ref aT_copied, .int T_size, .int T_littleOnes])), (aT_slips, .inl (cI, 6, .inl T_slips)), (aT_lates, .inl (cI, 6, .inl T_lates)), (aT_copied, .inl (cI, 6, .inl T_copied)), (aC, .inr (0, [.ref aT, .ref aR, .ref aW, .ref aC_byNumber])), (aC_byNumber, .inl (cJ, 7, .inr (.inl y0.2)))] t.heap ∧ va_D (va_A [(aS, .inr (9, [.ref aX, .ref aD, .ref aT, .ref aR, .ref aH, .ref aIM, .ref aW, .ref aC, .ref aK])), (aR, .inr (6, [.ref aT, .int R_in, .int R_streak, .int R_lot])), (aT, .inr (1, [.ref aT_slips, .ref aT_lates, .ref aT_copied, .int T_size, .int T_littleOnes])), (aT_slips, .inl (cI, 6, .inl T_slips)), (aT_lates, .inl (cI, 6, .inl T_lates)), (aT_copied, .inl (cI, 6, .inl T_copied)), (aC, .inr (0, [.ref aT, .ref aR, .ref aW, .ref aC_byNumber])), (aC_byNumber, .inl (cJ, 7, .inr (.inl C_byNumber)))] sz) [(aS, .inr (9, [.ref aX, .ref aD, .ref aT, .ref aR, .ref aH, .ref aIM, .ref aW, .ref aC, .ref aK])), (aR, .inr (6, [.ref aT, .int R_in, .int R_streak, .int R_lot])), (aT, .inr (1, [.ref aT_slips, .ref aT_lates, .ref aT_copied, .int T_size, .int T_littleOnes])), (aT_slips, .inl (cI, 6, .inl T_slips)), (aT_lates, .inl (cI, 6, .inl T_lates)), (aT_copied, .inl (cI, 6, .inl T_copied)), (aC, .inr (0, [.ref aT, .ref aR, .ref aW, .ref aC_byNumber])), (aC_byNumber, .inl (cJ, 7, .inr (.inl y0.2)))]) (va_A [(aS, .inr (9, [.ref aX, .ref aD, .ref aT, .ref aR, .ref aH, .ref aIM, .ref aW, .ref aC, .ref aK])), (aR, .inr (6, [.ref aT, .int R_in, .int R_streak, .int R_lot])), (aT, .inr (1, [.ref aT_slips, .ref aT_lates, .ref aT_copied, .int T_size, .int T_littleOnes])), (aT_slips, .inl (cI, 6, .inl T_slips)), (aT_lates, .inl (cI, 6, .inl T_lates)), (aT_copied, .inl (cI, 6, .inl T_copied)), (aC, .inr (0, [.ref aT, .ref aR, .ref aW, .ref aC_byNumber])), (aC_byNumber, .inl (cJ, 7, .inr (.inl C_byNumber)))] sz)) 0 0 (va_A [(aS, .inr (9, [.ref aX, .ref aD, .ref aT, .ref aR, .ref aH, .ref aIM, .ref aW, .ref aC, .ref aK])), (aR, .inr (6, [.ref aT, .int R_in, .int R_streak, .int R_lot])), (aT, .inr (1, [.ref aT_slips, .ref aT_lates, .ref aT_copied, .int T_size, .int T_littleOnes])), (aT_slips, .inl (cI, 6, .inl T_slips)), (aT_lates, .inl (cI, 6, .inl T_lates)), (aT_copied, .inl (cI, 6, .inl T_copied)), (aC, .inr (0, [.ref aT, .ref aR, .ref aW, .ref aC_byNumber])), (aC_byNumber, .inl (cJ, 7, .inr (.inl C_byNumber)))] sz) := by
  refine Met.ofW (cc := cX9_many) (maxL := 4) (ret := (some .long)) (by decide) rfl ?_
  intro p e s m args below meth c s₁ B hml hv
  obtain ⟨rfl, hsz, hP, hKK, hD0⟩ := hv
  have hx := B.exec
  have hb := B.bytes
  have hr := B.returns
  have hts := atoms_spec (ws := wsX9_many) B.pre
  have hown : s.vm.findClass RX9 = some m.cls := findClass_of_methodNamed B.named
  have hlocks := B.notSynchronized
  have hK := hKK.1
  have fl_67 := hts (.fieldLink RX9 67 "SimonSays" "chances" "LSimonSays$Chances;") (by decide +kernel)
  have cst_191 := hts (.constantLong RX9 191 (-1)) (by decide +kernel)
  have inX9 : ∀ w ∈ wsX90, w ∈ wsX9_many := by decide +kernel
  subst hsz
  have hD := hD0.self (sz := s.heap.size)
  generalize hAe : va_A [(aS, .inr (9, [.ref aX, .ref aD, .ref aT, .ref aR, .ref aH, .ref aIM, .ref aW, .ref aC, .ref aK])), (aR, .inr (6, [.ref aT, .int R_in, .int R_streak, .int R_lot])), (aT, .inr (1, [.ref aT_slips, .ref aT_lates, .ref aT_copied, .int T_size, .int T_littleOnes])), (aT_slips, .inl (cI, 6, .inl T_slips)), (aT_lates, .inl (cI, 6, .inl T_lates)), (aT_copied, .inl (cI, 6, .inl T_copied)), (aC, .inr (0, [.ref aT, .ref aR, .ref aW, .ref aC_byNumber])), (aC_byNumber, .inl (cJ, 7, .inr (.inl C_byNumber)))] s.heap.size = A at hD ⊢
  have hA : ∀ q : Nat, s.heap.size ≤ q → A q := fun q h => by rw [← hAe]; exact Or.inr h
  have hS : va_S A s.heap s.heap [] := va_S.rf
  have hl := lv_entry ([.ref aS, .int p1, .int p2, .int p3]) (n := 4) (Nat.le_of_ble_eq_true rfl)
  rw [lg_entry_eq]
  generalize (lg_sl ([.ref aS, .int p1, .int p2, .int p3]) ++ List.replicate (4 - (lg_sl ([.ref aS, .int p1, .int p2, .int p3])).length) Slot.unset).toArray = ls at hl ⊢
  have hl : lv_has ls 4 [(0, .ref aS), (1, .int p1), (2, .int p2), (3, .int p3)] := hl
  unfold f_X9_many at h
  refine lv_iload_n hx hb dX9_many_0 rfl (lv_at hl 1 rfl) ?_
  have hPc : va_P D vwCl [] s.heap := hP.sub [] rfl
  refine vp_callSi (va_Run.run (va_runS (As := [.int p1]) (rest := []) ⟨hx, hb, hml, hown, hts⟩ (c_X9_isOrder l D cI cJ cZ cO p1 _ rfl) (cwS 1 hts gX9_many_X9_isOrder rfl rfl rfl (by decide +kernel) ⟨Nat.le_of_ble_eq_true rfl, Nat.le_of_ble_eq_true rfl⟩) ⟨fb_p, fun U hU hW => ⟨rfl, by rw [hU]; exact hPc, KK.warm hW hKK⟩⟩ rfl rfl hl.1 rfl (lv_room (Nat.le_of_ble_eq_true rfl)) dX9_many_1 ⟨Nat.le_of_ble_eq_true rfl, Nat.le_of_ble_eq_true rfl⟩)) (fun r hr => ?_)
  obtain ⟨hr, hz1⟩ := hr
  replace hr := hr.symm
  subst hr
  refine lv_if_eq (tgt := 24) hx hb dX9_many_4 (by decide) (fun c_2 => ?_) (fun c_2 => ?_)
  · replace h := if_p c_2 h
    refine lv_ldc2 (v := (-1 : Int64)) hx hb hown cst_191 dX9_many_24 ?_
    have hy := Option.some.inj h
    subst hy
    exact W.lret (v := (-1 : Int64)) hx hb hr (fun t ht hW => ⟨⟨(-1 : Int64), (), rfl, rfl, by rw [ht]; exact hP, hD⟩, hS.F ht⟩) hS.2.2 dX9_many_27
  · replace h := if_n c_2 h
    refine lv_iload_n hx hb dX9_many_7 rfl (lv_at hl 2 rfl) ?_
    refine lv_if_lt (tgt := 24) hx hb dX9_many_8 (by decide) (fun c_3 => ?_) (fun c_3 => ?_)
    · replace h := if_p c_3 h
      refine lv_ldc2 (v := (-1 : Int64)) hx hb hown cst_191 dX9_many_24 ?_
      have hy := Option.some.inj h
      subst hy
      exact W.lret (v := (-1 : Int64)) hx hb hr (fun t ht hW => ⟨⟨(-1 : Int64), (), rfl, rfl, by rw [ht]; exact hP, hD⟩, hS.F ht⟩) hS.2.2 dX9_many_27
    · replace h := if_n c_3 h
      refine lv_iload_n hx hb dX9_many_11 rfl (lv_at hl 2 rfl) ?_
      refine lv_bipush (v := (6 : Int32)) hx hb dX9_many_12 (by decide) ?_
      refine lv_icmp_gt (tgt := 24) hx hb dX9_many_14 (by decide) (fun c_4 => ?_) (fun c_4 => ?_)
      · replace h := if_p c_4 h
        refine lv_ldc2 (v := (-1 : Int64)) hx hb hown cst_191 dX9_many_24 ?_
        have hy := Option.some.inj h
        subst hy
        exact W.lret (v := (-1 : Int64)) hx hb hr (fun t ht hW => ⟨⟨(-1 : Int64), (), rfl, rfl, by rw [ht]; exact hP, hD⟩, hS.F ht⟩) hS.2.2 dX9_many_27
      · replace h := if_n c_4 h
        refine lv_iload_n hx hb dX9_many_17 rfl (lv_at hl 3 rfl) ?_
        have hPc : va_P D vwCl [] s.heap := hP.sub [] rfl
        refine vp_callSi (va_Run.run (va_runS (As := [.int p3]) (rest := []) ⟨hx, hb, hml, hown, hts⟩ (c_X9_isHalf l D cI cJ cZ cO p3 _ rfl) (cwS 1 hts gX9_many_X9_isHalf rfl rfl rfl (by decide +kernel) ⟨Nat.le_of_ble_eq_true rfl, Nat.le_of_ble_eq_true rfl⟩) ⟨fb_p, fun U hU hW => ⟨rfl, by rw [hU]; exact hPc, KK.warm hW hKK⟩⟩ rfl rfl hl.1 rfl (lv_room (Nat.le_of_ble_eq_true rfl)) dX9_many_18 ⟨Nat.le_of_ble_eq_true rfl, Nat.le_of_ble_eq_true rfl⟩)) (fun r hr => ?_)
        obtain ⟨hr, hz5⟩ := hr
        replace hr := hr.symm
        subst hr
        refine lv_if_ne (tgt := 28) hx hb dX9_many_21 (by decide) (fun c_6 => ?_) (fun c_6 => ?_)
        · replace h := if_n c_6 h
          refine lv_aload_n hx hb dX9_many_28 rfl (lv_at hl 0 rfl) ?_
          refine va_get (D := D) (ci := 9) (v := .ref aC) (C := RX9) (T := TX9) (N := 9) hx hb hts inX9 hown hK hP 0 rfl rfl 7 (by decide) fl_67 (fun _ h9 => h9) rfl dX9_many_29 ?_
          refine lv_iload_n hx hb dX9_many_32 rfl (lv_at hl 1 rfl) ?_
          refine lv_iload_n hx hb dX9_many_33 rfl (lv_at hl 2 rfl) ?_
          obtain ⟨y7, qy7, h⟩ := ob_some h
          have hPc : va_P D vwCl [(aR, .inr (6, [.ref aT, .int R_in, .int R_streak, .int R_lot])), (aT, .inr (1, [.ref aT_slips, .ref aT_lates, .ref aT_copied, .int T_size, .int T_littleOnes])), (aT_slips, .inl (cI, 6, .inl T_slips)), (aT_lates, .inl (cI, 6, .inl T_lates)), (aT_copied, .inl (cI, 6, .inl T_copied)), (aC, .inr (0, [.ref aT, .ref aR, .ref aW, .ref aC_byNumber])), (aC_byNumber, .inl (cJ, 7, .inr (.inl C_byNumber)))] s.heap := hP.sub [1, 2, 3, 4, 5, 6, 7] rfl
          have hDc : va_D A [(aR, .inr (6, [.ref aT, .int R_in, .int R_streak, .int R_lot])), (aT, .inr (1, [.ref aT_slips, .ref aT_lates, .ref aT_copied, .int T_size, .int T_littleOnes])), (aT_slips, .inl (cI, 6, .inl T_slips)), (aT_lates, .inl (cI, 6, .inl T_lates)), (aT_copied, .inl (cI, 6, .inl T_copied)), (aC, .inr (0, [.ref aT, .ref aR, .ref aW, .ref aC_byNumber])), (aC_byNumber, .inl (cJ, 7, .inr (.inl C_byNumber)))] := hD.sub [1, 2, 3, 4, 5, 6, 7] (by decide) rfl
          have hFc := va_free (wc := [(aR, .inr (6, [.ref aT, .int R_in, .int R_streak, .int R_lot])), (aT, .inr (1, [.ref aT_slips, .ref aT_lates, .ref aT_copied, .int T_size, .int T_littleOnes])), (aT_slips, .inl (cI, 6, .inl T_slips)), (aT_lates, .inl (cI, 6, .inl T_lates)), (aT_copied, .inl (cI, 6, .inl T_copied)), (aC, .inr (0, [.ref aT, .ref aR, .ref aW, .ref aC_byNumber])), (aC_byNumber, .inl (cJ, 7, .inr (.inl C_byNumber)))]) hD hS hA [1, 2, 3, 4, 5, 6, 7] rfl
          refine va_calll (va_runV (As := [.int p1, .int p2]) (rest := []) ⟨hx, hb, hml, hown, hts⟩ (c_X0_numberFalls l D cI cJ cZ cO aR aT aT_slips aT_lates aT_copied aC aC_byNumber aW R_in R_streak R_lot T_size T_littleOnes T_slips T_lates T_copied C_byNumber s.heap.size p1 p2 y7 qy7) (cwV 2 hts gX9_many_X0_numberFalls rfl rfl rfl (by decide +kernel) ⟨Nat.le_of_ble_eq_true rfl, Nat.le_of_ble_eq_true rfl⟩) ⟨fb_i, va_recv hK hP (ci := 0) (q0 := 6) rfl rfl, fun U hU hW => ⟨rfl, by rw [hU], by rw [hU]; exact hPc, KK.warm hW hKK, hDc.weaken (fun _ _ _ _ => trivial)⟩⟩ rfl rfl hl.1 rfl (lv_room (Nat.le_of_ble_eq_true rfl)) dX9_many_34 ⟨Nat.le_of_ble_eq_true rfl, Nat.le_of_ble_eq_true rfl⟩) hS (fun q _ h => hFc q h) hFc (fun r u t H1 locs ht hvm hw hB hz1 hk1 hS => ?_)
          obtain ⟨hP1, hD1⟩ := hB
          rw [ht] at hP1
          replace hw := hw.symm
          subst hw
          obtain ⟨hP, hD⟩ := va_join (wr := [(aS, .inr (9, [.ref aX, .ref aD, .ref aT, .ref aR, .ref aH, .ref aIM, .ref aW, .ref aC, .ref aK]))]) (w1 := [(aR, .inr (6, [.ref aT, .int R_in, .int R_streak, .int R_lot])), (aT, .inr (1, [.ref aT_slips, .ref aT_lates, .ref aT_copied, .int T_size, .int T_littleOnes])), (aT_slips, .inl (cI, 6, .inl T_slips)), (aT_lates, .inl (cI, 6, .inl T_lates)), (aT_copied, .inl (cI, 6, .inl T_copied)), (aC, .inr (0, [.ref aT, .ref aR, .ref aW, .ref aC_byNumber])), (aC_byNumber, .inl (cJ, 7, .inr (.inl y7.2)))]) hP hD [1, 2, 3, 4, 5, 6, 7] [0] rfl rfl (by decide) (by decide) hk1 hFc hP1 hD1
          generalize H1 = H at hP hS ⊢
          have hP : va_P D vwCl [(aS, .inr (9, [.ref aX, .ref aD, .ref aT, .ref aR, .ref aH, .ref aIM, .ref aW, .ref aC, .ref aK])), (aR, .inr (6, [.ref aT, .int R_in, .int R_streak, .int R_lot])), (aT, .inr (1, [.ref aT_slips, .ref aT_lates, .ref aT_copied, .int T_size, .int T_littleOnes])), (aT_slips, .inl (cI, 6, .inl T_slips)), (aT_lates, .inl (cI, 6, .inl T_lates)), (aT_copied, .inl (cI, 6, .inl T_copied)), (aC, .inr (0, [.ref aT, .ref aR, .ref aW, .ref aC_byNumber])), (aC_byNumber, .inl (cJ, 7, .inr (.inl y7.2)))] H := hP.sub [0, 1, 2, 3, 4, 5, 6, 7] rfl
          have hD : va_D A [(aS, .inr (9, [.ref aX, .ref aD, .ref aT, .ref aR, .ref aH, .ref aIM, .ref aW, .ref aC, .ref aK])), (aR, .inr (6, [.ref aT, .int R_in, .int R_streak, .int R_lot])), (aT, .inr (1, [.ref aT_slips, .ref aT_lates, .ref aT_copied, .int T_size, .int T_littleOnes])), (aT_slips, .inl (cI, 6, .inl T_slips)), (aT_lates, .inl (cI, 6, .inl T_lates)), (aT_copied, .inl (cI, 6, .inl T_copied)), (aC, .inr (0, [.ref aT, .ref aR, .ref aW, .ref aC_byNumber])), (aC_byNumber, .inl (cJ, 7, .inr (.inl y7.2)))] := hD.sub [0, 1, 2, 3, 4, 5, 6, 7] (by decide) rfl
          refine lv_aload_n hx hb dX9_many_37 rfl (lv_at hl 0 rfl) ?_
          refine va_get (D := D) (ci := 9) (v := .ref aC) (C := RX9) (T := TX9) (N := 9) hx hb hts inX9 hown hK hP 0 rfl rfl 7 (by decide) fl_67 (fun _ h9 => h9) rfl dX9_many_38 ?_
          refine lv_iconst (v := (1 : Int32)) hx hb dX9_many_41 (by decide) ?_
          obtain ⟨y8, qy8, h⟩ := ob_some h
          have hPc : va_P D vwCl [(aR, .inr (6, [.ref aT, .int R_in, .int R_streak, .int R_lot])), (aT, .inr (1, [.ref aT_slips, .ref aT_lates, .ref aT_copied, .int T_size, .int T_littleOnes])), (aT_copied, .inl (cI, 6, .inl T_copied)), (aC, .inr (0, [.ref aT, .ref aR, .ref aW, .ref aC_byNumber]))] H := hP.sub [1, 2, 5, 6] rfl
          refine vp_callSl (va_Run.run (va_runV (As := [.int (1 : Int32)]) (rest := [.long y7.1]) ⟨hx, hb, hml, hown, hts⟩ (c_X0_lower l D cI cJ cZ cO aR aT aT_copied aC aT_slips aT_lates aW aC_byNumber R_in R_streak R_lot T_size T_littleOnes T_copied (1 : Int32) y8 qy8) (cwV 1 hts gX9_many_X0_lower rfl rfl rfl (by decide +kernel) ⟨Nat.le_of_ble_eq_true rfl, Nat.le_of_ble_eq_true rfl⟩) ⟨fb_p, va_recv hK hP (ci := 0) (q0 := 6) rfl rfl, fun U hU hW => ⟨rfl, by rw [hU]; exact hPc, KK.warm hW hKK⟩⟩ rfl rfl hl.1 rfl (lv_room (Nat.le_of_ble_eq_true rfl)) dX9_many_42 ⟨Nat.le_of_ble_eq_true rfl, Nat.le_of_ble_eq_true rfl⟩)) (fun r hr => ?_)
          replace hr := hr.symm
          subst hr
          refine lv_iload_n hx hb dX9_many_45 rfl (lv_at hl 3 rfl) ?_
          obtain ⟨y9, qy9, h⟩ := ob_some h
          have hPc : va_P D vwCl [] H := hP.sub [] rfl
          refine vp_callSl (va_Run.run (va_runS (As := [.long y7.1, .long y8, .int p3]) (rest := []) ⟨hx, hb, hml, hown, hts⟩ (c_X9_leastTerms l D cI cJ cZ cO y7.1 y8 p3 y9 qy9) (cwS 3 hts gX9_many_X9_leastTerms rfl rfl rfl (by decide +kernel) ⟨Nat.le_of_ble_eq_true rfl, Nat.le_of_ble_eq_true rfl⟩) ⟨fb_p, fun U hU hW => ⟨rfl, by rw [hU]; exact hPc, KK.warm hW hKK⟩⟩ rfl rfl hl.1 rfl (lv_room (Nat.le_of_ble_eq_true rfl)) dX9_many_46 ⟨Nat.le_of_ble_eq_true rfl, Nat.le_of_ble_eq_true rfl⟩)) (fun r hr => ?_)
          replace hr := hr.symm
          subst hr
          have hy := Option.some.inj h
          subst hy
          exact W.lret (v := y9) hx hb hr (fun t ht hW => ⟨⟨y9, (), rfl, rfl, by rw [ht]; exact hP, hD⟩, hS.F ht⟩) hS.2.2 dX9_many_49
        · replace h := if_p c_6 h
          refine lv_ldc2 (v := (-1 : Int64)) hx hb hown cst_191 dX9_many_24 ?_
          have hy := Option.some.inj h
          subst hy
          exact W.lret (v := (-1 : Int64)) hx hb hr (fun t ht hW => ⟨⟨(-1 : Int64), (), rfl, rfl, by rw [ht]; exact hP, hD⟩, hS.F ht⟩) hS.2.2 dX9_many_27

def f_X9_stays (R_in : Int32) (R_streak : Int32) (T_size : Int32) (T_slips : Nat → Int32) (T_lates : Nat → Int32) (T_copied : Nat → Int32) (W_length : Int32) (W_figures : Nat → Int32) (p1 : Int32) (p2 : Int32) (p3 : Int32) : Option (Int64 × Int32 × (Nat → Int32)) := (if (f_X1_has T_size p1) = 0 then some ((-1 : Int64), W_length, W_figures) else (Option.bind (f_X7_read W_length W_figures p2 (9 : Int32)) (fun y3 => (if y3.1 = 0 then some ((-1 : Int64), y3.2.1, y3.2.2) else (if (f_X9_isHalf p3) = 0 then some ((-1 : Int64), y3.2.1, y3.2.2) else (if (f_X6_isIn R_in T_size p1) = 0 then (Option.bind (f_X9_leastTerms (0 : Int64) (1 : Int64) p3) (fun y14 => some (y14, y3.2.1, y3.2.2))) else (Option.bind (f_X6_leaderOf R_in T_size T_copied p1) (fun y10 => (Option.bind (f_X0_leaderStays R_streak T_size T_slips T_lates y3.2.1 y3.2.2 y10) (fun y11 => (Option.bind (f_X9_powerOfTen (f_X7_length y3.2.1)) (fun y12 => (Option.bind (f_X9_leastTerms y11 y12 p3) (fun y13 => some (y13, y3.2.1, y3.2.2)))))))))))))))
set_option maxHeartbeats 8000000 in
set_option maxRecDepth 100000 in
theorem c_X9_stays (l : Launch) (D : va_G) (cI cJ cZ cO : ClassId) (aS : Nat) (aR : Nat) (aT : Nat) (aT_slips : Nat) (aT_lates : Nat) (aT_copied : Nat) (aW : Nat) (aW_figures : Nat) (aC : Nat) (aX : Nat) (aD : Nat) (aH : Nat) (aIM : Nat) (aK : Nat) (aC_byNumber : Nat) (R_in : Int32) (R_streak : Int32) (R_lot : Int32) (T_size : Int32) (T_littleOnes : Int32) (T_slips : Nat → Int32) (T_lates : Nat → Int32) (T_copied : Nat → Int32) (W_length : Int32) (W_figures : Nat → Int32) (sz : Nat) (p1 : Int32) (p2 : Int32) (p3 : Int32)  (y0 : Int64 × Int32 × (Nat → Int32)) (h : f_X9_stays R_in R_streak T_size T_slips T_lates T_copied W_length W_figures p1 p2 p3 = some y0) : Met l yX9_stays wsX9_stays ({ frames := 4, cells := 0, slots := 0, locals := 91 } : Room) (va_Pc [.ref aS, .int p1, .int p2, .int p3] (fun U => U.heap.size = sz ∧ va_P D vwCl [(aS, .inr (9, [.ref aX, .ref aD, .ref aT, .ref aR, .ref aH, .ref aIM, .ref aW, .ref aC, .ref aK])), (aR, .inr (6, [.ref aT, .int R_in, .int R_streak, .int R_lot])), (aT, .inr (1, [.ref aT_slips, .ref aT_lates, .ref aT_copied, .int T_size, .int T_littleOnes])), (aT_slips, .inl (cI, 6, .inl T_slips)), (aT_lates, .inl (cI, 6, .inl T_lates)), (aT_copied, .inl (cI, 6, .inl T_copied)), (aW, .inr (7, [.ref aW_figures, .int W_length])), (aW_figures, .inl (cI, 9, .inl W_figures)), (aC, .inr (0, [.ref aT, .ref aR, .ref aW, .ref aC_byNumber]))] U.heap ∧ KK D cI cJ cZ cO U ∧ va_D (fun _ => True) [(aS, .inr (9, [.ref aX, .ref aD, .ref aT, .ref aR, .ref aH, .ref aIM, .ref aW, .ref aC, .ref aK])), (aR, .inr (6, [.ref aT, .int R_in, .int R_streak, .int R_lot])), (aT, .inr (1, [.ref aT_slips, .ref aT_lates, .ref aT_copied, .int T_size, .int T_littleOnes])), (aT_slips, .inl (cI, 6, .inl T_slips)), (aT_lates, .inl (cI, 6, .inl T_lates)), (aT_copied, .inl (cI, 6, .inl T_copied)), (aW, .inr (7, [.ref aW_figures, .int W_length])), (aW_figures, .inl (cI, 9, .inl W_figures)), (aC, .inr (0, [.ref aT, .ref aR, .ref aW, .ref aC_byNumber]))])) (va_Ql (fun (r : Int64) (_ : Unit) => r = y0.1) (fun (_ : Unit) t => va_P D vwCl [(aS, .inr (9, [.ref aX, .ref aD, .ref aT, .ref aR, .ref aH, .ref aIM, .ref aW, .ref aC, .ref aK])), (aR, .inr (6, [.ref aT, .int R_in, .int R_streak, .int R_lot])), (aT, .inr (1, [.ref aT_slips, .ref aT_lates, .ref aT_copied, .int T_size, .int T_littleOnes])), (aT_slips, .inl (cI, 6, .inl T_slips)), (aT_lates, .inl (cI, 6, .inl T_lates)), (aT_copied, .inl (cI, 6, .inl T_copied)), (aW, .inr (7, [.ref aW_figures, .int y0.2.1])), (aW_figures, .inl (cI, 9, .inl y0.2.2)), (aC, .inr (0, [.ref aT, .ref aR, .ref aW, .ref aC_byNumber]))] t.heap ∧ va_D (va_A [(aS, .inr (9, [.ref aX, .ref aD, .ref aT, .ref aR, .ref aH, .ref aIM, .ref aW, .ref aC, .ref aK])), (aR, .inr (6, [.ref aT, .int R_in, .int R_streak, .int R_lot])), (aT, .inr (1, [.ref aT_slips, .ref aT_lates, .ref aT_copied, .int T_size, .int T_littleOnes])), (aT_slips, .inl (cI, 6, .inl T_slips)), (aT_lates, .inl (cI, 6, .inl T_lates)), (aT_copied, .inl (cI, 6, .inl T_copied)), (aW, .inr (7, [.ref aW_figures, .int W_length])), (aW_figures, .inl (cI, 9, .inl W_figures)), (aC, .inr (0, [.ref aT, .ref aR, .ref aW, .ref aC_byNumber]))] sz) [(aS, .inr (9, [.ref aX, .ref aD, .ref aT, .ref aR, .ref aH, .ref aIM, .ref aW, .ref aC, .ref aK])), (aR, .inr (6, [.ref aT, .int R_in, .int R_streak, .int R_lot])), (aT, .inr (1, [.ref aT_slips, .ref aT_lates, .ref aT_copied, .int T_size, .int T_littleOnes])), (aT_slips, .inl (cI, 6, .inl T_slips)), (aT_lates, .inl (cI, 6, .inl T_lates)), (aT_copied, .inl (cI, 6, .inl T_copied)), (aW, .inr (7, [.ref aW_figures, .int y0.2.1])), (aW_figures, .inl (cI, 9, .inl y0.2.2)), (aC, .inr (0, [.ref aT, .ref aR, .ref aW, .ref aC_byNumber]))]) (va_A [(aS, .inr (9, [.ref aX, .ref aD, .ref aT, .ref aR, .ref aH, .ref aIM, .ref aW, .ref aC, .ref aK])), (aR, .inr (6, [.ref aT, .int R_in, .int R_streak, .int R_lot])), (aT, .inr (1, [.ref aT_slips, .ref aT_lates, .ref aT_copied, .int T_size, .int T_littleOnes])), (aT_slips, .inl (cI, 6, .inl T_slips)), (aT_lates, .inl (cI, 6, .inl T_lates)), (aT_copied, .inl (cI, 6, .inl T_copied)), (aW, .inr (7, [.ref aW_figures, .int W_length])), (aW_figures, .inl (cI, 9, .inl W_figures)), (aC, .inr (0, [.ref aT, .ref aR, .ref aW, .ref aC_byNumber]))] sz)) 0 0 (va_A [(aS, .inr (9, [.ref aX, .ref aD, .ref aT, .ref aR, .ref aH, .ref aIM, .ref aW, .ref aC, .ref aK])), (aR, .inr (6, [.ref aT, .int R_in, .int R_streak, .int R_lot])), (aT, .inr (1, [.ref aT_slips, .ref aT_lates, .ref aT_copied, .int T_size, .int T_littleOnes])), (aT_slips, .inl (cI, 6, .inl T_slips)), (aT_lates, .inl (cI, 6, .inl T_lates)), (aT_copied, .inl (cI, 6, .inl T_copied)), (aW, .inr (7, [.ref aW_figures, .int W_length])), (aW_figures, .inl (cI, 9, .inl W_figures)), (aC, .inr (0, [.ref aT, .ref aR, .ref aW, .ref aC_byNumber]))] sz) := by
  refine Met.ofW (cc := cX9_stays) (maxL := 4) (ret := (some .long)) (by decide) rfl ?_
  intro p e s m args below meth c s₁ B hml hv
  obtain ⟨rfl, hsz, hP, hKK, hD0⟩ := hv
  have hx := B.exec
  have hb := B.bytes
  have hr := B.returns
  have hts := atoms_spec (ws := wsX9_stays) B.pre
  have hown : s.vm.findClass RX9 = some m.cls := findClass_of_methodNamed B.named
  have hlocks := B.notSynchronized
  have hK := hKK.1
  have fl_28 := hts (.fieldLink RX9 28 "SimonSays" "told" "LSimonSays$Children;") (by decide +kernel)
  have fl_37 := hts (.fieldLink RX9 37 "SimonSays" "round" "LSimonSays$Round;") (by decide +kernel)
  have fl_58 := hts (.fieldLink RX9 58 "SimonSays" "asked" "LSimonSays$Row;") (by decide +kernel)
  have fl_67 := hts (.fieldLink RX9 67 "SimonSays" "chances" "LSimonSays$Chances;") (by decide +kernel)
  have cst_191 := hts (.constantLong RX9 191 (-1)) (by decide +kernel)
  have inX9 : ∀ w ∈ wsX90, w ∈ wsX9_stays := by decide +kernel
  subst hsz
  have hD := hD0.self (sz := s.heap.size)
  generalize hAe : va_A [(aS, .inr (9, [.ref aX, .ref aD, .ref aT, .ref aR, .ref aH, .ref aIM, .ref aW, .ref aC, .ref aK])), (aR, .inr (6, [.ref aT, .int R_in, .int R_streak, .int R_lot])), (aT, .inr (1, [.ref aT_slips, .ref aT_lates, .ref aT_copied, .int T_size, .int T_littleOnes])), (aT_slips, .inl (cI, 6, .inl T_slips)), (aT_lates, .inl (cI, 6, .inl T_lates)), (aT_copied, .inl (cI, 6, .inl T_copied)), (aW, .inr (7, [.ref aW_figures, .int W_length])), (aW_figures, .inl (cI, 9, .inl W_figures)), (aC, .inr (0, [.ref aT, .ref aR, .ref aW, .ref aC_byNumber]))] s.heap.size = A at hD ⊢
  have hA : ∀ q : Nat, s.heap.size ≤ q → A q := fun q h => by rw [← hAe]; exact Or.inr h
  have hS : va_S A s.heap s.heap [] := va_S.rf
  have hl := lv_entry ([.ref aS, .int p1, .int p2, .int p3]) (n := 4) (Nat.le_of_ble_eq_true rfl)
  rw [lg_entry_eq]
  generalize (lg_sl ([.ref aS, .int p1, .int p2, .int p3]) ++ List.replicate (4 - (lg_sl ([.ref aS, .int p1, .int p2, .int p3])).length) Slot.unset).toArray = ls at hl ⊢
  have hl : lv_has ls 4 [(0, .ref aS), (1, .int p1), (2, .int p2), (3, .int p3)] := hl
  unfold f_X9_stays at h
  refine lv_aload_n hx hb dX9_stays_0 rfl (lv_at hl 0 rfl) ?_
  refine va_get (D := D) (ci := 9) (v := .ref aT) (C := RX9) (T := TX9) (N := 9) hx hb hts inX9 hown hK hP 0 rfl rfl 2 (by decide) fl_28 (fun _ h9 => h9) rfl dX9_stays_1 ?_
  refine lv_iload_n hx hb dX9_stays_4 rfl (lv_at hl 1 rfl) ?_
  have hPc : va_P D vwCl [(aT, .inr (1, [.ref aT_slips, .ref aT_lates, .ref aT_copied, .int T_size, .int T_littleOnes]))] s.heap := hP.sub [2] rfl
  refine vp_callSi (va_Run.run (va_runV (As := [.int p1]) (rest := []) ⟨hx, hb, hml, hown, hts⟩ (c_X1_has l D cI cJ cZ cO aT aT_slips aT_lates aT_copied T_size T_littleOnes p1 _ rfl) (cwV 1 hts gX9_stays_X1_has rfl rfl rfl (by decide +kernel) ⟨Nat.le_of_ble_eq_true rfl, Nat.le_of_ble_eq_true rfl⟩) ⟨fb_p, va_recv hK hP (ci := 1) (q0 := 2) rfl rfl, fun U hU hW => ⟨rfl, by rw [hU]; exact hPc, KK.warm hW hKK⟩⟩ rfl rfl hl.1 rfl (lv_room (Nat.le_of_ble_eq_true rfl)) dX9_stays_5 ⟨Nat.le_of_ble_eq_true rfl, Nat.le_of_ble_eq_true rfl⟩)) (fun r hr => ?_)
  obtain ⟨hr, hz1⟩ := hr
  replace hr := hr.symm
  subst hr
  refine lv_if_eq (tgt := 31) hx hb dX9_stays_8 (by decide) (fun c_2 => ?_) (fun c_2 => ?_)
  · replace h := if_p c_2 h
    refine lv_ldc2 (v := (-1 : Int64)) hx hb hown cst_191 dX9_stays_31 ?_
    have hy := Option.some.inj h
    subst hy
    exact W.lret (v := (-1 : Int64)) hx hb hr (fun t ht hW => ⟨⟨(-1 : Int64), (), rfl, rfl, by rw [ht]; exact hP, hD⟩, hS.F ht⟩) hS.2.2 dX9_stays_34
  · replace h := if_n c_2 h
    refine lv_aload_n hx hb dX9_stays_11 rfl (lv_at hl 0 rfl) ?_
    refine va_get (D := D) (ci := 9) (v := .ref aW) (C := RX9) (T := TX9) (N := 9) hx hb hts inX9 hown hK hP 0 rfl rfl 6 (by decide) fl_58 (fun _ h9 => h9) rfl dX9_stays_12 ?_
    refine lv_iload_n hx hb dX9_stays_15 rfl (lv_at hl 2 rfl) ?_
    refine lv_bipush (v := (9 : Int32)) hx hb dX9_stays_16 (by decide) ?_
    obtain ⟨y3, qy3, h⟩ := ob_some h
    have hPc : va_P D vwCl [(aW, .inr (7, [.ref aW_figures, .int W_length])), (aW_figures, .inl (cI, 9, .inl W_figures))] s.heap := hP.sub [6, 7] rfl
    have hDc : va_D A [(aW, .inr (7, [.ref aW_figures, .int W_length])), (aW_figures, .inl (cI, 9, .inl W_figures))] := hD.sub [6, 7] (by decide) rfl
    have hFc := va_free (wc := [(aW, .inr (7, [.ref aW_figures, .int W_length])), (aW_figures, .inl (cI, 9, .inl W_figures))]) hD hS hA [6, 7] rfl
    refine va_calli (va_runV (As := [.int p2, .int (9 : Int32)]) (rest := []) ⟨hx, hb, hml, hown, hts⟩ (c_X7_read l D cI cJ cZ cO aW aW_figures W_length W_figures s.heap.size p2 (9 : Int32) y3 qy3) (cwV 2 hts gX9_stays_X7_read rfl rfl rfl (by decide +kernel) ⟨Nat.le_of_ble_eq_true rfl, Nat.le_of_ble_eq_true rfl⟩) ⟨fb_i, va_recv hK hP (ci := 7) (q0 := 6) rfl rfl, fun U hU hW => ⟨rfl, by rw [hU], by rw [hU]; exact hPc, KK.warm hW hKK, hDc.weaken (fun _ _ _ _ => trivial)⟩⟩ rfl rfl hl.1 rfl (lv_room (Nat.le_of_ble_eq_true rfl)) dX9_stays_18 ⟨Nat.le_of_ble_eq_true rfl, Nat.le_of_ble_eq_true rfl⟩) hS (fun q _ h => hFc q h) hFc (fun r u t H1 locs ht hvm hw hB hz1 hk1 hS => ?_)
    obtain ⟨hP1, hD1⟩ := hB
    rw [ht] at hP1
    obtain ⟨hw, hz4⟩ := hw
    replace hw := hw.symm
    subst hw
    obtain ⟨hP, hD⟩ := va_join (wr := [(aS, .inr (9, [.ref aX, .ref aD, .ref aT, .ref aR, .ref aH, .ref aIM, .ref aW, .ref aC, .ref aK])), (aR, .inr (6, [.ref aT, .int R_in, .int R_streak, .int R_lot])), (aT, .inr (1, [.ref aT_slips, .ref aT_lates, .ref aT_copied, .int T_size, .int T_littleOnes])), (aT_slips, .inl (cI, 6, .inl T_slips)), (aT_lates, .inl (cI, 6, .inl T_lates)), (aT_copied, .inl (cI, 6, .inl T_copied)), (aC, .inr (0, [.ref aT, .ref aR, .ref aW, .ref aC_byNumber]))]) (w1 := [(aW, .inr (7, [.ref aW_figures, .int y3.2.1])), (aW_figures, .inl (cI, 9, .inl y3.2.2))]) hP hD [6, 7] [0, 1, 2, 3, 4, 5, 8] rfl rfl (by decide) (by decide) hk1 hFc hP1 hD1
    generalize H1 = H at hP hS ⊢
    have hP : va_P D vwCl [(aS, .inr (9, [.ref aX, .ref aD, .ref aT, .ref aR, .ref aH, .ref aIM, .ref aW, .ref aC, .ref aK])), (aR, .inr (6, [.ref aT, .int R_in, .int R_streak, .int R_lot])), (aT, .inr (1, [.ref aT_slips, .ref aT_lates, .ref aT_copied, .int T_size, .int T_littleOnes])), (aT_slips, .inl (cI, 6, .inl T_slips)), (aT_lates, .inl (cI, 6, .inl T_lates)), (aT_copied, .inl (cI, 6, .inl T_copied)), (aW, .inr (7, [.ref aW_figures, .int y3.2.1])), (aW_figures, .inl (cI, 9, .inl y3.2.2)), (aC, .inr (0, [.ref aT, .ref aR, .ref aW, .ref aC_byNumber]))] H := hP.sub [0, 1, 2, 3, 4, 5, 7, 8, 6] rfl
    have hD : va_D A [(aS, .inr (9, [.ref aX, .ref aD, .ref aT, .ref aR, .ref aH, .ref aIM, .ref aW, .ref aC, .ref aK])), (aR, .inr (6, [.ref aT, .int R_in, .int R_streak, .int R_lot])), (aT, .inr (1, [.ref aT_slips, .ref aT_lates, .ref aT_copied, .int T_size, .int T_littleOnes])), (aT_slips, .inl (cI, 6, .inl T_slips)), (aT_lates, .inl (cI, 6, .inl T_lates)), (aT_copied, .inl (cI, 6, .inl T_copied)), (aW, .inr (7, [.ref aW_figures, .int y3.2.1])), (aW_figures, .inl (cI, 9, .inl y3.2.2)), (aC, .inr (0, [.ref aT, .ref aR, .ref aW, .ref aC_byNumber]))] := hD.sub [0, 1, 2, 3, 4, 5, 7, 8, 6] (by decide) rfl
    refine lv_if_eq (tgt := 31) hx hb dX9_stays_21 (by decide) (fun c_5 => ?_) (fun c_5 => ?_)
    · replace h := if_p c_5 h
      refine lv_ldc2 (v := (-1 : Int64)) hx hb hown cst_191 dX9_stays_31 ?_
      have hy := Option.some.inj h
      subst hy
      exact W.lret (v := (-1 : Int64)) hx hb hr (fun t ht hW => ⟨⟨(-1 : Int64), (), rfl, rfl, by rw [ht]; exact hP, hD⟩, hS.F ht⟩) hS.2.2 dX9_stays_34
    · replace h := if_n c_5 h
      refine lv_iload_n hx hb dX9_stays_24 rfl (lv_at hl 3 rfl) ?_
      have hPc : va_P D vwCl [] H := hP.sub [] rfl
      refine vp_callSi (va_Run.run (va_runS (As := [.int p3]) (rest := []) ⟨hx, hb, hml, hown, hts⟩ (c_X9_isHalf l D cI cJ cZ cO p3 _ rfl) (cwS 1 hts gX9_stays_X9_isHalf rfl rfl rfl (by decide +kernel) ⟨Nat.le_of_ble_eq_true rfl, Nat.le_of_ble_eq_true rfl⟩) ⟨fb_p, fun U hU hW => ⟨rfl, by rw [hU]; exact hPc, KK.warm hW hKK⟩⟩ rfl rfl hl.1 rfl (lv_room (Nat.le_of_ble_eq_true rfl)) dX9_stays_25 ⟨Nat.le_of_ble_eq_true rfl, Nat.le_of_ble_eq_true rfl⟩)) (fun r hr => ?_)
      obtain ⟨hr, hz6⟩ := hr
      replace hr := hr.symm
      subst hr
      refine lv_if_ne (tgt := 35) hx hb dX9_stays_28 (by decide) (fun c_7 => ?_) (fun c_7 => ?_)
      · replace h := if_n c_7 h
        refine lv_aload_n hx hb dX9_stays_35 rfl (lv_at hl 0 rfl) ?_
        refine va_get (D := D) (ci := 9) (v := .ref aR) (C := RX9) (T := TX9) (N := 9) hx hb hts inX9 hown hK hP 0 rfl rfl 3 (by decide) fl_37 (fun _ h9 => h9) rfl dX9_stays_36 ?_
        refine lv_iload_n hx hb dX9_stays_39 rfl (lv_at hl 1 rfl) ?_
        have hPc : va_P D vwCl [(aR, .inr (6, [.ref aT, .int R_in, .int R_streak, .int R_lot])), (aT, .inr (1, [.ref aT_slips, .ref aT_lates, .ref aT_copied, .int T_size, .int T_littleOnes]))] H := hP.sub [1, 2] rfl
        refine vp_callSi (va_Run.run (va_runV (As := [.int p1]) (rest := []) ⟨hx, hb, hml, hown, hts⟩ (c_X6_isIn l D cI cJ cZ cO aR aT aT_slips aT_lates aT_copied R_in R_streak R_lot T_size T_littleOnes p1 _ rfl) (cwV 1 hts gX9_stays_X6_isIn rfl rfl rfl (by decide +kernel) ⟨Nat.le_of_ble_eq_true rfl, Nat.le_of_ble_eq_true rfl⟩) ⟨fb_p, va_recv hK hP (ci := 6) (q0 := 1) rfl rfl, fun U hU hW => ⟨rfl, by rw [hU]; exact hPc, KK.warm hW hKK⟩⟩ rfl rfl hl.1 rfl (lv_room (Nat.le_of_ble_eq_true rfl)) dX9_stays_40 ⟨Nat.le_of_ble_eq_true rfl, Nat.le_of_ble_eq_true rfl⟩)) (fun r hr => ?_)
        obtain ⟨hr, hz8⟩ := hr
        replace hr := hr.symm
        subst hr
        refine lv_if_ne (tgt := 53) hx hb dX9_stays_43 (by decide) (fun c_9 => ?_) (fun c_9 => ?_)
        · replace h := if_n c_9 h
          refine lv_aload_n hx hb dX9_stays_53 rfl (lv_at hl 0 rfl) ?_
          refine va_get (D := D) (ci := 9) (v := .ref aC) (C := RX9) (T := TX9) (N := 9) hx hb hts inX9 hown hK hP 0 rfl rfl 7 (by decide) fl_67 (fun _ h9 => h9) rfl dX9_stays_54 ?_
          refine lv_aload_n hx hb dX9_stays_57 rfl (lv_at hl 0 rfl) ?_
          refine va_get (D := D) (ci := 9) (v := .ref aR) (C := RX9) (T := TX9) (N := 9) hx hb hts inX9 hown hK hP 0 rfl rfl 3 (by decide) fl_37 (fun _ h9 => h9) rfl dX9_stays_58 ?_
          refine lv_iload_n hx hb dX9_stays_61 rfl (lv_at hl 1 rfl) ?_
          obtain ⟨y10, qy10, h⟩ := ob_some h
          have hPc : va_P D vwCl [(aR, .inr (6, [.ref aT, .int R_in, .int R_streak, .int R_lot])), (aT, .inr (1, [.ref aT_slips, .ref aT_lates, .ref aT_copied, .int T_size, .int T_littleOnes])), (aT_copied, .inl (cI, 6, .inl T_copied))] H := hP.sub [1, 2, 5] rfl
          refine vp_callSi (va_Run.run (va_runV (As := [.int p1]) (rest := [.ref aC]) ⟨hx, hb, hml, hown, hts⟩ (c_X6_leaderOf l D cI cJ cZ cO aR aT aT_copied aT_slips aT_lates R_in R_streak R_lot T_size T_littleOnes T_copied p1 y10 qy10) (cwV 1 hts gX9_stays_X6_leaderOf rfl rfl rfl (by decide +kernel) ⟨Nat.le_of_ble_eq_true rfl, Nat.le_of_ble_eq_true rfl⟩) ⟨fb_p, va_recv hK hP (ci := 6) (q0 := 1) rfl rfl, fun U hU hW => ⟨rfl, by rw [hU]; exact hPc, KK.warm hW hKK⟩⟩ rfl rfl hl.1 rfl (lv_room (Nat.le_of_ble_eq_true rfl)) dX9_stays_62 ⟨Nat.le_of_ble_eq_true rfl, Nat.le_of_ble_eq_true rfl⟩)) (fun r hr => ?_)
          replace hr := hr.symm
          subst hr
          obtain ⟨y11, qy11, h⟩ := ob_some h
          have hPc : va_P D vwCl [(aR, .inr (6, [.ref aT, .int R_in, .int R_streak, .int R_lot])), (aT, .inr (1, [.ref aT_slips, .ref aT_lates, .ref aT_copied, .int T_size, .int T_littleOnes])), (aT_slips, .inl (cI, 6, .inl T_slips)), (aT_lates, .inl (cI, 6, .inl T_lates)), (aW, .inr (7, [.ref aW_figures, .int y3.2.1])), (aW_figures, .inl (cI, 9, .inl y3.2.2)), (aC, .inr (0, [.ref aT, .ref aR, .ref aW, .ref aC_byNumber]))] H := hP.sub [1, 2, 3, 4, 6, 7, 8] rfl
          refine vp_callSl (va_Run.run (va_runV (As := [.int y10]) (rest := []) ⟨hx, hb, hml, hown, hts⟩ (c_X0_leaderStays l D cI cJ cZ cO aR aT aT_slips aT_lates aW aW_figures aC aT_copied aC_byNumber R_in R_streak R_lot T_size T_littleOnes T_slips T_lates y3.2.1 y3.2.2 y10 y11 qy11) (cwV 1 hts gX9_stays_X0_leaderStays rfl rfl rfl (by decide +kernel) ⟨Nat.le_of_ble_eq_true rfl, Nat.le_of_ble_eq_true rfl⟩) ⟨fb_p, va_recv hK hP (ci := 0) (q0 := 8) rfl rfl, fun U hU hW => ⟨rfl, by rw [hU]; exact hPc, KK.warm hW hKK⟩⟩ rfl rfl hl.1 rfl (lv_room (Nat.le_of_ble_eq_true rfl)) dX9_stays_65 ⟨Nat.le_of_ble_eq_true rfl, Nat.le_of_ble_eq_true rfl⟩)) (fun r hr => ?_)
          replace hr := hr.symm
          subst hr
          refine lv_aload_n hx hb dX9_stays_68 rfl (lv_at hl 0 rfl) ?_
          refine va_get (D := D) (ci := 9) (v := .ref aW) (C := RX9) (T := TX9) (N := 9) hx hb hts inX9 hown hK hP 0 rfl rfl 6 (by decide) fl_58 (fun _ h9 => h9) rfl dX9_stays_69 ?_
          have hPc : va_P D vwCl [(aW, .inr (7, [.ref aW_figures, .int y3.2.1]))] H := hP.sub [6] rfl
          refine vp_callSi (va_Run.run (va_runV (As := []) (rest := [.long y11]) ⟨hx, hb, hml, hown, hts⟩ (c_X7_length l D cI cJ cZ cO aW aW_figures y3.2.1 _ rfl) (cwV 0 hts gX9_stays_X7_length rfl rfl rfl (by decide +kernel) ⟨Nat.le_of_ble_eq_true rfl, Nat.le_of_ble_eq_true rfl⟩) ⟨fb_p, va_recv hK hP (ci := 7) (q0 := 6) rfl rfl, fun U hU hW => ⟨rfl, by rw [hU]; exact hPc, KK.warm hW hKK⟩⟩ rfl rfl hl.1 rfl (lv_room (Nat.le_of_ble_eq_true rfl)) dX9_stays_72 ⟨Nat.le_of_ble_eq_true rfl, Nat.le_of_ble_eq_true rfl⟩)) (fun r hr => ?_)
          replace hr := hr.symm
          subst hr
          obtain ⟨y12, qy12, h⟩ := ob_some h
          have hPc : va_P D vwCl [] H := hP.sub [] rfl
          refine vp_callSl (va_Run.run (va_runS (As := [.int (f_X7_length y3.2.1)]) (rest := [.long y11]) ⟨hx, hb, hml, hown, hts⟩ (c_X9_powerOfTen l D cI cJ cZ cO (f_X7_length y3.2.1) y12 qy12) (cwS 1 hts gX9_stays_X9_powerOfTen rfl rfl rfl (by decide +kernel) ⟨Nat.le_of_ble_eq_true rfl, Nat.le_of_ble_eq_true rfl⟩) ⟨fb_p, fun U hU hW => ⟨rfl, by rw [hU]; exact hPc, KK.warm hW hKK⟩⟩ rfl rfl hl.1 rfl (lv_room (Nat.le_of_ble_eq_true rfl)) dX9_stays_75 ⟨Nat.le_of_ble_eq_true rfl, Nat.le_of_ble_eq_true rfl⟩)) (fun r hr => ?_)
          replace hr := hr.symm
          subst hr
          refine lv_iload_n hx hb dX9_stays_78 rfl (lv_at hl 3 rfl) ?_
          obtain ⟨y13, qy13, h⟩ := ob_some h
          have hPc : va_P D vwCl [] H := hP.sub [] rfl
          refine vp_callSl (va_Run.run (va_runS (As := [.long y11, .long y12, .int p3]) (rest := []) ⟨hx, hb, hml, hown, hts⟩ (c_X9_leastTerms l D cI cJ cZ cO y11 y12 p3 y13 qy13) (cwS 3 hts gX9_stays_X9_leastTerms rfl rfl rfl (by decide +kernel) ⟨Nat.le_of_ble_eq_true rfl, Nat.le_of_ble_eq_true rfl⟩) ⟨fb_p, fun U hU hW => ⟨rfl, by rw [hU]; exact hPc, KK.warm hW hKK⟩⟩ rfl rfl hl.1 rfl (lv_room (Nat.le_of_ble_eq_true rfl)) dX9_stays_79 ⟨Nat.le_of_ble_eq_true rfl, Nat.le_of_ble_eq_true rfl⟩)) (fun r hr => ?_)
          replace hr := hr.symm
          subst hr
          have hy := Option.some.inj h
          subst hy
          exact W.lret (v := y13) hx hb hr (fun t ht hW => ⟨⟨y13, (), rfl, rfl, by rw [ht]; exact hP, hD⟩, hS.F ht⟩) hS.2.2 dX9_stays_82
        · replace h := if_p c_9 h
          refine lv_lconst (v := (0 : Int64)) hx hb dX9_stays_46 (by decide) ?_
          refine lv_lconst (v := (1 : Int64)) hx hb dX9_stays_47 (by decide) ?_
          refine lv_iload_n hx hb dX9_stays_48 rfl (lv_at hl 3 rfl) ?_
          obtain ⟨y14, qy14, h⟩ := ob_some h
          have hPc : va_P D vwCl [] H := hP.sub [] rfl
          refine vp_callSl (va_Run.run (va_runS (As := [.long (0 : Int64), .long (1 : Int64), .int p3]) (rest := []) ⟨hx, hb, hml, hown, hts⟩ (c_X9_leastTerms l D cI cJ cZ cO (0 : Int64) (1 : Int64) p3 y14 qy14) (cwS 3 hts gX9_stays_X9_leastTerms rfl rfl rfl (by decide +kernel) ⟨Nat.le_of_ble_eq_true rfl, Nat.le_of_ble_eq_true rfl⟩) ⟨fb_p, fun U hU hW => ⟨rfl, by rw [hU]; exact hPc, KK.warm hW hKK⟩⟩ rfl rfl hl.1 rfl (lv_room (Nat.le_of_ble_eq_true rfl)) dX9_stays_49 ⟨Nat.le_of_ble_eq_true rfl, Nat.le_of_ble_eq_true rfl⟩)) (fun r hr => ?_)
          replace hr := hr.symm
          subst hr
          have hy := Option.some.inj h
          subst hy
          exact W.lret (v := y14) hx hb hr (fun t ht hW => ⟨⟨y14, (), rfl, rfl, by rw [ht]; exact hP, hD⟩, hS.F ht⟩) hS.2.2 dX9_stays_52
      · replace h := if_p c_7 h
        refine lv_ldc2 (v := (-1 : Int64)) hx hb hown cst_191 dX9_stays_31 ?_
        have hy := Option.some.inj h
        subst hy
        exact W.lret (v := (-1 : Int64)) hx hb hr (fun t ht hW => ⟨⟨(-1 : Int64), (), rfl, rfl, by rw [ht]; exact hP, hD⟩, hS.F ht⟩) hS.2.2 dX9_stays_34

def f_X9_left (R_in : Int32) (R_streak : Int32) (T_size : Int32) (T_slips : Nat → Int32) (T_lates : Nat → Int32) (T_copied : Nat → Int32) (W_length : Int32) (W_figures : Nat → Int32) (p1 : Int32) (p2 : Int32) : Option (Int64 × Int32 × (Nat → Int32)) := (Option.bind (f_X7_read W_length W_figures p1 (3 : Int32)) (fun y1 => (if y1.1 = 0 then some ((-1 : Int64), y1.2.1, y1.2.2) else (if (f_X9_isHalf p2) = 0 then some ((-1 : Int64), y1.2.1, y1.2.2) else (Option.bind (f_X0_justOneStays R_in R_streak T_size T_slips T_lates T_copied y1.2.1 y1.2.2) (fun y6 => (Option.bind (f_X0_lower R_in T_size T_copied (f_X7_length y1.2.1)) (fun y7 => (Option.bind (f_X9_leastTerms y6 y7 p2) (fun y8 => some (y8, y1.2.1, y1.2.2)))))))))))
set_option maxHeartbeats 8000000 in
set_option maxRecDepth 100000 in
theorem c_X9_left (l : Launch) (D : va_G) (cI cJ cZ cO : ClassId) (aS : Nat) (aR : Nat) (aT : Nat) (aT_slips : Nat) (aT_lates : Nat) (aT_copied : Nat) (aW : Nat) (aW_figures : Nat) (aC : Nat) (aX : Nat) (aD : Nat) (aH : Nat) (aIM : Nat) (aK : Nat) (aC_byNumber : Nat) (R_in : Int32) (R_streak : Int32) (R_lot : Int32) (T_size : Int32) (T_littleOnes : Int32) (T_slips : Nat → Int32) (T_lates : Nat → Int32) (T_copied : Nat → Int32) (W_length : Int32) (W_figures : Nat → Int32) (sz : Nat) (p1 : Int32) (p2 : Int32)  (y0 : Int64 × Int32 × (Nat → Int32)) (h : f_X9_left R_in R_streak T_size T_slips T_lates T_copied W_length W_figures p1 p2 = some y0) : Met l yX9_left wsX9_left ({ frames := 5, cells := 0, slots := 0, locals := 123 } : Room) (va_Pc [.ref aS, .int p1, .int p2] (fun U => U.heap.size = sz ∧ va_P D vwCl [(aS, .inr (9, [.ref aX, .ref aD, .ref aT, .ref aR, .ref aH, .ref aIM, .ref aW, .ref aC, .ref aK])), (aR, .inr (6, [.ref aT, .int R_in, .int R_streak, .int R_lot])), (aT, .inr (1, [.ref aT_slips, .ref aT_lates, .ref aT_copied, .int T_size, .int T_littleOnes])), (aT_slips, .inl (cI, 6, .inl T_slips)), (aT_lates, .inl (cI, 6, .inl T_lates)), (aT_copied, .inl (cI, 6, .inl T_copied)), (aW, .inr (7, [.ref aW_figures, .int W_length])), (aW_figures, .inl (cI, 9, .inl W_figures)), (aC, .inr (0, [.ref aT, .ref aR, .ref aW, .ref aC_byNumber]))] U.heap ∧ KK D cI cJ cZ cO U ∧ va_D (fun _ => True) [(aS, .inr (9, [.ref aX, .ref aD, .ref aT, .ref aR, .ref aH, .ref aIM, .ref aW, .ref aC, .ref aK])), (aR, .inr (6, [.ref aT, .int R_in, .int R_streak, .int R_lot])), (aT, .inr (1, [.ref aT_slips, .ref aT_lates, .ref aT_copied, .int T_size, .int T_littleOnes])), (aT_slips, .inl (cI, 6, .inl T_slips)), (aT_lates, .inl (cI, 6, .inl T_lates)), (aT_copied, .inl (cI, 6, .inl T_copied)), (aW, .inr (7, [.ref aW_figures, .int W_length])), (aW_figures, .inl (cI, 9, .inl W_figures)), (aC, .inr (0, [.ref aT, .ref aR, .ref aW, .ref aC_byNumber]))])) (va_Ql (fun (r : Int64) (_ : Unit) => r = y0.1) (fun (_ : Unit) t => va_P D vwCl [(aS, .inr (9, [.ref aX, .ref aD, .ref aT, .ref aR, .ref aH, .ref aIM, .ref aW, .ref aC, .ref aK])), (aR, .inr (6, [.ref aT, .int R_in, .int R_streak, .int R_lot])), (aT, .inr (1, [.ref aT_slips, .ref aT_lates, .ref aT_copied, .int T_size, .int T_littleOnes])), (aT_slips, .inl (cI, 6, .inl T_slips)), (aT_lates, .inl (cI, 6, .inl T_lates)), (aT_copied, .inl (cI, 6, .inl T_copied)), (aW, .inr (7, [.ref aW_figures, .int y0.2.1])), (aW_figures, .inl (cI, 9, .inl y0.2.2)), (aC, .inr (0, [.ref aT, .ref aR, .ref aW, .ref aC_byNumber]))] t.heap ∧ va_D (va_A [(aS, .inr (9, [.ref aX, .ref aD, .ref aT, .ref aR, .ref aH, .ref aIM, .ref aW, .ref aC, .ref aK])), (aR, .inr (6, [.ref aT, .int R_in, .int R_streak, .int R_lot])), (aT, .inr (1, [.ref aT_slips, .ref aT_lates, .ref aT_copied, .int T_size, .int T_littleOnes])), (aT_slips, .inl (cI, 6, .inl T_slips)), (aT_lates, .inl (cI, 6, .inl T_lates)), (aT_copied, .inl (cI, 6, .inl T_copied)), (aW, .inr (7, [.ref aW_figures, .int W_length])), (aW_figures, .inl (cI, 9, .inl W_figures)), (aC, .inr (0, [.ref aT, .ref aR, .ref aW, .ref aC_byNumber]))] sz) [(aS, .inr (9, [.ref aX, .ref aD, .ref aT, .ref aR, .ref aH, .ref aIM, .ref aW, .ref aC, .ref aK])), (aR, .inr (6, [.ref aT, .int R_in, .int R_streak, .int R_lot])), (aT, .inr (1, [.ref aT_slips, .ref aT_lates, .ref aT_copied, .int T_size, .int T_littleOnes])), (aT_slips, .inl (cI, 6, .inl T_slips)), (aT_lates, .inl (cI, 6, .inl T_lates)), (aT_copied, .inl (cI, 6, .inl T_copied)), (aW, .inr (7, [.ref aW_figures, .int y0.2.1])), (aW_figures, .inl (cI, 9, .inl y0.2.2)), (aC, .inr (0, [.ref aT, .ref aR, .ref aW, .ref aC_byNumber]))]) (va_A [(aS, .inr (9, [.ref aX, .ref aD, .ref aT, .ref aR, .ref aH, .ref aIM, .ref aW, .ref aC, .ref aK])), (aR, .inr (6, [.ref aT, .int R_in, .int R_streak, .int R_lot])), (aT, .inr (1, [.ref aT_slips, .ref aT_lates, .ref aT_copied, .int T_size, .int T_littleOnes])), (aT_slips, .inl (cI, 6, .inl T_slips)), (aT_lates, .inl (cI, 6, .inl T_lates)), (aT_copied, .inl (cI, 6, .inl T_copied)), (aW, .inr (7, [.ref aW_figures, .int W_length])), (aW_figures, .inl (cI, 9, .inl W_figures)), (aC, .inr (0, [.ref aT, .ref aR, .ref aW, .ref aC_byNumber]))] sz)) 0 0 (va_A [(aS, .inr (9, [.ref aX, .ref aD, .ref aT, .ref aR, .ref aH, .ref aIM, .ref aW, .ref aC, .ref aK])), (aR, .inr (6, [.ref aT, .int R_in, .int R_streak, .int R_lot])), (aT, .inr (1, [.ref aT_slips, .ref aT_lates, .ref aT_copied, .int T_size, .int T_littleOnes])), (aT_slips, .inl (cI, 6, .inl T_slips)), (aT_lates, .inl (cI, 6, .inl T_lates)), (aT_copied, .inl (cI, 6, .inl T_copied)), (aW, .inr (7, [.ref aW_figures, .int W_length])), (aW_figures, .inl (cI, 9, .inl W_figures)), (aC, .inr (0, [.ref aT, .ref aR, .ref aW, .ref aC_byNumber]))] sz) := by
  refine Met.ofW (cc := cX9_left) (maxL := 3) (ret := (some .long)) (by decide) rfl ?_
  intro p e s m args below meth c s₁ B hml hv
  obtain ⟨rfl, hsz, hP, hKK, hD0⟩ := hv
  have hx := B.exec
  have hb := B.bytes
  have hr := B.returns
  have hts := atoms_spec (ws := wsX9_left) B.pre
  have hown : s.vm.findClass RX9 = some m.cls := findClass_of_methodNamed B.named
  have hlocks := B.notSynchronized
  have hK := hKK.1
  have fl_58 := hts (.fieldLink RX9 58 "SimonSays" "asked" "LSimonSays$Row;") (by decide +kernel)
  have fl_67 := hts (.fieldLink RX9 67 "SimonSays" "chances" "LSimonSays$Chances;") (by decide +kernel)
  have cst_191 := hts (.constantLong RX9 191 (-1)) (by decide +kernel)
  have inX9 : ∀ w ∈ wsX90, w ∈ wsX9_left := by decide +kernel
  subst hsz
  have hD := hD0.self (sz := s.heap.size)
  generalize hAe : va_A [(aS, .inr (9, [.ref aX, .ref aD, .ref aT, .ref aR, .ref aH, .ref aIM, .ref aW, .ref aC, .ref aK])), (aR, .inr (6, [.ref aT, .int R_in, .int R_streak, .int R_lot])), (aT, .inr (1, [.ref aT_slips, .ref aT_lates, .ref aT_copied, .int T_size, .int T_littleOnes])), (aT_slips, .inl (cI, 6, .inl T_slips)), (aT_lates, .inl (cI, 6, .inl T_lates)), (aT_copied, .inl (cI, 6, .inl T_copied)), (aW, .inr (7, [.ref aW_figures, .int W_length])), (aW_figures, .inl (cI, 9, .inl W_figures)), (aC, .inr (0, [.ref aT, .ref aR, .ref aW, .ref aC_byNumber]))] s.heap.size = A at hD ⊢
  have hA : ∀ q : Nat, s.heap.size ≤ q → A q := fun q h => by rw [← hAe]; exact Or.inr h
  have hS : va_S A s.heap s.heap [] := va_S.rf
  have hl := lv_entry ([.ref aS, .int p1, .int p2]) (n := 3) (Nat.le_of_ble_eq_true rfl)
  rw [lg_entry_eq]
  generalize (lg_sl ([.ref aS, .int p1, .int p2]) ++ List.replicate (3 - (lg_sl ([.ref aS, .int p1, .int p2])).length) Slot.unset).toArray = ls at hl ⊢
  have hl : lv_has ls 3 [(0, .ref aS), (1, .int p1), (2, .int p2)] := hl
  unfold f_X9_left at h
  refine lv_aload_n hx hb dX9_left_0 rfl (lv_at hl 0 rfl) ?_
  refine va_get (D := D) (ci := 9) (v := .ref aW) (C := RX9) (T := TX9) (N := 9) hx hb hts inX9 hown hK hP 0 rfl rfl 6 (by decide) fl_58 (fun _ h9 => h9) rfl dX9_left_1 ?_
  refine lv_iload_n hx hb dX9_left_4 rfl (lv_at hl 1 rfl) ?_
  refine lv_iconst (v := (3 : Int32)) hx hb dX9_left_5 (by decide) ?_
  obtain ⟨y1, qy1, h⟩ := ob_some h
  have hPc : va_P D vwCl [(aW, .inr (7, [.ref aW_figures, .int W_length])), (aW_figures, .inl (cI, 9, .inl W_figures))] s.heap := hP.sub [6, 7] rfl
  have hDc : va_D A [(aW, .inr (7, [.ref aW_figures, .int W_length])), (aW_figures, .inl (cI, 9, .inl W_figures))] := hD.sub [6, 7] (by decide) rfl
  have hFc := va_free (wc := [(aW, .inr (7, [.ref aW_figures, .int W_length])), (aW_figures, .inl (cI, 9, .inl W_figures))]) hD hS hA [6, 7] rfl
  refine va_calli (va_runV (As := [.int p1, .int (3 : Int32)]) (rest := []) ⟨hx, hb, hml, hown, hts⟩ (c_X7_read l D cI cJ cZ cO aW aW_figures W_length W_figures s.heap.size p1 (3 : Int32) y1 qy1) (cwV 2 hts gX9_left_X7_read rfl rfl rfl (by decide +kernel) ⟨Nat.le_of_ble_eq_true rfl, Nat.le_of_ble_eq_true rfl⟩) ⟨fb_i, va_recv hK hP (ci := 7) (q0 := 6) rfl rfl, fun U hU hW => ⟨rfl, by rw [hU], by rw [hU]; exact hPc, KK.warm hW hKK, hDc.weaken (fun _ _ _ _ => trivial)⟩⟩ rfl rfl hl.1 rfl (lv_room (Nat.le_of_ble_eq_true rfl)) dX9_left_6 ⟨Nat.le_of_ble_eq_true rfl, Nat.le_of_ble_eq_true rfl⟩) hS (fun q _ h => hFc q h) hFc (fun r u t H1 locs ht hvm hw hB hz1 hk1 hS => ?_)
  obtain ⟨hP1, hD1⟩ := hB
  rw [ht] at hP1
  obtain ⟨hw, hz2⟩ := hw
  replace hw := hw.symm
  subst hw
  obtain ⟨hP, hD⟩ := va_join (wr := [(aS, .inr (9, [.ref aX, .ref aD, .ref aT, .ref aR, .ref aH, .ref aIM, .ref aW, .ref aC, .ref aK])), (aR, .inr (6, [.ref aT, .int R_in, .int R_streak, .int R_lot])), (aT, .inr (1, [.ref aT_slips, .ref aT_lates, .ref aT_copied, .int T_size, .int T_littleOnes])), (aT_slips, .inl (cI, 6, .inl T_slips)), (aT_lates, .inl (cI, 6, .inl T_lates)), (aT_copied, .inl (cI, 6, .inl T_copied)), (aC, .inr (0, [.ref aT, .ref aR, .ref aW, .ref aC_byNumber]))]) (w1 := [(aW, .inr (7, [.ref aW_figures, .int y1.2.1])), (aW_figures, .inl (cI, 9, .inl y1.2.2))]) hP hD [6, 7] [0, 1, 2, 3, 4, 5, 8] rfl rfl (by decide) (by decide) hk1 hFc hP1 hD1
  generalize H1 = H at hP hS ⊢
  have hP : va_P D vwCl [(aS, .inr (9, [.ref aX, .ref aD, .ref aT, .ref aR, .ref aH, .ref aIM, .ref aW, .ref aC, .ref aK])), (aR, .inr (6, [.ref aT, .int R_in, .int R_streak, .int R_lot])), (aT, .inr (1, [.ref aT_slips, .ref aT_lates, .ref aT_copied, .int T_size, .int T_littleOnes])), (aT_slips, .inl (cI, 6, .inl T_slips)), (aT_lates, .inl (cI, 6, .inl T_lates)), (aT_copied, .inl (cI, 6, .inl T_copied)), (aW, .inr (7, [.ref aW_figures, .int y1.2.1])), (aW_figures, .inl (cI, 9, .inl y1.2.2)), (aC, .inr (0, [.ref aT, .ref aR, .ref aW, .ref aC_byNumber]))] H := hP.sub [0, 1, 2, 3, 4, 5, 7, 8, 6] rfl
  have hD : va_D A [(aS, .inr (9, [.ref aX, .ref aD, .ref aT, .ref aR, .ref aH, .ref aIM, .ref aW, .ref aC, .ref aK])), (aR, .inr (6, [.ref aT, .int R_in, .int R_streak, .int R_lot])), (aT, .inr (1, [.ref aT_slips, .ref aT_lates, .ref aT_copied, .int T_size, .int T_littleOnes])), (aT_slips, .inl (cI, 6, .inl T_slips)), (aT_lates, .inl (cI, 6, .inl T_lates)), (aT_copied, .inl (cI, 6, .inl T_copied)), (aW, .inr (7, [.ref aW_figures, .int y1.2.1])), (aW_figures, .inl (cI, 9, .inl y1.2.2)), (aC, .inr (0, [.ref aT, .ref aR, .ref aW, .ref aC_byNumber]))] := hD.sub [0, 1, 2, 3, 4, 5, 7, 8, 6] (by decide) rfl
  refine lv_if_eq (tgt := 19) hx hb dX9_left_9 (by decide) (fun c_3 => ?_) (fun c_3 => ?_)
  · replace h := if_p c_3 h
    refine lv_ldc2 (v := (-1 : Int64)) hx hb hown cst_191 dX9_left_19 ?_
    have hy := Option.some.inj h
    subst hy
    exact W.lret (v := (-1 : Int64)) hx hb hr (fun t ht hW => ⟨⟨(-1 : Int64), (), rfl, rfl, by rw [ht]; exact hP, hD⟩, hS.F ht⟩) hS.2.2 dX9_left_22
  · replace h := if_n c_3 h
    refine lv_iload_n hx hb dX9_left_12 rfl (lv_at hl 2 rfl) ?_
    have hPc : va_P D vwCl [] H := hP.sub [] rfl
    refine vp_callSi (va_Run.run (va_runS (As := [.int p2]) (rest := []) ⟨hx, hb, hml, hown, hts⟩ (c_X9_isHalf l D cI cJ cZ cO p2 _ rfl) (cwS 1 hts gX9_left_X9_isHalf rfl rfl rfl (by decide +kernel) ⟨Nat.le_of_ble_eq_true rfl, Nat.le_of_ble_eq_true rfl⟩) ⟨fb_p, fun U hU hW => ⟨rfl, by rw [hU]; exact hPc, KK.warm hW hKK⟩⟩ rfl rfl hl.1 rfl (lv_room (Nat.le_of_ble_eq_true rfl)) dX9_left_13 ⟨Nat.le_of_ble_eq_true rfl, Nat.le_of_ble_eq_true rfl⟩)) (fun r hr => ?_)
    obtain ⟨hr, hz4⟩ := hr
    replace hr := hr.symm
    subst hr
    refine lv_if_ne (tgt := 23) hx hb dX9_left_16 (by decide) (fun c_5 => ?_) (fun c_5 => ?_)
    · replace h := if_n c_5 h
      refine lv_aload_n hx hb dX9_left_23 rfl (lv_at hl 0 rfl) ?_
      refine va_get (D := D) (ci := 9) (v := .ref aC) (C := RX9) (T := TX9) (N := 9) hx hb hts inX9 hown hK hP 0 rfl rfl 7 (by decide) fl_67 (fun _ h9 => h9) rfl dX9_left_24 ?_
      obtain ⟨y6, qy6, h⟩ := ob_some h
      have hPc : va_P D vwCl [(aR, .inr (6, [.ref aT, .int R_in, .int R_streak, .int R_lot])), (aT, .inr (1, [.ref aT_slips, .ref aT_lates, .ref aT_copied, .int T_size, .int T_littleOnes])), (aT_slips, .inl (cI, 6, .inl T_slips)), (aT_lates, .inl (cI, 6, .inl T_lates)), (aT_copied, .inl (cI, 6, .inl T_copied)), (aW, .inr (7, [.ref aW_figures, .int y1.2.1])), (aW_figures, .inl (cI, 9, .inl y1.2.2)), (aC, .inr (0, [.ref aT, .ref aR, .ref aW, .ref aC_byNumber]))] H := hP.sub [1, 2, 3, 4, 5, 6, 7, 8] rfl
      refine vp_callSl (va_Run.run (va_runV (As := []) (rest := []) ⟨hx, hb, hml, hown, hts⟩ (c_X0_justOneStays l D cI cJ cZ cO aR aT aT_slips aT_lates aT_copied aW aW_figures aC aC_byNumber R_in R_streak R_lot T_size T_littleOnes T_slips T_lates T_copied y1.2.1 y1.2.2 y6 qy6) (cwV 0 hts gX9_left_X0_justOneStays rfl rfl rfl (by decide +kernel) ⟨Nat.le_of_ble_eq_true rfl, Nat.le_of_ble_eq_true rfl⟩) ⟨fb_p, va_recv hK hP (ci := 0) (q0 := 8) rfl rfl, fun U hU hW => ⟨rfl, by rw [hU]; exact hPc, KK.warm hW hKK⟩⟩ rfl rfl hl.1 rfl (lv_room (Nat.le_of_ble_eq_true rfl)) dX9_left_27 ⟨Nat.le_of_ble_eq_true rfl, Nat.le_of_ble_eq_true rfl⟩)) (fun r hr => ?_)
      replace hr := hr.symm
      subst hr
      refine lv_aload_n hx hb dX9_left_30 rfl (lv_at hl 0 rfl) ?_
      refine va_get (D := D) (ci := 9) (v := .ref aC) (C := RX9) (T := TX9) (N := 9) hx hb hts inX9 hown hK hP 0 rfl rfl 7 (by decide) fl_67 (fun _ h9 => h9) rfl dX9_left_31 ?_
      refine lv_aload_n hx hb dX9_left_34 rfl (lv_at hl 0 rfl) ?_
      refine va_get (D := D) (ci := 9) (v := .ref aW) (C := RX9) (T := TX9) (N := 9) hx hb hts inX9 hown hK hP 0 rfl rfl 6 (by decide) fl_58 (fun _ h9 => h9) rfl dX9_left_35 ?_
      have hPc : va_P D vwCl [(aW, .inr (7, [.ref aW_figures, .int y1.2.1]))] H := hP.sub [6] rfl
      refine vp_callSi (va_Run.run (va_runV (As := []) (rest := [.ref aC, .long y6]) ⟨hx, hb, hml, hown, hts⟩ (c_X7_length l D cI cJ cZ cO aW aW_figures y1.2.1 _ rfl) (cwV 0 hts gX9_left_X7_length rfl rfl rfl (by decide +kernel) ⟨Nat.le_of_ble_eq_true rfl, Nat.le_of_ble_eq_true rfl⟩) ⟨fb_p, va_recv hK hP (ci := 7) (q0 := 6) rfl rfl, fun U hU hW => ⟨rfl, by rw [hU]; exact hPc, KK.warm hW hKK⟩⟩ rfl rfl hl.1 rfl (lv_room (Nat.le_of_ble_eq_true rfl)) dX9_left_38 ⟨Nat.le_of_ble_eq_true rfl, Nat.le_of_ble_eq_true rfl⟩)) (fun r hr => ?_)
      replace hr := hr.symm
      subst hr
      obtain ⟨y7, qy7, h⟩ := ob_some h
      have hPc : va_P D vwCl [(aR, .inr (6, [.ref aT, .int R_in, .int R_streak, .int R_lot])), (aT, .inr (1, [.ref aT_slips, .ref aT_lates, .ref aT_copied, .int T_size, .int T_littleOnes])), (aT_copied, .inl (cI, 6, .inl T_copied)), (aC, .inr (0, [.ref aT, .ref aR, .ref aW, .ref aC_byNumber]))] H := hP.sub [1, 2, 5, 8] rfl
      refine vp_callSl (va_Run.run (va_runV (As := [.int (f_X7_length y1.2.1)]) (rest := [.long y6]) ⟨hx, hb, hml, hown, hts⟩ (c_X0_lower l D cI cJ cZ cO aR aT aT_copied aC aT_slips aT_lates aW aC_byNumber R_in R_streak R_lot T_size T_littleOnes T_copied (f_X7_length y1.2.1) y7 qy7) (cwV 1 hts gX9_left_X0_lower rfl rfl rfl (by decide +kernel) ⟨Nat.le_of_ble_eq_true rfl, Nat.le_of_ble_eq_true rfl⟩) ⟨fb_p, va_recv hK hP (ci := 0) (q0 := 8) rfl rfl, fun U hU hW => ⟨rfl, by rw [hU]; exact hPc, KK.warm hW hKK⟩⟩ rfl rfl hl.1 rfl (lv_room (Nat.le_of_ble_eq_true rfl)) dX9_left_41 ⟨Nat.le_of_ble_eq_true rfl, Nat.le_of_ble_eq_true rfl⟩)) (fun r hr => ?_)
      replace hr := hr.symm
      subst hr
      refine lv_iload_n hx hb dX9_left_44 rfl (lv_at hl 2 rfl) ?_
      obtain ⟨y8, qy8, h⟩ := ob_some h
      have hPc : va_P D vwCl [] H := hP.sub [] rfl
      refine vp_callSl (va_Run.run (va_runS (As := [.long y6, .long y7, .int p2]) (rest := []) ⟨hx, hb, hml, hown, hts⟩ (c_X9_leastTerms l D cI cJ cZ cO y6 y7 p2 y8 qy8) (cwS 3 hts gX9_left_X9_leastTerms rfl rfl rfl (by decide +kernel) ⟨Nat.le_of_ble_eq_true rfl, Nat.le_of_ble_eq_true rfl⟩) ⟨fb_p, fun U hU hW => ⟨rfl, by rw [hU]; exact hPc, KK.warm hW hKK⟩⟩ rfl rfl hl.1 rfl (lv_room (Nat.le_of_ble_eq_true rfl)) dX9_left_45 ⟨Nat.le_of_ble_eq_true rfl, Nat.le_of_ble_eq_true rfl⟩)) (fun r hr => ?_)
      replace hr := hr.symm
      subst hr
      have hy := Option.some.inj h
      subst hy
      exact W.lret (v := y8) hx hb hr (fun t ht hW => ⟨⟨y8, (), rfl, rfl, by rw [ht]; exact hP, hD⟩, hS.F ht⟩) hS.2.2 dX9_left_48
    · replace h := if_p c_5 h
      refine lv_ldc2 (v := (-1 : Int64)) hx hb hown cst_191 dX9_left_19 ?_
      have hy := Option.some.inj h
      subst hy
      exact W.lret (v := (-1 : Int64)) hx hb hr (fun t ht hW => ⟨⟨(-1 : Int64), (), rfl, rfl, by rw [ht]; exact hP, hD⟩, hS.F ht⟩) hS.2.2 dX9_left_22

def f_X9_best (R_in : Int32) (R_streak : Int32) (T_size : Int32) (T_slips : Nat → Int32) (T_lates : Nat → Int32) (T_copied : Nat → Int32) (W_length : Int32) (W_figures : Nat → Int32) (p1 : Int32) : Option (Int32 × Int32 × (Nat → Int32)) := (if p1 < 0 then some ((-1 : Int32), W_length, W_figures) else (if p1 ≤ (3 : Int32) then (Option.bind (f_X0_bestRow R_in R_streak T_size T_slips T_lates T_copied W_length W_figures p1) (fun y3 => some (y3.1, y3.2.1, y3.2.2))) else some ((-1 : Int32), W_length, W_figures)))
set_option maxHeartbeats 8000000 in
set_option maxRecDepth 100000 in
theorem c_X9_best (l : Launch) (D : va_G) (cI cJ cZ cO : ClassId) (aS : Nat) (aR : Nat) (aT : Nat) (aT_slips : Nat) (aT_lates : Nat) (aT_copied : Nat) (aW : Nat) (aW_figures : Nat) (aC : Nat) (aX : Nat) (aD : Nat) (aH : Nat) (aIM : Nat) (aK : Nat) (aC_byNumber : Nat) (R_in : Int32) (R_streak : Int32) (R_lot : Int32) (T_size : Int32) (T_littleOnes : Int32) (T_slips : Nat → Int32) (T_lates : Nat → Int32) (T_copied : Nat → Int32) (W_length : Int32) (W_figures : Nat → Int32) (sz : Nat) (p1 : Int32)  (y0 : Int32 × Int32 × (Nat → Int32)) (h : f_X9_best R_in R_streak T_size T_slips T_lates T_copied W_length W_figures p1 = some y0) : Met l yX9_best wsX9_best ({ frames := 6, cells := 0, slots := 0, locals := 151 } : Room) (va_Pc [.ref aS, .int p1] (fun U => U.heap.size = sz ∧ va_P D vwCl [(aS, .inr (9, [.ref aX, .ref aD, .ref aT, .ref aR, .ref aH, .ref aIM, .ref aW, .ref aC, .ref aK])), (aR, .inr (6, [.ref aT, .int R_in, .int R_streak, .int R_lot])), (aT, .inr (1, [.ref aT_slips, .ref aT_lates, .ref aT_copied, .int T_size, .int T_littleOnes])), (aT_slips, .inl (cI, 6, .inl T_slips)), (aT_lates, .inl (cI, 6, .inl T_lates)), (aT_copied, .inl (cI, 6, .inl T_copied)), (aW, .inr (7, [.ref aW_figures, .int W_length])), (aW_figures, .inl (cI, 9, .inl W_figures)), (aC, .inr (0, [.ref aT, .ref aR, .ref aW, .ref aC_byNumber]))] U.heap ∧ KK D cI cJ cZ cO U ∧ va_D (fun _ => True) [(aS, .inr (9, [.ref aX, .ref aD, .ref aT, .ref aR, .ref aH, .ref aIM, .ref aW, .ref aC, .ref aK])), (aR, .inr (6, [.ref aT, .int R_in, .int R_streak, .int R_lot])), (aT, .inr (1, [.ref aT_slips, .ref aT_lates, .ref aT_copied, .int T_size, .int T_littleOnes])), (aT_slips, .inl (cI, 6, .inl T_slips)), (aT_lates, .inl (cI, 6, .inl T_lates)), (aT_copied, .inl (cI, 6, .inl T_copied)), (aW, .inr (7, [.ref aW_figures, .int W_length])), (aW_figures, .inl (cI, 9, .inl W_figures)), (aC, .inr (0, [.ref aT, .ref aR, .ref aW, .ref aC_byNumber]))])) (va_Qi (fun (r : Int32) (_ : Unit) => r = y0.1) (fun (_ : Unit) t => va_P D vwCl [(aS, .inr (9, [.ref aX, .ref aD, .ref aT, .ref aR, .ref aH, .ref aIM, .ref aW, .ref aC, .ref aK])), (aR, .inr (6, [.ref aT, .int R_in, .int R_streak, .int R_lot])), (aT, .inr (1, [.ref aT_slips, .ref aT_lates, .ref aT_copied, .int T_size, .int T_littleOnes])), (aT_slips, .inl (cI, 6, .inl T_slips)), (aT_lates, .inl (cI, 6, .inl T_lates)), (aT_copied, .inl (cI, 6, .inl T_copied)), (aW, .inr (7, [.ref aW_figures, .int y0.2.1])), (aW_figures, .inl (cI, 9, .inl y0.2.2)), (aC, .inr (0, [.ref aT, .ref aR, .ref aW, .ref aC_byNumber]))] t.heap ∧ va_D (va_A [(aS, .inr (9, [.ref aX, .ref aD, .ref aT, .ref aR, .ref aH, .ref aIM, .ref aW, .ref aC, .ref aK])), (aR, .inr (6, [.ref aT, .int R_in, .int R_streak, .int R_lot])), (aT, .inr (1, [.ref aT_slips, .ref aT_lates, .ref aT_copied, .int T_size, .int T_littleOnes])), (aT_slips, .inl (cI, 6, .inl T_slips)), (aT_lates, .inl (cI, 6, .inl T_lates)), (aT_copied, .inl (cI, 6, .inl T_copied)), (aW, .inr (7, [.ref aW_figures, .int W_length])), (aW_figures, .inl (cI, 9, .inl W_figures)), (aC, .inr (0, [.ref aT, .ref aR, .ref aW, .ref aC_byNumber]))] sz) [(aS, .inr (9, [.ref aX, .ref aD, .ref aT, .ref aR, .ref aH, .ref aIM, .ref aW, .ref aC, .ref aK])), (aR, .inr (6, [.ref aT, .int R_in, .int R_streak, .int R_lot])), (aT, .inr (1, [.ref aT_slips, .ref aT_lates, .ref aT_copied, .int T_size, .int T_littleOnes])), (aT_slips, .inl (cI, 6, .inl T_slips)), (aT_lates, .inl (cI, 6, .inl T_lates)), (aT_copied, .inl (cI, 6, .inl T_copied)), (aW, .inr (7, [.ref aW_figures, .int y0.2.1])), (aW_figures, .inl (cI, 9, .inl y0.2.2)), (aC, .inr (0, [.ref aT, .ref aR, .ref aW, .ref aC_byNumber]))]) (va_A [(aS, .inr (9, [.ref aX, .ref aD, .ref aT, .ref aR, .ref aH, .ref aIM, .ref aW, .ref aC, .ref aK])), (aR, .inr (6, [.ref aT, .int R_in, .int R_streak, .int R_lot])), (aT, .inr (1, [.ref aT_slips, .ref aT_lates, .ref aT_copied, .int T_size, .int T_littleOnes])), (aT_slips, .inl (cI, 6, .inl T_slips)), (aT_lates, .inl (cI, 6, .inl T_lates)), (aT_copied, .inl (cI, 6, .inl T_copied)), (aW, .inr (7, [.ref aW_figures, .int W_length])), (aW_figures, .inl (cI, 9, .inl W_figures)), (aC, .inr (0, [.ref aT, .ref aR, .ref aW, .ref aC_byNumber]))] sz)) 0 0 (va_A [(aS, .inr (9, [.ref aX, .ref aD, .ref aT, .ref aR, .ref aH, .ref aIM, .ref aW, .ref aC, .ref aK])), (aR, .inr (6, [.ref aT, .int R_in, .int R_streak, .int R_lot])), (aT, .inr (1, [.ref aT_slips, .ref aT_lates, .ref aT_copied, .int T_size, .int T_littleOnes])), (aT_slips, .inl (cI, 6, .inl T_slips)), (aT_lates, .inl (cI, 6, .inl T_lates)), (aT_copied, .inl (cI, 6, .inl T_copied)), (aW, .inr (7, [.ref aW_figures, .int W_length])), (aW_figures, .inl (cI, 9, .inl W_figures)), (aC, .inr (0, [.ref aT, .ref aR, .ref aW, .ref aC_byNumber]))] sz) := by
  refine Met.ofW (cc := cX9_best) (maxL := 2) (ret := (some .int)) (by decide) rfl ?_
  intro p e s m args below meth c s₁ B hml hv
  obtain ⟨rfl, hsz, hP, hKK, hD0⟩ := hv
  have hx := B.exec
  have hb := B.bytes
  have hr := B.returns
  have hts := atoms_spec (ws := wsX9_best) B.pre
  have hown : s.vm.findClass RX9 = some m.cls := findClass_of_methodNamed B.named
  have hlocks := B.notSynchronized
  have hK := hKK.1
  have fl_67 := hts (.fieldLink RX9 67 "SimonSays" "chances" "LSimonSays$Chances;") (by decide +kernel)
  have inX9 : ∀ w ∈ wsX90, w ∈ wsX9_best := by decide +kernel
  subst hsz
  have hD := hD0.self (sz := s.heap.size)
  generalize hAe : va_A [(aS, .inr (9, [.ref aX, .ref aD, .ref aT, .ref aR, .ref aH, .ref aIM, .ref aW, .ref aC, .ref aK])), (aR, .inr (6, [.ref aT, .int R_in, .int R_streak, .int R_lot])), (aT, .inr (1, [.ref aT_slips, .ref aT_lates, .ref aT_copied, .int T_size, .int T_littleOnes])), (aT_slips, .inl (cI, 6, .inl T_slips)), (aT_lates, .inl (cI, 6, .inl T_lates)), (aT_copied, .inl (cI, 6, .inl T_copied)), (aW, .inr (7, [.ref aW_figures, .int W_length])), (aW_figures, .inl (cI, 9, .inl W_figures)), (aC, .inr (0, [.ref aT, .ref aR, .ref aW, .ref aC_byNumber]))] s.heap.size = A at hD ⊢
  have hA : ∀ q : Nat, s.heap.size ≤ q → A q := fun q h => by rw [← hAe]; exact Or.inr h
  have hS : va_S A s.heap s.heap [] := va_S.rf
  have hl := lv_entry ([.ref aS, .int p1]) (n := 2) (Nat.le_of_ble_eq_true rfl)
  rw [lg_entry_eq]
  generalize (lg_sl ([.ref aS, .int p1]) ++ List.replicate (2 - (lg_sl ([.ref aS, .int p1])).length) Slot.unset).toArray = ls at hl ⊢
  have hl : lv_has ls 2 [(0, .ref aS), (1, .int p1)] := hl
  unfold f_X9_best at h
  refine lv_iload_n hx hb dX9_best_0 rfl (lv_at hl 1 rfl) ?_
  refine lv_if_lt (tgt := 9) hx hb dX9_best_1 (by decide) (fun c_1 => ?_) (fun c_1 => ?_)
  · replace h := if_p c_1 h
    refine lv_iconst (v := (-1 : Int32)) hx hb dX9_best_9 (by decide) ?_
    have hy := Option.some.inj h
    subst hy
    exact W.iret (v := (-1 : Int32)) hx hb hr (fun t ht hW => ⟨⟨(-1 : Int32), (), rfl, rfl, by rw [ht]; exact hP, hD⟩, hS.F ht⟩) hS.2.2 dX9_best_10
  · replace h := if_n c_1 h
    refine lv_iload_n hx hb dX9_best_4 rfl (lv_at hl 1 rfl) ?_
    refine lv_iconst (v := (3 : Int32)) hx hb dX9_best_5 (by decide) ?_
    refine lv_icmp_le (tgt := 11) hx hb dX9_best_6 (by decide) (fun c_2 => ?_) (fun c_2 => ?_)
    · replace h := if_p c_2 h
      refine lv_aload_n hx hb dX9_best_11 rfl (lv_at hl 0 rfl) ?_
      refine va_get (D := D) (ci := 9) (v := .ref aC) (C := RX9) (T := TX9) (N := 9) hx hb hts inX9 hown hK hP 0 rfl rfl 7 (by decide) fl_67 (fun _ h9 => h9) rfl dX9_best_12 ?_
      refine lv_iload_n hx hb dX9_best_15 rfl (lv_at hl 1 rfl) ?_
      obtain ⟨y3, qy3, h⟩ := ob_some h
      have hPc : va_P D vwCl [(aR, .inr (6, [.ref aT, .int R_in, .int R_streak, .int R_lot])), (aT, .inr (1, [.ref aT_slips, .ref aT_lates, .ref aT_copied, .int T_size, .int T_littleOnes])), (aT_slips, .inl (cI, 6, .inl T_slips)), (aT_lates, .inl (cI, 6, .inl T_lates)), (aT_copied, .inl (cI, 6, .inl T_copied)), (aW, .inr (7, [.ref aW_figures, .int W_length])), (aW_figures, .inl (cI, 9, .inl W_figures)), (aC, .inr (0, [.ref aT, .ref aR, .ref aW, .ref aC_byNumber]))] s.heap := hP.sub [1, 2, 3, 4, 5, 6, 7, 8] rfl
      have hDc : va_D A [(aR, .inr (6, [.ref aT, .int R_in, .int R_streak, .int R_lot])), (aT, .inr (1, [.ref aT_slips, .ref aT_lates, .ref aT_copied, .int T_size, .int T_littleOnes])), (aT_slips, .inl (cI, 6, .inl T_slips)), (aT_lates, .inl (cI, 6, .inl T_lates)), (aT_copied, .inl (cI, 6, .inl T_copied)), (aW, .inr (7, [.ref aW_figures, .int W_length])), (aW_figures, .inl (cI, 9, .inl W_figures)), (aC, .inr (0, [.ref aT, .ref aR, .ref aW, .ref aC_byNumber]))] := hD.sub [1, 2, 3, 4, 5, 6, 7, 8] (by decide) rfl
      have hFc := va_free (wc := [(aR, .inr (6, [.ref aT, .int R_in, .int R_streak, .int R_lot])), (aT, .inr (1, [.ref aT_slips, .ref aT_lates, .ref aT_copied, .int T_size, .int T_littleOnes])), (aT_slips, .inl (cI, 6, .inl T_slips)), (aT_lates, .inl (cI, 6, .inl T_lates)), (aT_copied, .inl (cI, 6, .inl T_copied)), (aW, .inr (7, [.ref aW_figures, .int W_length])), (aW_figures, .inl (cI, 9, .inl W_figures)), (aC, .inr (0, [.ref aT, .ref aR, .ref aW, .ref aC_byNumber]))]) hD hS hA [1, 2, 3, 4, 5, 6, 7, 8] rfl
      refine va_calli (va_runV (As := [.int p1]) (rest := []) ⟨hx, hb, hml, hown, hts⟩ (c_X0_bestRow l D cI cJ cZ cO aR aT aT_slips aT_lates aT_copied aW aW_figures aC aC_byNumber R_in R_streak R_lot T_size T_littleOnes T_slips T_lates T_copied W_length W_figures s.heap.size p1 y3 qy3) (cwV 1 hts gX9_best_X0_bestRow rfl rfl rfl (by decide +kernel) ⟨Nat.le_of_ble_eq_true rfl, Nat.le_of_ble_eq_true rfl⟩) ⟨fb_i, va_recv hK hP (ci := 0) (q0 := 8) rfl rfl, fun U hU hW => ⟨rfl, by rw [hU], by rw [hU]; exact hPc, KK.warm hW hKK, hDc.weaken (fun _ _ _ _ => trivial)⟩⟩ rfl rfl hl.1 rfl (lv_room (Nat.le_of_ble_eq_true rfl)) dX9_best_16 ⟨Nat.le_of_ble_eq_true rfl, Nat.le_of_ble_eq_true rfl⟩) hS (fun q _ h => hFc q h) hFc (fun r u t H1 locs ht hvm hw hB hz1 hk1 hS => ?_)
      obtain ⟨hP1, hD1⟩ := hB
      rw [ht] at hP1
      replace hw := hw.symm
      subst hw
      obtain ⟨hP, hD⟩ := va_join (wr := [(aS, .inr (9, [.ref aX, .ref aD, .ref aT, .ref aR, .ref aH, .ref aIM, .ref aW, .ref aC, .ref aK]))]) (w1 := [(aR, .inr (6, [.ref aT, .int R_in, .int R_streak, .int R_lot])), (aT, .inr (1, [.ref aT_slips, .ref aT_lates, .ref aT_copied, .int T_size, .int T_littleOnes])), (aT_slips, .inl (cI, 6, .inl T_slips)), (aT_lates, .inl (cI, 6, .inl T_lates)), (aT_copied, .inl (cI, 6, .inl T_copied)), (aW, .inr (7, [.ref aW_figures, .int y3.2.1])), (aW_figures, .inl (cI, 9, .inl y3.2.2)), (aC, .inr (0, [.ref aT, .ref aR, .ref aW, .ref aC_byNumber]))]) hP hD [1, 2, 3, 4, 5, 6, 7, 8] [0] rfl rfl (by decide) (by decide) hk1 hFc hP1 hD1
      generalize H1 = H at hP hS ⊢
      have hP : va_P D vwCl [(aS, .inr (9, [.ref aX, .ref aD, .ref aT, .ref aR, .ref aH, .ref aIM, .ref aW, .ref aC, .ref aK])), (aR, .inr (6, [.ref aT, .int R_in, .int R_streak, .int R_lot])), (aT, .inr (1, [.ref aT_slips, .ref aT_lates, .ref aT_copied, .int T_size, .int T_littleOnes])), (aT_slips, .inl (cI, 6, .inl T_slips)), (aT_lates, .inl (cI, 6, .inl T_lates)), (aT_copied, .inl (cI, 6, .inl T_copied)), (aW, .inr (7, [.ref aW_figures, .int y3.2.1])), (aW_figures, .inl (cI, 9, .inl y3.2.2)), (aC, .inr (0, [.ref aT, .ref aR, .ref aW, .ref aC_byNumber]))] H := hP.sub [0, 1, 2, 3, 4, 5, 6, 7, 8] rfl
      have hD : va_D A [(aS, .inr (9, [.ref aX, .ref aD, .ref aT, .ref aR, .ref aH, .ref aIM, .ref aW, .ref aC, .ref aK])), (aR, .inr (6, [.ref aT, .int R_in, .int R_streak, .int R_lot])), (aT, .inr (1, [.ref aT_slips, .ref aT_lates, .ref aT_copied, .int T_size, .int T_littleOnes])), (aT_slips, .inl (cI, 6, .inl T_slips)), (aT_lates, .inl (cI, 6, .inl T_lates)), (aT_copied, .inl (cI, 6, .inl T_copied)), (aW, .inr (7, [.ref aW_figures, .int y3.2.1])), (aW_figures, .inl (cI, 9, .inl y3.2.2)), (aC, .inr (0, [.ref aT, .ref aR, .ref aW, .ref aC_byNumber]))] := hD.sub [0, 1, 2, 3, 4, 5, 6, 7, 8] (by decide) rfl
      have hy := Option.some.inj h
      subst hy
      exact W.iret (v := y3.1) hx hb hr (fun t ht hW => ⟨⟨y3.1, (), rfl, rfl, by rw [ht]; exact hP, hD⟩, hS.F ht⟩) hS.2.2 dX9_best_19
    · replace h := if_n c_2 h
      refine lv_iconst (v := (-1 : Int32)) hx hb dX9_best_9 (by decide) ?_
      have hy := Option.some.inj h
      subst hy
      exact W.iret (v := (-1 : Int32)) hx hb hr (fun t ht hW => ⟨⟨(-1 : Int32), (), rfl, rfl, by rw [ht]; exact hP, hD⟩, hS.F ht⟩) hS.2.2 dX9_best_10

def f_X9_lure (R_in : Int32) (R_streak : Int32) (T_size : Int32) (T_slips : Nat → Int32) (T_lates : Nat → Int32) (T_copied : Nat → Int32) (p1 : Int32) (p2 : Int32) : Option (Int32) := (if (f_X1_has T_size p1) = 0 then some (-1 : Int32) else (if p2 < 0 then some (-1 : Int32) else (if p2 ≤ (10 : Int32) then (if (f_X6_isIn R_in T_size p1) = 0 then some (-9 : Int32) else (Option.bind (f_X6_fewestSaidAhead R_in R_streak T_size T_slips T_lates T_copied p1 p2) (fun y7 => some y7))) else some (-1 : Int32))))
set_option maxHeartbeats 8000000 in
set_option maxRecDepth 100000 in
theorem c_X9_lure (l : Launch) (D : va_G) (cI cJ cZ cO : ClassId) (aS : Nat) (aR : Nat) (aT : Nat) (aT_slips : Nat) (aT_lates : Nat) (aT_copied : Nat) (aX : Nat) (aD : Nat) (aH : Nat) (aIM : Nat) (aW : Nat) (aC : Nat) (aK : Nat) (R_in : Int32) (R_streak : Int32) (R_lot : Int32) (T_size : Int32) (T_littleOnes : Int32) (T_slips : Nat → Int32) (T_lates : Nat → Int32) (T_copied : Nat → Int32)  (p1 : Int32) (p2 : Int32)  (y0 : Int32) (h : f_X9_lure R_in R_streak T_size T_slips T_lates T_copied p1 p2 = some y0) : Met l yX9_lure wsX9_lure ({ frames := 4, cells := 0, slots := 0, locals := 91 } : Room) (va_Pc [.ref aS, .int p1, .int p2] (fun U => va_P D vwCl [(aS, .inr (9, [.ref aX, .ref aD, .ref aT, .ref aR, .ref aH, .ref aIM, .ref aW, .ref aC, .ref aK])), (aR, .inr (6, [.ref aT, .int R_in, .int R_streak, .int R_lot])), (aT, .inr (1, [.ref aT_slips, .ref aT_lates, .ref aT_copied, .int T_size, .int T_littleOnes])), (aT_slips, .inl (cI, 6, .inl T_slips)), (aT_lates, .inl (cI, 6, .inl T_lates)), (aT_copied, .inl (cI, 6, .inl T_copied))] U.heap ∧ KK D cI cJ cZ cO U)) (vp_Si (fun r => r = y0)) 0 0 (fun _ => False) := by
  refine Met.ofW (cc := cX9_lure) (maxL := 3) (ret := (some .int)) (by decide) rfl ?_
  intro p e s m args below meth c s₁ B hml hv
  obtain ⟨rfl, hP, hKK⟩ := hv
  have hx := B.exec
  have hb := B.bytes
  have hr := B.returns
  have hts := atoms_spec (ws := wsX9_lure) B.pre
  have hown : s.vm.findClass RX9 = some m.cls := findClass_of_methodNamed B.named
  have hlocks := B.notSynchronized
  have hK := hKK.1
  have fl_28 := hts (.fieldLink RX9 28 "SimonSays" "told" "LSimonSays$Children;") (by decide +kernel)
  have fl_37 := hts (.fieldLink RX9 37 "SimonSays" "round" "LSimonSays$Round;") (by decide +kernel)
  have inX9 : ∀ w ∈ wsX90, w ∈ wsX9_lure := by decide +kernel
  have hl := lv_entry ([.ref aS, .int p1, .int p2]) (n := 3) (Nat.le_of_ble_eq_true rfl)
  rw [lg_entry_eq]
  generalize (lg_sl ([.ref aS, .int p1, .int p2]) ++ List.replicate (3 - (lg_sl ([.ref aS, .int p1, .int p2])).length) Slot.unset).toArray = ls at hl ⊢
  have hl : lv_has ls 3 [(0, .ref aS), (1, .int p1), (2, .int p2)] := hl
  unfold f_X9_lure at h
  refine lv_aload_n hx hb dX9_lure_0 rfl (lv_at hl 0 rfl) ?_
  refine va_get (D := D) (ci := 9) (v := .ref aT) (C := RX9) (T := TX9) (N := 9) hx hb hts inX9 hown hK hP 0 rfl rfl 2 (by decide) fl_28 (fun _ h9 => h9) rfl dX9_lure_1 ?_
  refine lv_iload_n hx hb dX9_lure_4 rfl (lv_at hl 1 rfl) ?_
  have hPc : va_P D vwCl [(aT, .inr (1, [.ref aT_slips, .ref aT_lates, .ref aT_copied, .int T_size, .int T_littleOnes]))] s.heap := hP.sub [2] rfl
  refine vp_callSi (va_Run.run (va_runV (As := [.int p1]) (rest := []) ⟨hx, hb, hml, hown, hts⟩ (c_X1_has l D cI cJ cZ cO aT aT_slips aT_lates aT_copied T_size T_littleOnes p1 _ rfl) (cwV 1 hts gX9_lure_X1_has rfl rfl rfl (by decide +kernel) ⟨Nat.le_of_ble_eq_true rfl, Nat.le_of_ble_eq_true rfl⟩) ⟨fb_p, va_recv hK hP (ci := 1) (q0 := 2) rfl rfl, fun U hU hW => ⟨rfl, by rw [hU]; exact hPc, KK.warm hW hKK⟩⟩ rfl rfl hl.1 rfl (lv_room (Nat.le_of_ble_eq_true rfl)) dX9_lure_5 ⟨Nat.le_of_ble_eq_true rfl, Nat.le_of_ble_eq_true rfl⟩)) (fun r hr => ?_)
  obtain ⟨hr, hz1⟩ := hr
  replace hr := hr.symm
  subst hr
  refine lv_if_eq (tgt := 21) hx hb dX9_lure_8 (by decide) (fun c_2 => ?_) (fun c_2 => ?_)
  · replace h := if_p c_2 h
    refine lv_iconst (v := (-1 : Int32)) hx hb dX9_lure_21 (by decide) ?_
    exact pr_i hx hb hr hlocks dX9_lure_22 (Option.some.inj h)
  · replace h := if_n c_2 h
    refine lv_iload_n hx hb dX9_lure_11 rfl (lv_at hl 2 rfl) ?_
    refine lv_if_lt (tgt := 21) hx hb dX9_lure_12 (by decide) (fun c_3 => ?_) (fun c_3 => ?_)
    · replace h := if_p c_3 h
      refine lv_iconst (v := (-1 : Int32)) hx hb dX9_lure_21 (by decide) ?_
      exact pr_i hx hb hr hlocks dX9_lure_22 (Option.some.inj h)
    · replace h := if_n c_3 h
      refine lv_iload_n hx hb dX9_lure_15 rfl (lv_at hl 2 rfl) ?_
      refine lv_bipush (v := (10 : Int32)) hx hb dX9_lure_16 (by decide) ?_
      refine lv_icmp_le (tgt := 23) hx hb dX9_lure_18 (by decide) (fun c_4 => ?_) (fun c_4 => ?_)
      · replace h := if_p c_4 h
        refine lv_aload_n hx hb dX9_lure_23 rfl (lv_at hl 0 rfl) ?_
        refine va_get (D := D) (ci := 9) (v := .ref aR) (C := RX9) (T := TX9) (N := 9) hx hb hts inX9 hown hK hP 0 rfl rfl 3 (by decide) fl_37 (fun _ h9 => h9) rfl dX9_lure_24 ?_
        refine lv_iload_n hx hb dX9_lure_27 rfl (lv_at hl 1 rfl) ?_
        have hPc : va_P D vwCl [(aR, .inr (6, [.ref aT, .int R_in, .int R_streak, .int R_lot])), (aT, .inr (1, [.ref aT_slips, .ref aT_lates, .ref aT_copied, .int T_size, .int T_littleOnes]))] s.heap := hP.sub [1, 2] rfl
        refine vp_callSi (va_Run.run (va_runV (As := [.int p1]) (rest := []) ⟨hx, hb, hml, hown, hts⟩ (c_X6_isIn l D cI cJ cZ cO aR aT aT_slips aT_lates aT_copied R_in R_streak R_lot T_size T_littleOnes p1 _ rfl) (cwV 1 hts gX9_lure_X6_isIn rfl rfl rfl (by decide +kernel) ⟨Nat.le_of_ble_eq_true rfl, Nat.le_of_ble_eq_true rfl⟩) ⟨fb_p, va_recv hK hP (ci := 6) (q0 := 1) rfl rfl, fun U hU hW => ⟨rfl, by rw [hU]; exact hPc, KK.warm hW hKK⟩⟩ rfl rfl hl.1 rfl (lv_room (Nat.le_of_ble_eq_true rfl)) dX9_lure_28 ⟨Nat.le_of_ble_eq_true rfl, Nat.le_of_ble_eq_true rfl⟩)) (fun r hr => ?_)
        obtain ⟨hr, hz5⟩ := hr
        replace hr := hr.symm
        subst hr
        refine lv_if_eq (tgt := 46) hx hb dX9_lure_31 (by decide) (fun c_6 => ?_) (fun c_6 => ?_)
        · replace h := if_p c_6 h
          refine lv_bipush (v := (-9 : Int32)) hx hb dX9_lure_46 (by decide) ?_
          exact pr_i hx hb hr hlocks dX9_lure_48 (Option.some.inj h)
        · replace h := if_n c_6 h
          refine lv_aload_n hx hb dX9_lure_34 rfl (lv_at hl 0 rfl) ?_
          refine va_get (D := D) (ci := 9) (v := .ref aR) (C := RX9) (T := TX9) (N := 9) hx hb hts inX9 hown hK hP 0 rfl rfl 3 (by decide) fl_37 (fun _ h9 => h9) rfl dX9_lure_35 ?_
          refine lv_iload_n hx hb dX9_lure_38 rfl (lv_at hl 1 rfl) ?_
          refine lv_iload_n hx hb dX9_lure_39 rfl (lv_at hl 2 rfl) ?_
          obtain ⟨y7, qy7, h⟩ := ob_some h
          have hPc : va_P D vwCl [(aR, .inr (6, [.ref aT, .int R_in, .int R_streak, .int R_lot])), (aT, .inr (1, [.ref aT_slips, .ref aT_lates, .ref aT_copied, .int T_size, .int T_littleOnes])), (aT_slips, .inl (cI, 6, .inl T_slips)), (aT_lates, .inl (cI, 6, .inl T_lates)), (aT_copied, .inl (cI, 6, .inl T_copied))] s.heap := hP.sub [1, 2, 3, 4, 5] rfl
          refine vp_callSi (va_Run.run (va_runV (As := [.int p1, .int p2]) (rest := []) ⟨hx, hb, hml, hown, hts⟩ (c_X6_fewestSaidAhead l D cI cJ cZ cO aR aT aT_slips aT_lates aT_copied R_in R_streak R_lot T_size T_littleOnes T_slips T_lates T_copied p1 p2 y7 qy7) (cwV 2 hts gX9_lure_X6_fewestSaidAhead rfl rfl rfl (by decide +kernel) ⟨Nat.le_of_ble_eq_true rfl, Nat.le_of_ble_eq_true rfl⟩) ⟨fb_p, va_recv hK hP (ci := 6) (q0 := 1) rfl rfl, fun U hU hW => ⟨rfl, by rw [hU]; exact hPc, KK.warm hW hKK⟩⟩ rfl rfl hl.1 rfl (lv_room (Nat.le_of_ble_eq_true rfl)) dX9_lure_40 ⟨Nat.le_of_ble_eq_true rfl, Nat.le_of_ble_eq_true rfl⟩)) (fun r hr => ?_)
          replace hr := hr.symm
          subst hr
          refine lv_goto (tgt := 48) hx hb dX9_lure_43 (by decide) ?_
          exact pr_i hx hb hr hlocks dX9_lure_48 (Option.some.inj h)
      · replace h := if_n c_4 h
        refine lv_iconst (v := (-1 : Int32)) hx hb dX9_lure_21 (by decide) ?_
        exact pr_i hx hb hr hlocks dX9_lure_22 (Option.some.inj h)

def f_X9_could (R_in : Int32) (R_streak : Int32) (T_size : Int32) (T_slips : Nat → Int32) (T_lates : Nat → Int32) (T_copied : Nat → Int32) (p1 : Int32) : Option (Int32) := (if (f_X1_isSet T_size p1) = 0 then some (-1 : Int32) else (Option.bind (f_X0_ordersThatCould R_in R_streak T_size T_slips T_lates T_copied p1) (fun y3 => some y3)))
set_option maxHeartbeats 8000000 in
set_option maxRecDepth 100000 in
theorem c_X9_could (l : Launch) (D : va_G) (cI cJ cZ cO : ClassId) (aS : Nat) (aR : Nat) (aT : Nat) (aT_slips : Nat) (aT_lates : Nat) (aT_copied : Nat) (aC : Nat) (aX : Nat) (aD : Nat) (aH : Nat) (aIM : Nat) (aW : Nat) (aK : Nat) (aC_byNumber : Nat) (R_in : Int32) (R_streak : Int32) (R_lot : Int32) (T_size : Int32) (T_littleOnes : Int32) (T_slips : Nat → Int32) (T_lates : Nat → Int32) (T_copied : Nat → Int32)  (p1 : Int32)  (y0 : Int32) (h : f_X9_could R_in R_streak T_size T_slips T_lates T_copied p1 = some y0) : Met l yX9_could wsX9_could ({ frames := 6, cells := 0, slots := 0, locals := 139 } : Room) (va_Pc [.ref aS, .int p1] (fun U => va_P D vwCl [(aS, .inr (9, [.ref aX, .ref aD, .ref aT, .ref aR, .ref aH, .ref aIM, .ref aW, .ref aC, .ref aK])), (aR, .inr (6, [.ref aT, .int R_in, .int R_streak, .int R_lot])), (aT, .inr (1, [.ref aT_slips, .ref aT_lates, .ref aT_copied, .int T_size, .int T_littleOnes])), (aT_slips, .inl (cI, 6, .inl T_slips)), (aT_lates, .inl (cI, 6, .inl T_lates)), (aT_copied, .inl (cI, 6, .inl T_copied)), (aC, .inr (0, [.ref aT, .ref aR, .ref aW, .ref aC_byNumber]))] U.heap ∧ KK D cI cJ cZ cO U)) (vp_Si (fun r => r = y0)) 0 0 (fun _ => False) := by
  refine Met.ofW (cc := cX9_could) (maxL := 2) (ret := (some .int)) (by decide) rfl ?_
  intro p e s m args below meth c s₁ B hml hv
  obtain ⟨rfl, hP, hKK⟩ := hv
  have hx := B.exec
  have hb := B.bytes
  have hr := B.returns
  have hts := atoms_spec (ws := wsX9_could) B.pre
  have hown : s.vm.findClass RX9 = some m.cls := findClass_of_methodNamed B.named
  have hlocks := B.notSynchronized
  have hK := hKK.1
  have fl_28 := hts (.fieldLink RX9 28 "SimonSays" "told" "LSimonSays$Children;") (by decide +kernel)
  have fl_67 := hts (.fieldLink RX9 67 "SimonSays" "chances" "LSimonSays$Chances;") (by decide +kernel)
  have inX9 : ∀ w ∈ wsX90, w ∈ wsX9_could := by decide +kernel
  have hl := lv_entry ([.ref aS, .int p1]) (n := 2) (Nat.le_of_ble_eq_true rfl)
  rw [lg_entry_eq]
  generalize (lg_sl ([.ref aS, .int p1]) ++ List.replicate (2 - (lg_sl ([.ref aS, .int p1])).length) Slot.unset).toArray = ls at hl ⊢
  have hl : lv_has ls 2 [(0, .ref aS), (1, .int p1)] := hl
  unfold f_X9_could at h
  refine lv_aload_n hx hb dX9_could_0 rfl (lv_at hl 0 rfl) ?_
  refine va_get (D := D) (ci := 9) (v := .ref aT) (C := RX9) (T := TX9) (N := 9) hx hb hts inX9 hown hK hP 0 rfl rfl 2 (by decide) fl_28 (fun _ h9 => h9) rfl dX9_could_1 ?_
  refine lv_iload_n hx hb dX9_could_4 rfl (lv_at hl 1 rfl) ?_
  have hPc : va_P D vwCl [(aT, .inr (1, [.ref aT_slips, .ref aT_lates, .ref aT_copied, .int T_size, .int T_littleOnes]))] s.heap := hP.sub [2] rfl
  refine vp_callSi (va_Run.run (va_runV (As := [.int p1]) (rest := []) ⟨hx, hb, hml, hown, hts⟩ (c_X1_isSet l D cI cJ cZ cO aT aT_slips aT_lates aT_copied T_size T_littleOnes p1 _ rfl) (cwV 1 hts gX9_could_X1_isSet rfl rfl rfl (by decide +kernel) ⟨Nat.le_of_ble_eq_true rfl, Nat.le_of_ble_eq_true rfl⟩) ⟨fb_p, va_recv hK hP (ci := 1) (q0 := 2) rfl rfl, fun U hU hW => ⟨rfl, by rw [hU]; exact hPc, KK.warm hW hKK⟩⟩ rfl rfl hl.1 rfl (lv_room (Nat.le_of_ble_eq_true rfl)) dX9_could_5 ⟨Nat.le_of_ble_eq_true rfl, Nat.le_of_ble_eq_true rfl⟩)) (fun r hr => ?_)
  obtain ⟨hr, hz1⟩ := hr
  replace hr := hr.symm
  subst hr
  refine lv_if_eq (tgt := 22) hx hb dX9_could_8 (by decide) (fun c_2 => ?_) (fun c_2 => ?_)
  · replace h := if_p c_2 h
    refine lv_iconst (v := (-1 : Int32)) hx hb dX9_could_22 (by decide) ?_
    exact pr_i hx hb hr hlocks dX9_could_23 (Option.some.inj h)
  · replace h := if_n c_2 h
    refine lv_aload_n hx hb dX9_could_11 rfl (lv_at hl 0 rfl) ?_
    refine va_get (D := D) (ci := 9) (v := .ref aC) (C := RX9) (T := TX9) (N := 9) hx hb hts inX9 hown hK hP 0 rfl rfl 7 (by decide) fl_67 (fun _ h9 => h9) rfl dX9_could_12 ?_
    refine lv_iload_n hx hb dX9_could_15 rfl (lv_at hl 1 rfl) ?_
    obtain ⟨y3, qy3, h⟩ := ob_some h
    have hPc : va_P D vwCl [(aR, .inr (6, [.ref aT, .int R_in, .int R_streak, .int R_lot])), (aT, .inr (1, [.ref aT_slips, .ref aT_lates, .ref aT_copied, .int T_size, .int T_littleOnes])), (aT_slips, .inl (cI, 6, .inl T_slips)), (aT_lates, .inl (cI, 6, .inl T_lates)), (aT_copied, .inl (cI, 6, .inl T_copied)), (aC, .inr (0, [.ref aT, .ref aR, .ref aW, .ref aC_byNumber]))] s.heap := hP.sub [1, 2, 3, 4, 5, 6] rfl
    refine vp_callSi (va_Run.run (va_runV (As := [.int p1]) (rest := []) ⟨hx, hb, hml, hown, hts⟩ (c_X0_ordersThatCould l D cI cJ cZ cO aR aT aT_slips aT_lates aT_copied aC aW aC_byNumber R_in R_streak R_lot T_size T_littleOnes T_slips T_lates T_copied p1 y3 qy3) (cwV 1 hts gX9_could_X0_ordersThatCould rfl rfl rfl (by decide +kernel) ⟨Nat.le_of_ble_eq_true rfl, Nat.le_of_ble_eq_true rfl⟩) ⟨fb_p, va_recv hK hP (ci := 0) (q0 := 6) rfl rfl, fun U hU hW => ⟨rfl, by rw [hU]; exact hPc, KK.warm hW hKK⟩⟩ rfl rfl hl.1 rfl (lv_room (Nat.le_of_ble_eq_true rfl)) dX9_could_16 ⟨Nat.le_of_ble_eq_true rfl, Nat.le_of_ble_eq_true rfl⟩)) (fun r hr => ?_)
    replace hr := hr.symm
    subst hr
    refine lv_goto (tgt := 23) hx hb dX9_could_19 (by decide) ?_
    exact pr_i hx hb hr hlocks dX9_could_23 (Option.some.inj h)

def f_X9_likeliest (R_in : Int32) (R_streak : Int32) (T_size : Int32) (T_slips : Nat → Int32) (T_lates : Nat → Int32) (T_copied : Nat → Int32) (p1 : Int32) : Option (Int32) := (if (f_X1_isSet T_size p1) = 0 then some (-1 : Int32) else (Option.bind (f_X0_likeliestOrder R_in R_streak T_size T_slips T_lates T_copied p1) (fun y3 => some y3)))
set_option maxHeartbeats 8000000 in
set_option maxRecDepth 100000 in
theorem c_X9_likeliest (l : Launch) (D : va_G) (cI cJ cZ cO : ClassId) (aS : Nat) (aR : Nat) (aT : Nat) (aT_slips : Nat) (aT_lates : Nat) (aT_copied : Nat) (aC : Nat) (aX : Nat) (aD : Nat) (aH : Nat) (aIM : Nat) (aW : Nat) (aK : Nat) (aC_byNumber : Nat) (R_in : Int32) (R_streak : Int32) (R_lot : Int32) (T_size : Int32) (T_littleOnes : Int32) (T_slips : Nat → Int32) (T_lates : Nat → Int32) (T_copied : Nat → Int32)  (p1 : Int32)  (y0 : Int32) (h : f_X9_likeliest R_in R_streak T_size T_slips T_lates T_copied p1 = some y0) : Met l yX9_likeliest wsX9_likeliest ({ frames := 6, cells := 0, slots := 0, locals := 143 } : Room) (va_Pc [.ref aS, .int p1] (fun U => va_P D vwCl [(aS, .inr (9, [.ref aX, .ref aD, .ref aT, .ref aR, .ref aH, .ref aIM, .ref aW, .ref aC, .ref aK])), (aR, .inr (6, [.ref aT, .int R_in, .int R_streak, .int R_lot])), (aT, .inr (1, [.ref aT_slips, .ref aT_lates, .ref aT_copied, .int T_size, .int T_littleOnes])), (aT_slips, .inl (cI, 6, .inl T_slips)), (aT_lates, .inl (cI, 6, .inl T_lates)), (aT_copied, .inl (cI, 6, .inl T_copied)), (aC, .inr (0, [.ref aT, .ref aR, .ref aW, .ref aC_byNumber]))] U.heap ∧ KK D cI cJ cZ cO U)) (vp_Si (fun r => r = y0)) 0 0 (fun _ => False) := by
  refine Met.ofW (cc := cX9_likeliest) (maxL := 2) (ret := (some .int)) (by decide) rfl ?_
  intro p e s m args below meth c s₁ B hml hv
  obtain ⟨rfl, hP, hKK⟩ := hv
  have hx := B.exec
  have hb := B.bytes
  have hr := B.returns
  have hts := atoms_spec (ws := wsX9_likeliest) B.pre
  have hown : s.vm.findClass RX9 = some m.cls := findClass_of_methodNamed B.named
  have hlocks := B.notSynchronized
  have hK := hKK.1
  have fl_28 := hts (.fieldLink RX9 28 "SimonSays" "told" "LSimonSays$Children;") (by decide +kernel)
  have fl_67 := hts (.fieldLink RX9 67 "SimonSays" "chances" "LSimonSays$Chances;") (by decide +kernel)
  have inX9 : ∀ w ∈ wsX90, w ∈ wsX9_likeliest := by decide +kernel
  have hl := lv_entry ([.ref aS, .int p1]) (n := 2) (Nat.le_of_ble_eq_true rfl)
  rw [lg_entry_eq]
  generalize (lg_sl ([.ref aS, .int p1]) ++ List.replicate (2 - (lg_sl ([.ref aS, .int p1])).length) Slot.unset).toArray = ls at hl ⊢
  have hl : lv_has ls 2 [(0, .ref aS), (1, .int p1)] := hl
  unfold f_X9_likeliest at h
  refine lv_aload_n hx hb dX9_likeliest_0 rfl (lv_at hl 0 rfl) ?_
  refine va_get (D := D) (ci := 9) (v := .ref aT) (C := RX9) (T := TX9) (N := 9) hx hb hts inX9 hown hK hP 0 rfl rfl 2 (by decide) fl_28 (fun _ h9 => h9) rfl dX9_likeliest_1 ?_
  refine lv_iload_n hx hb dX9_likeliest_4 rfl (lv_at hl 1 rfl) ?_
  have hPc : va_P D vwCl [(aT, .inr (1, [.ref aT_slips, .ref aT_lates, .ref aT_copied, .int T_size, .int T_littleOnes]))] s.heap := hP.sub [2] rfl
  refine vp_callSi (va_Run.run (va_runV (As := [.int p1]) (rest := []) ⟨hx, hb, hml, hown, hts⟩ (c_X1_isSet l D cI cJ cZ cO aT aT_slips aT_lates aT_copied T_size T_littleOnes p1 _ rfl) (cwV 1 hts gX9_likeliest_X1_isSet rfl rfl rfl (by decide +kernel) ⟨Nat.le_of_ble_eq_true rfl, Nat.le_of_ble_eq_true rfl⟩) ⟨fb_p, va_recv hK hP (ci := 1) (q0 := 2) rfl rfl, fun U hU hW => ⟨rfl, by rw [hU]; exact hPc, KK.warm hW hKK⟩⟩ rfl rfl hl.1 rfl (lv_room (Nat.le_of_ble_eq_true rfl)) dX9_likeliest_5 ⟨Nat.le_of_ble_eq_true rfl, Nat.le_of_ble_eq_true rfl⟩)) (fun r hr => ?_)
  obtain ⟨hr, hz1⟩ := hr
  replace hr := hr.symm
  subst hr
  refine lv_if_eq (tgt := 22) hx hb dX9_likeliest_8 (by decide) (fun c_2 => ?_) (fun c_2 => ?_)
  · replace h := if_p c_2 h
    refine lv_iconst (v := (-1 : Int32)) hx hb dX9_likeliest_22 (by decide) ?_
    exact pr_i hx hb hr hlocks dX9_likeliest_23 (Option.some.inj h)
  · replace h := if_n c_2 h
    refine lv_aload_n hx hb dX9_likeliest_11 rfl (lv_at hl 0 rfl) ?_
    refine va_get (D := D) (ci := 9) (v := .ref aC) (C := RX9) (T := TX9) (N := 9) hx hb hts inX9 hown hK hP 0 rfl rfl 7 (by decide) fl_67 (fun _ h9 => h9) rfl dX9_likeliest_12 ?_
    refine lv_iload_n hx hb dX9_likeliest_15 rfl (lv_at hl 1 rfl) ?_
    obtain ⟨y3, qy3, h⟩ := ob_some h
    have hPc : va_P D vwCl [(aR, .inr (6, [.ref aT, .int R_in, .int R_streak, .int R_lot])), (aT, .inr (1, [.ref aT_slips, .ref aT_lates, .ref aT_copied, .int T_size, .int T_littleOnes])), (aT_slips, .inl (cI, 6, .inl T_slips)), (aT_lates, .inl (cI, 6, .inl T_lates)), (aT_copied, .inl (cI, 6, .inl T_copied)), (aC, .inr (0, [.ref aT, .ref aR, .ref aW, .ref aC_byNumber]))] s.heap := hP.sub [1, 2, 3, 4, 5, 6] rfl
    refine vp_callSi (va_Run.run (va_runV (As := [.int p1]) (rest := []) ⟨hx, hb, hml, hown, hts⟩ (c_X0_likeliestOrder l D cI cJ cZ cO aR aT aT_slips aT_lates aT_copied aC aW aC_byNumber R_in R_streak R_lot T_size T_littleOnes T_slips T_lates T_copied p1 y3 qy3) (cwV 1 hts gX9_likeliest_X0_likeliestOrder rfl rfl rfl (by decide +kernel) ⟨Nat.le_of_ble_eq_true rfl, Nat.le_of_ble_eq_true rfl⟩) ⟨fb_p, va_recv hK hP (ci := 0) (q0 := 6) rfl rfl, fun U hU hW => ⟨rfl, by rw [hU]; exact hPc, KK.warm hW hKK⟩⟩ rfl rfl hl.1 rfl (lv_room (Nat.le_of_ble_eq_true rfl)) dX9_likeliest_16 ⟨Nat.le_of_ble_eq_true rfl, Nat.le_of_ble_eq_true rfl⟩)) (fun r hr => ?_)
    replace hr := hr.symm
    subst hr
    refine lv_goto (tgt := 23) hx hb dX9_likeliest_19 (by decide) ?_
    exact pr_i hx hb hr hlocks dX9_likeliest_23 (Option.some.inj h)

def f_X9_rate (R_in : Int32) (R_streak : Int32) (T_size : Int32) (T_slips : Nat → Int32) (T_lates : Nat → Int32) (T_copied : Nat → Int32) (K_trace : Int64) (p1 : Int32) (p2 : Int32) : Option (Int32 × Int64) := (if (f_X1_has T_size p2) = 0 then some ((-1000000 : Int32), K_trace) else (Option.bind (f_X4_rateAs R_in R_streak T_size T_slips T_lates T_copied K_trace p1 p2) (fun y3 => some (y3.1, y3.2))))
set_option maxHeartbeats 8000000 in
set_option maxRecDepth 100000 in
theorem c_X9_rate (l : Launch) (D : va_G) (cI cJ cZ cO : ClassId) (aS : Nat) (aR : Nat) (aT : Nat) (aT_slips : Nat) (aT_lates : Nat) (aT_copied : Nat) (aK : Nat) (aX : Nat) (aD : Nat) (aH : Nat) (aIM : Nat) (aW : Nat) (aC : Nat) (R_in : Int32) (R_streak : Int32) (R_lot : Int32) (T_size : Int32) (T_littleOnes : Int32) (T_slips : Nat → Int32) (T_lates : Nat → Int32) (T_copied : Nat → Int32) (K_trace : Int64) (sz : Nat) (p1 : Int32) (p2 : Int32)  (y0 : Int32 × Int64) (h : f_X9_rate R_in R_streak T_size T_slips T_lates T_copied K_trace p1 p2 = some y0) : Met l yX9_rate wsX9_rate ({ frames := 6, cells := 0, slots := 0, locals := 127 } : Room) (va_Pc [.ref aS, .int p1, .int p2] (fun U => U.heap.size = sz ∧ va_P D vwCl [(aS, .inr (9, [.ref aX, .ref aD, .ref aT, .ref aR, .ref aH, .ref aIM, .ref aW, .ref aC, .ref aK])), (aR, .inr (6, [.ref aT, .int R_in, .int R_streak, .int R_lot])), (aT, .inr (1, [.ref aT_slips, .ref aT_lates, .ref aT_copied, .int T_size, .int T_littleOnes])), (aT_slips, .inl (cI, 6, .inl T_slips)), (aT_lates, .inl (cI, 6, .inl T_lates)), (aT_copied, .inl (cI, 6, .inl T_copied)), (aK, .inr (4, [.ref aT, .ref aR, .long K_trace]))] U.heap ∧ KK D cI cJ cZ cO U ∧ va_D (fun _ => True) [(aS, .inr (9, [.ref aX, .ref aD, .ref aT, .ref aR, .ref aH, .ref aIM, .ref aW, .ref aC, .ref aK])), (aR, .inr (6, [.ref aT, .int R_in, .int R_streak, .int R_lot])), (aT, .inr (1, [.ref aT_slips, .ref aT_lates, .ref aT_copied, .int T_size, .int T_littleOnes])), (aT_slips, .inl (cI, 6, .inl T_slips)), (aT_lates, .inl (cI, 6, .inl T_lates)), (aT_copied, .inl (cI, 6, .inl T_copied)), (aK, .inr (4, [.ref aT, .ref aR, .long K_trace]))])) (va_Qi (fun (r : Int32) (_ : Unit) => r = y0.1) (fun (_ : Unit) t => va_P D vwCl [(aS, .inr (9, [.ref aX, .ref aD, .ref aT, .ref aR, .ref aH, .ref aIM, .ref aW, .ref aC, .ref aK])), (aR, .inr (6, [.ref aT, .int R_in, .int R_streak, .int R_lot])), (aT, .inr (1, [.ref aT_slips, .ref aT_lates, .ref aT_copied, .int T_size, .int T_littleOnes])), (aT_slips, .inl (cI, 6, .inl T_slips)), (aT_lates, .inl (cI, 6, .inl T_lates)), (aT_copied, .inl (cI, 6, .inl T_copied)), (aK, .inr (4, [.ref aT, .ref aR, .long y0.2]))] t.heap ∧ va_D (va_A [(aS, .inr (9, [.ref aX, .ref aD, .ref aT, .ref aR, .ref aH, .ref aIM, .ref aW, .ref aC, .ref aK])), (aR, .inr (6, [.ref aT, .int R_in, .int R_streak, .int R_lot])), (aT, .inr (1, [.ref aT_slips, .ref aT_lates, .ref aT_copied, .int T_size, .int T_littleOnes])), (aT_slips, .inl (cI, 6, .inl T_slips)), (aT_lates, .inl (cI, 6, .inl T_lates)), (aT_copied, .inl (cI, 6, .inl T_copied)), (aK, .inr (4, [.ref aT, .ref aR, .long K_trace]))] sz) [(aS, .inr (9, [.ref aX, .ref aD, .ref aT, .ref aR, .ref aH, .ref aIM, .ref aW, .ref aC, .ref aK])), (aR, .inr (6, [.ref aT, .int R_in, .int R_streak, .int R_lot])), (aT, .inr (1, [.ref aT_slips, .ref aT_lates, .ref aT_copied, .int T_size, .int T_littleOnes])), (aT_slips, .inl (cI, 6, .inl T_slips)), (aT_lates, .inl (cI, 6, .inl T_lates)), (aT_copied, .inl (cI, 6, .inl T_copied)), (aK, .inr (4, [.ref aT, .ref aR, .long y0.2]))]) (va_A [(aS, .inr (9, [.ref aX, .ref aD, .ref aT, .ref aR, .ref aH, .ref aIM, .ref aW, .ref aC, .ref aK])), (aR, .inr (6, [.ref aT, .int R_in, .int R_streak, .int R_lot])), (aT, .inr (1, [.ref aT_slips, .ref aT_lates, .ref aT_copied, .int T_size, .int T_littleOnes])), (aT_slips, .inl (cI, 6, .inl T_slips)), (aT_lates, .inl (cI, 6, .inl T_lates)), (aT_copied, .inl (cI, 6, .inl T_copied)), (aK, .inr (4, [.ref aT, .ref aR, .long K_trace]))] sz)) 0 0 (va_A [(aS, .inr (9, [.ref aX, .ref aD, .ref aT, .ref aR, .ref aH, .ref aIM, .ref aW, .ref aC, .ref aK])), (aR, .inr (6, [.ref aT, .int R_in, .int R_streak, .int R_lot])), (aT, .inr (1, [.ref aT_slips, .ref aT_lates, .ref aT_copied, .int T_size, .int T_littleOnes])), (aT_slips, .inl (cI, 6, .inl T_slips)), (aT_lates, .inl (cI, 6, .inl T_lates)), (aT_copied, .inl (cI, 6, .inl T_copied)), (aK, .inr (4, [.ref aT, .ref aR, .long K_trace]))] sz) := by
  refine Met.ofW (cc := cX9_rate) (maxL := 3) (ret := (some .int)) (by decide) rfl ?_
  intro p e s m args below meth c s₁ B hml hv
  obtain ⟨rfl, hsz, hP, hKK, hD0⟩ := hv
  have hx := B.exec
  have hb := B.bytes
  have hr := B.returns
  have hts := atoms_spec (ws := wsX9_rate) B.pre
  have hown : s.vm.findClass RX9 = some m.cls := findClass_of_methodNamed B.named
  have hlocks := B.notSynchronized
  have hK := hKK.1
  have fl_28 := hts (.fieldLink RX9 28 "SimonSays" "told" "LSimonSays$Children;") (by decide +kernel)
  have fl_76 := hts (.fieldLink RX9 76 "SimonSays" "kinds" "LSimonSays$Kinds;") (by decide +kernel)
  have cst_239 := hts (.constant RX9 239 (-1000000)) (by decide +kernel)
  have inX9 : ∀ w ∈ wsX90, w ∈ wsX9_rate := by decide +kernel
  subst hsz
  have hD := hD0.self (sz := s.heap.size)
  generalize hAe : va_A [(aS, .inr (9, [.ref aX, .ref aD, .ref aT, .ref aR, .ref aH, .ref aIM, .ref aW, .ref aC, .ref aK])), (aR, .inr (6, [.ref aT, .int R_in, .int R_streak, .int R_lot])), (aT, .inr (1, [.ref aT_slips, .ref aT_lates, .ref aT_copied, .int T_size, .int T_littleOnes])), (aT_slips, .inl (cI, 6, .inl T_slips)), (aT_lates, .inl (cI, 6, .inl T_lates)), (aT_copied, .inl (cI, 6, .inl T_copied)), (aK, .inr (4, [.ref aT, .ref aR, .long K_trace]))] s.heap.size = A at hD ⊢
  have hA : ∀ q : Nat, s.heap.size ≤ q → A q := fun q h => by rw [← hAe]; exact Or.inr h
  have hS : va_S A s.heap s.heap [] := va_S.rf
  have hl := lv_entry ([.ref aS, .int p1, .int p2]) (n := 3) (Nat.le_of_ble_eq_true rfl)
  rw [lg_entry_eq]
  generalize (lg_sl ([.ref aS, .int p1, .int p2]) ++ List.replicate (3 - (lg_sl ([.ref aS, .int p1, .int p2])).length) Slot.unset).toArray = ls at hl ⊢
  have hl : lv_has ls 3 [(0, .ref aS), (1, .int p1), (2, .int p2)] := hl
  unfold f_X9_rate at h
  refine lv_aload_n hx hb dX9_rate_0 rfl (lv_at hl 0 rfl) ?_
  refine va_get (D := D) (ci := 9) (v := .ref aT) (C := RX9) (T := TX9) (N := 9) hx hb hts inX9 hown hK hP 0 rfl rfl 2 (by decide) fl_28 (fun _ h9 => h9) rfl dX9_rate_1 ?_
  refine lv_iload_n hx hb dX9_rate_4 rfl (lv_at hl 2 rfl) ?_
  have hPc : va_P D vwCl [(aT, .inr (1, [.ref aT_slips, .ref aT_lates, .ref aT_copied, .int T_size, .int T_littleOnes]))] s.heap := hP.sub [2] rfl
  refine vp_callSi (va_Run.run (va_runV (As := [.int p2]) (rest := []) ⟨hx, hb, hml, hown, hts⟩ (c_X1_has l D cI cJ cZ cO aT aT_slips aT_lates aT_copied T_size T_littleOnes p2 _ rfl) (cwV 1 hts gX9_rate_X1_has rfl rfl rfl (by decide +kernel) ⟨Nat.le_of_ble_eq_true rfl, Nat.le_of_ble_eq_true rfl⟩) ⟨fb_p, va_recv hK hP (ci := 1) (q0 := 2) rfl rfl, fun U hU hW => ⟨rfl, by rw [hU]; exact hPc, KK.warm hW hKK⟩⟩ rfl rfl hl.1 rfl (lv_room (Nat.le_of_ble_eq_true rfl)) dX9_rate_5 ⟨Nat.le_of_ble_eq_true rfl, Nat.le_of_ble_eq_true rfl⟩)) (fun r hr => ?_)
  obtain ⟨hr, hz1⟩ := hr
  replace hr := hr.symm
  subst hr
  refine lv_if_eq (tgt := 23) hx hb dX9_rate_8 (by decide) (fun c_2 => ?_) (fun c_2 => ?_)
  · replace h := if_p c_2 h
    refine lv_ldc (v := (-1000000 : Int32)) hx hb hown cst_239 dX9_rate_23 ?_
    have hy := Option.some.inj h
    subst hy
    exact W.iret (v := (-1000000 : Int32)) hx hb hr (fun t ht hW => ⟨⟨(-1000000 : Int32), (), rfl, rfl, by rw [ht]; exact hP, hD⟩, hS.F ht⟩) hS.2.2 dX9_rate_25
  · replace h := if_n c_2 h
    refine lv_aload_n hx hb dX9_rate_11 rfl (lv_at hl 0 rfl) ?_
    refine va_get (D := D) (ci := 9) (v := .ref aK) (C := RX9) (T := TX9) (N := 9) hx hb hts inX9 hown hK hP 0 rfl rfl 8 (by decide) fl_76 (fun _ h9 => h9) rfl dX9_rate_12 ?_
    refine lv_iload_n hx hb dX9_rate_15 rfl (lv_at hl 1 rfl) ?_
    refine lv_iload_n hx hb dX9_rate_16 rfl (lv_at hl 2 rfl) ?_
    obtain ⟨y3, qy3, h⟩ := ob_some h
    have hPc : va_P D vwCl [(aR, .inr (6, [.ref aT, .int R_in, .int R_streak, .int R_lot])), (aT, .inr (1, [.ref aT_slips, .ref aT_lates, .ref aT_copied, .int T_size, .int T_littleOnes])), (aT_slips, .inl (cI, 6, .inl T_slips)), (aT_lates, .inl (cI, 6, .inl T_lates)), (aT_copied, .inl (cI, 6, .inl T_copied)), (aK, .inr (4, [.ref aT, .ref aR, .long K_trace]))] s.heap := hP.sub [1, 2, 3, 4, 5, 6] rfl
    have hDc : va_D A [(aR, .inr (6, [.ref aT, .int R_in, .int R_streak, .int R_lot])), (aT, .inr (1, [.ref aT_slips, .ref aT_lates, .ref aT_copied, .int T_size, .int T_littleOnes])), (aT_slips, .inl (cI, 6, .inl T_slips)), (aT_lates, .inl (cI, 6, .inl T_lates)), (aT_copied, .inl (cI, 6, .inl T_copied)), (aK, .inr (4, [.ref aT, .ref aR, .long K_trace]))] := hD.sub [1, 2, 3, 4, 5, 6] (by decide) rfl
    have hFc := va_free (wc := [(aR, .inr (6, [.ref aT, .int R_in, .int R_streak, .int R_lot])), (aT, .inr (1, [.ref aT_slips, .ref aT_lates, .ref aT_copied, .int T_size, .int T_littleOnes])), (aT_slips, .inl (cI, 6, .inl T_slips)), (aT_lates, .inl (cI, 6, .inl T_lates)), (aT_copied, .inl (cI, 6, .inl T_copied)), (aK, .inr (4, [.ref aT, .ref aR, .long K_trace]))]) hD hS hA [1, 2, 3, 4, 5, 6] rfl
    refine va_calli (va_runV (As := [.int p1, .int p2]) (rest := []) ⟨hx, hb, hml, hown, hts⟩ (c_X4_rateAs l D cI cJ cZ cO aR aT aT_slips aT_lates aT_copied aK R_in R_streak R_lot T_size T_littleOnes T_slips T_lates T_copied K_trace s.heap.size p1 p2 y3 qy3) (cwV 2 hts gX9_rate_X4_rateAs rfl rfl rfl (by decide +kernel) ⟨Nat.le_of_ble_eq_true rfl, Nat.le_of_ble_eq_true rfl⟩) ⟨fb_i, va_recv hK hP (ci := 4) (q0 := 6) rfl rfl, fun U hU hW => ⟨rfl, by rw [hU], by rw [hU]; exact hPc, KK.warm hW hKK, hDc.weaken (fun _ _ _ _ => trivial)⟩⟩ rfl rfl hl.1 rfl (lv_room (Nat.le_of_ble_eq_true rfl)) dX9_rate_17 ⟨Nat.le_of_ble_eq_true rfl, Nat.le_of_ble_eq_true rfl⟩) hS (fun q _ h => hFc q h) hFc (fun r u t H1 locs ht hvm hw hB hz1 hk1 hS => ?_)
    obtain ⟨hP1, hD1⟩ := hB
    rw [ht] at hP1
    replace hw := hw.symm
    subst hw
    obtain ⟨hP, hD⟩ := va_join (wr := [(aS, .inr (9, [.ref aX, .ref aD, .ref aT, .ref aR, .ref aH, .ref aIM, .ref aW, .ref aC, .ref aK]))]) (w1 := [(aR, .inr (6, [.ref aT, .int R_in, .int R_streak, .int R_lot])), (aT, .inr (1, [.ref aT_slips, .ref aT_lates, .ref aT_copied, .int T_size, .int T_littleOnes])), (aT_slips, .inl (cI, 6, .inl T_slips)), (aT_lates, .inl (cI, 6, .inl T_lates)), (aT_copied, .inl (cI, 6, .inl T_copied)), (aK, .inr (4, [.ref aT, .ref aR, .long y3.2]))]) hP hD [1, 2, 3, 4, 5, 6] [0] rfl rfl (by decide) (by decide) hk1 hFc hP1 hD1
    generalize H1 = H at hP hS ⊢
    have hP : va_P D vwCl [(aS, .inr (9, [.ref aX, .ref aD, .ref aT, .ref aR, .ref aH, .ref aIM, .ref aW, .ref aC, .ref aK])), (aR, .inr (6, [.ref aT, .int R_in, .int R_streak, .int R_lot])), (aT, .inr (1, [.ref aT_slips, .ref aT_lates, .ref aT_copied, .int T_size, .int T_littleOnes])), (aT_slips, .inl (cI, 6, .inl T_slips)), (aT_lates, .inl (cI, 6, .inl T_lates)), (aT_copied, .inl (cI, 6, .inl T_copied)), (aK, .inr (4, [.ref aT, .ref aR, .long y3.2]))] H := hP.sub [0, 1, 2, 3, 4, 5, 6] rfl
    have hD : va_D A [(aS, .inr (9, [.ref aX, .ref aD, .ref aT, .ref aR, .ref aH, .ref aIM, .ref aW, .ref aC, .ref aK])), (aR, .inr (6, [.ref aT, .int R_in, .int R_streak, .int R_lot])), (aT, .inr (1, [.ref aT_slips, .ref aT_lates, .ref aT_copied, .int T_size, .int T_littleOnes])), (aT_slips, .inl (cI, 6, .inl T_slips)), (aT_lates, .inl (cI, 6, .inl T_lates)), (aT_copied, .inl (cI, 6, .inl T_copied)), (aK, .inr (4, [.ref aT, .ref aR, .long y3.2]))] := hD.sub [0, 1, 2, 3, 4, 5, 6] (by decide) rfl
    refine lv_goto (tgt := 25) hx hb dX9_rate_20 (by decide) ?_
    have hy := Option.some.inj h
    subst hy
    exact W.iret (v := y3.1) hx hb hr (fun t ht hW => ⟨⟨y3.1, (), rfl, rfl, by rw [ht]; exact hP, hD⟩, hS.F ht⟩) hS.2.2 dX9_rate_25

def f_X9_keep (R_in : Int32) (R_streak : Int32) (R_lot : Int32) (I0_kept : Int32) (I0_in : Int32) (I0_streak : Int32) (I0_lot : Int32) (I1_kept : Int32) (I1_in : Int32) (I1_streak : Int32) (I1_lot : Int32) (p1 : Int32) : Option (Int32 × Int32 × Int32 × Int32 × Int32 × Int32 × Int32 × Int32 × Int32) := (if (f_X9_isImage p1) = 0 then some ((-1 : Int32), I0_kept, I0_in, I0_streak, I0_lot, I1_kept, I1_in, I1_streak, I1_lot) else (if p1 = (0 : Int32) then (Option.bind (f_X3_take R_in R_streak R_lot I0_kept I0_in I0_streak I0_lot) (fun y3 => some ((f_X6_howManyIn R_in), y3.1, y3.2.1, y3.2.2.1, y3.2.2.2, I1_kept, I1_in, I1_streak, I1_lot))) else if p1 = (1 : Int32) then (Option.bind (f_X3_take R_in R_streak R_lot I1_kept I1_in I1_streak I1_lot) (fun y4 => some ((f_X6_howManyIn R_in), I0_kept, I0_in, I0_streak, I0_lot, y4.1, y4.2.1, y4.2.2.1, y4.2.2.2))) else none))
set_option maxHeartbeats 8000000 in
set_option maxRecDepth 100000 in
theorem c_X9_keep (l : Launch) (D : va_G) (cI cJ cZ cO : ClassId) (aS : Nat) (aR : Nat) (aIM : Nat) (aI0 : Nat) (aI1 : Nat) (aX : Nat) (aD : Nat) (aT : Nat) (aH : Nat) (aW : Nat) (aC : Nat) (aK : Nat) (R_in : Int32) (R_streak : Int32) (R_lot : Int32) (I0_kept : Int32) (I0_in : Int32) (I0_streak : Int32) (I0_lot : Int32) (I1_kept : Int32) (I1_in : Int32) (I1_streak : Int32) (I1_lot : Int32) (sz : Nat) (p1 : Int32)  (y0 : Int32 × Int32 × Int32 × Int32 × Int32 × Int32 × Int32 × Int32 × Int32) (h : f_X9_keep R_in R_streak R_lot I0_kept I0_in I0_streak I0_lot I1_kept I1_in I1_streak I1_lot p1 = some y0) : Met l yX9_keep wsX9_keep ({ frames := 2, cells := 0, slots := 0, locals := 41 } : Room) (va_Pc [.ref aS, .int p1] (fun U => U.heap.size = sz ∧ va_P D vwCl [(aS, .inr (9, [.ref aX, .ref aD, .ref aT, .ref aR, .ref aH, .ref aIM, .ref aW, .ref aC, .ref aK])), (aR, .inr (6, [.ref aT, .int R_in, .int R_streak, .int R_lot])), (aIM, .inl (cO, 2, .inr (.inr (.inr (.inr (gIm aI0 aI1)))))), (aI0, .inr (3, [.int I0_kept, .int I0_in, .int I0_streak, .int I0_lot])), (aI1, .inr (3, [.int I1_kept, .int I1_in, .int I1_streak, .int I1_lot]))] U.heap ∧ KK D cI cJ cZ cO U ∧ va_D (fun _ => True) [(aS, .inr (9, [.ref aX, .ref aD, .ref aT, .ref aR, .ref aH, .ref aIM, .ref aW, .ref aC, .ref aK])), (aR, .inr (6, [.ref aT, .int R_in, .int R_streak, .int R_lot])), (aIM, .inl (cO, 2, .inr (.inr (.inr (.inr (gIm aI0 aI1)))))), (aI0, .inr (3, [.int I0_kept, .int I0_in, .int I0_streak, .int I0_lot])), (aI1, .inr (3, [.int I1_kept, .int I1_in, .int I1_streak, .int I1_lot]))])) (va_Qi (fun (r : Int32) (_ : Unit) => r = y0.1) (fun (_ : Unit) t => va_P D vwCl [(aS, .inr (9, [.ref aX, .ref aD, .ref aT, .ref aR, .ref aH, .ref aIM, .ref aW, .ref aC, .ref aK])), (aR, .inr (6, [.ref aT, .int R_in, .int R_streak, .int R_lot])), (aIM, .inl (cO, 2, .inr (.inr (.inr (.inr (gIm aI0 aI1)))))), (aI0, .inr (3, [.int y0.2.1, .int y0.2.2.1, .int y0.2.2.2.1, .int y0.2.2.2.2.1])), (aI1, .inr (3, [.int y0.2.2.2.2.2.1, .int y0.2.2.2.2.2.2.1, .int y0.2.2.2.2.2.2.2.1, .int y0.2.2.2.2.2.2.2.2]))] t.heap ∧ va_D (va_A [(aS, .inr (9, [.ref aX, .ref aD, .ref aT, .ref aR, .ref aH, .ref aIM, .ref aW, .ref aC, .ref aK])), (aR, .inr (6, [.ref aT, .int R_in, .int R_streak, .int R_lot])), (aIM, .inl (cO, 2, .inr (.inr (.inr (.inr (gIm aI0 aI1)))))), (aI0, .inr (3, [.int I0_kept, .int I0_in, .int I0_streak, .int I0_lot])), (aI1, .inr (3, [.int I1_kept, .int I1_in, .int I1_streak, .int I1_lot]))] sz) [(aS, .inr (9, [.ref aX, .ref aD, .ref aT, .ref aR, .ref aH, .ref aIM, .ref aW, .ref aC, .ref aK])), (aR, .inr (6, [.ref aT, .int R_in, .int R_streak, .int R_lot])), (aIM, .inl (cO, 2, .inr (.inr (.inr (.inr (gIm aI0 aI1)))))), (aI0, .inr (3, [.int y0.2.1, .int y0.2.2.1, .int y0.2.2.2.1, .int y0.2.2.2.2.1])), (aI1, .inr (3, [.int y0.2.2.2.2.2.1, .int y0.2.2.2.2.2.2.1, .int y0.2.2.2.2.2.2.2.1, .int y0.2.2.2.2.2.2.2.2]))]) (va_A [(aS, .inr (9, [.ref aX, .ref aD, .ref aT, .ref aR, .ref aH, .ref aIM, .ref aW, .ref aC, .ref aK])), (aR, .inr (6, [.ref aT, .int R_in, .int R_streak, .int R_lot])), (aIM, .inl (cO, 2, .inr (.inr (.inr (.inr (gIm aI0 aI1)))))), (aI0, .inr (3, [.int I0_kept, .int I0_in, .int I0_streak, .int I0_lot])), (aI1, .inr (3, [.int I1_kept, .int I1_in, .int I1_streak, .int I1_lot]))] sz)) 0 0 (va_A [(aS, .inr (9, [.ref aX, .ref aD, .ref aT, .ref aR, .ref aH, .ref aIM, .ref aW, .ref aC, .ref aK])), (aR, .inr (6, [.ref aT, .int R_in, .int R_streak, .int R_lot])), (aIM, .inl (cO, 2, .inr (.inr (.inr (.inr (gIm aI0 aI1)))))), (aI0, .inr (3, [.int I0_kept, .int I0_in, .int I0_streak, .int I0_lot])), (aI1, .inr (3, [.int I1_kept, .int I1_in, .int I1_streak, .int I1_lot]))] sz) := by
  refine Met.ofW (cc := cX9_keep) (maxL := 2) (ret := (some .int)) (by decide) rfl ?_
  intro p e s m args below meth c s₁ B hml hv
  obtain ⟨rfl, hsz, hP, hKK, hD0⟩ := hv
  have hx := B.exec
  have hb := B.bytes
  have hr := B.returns
  have hts := atoms_spec (ws := wsX9_keep) B.pre
  have hown : s.vm.findClass RX9 = some m.cls := findClass_of_methodNamed B.named
  have hlocks := B.notSynchronized
  have hK := hKK.1
  have fl_37 := hts (.fieldLink RX9 37 "SimonSays" "round" "LSimonSays$Round;") (by decide +kernel)
  have fl_50 := hts (.fieldLink RX9 50 "SimonSays" "images" "[LSimonSays$Image;") (by decide +kernel)
  have inX9 : ∀ w ∈ wsX90, w ∈ wsX9_keep := by decide +kernel
  subst hsz
  have hD := hD0.self (sz := s.heap.size)
  generalize hAe : va_A [(aS, .inr (9, [.ref aX, .ref aD, .ref aT, .ref aR, .ref aH, .ref aIM, .ref aW, .ref aC, .ref aK])), (aR, .inr (6, [.ref aT, .int R_in, .int R_streak, .int R_lot])), (aIM, .inl (cO, 2, .inr (.inr (.inr (.inr (gIm aI0 aI1)))))), (aI0, .inr (3, [.int I0_kept, .int I0_in, .int I0_streak, .int I0_lot])), (aI1, .inr (3, [.int I1_kept, .int I1_in, .int I1_streak, .int I1_lot]))] s.heap.size = A at hD ⊢
  have hA : ∀ q : Nat, s.heap.size ≤ q → A q := fun q h => by rw [← hAe]; exact Or.inr h
  have hS : va_S A s.heap s.heap [] := va_S.rf
  have hl := lv_entry ([.ref aS, .int p1]) (n := 2) (Nat.le_of_ble_eq_true rfl)
  rw [lg_entry_eq]
  generalize (lg_sl ([.ref aS, .int p1]) ++ List.replicate (2 - (lg_sl ([.ref aS, .int p1])).length) Slot.unset).toArray = ls at hl ⊢
  have hl : lv_has ls 2 [(0, .ref aS), (1, .int p1)] := hl
  unfold f_X9_keep at h
  refine lv_iload_n hx hb dX9_keep_0 rfl (lv_at hl 1 rfl) ?_
  have hPc : va_P D vwCl [] s.heap := hP.sub [] rfl
  refine vp_callSi (va_Run.run (va_runS (As := [.int p1]) (rest := []) ⟨hx, hb, hml, hown, hts⟩ (c_X9_isImage l D cI cJ cZ cO p1 _ rfl) (cwS 1 hts gX9_keep_X9_isImage rfl rfl rfl (by decide +kernel) ⟨Nat.le_of_ble_eq_true rfl, Nat.le_of_ble_eq_true rfl⟩) ⟨fb_p, fun U hU hW => ⟨rfl, by rw [hU]; exact hPc, KK.warm hW hKK⟩⟩ rfl rfl hl.1 rfl (lv_room (Nat.le_of_ble_eq_true rfl)) dX9_keep_1 ⟨Nat.le_of_ble_eq_true rfl, Nat.le_of_ble_eq_true rfl⟩)) (fun r hr => ?_)
  obtain ⟨hr, hz1⟩ := hr
  replace hr := hr.symm
  subst hr
  refine lv_if_ne (tgt := 9) hx hb dX9_keep_4 (by decide) (fun c_2 => ?_) (fun c_2 => ?_)
  · replace h := if_n c_2 h
    refine lv_aload_n hx hb dX9_keep_9 rfl (lv_at hl 0 rfl) ?_
    refine va_get (D := D) (ci := 9) (v := .ref aIM) (C := RX9) (T := TX9) (N := 9) hx hb hts inX9 hown hK hP 0 rfl rfl 5 (by decide) fl_50 (fun _ h9 => h9) rfl dX9_keep_10 ?_
    refine lv_iload_n hx hb dX9_keep_13 rfl (lv_at hl 1 rfl) ?_
    by_cases s_5 : p1 = (0 : Int32)
    · replace h := if_p s_5 h
      refine va_aldq (i := p1) (C := "SimonSays$Image") hx hb hK hP 2 3 rfl rfl (gIn_iff.mp (by rw [s_5]; decide)) dX9_keep_14 ?_
      rw [show va_rf (gIm aI0 aI1 p1.toNatClampNeg) = .ref aI0 from by rw [s_5]; rfl]
      refine lv_aload_n hx hb dX9_keep_15 rfl (lv_at hl 0 rfl) ?_
      refine va_get (D := D) (ci := 9) (v := .ref aR) (C := RX9) (T := TX9) (N := 9) hx hb hts inX9 hown hK hP 0 rfl rfl 3 (by decide) fl_37 (fun _ h9 => h9) rfl dX9_keep_16 ?_
      obtain ⟨y3, qy3, h⟩ := ob_some h
      have hPc : va_P D vwCl [(aR, .inr (6, [.ref aT, .int R_in, .int R_streak, .int R_lot])), (aI0, .inr (3, [.int I0_kept, .int I0_in, .int I0_streak, .int I0_lot]))] s.heap := hP.sub [1, 3] rfl
      have hDc : va_D A [(aR, .inr (6, [.ref aT, .int R_in, .int R_streak, .int R_lot])), (aI0, .inr (3, [.int I0_kept, .int I0_in, .int I0_streak, .int I0_lot]))] := hD.sub [1, 3] (by decide) rfl
      have hFc := va_free (wc := [(aR, .inr (6, [.ref aT, .int R_in, .int R_streak, .int R_lot])), (aI0, .inr (3, [.int I0_kept, .int I0_in, .int I0_streak, .int I0_lot]))]) hD hS hA [1, 3] rfl
      refine va_callv (va_runV (As := [.ref aR]) (rest := []) ⟨hx, hb, hml, hown, hts⟩ (c_X3_take l D cI cJ cZ cO aR aI0 aT R_in R_streak R_lot I0_kept I0_in I0_streak I0_lot s.heap.size y3 qy3) (cwV 1 hts gX9_keep_X3_take rfl rfl rfl (by decide +kernel) ⟨Nat.le_of_ble_eq_true rfl, Nat.le_of_ble_eq_true rfl⟩) ⟨fb_i, va_recv hK hP (ci := 3) (q0 := 3) rfl rfl, fun U hU hW => ⟨rfl, by rw [hU], by rw [hU]; exact hPc, KK.warm hW hKK, hDc.weaken (fun _ _ _ _ => trivial)⟩⟩ rfl rfl hl.1 rfl (lv_room (Nat.le_of_ble_eq_true rfl)) dX9_keep_19 ⟨Nat.le_of_ble_eq_true rfl, Nat.le_of_ble_eq_true rfl⟩) hS (fun q _ h => hFc q h) hFc (fun u t H1 locs ht hvm hw hB hz1 hk1 hS => ?_)
      obtain ⟨hP1, hD1⟩ := hB
      rw [ht] at hP1
      obtain ⟨hP, hD⟩ := va_join (wr := [(aS, .inr (9, [.ref aX, .ref aD, .ref aT, .ref aR, .ref aH, .ref aIM, .ref aW, .ref aC, .ref aK])), (aIM, .inl (cO, 2, .inr (.inr (.inr (.inr (gIm aI0 aI1)))))), (aI1, .inr (3, [.int I1_kept, .int I1_in, .int I1_streak, .int I1_lot]))]) (w1 := [(aR, .inr (6, [.ref aT, .int R_in, .int R_streak, .int R_lot])), (aI0, .inr (3, [.int y3.1, .int y3.2.1, .int y3.2.2.1, .int y3.2.2.2]))]) hP hD [1, 3] [0, 2, 4] rfl rfl (by decide) (by decide) hk1 hFc hP1 hD1
      generalize H1 = H at hP hS ⊢
      have hP : va_P D vwCl [(aS, .inr (9, [.ref aX, .ref aD, .ref aT, .ref aR, .ref aH, .ref aIM, .ref aW, .ref aC, .ref aK])), (aR, .inr (6, [.ref aT, .int R_in, .int R_streak, .int R_lot])), (aIM, .inl (cO, 2, .inr (.inr (.inr (.inr (gIm aI0 aI1)))))), (aI0, .inr (3, [.int y3.1, .int y3.2.1, .int y3.2.2.1, .int y3.2.2.2])), (aI1, .inr (3, [.int I1_kept, .int I1_in, .int I1_streak, .int I1_lot]))] H := hP.sub [0, 3, 1, 4, 2] rfl
      have hD : va_D A [(aS, .inr (9, [.ref aX, .ref aD, .ref aT, .ref aR, .ref aH, .ref aIM, .ref aW, .ref aC, .ref aK])), (aR, .inr (6, [.ref aT, .int R_in, .int R_streak, .int R_lot])), (aIM, .inl (cO, 2, .inr (.inr (.inr (.inr (gIm aI0 aI1)))))), (aI0, .inr (3, [.int y3.1, .int y3.2.1, .int y3.2.2.1, .int y3.2.2.2])), (aI1, .inr (3, [.int I1_kept, .int I1_in, .int I1_streak, .int I1_lot]))] := hD.sub [0, 3, 1, 4, 2] (by decide) rfl
      refine lv_aload_n hx hb dX9_keep_22 rfl (lv_at hl 0 rfl) ?_
      refine va_get (D := D) (ci := 9) (v := .ref aR) (C := RX9) (T := TX9) (N := 9) hx hb hts inX9 hown hK hP 0 rfl rfl 3 (by decide) fl_37 (fun _ h9 => h9) rfl dX9_keep_23 ?_
      have hPc : va_P D vwCl [(aR, .inr (6, [.ref aT, .int R_in, .int R_streak, .int R_lot]))] H := hP.sub [1] rfl
      refine vp_callSi (va_Run.run (va_runV (As := []) (rest := []) ⟨hx, hb, hml, hown, hts⟩ (c_X6_howManyIn l D cI cJ cZ cO aR aT R_in R_streak R_lot _ rfl) (cwV 0 hts gX9_keep_X6_howManyIn rfl rfl rfl (by decide +kernel) ⟨Nat.le_of_ble_eq_true rfl, Nat.le_of_ble_eq_true rfl⟩) ⟨fb_p, va_recv hK hP (ci := 6) (q0 := 1) rfl rfl, fun U hU hW => ⟨rfl, by rw [hU]; exact hPc, KK.warm hW hKK⟩⟩ rfl rfl hl.1 rfl (lv_room (Nat.le_of_ble_eq_true rfl)) dX9_keep_26 ⟨Nat.le_of_ble_eq_true rfl, Nat.le_of_ble_eq_true rfl⟩)) (fun r hr => ?_)
      replace hr := hr.symm
      subst hr
      have hy := Option.some.inj h
      subst hy
      exact W.iret (v := (f_X6_howManyIn R_in)) hx hb hr (fun t ht hW => ⟨⟨(f_X6_howManyIn R_in), (), rfl, rfl, by rw [ht]; exact hP, hD⟩, hS.F ht⟩) hS.2.2 dX9_keep_29
    replace h := if_n s_5 h
    by_cases s_6 : p1 = (1 : Int32)
    · replace h := if_p s_6 h
      refine va_aldq (i := p1) (C := "SimonSays$Image") hx hb hK hP 2 3 rfl rfl (gIn_iff.mp (by rw [s_6]; decide)) dX9_keep_14 ?_
      rw [show va_rf (gIm aI0 aI1 p1.toNatClampNeg) = .ref aI1 from by rw [s_6]; rfl]
      refine lv_aload_n hx hb dX9_keep_15 rfl (lv_at hl 0 rfl) ?_
      refine va_get (D := D) (ci := 9) (v := .ref aR) (C := RX9) (T := TX9) (N := 9) hx hb hts inX9 hown hK hP 0 rfl rfl 3 (by decide) fl_37 (fun _ h9 => h9) rfl dX9_keep_16 ?_
      obtain ⟨y4, qy4, h⟩ := ob_some h
      have hPc : va_P D vwCl [(aR, .inr (6, [.ref aT, .int R_in, .int R_streak, .int R_lot])), (aI1, .inr (3, [.int I1_kept, .int I1_in, .int I1_streak, .int I1_lot]))] s.heap := hP.sub [1, 4] rfl
      have hDc : va_D A [(aR, .inr (6, [.ref aT, .int R_in, .int R_streak, .int R_lot])), (aI1, .inr (3, [.int I1_kept, .int I1_in, .int I1_streak, .int I1_lot]))] := hD.sub [1, 4] (by decide) rfl
      have hFc := va_free (wc := [(aR, .inr (6, [.ref aT, .int R_in, .int R_streak, .int R_lot])), (aI1, .inr (3, [.int I1_kept, .int I1_in, .int I1_streak, .int I1_lot]))]) hD hS hA [1, 4] rfl
      refine va_callv (va_runV (As := [.ref aR]) (rest := []) ⟨hx, hb, hml, hown, hts⟩ (c_X3_take l D cI cJ cZ cO aR aI1 aT R_in R_streak R_lot I1_kept I1_in I1_streak I1_lot s.heap.size y4 qy4) (cwV 1 hts gX9_keep_X3_take rfl rfl rfl (by decide +kernel) ⟨Nat.le_of_ble_eq_true rfl, Nat.le_of_ble_eq_true rfl⟩) ⟨fb_i, va_recv hK hP (ci := 3) (q0 := 4) rfl rfl, fun U hU hW => ⟨rfl, by rw [hU], by rw [hU]; exact hPc, KK.warm hW hKK, hDc.weaken (fun _ _ _ _ => trivial)⟩⟩ rfl rfl hl.1 rfl (lv_room (Nat.le_of_ble_eq_true rfl)) dX9_keep_19 ⟨Nat.le_of_ble_eq_true rfl, Nat.le_of_ble_eq_true rfl⟩) hS (fun q _ h => hFc q h) hFc (fun u t H1 locs ht hvm hw hB hz1 hk1 hS => ?_)
      obtain ⟨hP1, hD1⟩ := hB
      rw [ht] at hP1
      obtain ⟨hP, hD⟩ := va_join (wr := [(aS, .inr (9, [.ref aX, .ref aD, .ref aT, .ref aR, .ref aH, .ref aIM, .ref aW, .ref aC, .ref aK])), (aIM, .inl (cO, 2, .inr (.inr (.inr (.inr (gIm aI0 aI1)))))), (aI0, .inr (3, [.int I0_kept, .int I0_in, .int I0_streak, .int I0_lot]))]) (w1 := [(aR, .inr (6, [.ref aT, .int R_in, .int R_streak, .int R_lot])), (aI1, .inr (3, [.int y4.1, .int y4.2.1, .int y4.2.2.1, .int y4.2.2.2]))]) hP hD [1, 4] [0, 2, 3] rfl rfl (by decide) (by decide) hk1 hFc hP1 hD1
      generalize H1 = H at hP hS ⊢
      have hP : va_P D vwCl [(aS, .inr (9, [.ref aX, .ref aD, .ref aT, .ref aR, .ref aH, .ref aIM, .ref aW, .ref aC, .ref aK])), (aR, .inr (6, [.ref aT, .int R_in, .int R_streak, .int R_lot])), (aIM, .inl (cO, 2, .inr (.inr (.inr (.inr (gIm aI0 aI1)))))), (aI0, .inr (3, [.int I0_kept, .int I0_in, .int I0_streak, .int I0_lot])), (aI1, .inr (3, [.int y4.1, .int y4.2.1, .int y4.2.2.1, .int y4.2.2.2]))] H := hP.sub [0, 3, 1, 2, 4] rfl
      have hD : va_D A [(aS, .inr (9, [.ref aX, .ref aD, .ref aT, .ref aR, .ref aH, .ref aIM, .ref aW, .ref aC, .ref aK])), (aR, .inr (6, [.ref aT, .int R_in, .int R_streak, .int R_lot])), (aIM, .inl (cO, 2, .inr (.inr (.inr (.inr (gIm aI0 aI1)))))), (aI0, .inr (3, [.int I0_kept, .int I0_in, .int I0_streak, .int I0_lot])), (aI1, .inr (3, [.int y4.1, .int y4.2.1, .int y4.2.2.1, .int y4.2.2.2]))] := hD.sub [0, 3, 1, 2, 4] (by decide) rfl
      refine lv_aload_n hx hb dX9_keep_22 rfl (lv_at hl 0 rfl) ?_
      refine va_get (D := D) (ci := 9) (v := .ref aR) (C := RX9) (T := TX9) (N := 9) hx hb hts inX9 hown hK hP 0 rfl rfl 3 (by decide) fl_37 (fun _ h9 => h9) rfl dX9_keep_23 ?_
      have hPc : va_P D vwCl [(aR, .inr (6, [.ref aT, .int R_in, .int R_streak, .int R_lot]))] H := hP.sub [1] rfl
      refine vp_callSi (va_Run.run (va_runV (As := []) (rest := []) ⟨hx, hb, hml, hown, hts⟩ (c_X6_howManyIn l D cI cJ cZ cO aR aT R_in R_streak R_lot _ rfl) (cwV 0 hts gX9_keep_X6_howManyIn rfl rfl rfl (by decide +kernel) ⟨Nat.le_of_ble_eq_true rfl, Nat.le_of_ble_eq_true rfl⟩) ⟨fb_p, va_recv hK hP (ci := 6) (q0 := 1) rfl rfl, fun U hU hW => ⟨rfl, by rw [hU]; exact hPc, KK.warm hW hKK⟩⟩ rfl rfl hl.1 rfl (lv_room (Nat.le_of_ble_eq_true rfl)) dX9_keep_26 ⟨Nat.le_of_ble_eq_true rfl, Nat.le_of_ble_eq_true rfl⟩)) (fun r hr => ?_)
      replace hr := hr.symm
      subst hr
      have hy := Option.some.inj h
      subst hy
      exact W.iret (v := (f_X6_howManyIn R_in)) hx hb hr (fun t ht hW => ⟨⟨(f_X6_howManyIn R_in), (), rfl, rfl, by rw [ht]; exact hP, hD⟩, hS.F ht⟩) hS.2.2 dX9_keep_29
    replace h := if_n s_6 h
    exact (ns h).elim
  · replace h := if_p c_2 h
    refine lv_iconst (v := (-1 : Int32)) hx hb dX9_keep_7 (by decide) ?_
    have hy := Option.some.inj h
    subst hy
    exact W.iret (v := (-1 : Int32)) hx hb hr (fun t ht hW => ⟨⟨(-1 : Int32), (), rfl, rfl, by rw [ht]; exact hP, hD⟩, hS.F ht⟩) hS.2.2 dX9_keep_8

def f_X9_back (R_in : Int32) (R_streak : Int32) (R_lot : Int32) (H_size : Int32) (I0_kept : Int32) (I0_in : Int32) (I0_streak : Int32) (I0_lot : Int32) (I1_kept : Int32) (I1_in : Int32) (I1_streak : Int32) (I1_lot : Int32) (p1 : Int32) : Option (Int32 × Int32 × Int32 × Int32 × Int32) := (if (f_X9_isImage p1) = 0 then some ((-1 : Int32), R_in, R_streak, R_lot, H_size) else (if p1 = (0 : Int32) then (Option.bind (f_X3_isKept I0_kept) (fun y3 => (if y3 = 0 then some ((-2 : Int32), R_in, R_streak, R_lot, H_size) else (if p1 = (0 : Int32) then (Option.bind (f_X3_giveTo R_in R_streak R_lot I0_in I0_streak I0_lot) (fun y6 => (Option.bind (f_X2_forget H_size) (fun y7 => some ((f_X6_howManyIn y6.1), y6.1, y6.2.1, y6.2.2, y7))))) else if p1 = (1 : Int32) then (Option.bind (f_X3_giveTo R_in R_streak R_lot I1_in I1_streak I1_lot) (fun y8 => (Option.bind (f_X2_forget H_size) (fun y9 => some ((f_X6_howManyIn y8.1), y8.1, y8.2.1, y8.2.2, y9))))) else none)))) else if p1 = (1 : Int32) then (Option.bind (f_X3_isKept I1_kept) (fun y12 => (if y12 = 0 then some ((-2 : Int32), R_in, R_streak, R_lot, H_size) else (if p1 = (0 : Int32) then (Option.bind (f_X3_giveTo R_in R_streak R_lot I0_in I0_streak I0_lot) (fun y15 => (Option.bind (f_X2_forget H_size) (fun y16 => some ((f_X6_howManyIn y15.1), y15.1, y15.2.1, y15.2.2, y16))))) else if p1 = (1 : Int32) then (Option.bind (f_X3_giveTo R_in R_streak R_lot I1_in I1_streak I1_lot) (fun y17 => (Option.bind (f_X2_forget H_size) (fun y18 => some ((f_X6_howManyIn y17.1), y17.1, y17.2.1, y17.2.2, y18))))) else none)))) else none))
set_option maxHeartbeats 8000000 in
set_option maxRecDepth 100000 in
theorem c_X9_back (l : Launch) (D : va_G) (cI cJ cZ cO : ClassId) (aS : Nat) (aR : Nat) (aH : Nat) (aIM : Nat) (aI0 : Nat) (aI1 : Nat) (aX : Nat) (aD : Nat) (aT : Nat) (aW : Nat) (aC : Nat) (aK : Nat) (aH_ins : Nat) (aH_streaks : Nat) (R_in : Int32) (R_streak : Int32) (R_lot : Int32) (H_size : Int32) (I0_kept : Int32) (I0_in : Int32) (I0_streak : Int32) (I0_lot : Int32) (I1_kept : Int32) (I1_in : Int32) (I1_streak : Int32) (I1_lot : Int32) (sz : Nat) (p1 : Int32)  (y0 : Int32 × Int32 × Int32 × Int32 × Int32) (h : f_X9_back R_in R_streak R_lot H_size I0_kept I0_in I0_streak I0_lot I1_kept I1_in I1_streak I1_lot p1 = some y0) : Met l yX9_back wsX9_back ({ frames := 2, cells := 0, slots := 0, locals := 43 } : Room) (va_Pc [.ref aS, .int p1] (fun U => U.heap.size = sz ∧ va_P D vwCl [(aS, .inr (9, [.ref aX, .ref aD, .ref aT, .ref aR, .ref aH, .ref aIM, .ref aW, .ref aC, .ref aK])), (aR, .inr (6, [.ref aT, .int R_in, .int R_streak, .int R_lot])), (aH, .inr (2, [.ref aH_ins, .ref aH_streaks, .int H_size])), (aIM, .inl (cO, 2, .inr (.inr (.inr (.inr (gIm aI0 aI1)))))), (aI0, .inr (3, [.int I0_kept, .int I0_in, .int I0_streak, .int I0_lot])), (aI1, .inr (3, [.int I1_kept, .int I1_in, .int I1_streak, .int I1_lot]))] U.heap ∧ KK D cI cJ cZ cO U ∧ va_D (fun _ => True) [(aS, .inr (9, [.ref aX, .ref aD, .ref aT, .ref aR, .ref aH, .ref aIM, .ref aW, .ref aC, .ref aK])), (aR, .inr (6, [.ref aT, .int R_in, .int R_streak, .int R_lot])), (aH, .inr (2, [.ref aH_ins, .ref aH_streaks, .int H_size])), (aIM, .inl (cO, 2, .inr (.inr (.inr (.inr (gIm aI0 aI1)))))), (aI0, .inr (3, [.int I0_kept, .int I0_in, .int I0_streak, .int I0_lot])), (aI1, .inr (3, [.int I1_kept, .int I1_in, .int I1_streak, .int I1_lot]))])) (va_Qi (fun (r : Int32) (_ : Unit) => r = y0.1) (fun (_ : Unit) t => va_P D vwCl [(aS, .inr (9, [.ref aX, .ref aD, .ref aT, .ref aR, .ref aH, .ref aIM, .ref aW, .ref aC, .ref aK])), (aR, .inr (6, [.ref aT, .int y0.2.1, .int y0.2.2.1, .int y0.2.2.2.1])), (aH, .inr (2, [.ref aH_ins, .ref aH_streaks, .int y0.2.2.2.2])), (aIM, .inl (cO, 2, .inr (.inr (.inr (.inr (gIm aI0 aI1)))))), (aI0, .inr (3, [.int I0_kept, .int I0_in, .int I0_streak, .int I0_lot])), (aI1, .inr (3, [.int I1_kept, .int I1_in, .int I1_streak, .int I1_lot]))] t.heap ∧ va_D (va_A [(aS, .inr (9, [.ref aX, .ref aD, .ref aT, .ref aR, .ref aH, .ref aIM, .ref aW, .ref aC, .ref aK])), (aR, .inr (6, [.ref aT, .int R_in, .int R_streak, .int R_lot])), (aH, .inr (2, [.ref aH_ins, .ref aH_streaks, .int H_size])), (aIM, .inl (cO, 2, .inr (.inr (.inr (.inr (gIm aI0 aI1)))))), (aI0, .inr (3, [.int I0_kept, .int I0_in, .int I0_streak, .int I0_lot])), (aI1, .inr (3, [.int I1_kept, .int I1_in, .int I1_streak, .int I1_lot]))] sz) [(aS, .inr (9, [.ref aX, .ref aD, .ref aT, .ref aR, .ref aH, .ref aIM, .ref aW, .ref aC, .ref aK])), (aR, .inr (6, [.ref aT, .int y0.2.1, .int y0.2.2.1, .int y0.2.2.2.1])), (aH, .inr (2, [.ref aH_ins, .ref aH_streaks, .int y0.2.2.2.2])), (aIM, .inl (cO, 2, .inr (.inr (.inr (.inr (gIm aI0 aI1)))))), (aI0, .inr (3, [.int I0_kept, .int I0_in, .int I0_streak, .int I0_lot])), (aI1, .inr (3, [.int I1_kept, .int I1_in, .int I1_streak, .int I1_lot]))]) (va_A [(aS, .inr (9, [.ref aX, .ref aD, .ref aT, .ref aR, .ref aH, .ref aIM, .ref aW, .ref aC, .ref aK])), (aR, .inr (6, [.ref aT, .int R_in, .int R_streak, .int R_lot])), (aH, .inr (2, [.ref aH_ins, .ref aH_streaks, .int H_size])), (aIM, .inl (cO, 2, .inr (.inr (.inr (.inr (gIm aI0 aI1)))))), (aI0, .inr (3, [.int I0_kept, .int I0_in, .int I0_streak, .int I0_lot])), (aI1, .inr (3, [.int I1_kept, .int I1_in, .int I1_streak, .int I1_lot]))] sz)) 0 0 (va_A [(aS, .inr (9, [.ref aX, .ref aD, .ref aT, .ref aR, .ref aH, .ref aIM, .ref aW, .ref aC, .ref aK])), (aR, .inr (6, [.ref aT, .int R_in, .int R_streak, .int R_lot])), (aH, .inr (2, [.ref aH_ins, .ref aH_streaks, .int H_size])), (aIM, .inl (cO, 2, .inr (.inr (.inr (.inr (gIm aI0 aI1)))))), (aI0, .inr (3, [.int I0_kept, .int I0_in, .int I0_streak, .int I0_lot])), (aI1, .inr (3, [.int I1_kept, .int I1_in, .int I1_streak, .int I1_lot]))] sz) := by
  refine Met.ofW (cc := cX9_back) (maxL := 2) (ret := (some .int)) (by decide) rfl ?_
  intro p e s m args below meth c s₁ B hml hv
  obtain ⟨rfl, hsz, hP, hKK, hD0⟩ := hv
  have hx := B.exec
  have hb := B.bytes
  have hr := B.returns
  have hts := atoms_spec (ws := wsX9_back) B.pre
  have hown : s.vm.findClass RX9 = some m.cls := findClass_of_methodNamed B.named
  have hlocks := B.notSynchronized
  have hK := hKK.1
  have fl_37 := hts (.fieldLink RX9 37 "SimonSays" "round" "LSimonSays$Round;") (by decide +kernel)
  have fl_44 := hts (.fieldLink RX9 44 "SimonSays" "history" "LSimonSays$History;") (by decide +kernel)
  have fl_50 := hts (.fieldLink RX9 50 "SimonSays" "images" "[LSimonSays$Image;") (by decide +kernel)
  have inX9 : ∀ w ∈ wsX90, w ∈ wsX9_back := by decide +kernel
  subst hsz
  have hD := hD0.self (sz := s.heap.size)
  generalize hAe : va_A [(aS, .inr (9, [.ref aX, .ref aD, .ref aT, .ref aR, .ref aH, .ref aIM, .ref aW, .ref aC, .ref aK])), (aR, .inr (6, [.ref aT, .int R_in, .int R_streak, .int R_lot])), (aH, .inr (2, [.ref aH_ins, .ref aH_streaks, .int H_size])), (aIM, .inl (cO, 2, .inr (.inr (.inr (.inr (gIm aI0 aI1)))))), (aI0, .inr (3, [.int I0_kept, .int I0_in, .int I0_streak, .int I0_lot])), (aI1, .inr (3, [.int I1_kept, .int I1_in, .int I1_streak, .int I1_lot]))] s.heap.size = A at hD ⊢
  have hA : ∀ q : Nat, s.heap.size ≤ q → A q := fun q h => by rw [← hAe]; exact Or.inr h
  have hS : va_S A s.heap s.heap [] := va_S.rf
  have hl := lv_entry ([.ref aS, .int p1]) (n := 2) (Nat.le_of_ble_eq_true rfl)
  rw [lg_entry_eq]
  generalize (lg_sl ([.ref aS, .int p1]) ++ List.replicate (2 - (lg_sl ([.ref aS, .int p1])).length) Slot.unset).toArray = ls at hl ⊢
  have hl : lv_has ls 2 [(0, .ref aS), (1, .int p1)] := hl
  unfold f_X9_back at h
  refine lv_iload_n hx hb dX9_back_0 rfl (lv_at hl 1 rfl) ?_
  have hPc : va_P D vwCl [] s.heap := hP.sub [] rfl
  refine vp_callSi (va_Run.run (va_runS (As := [.int p1]) (rest := []) ⟨hx, hb, hml, hown, hts⟩ (c_X9_isImage l D cI cJ cZ cO p1 _ rfl) (cwS 1 hts gX9_back_X9_isImage rfl rfl rfl (by decide +kernel) ⟨Nat.le_of_ble_eq_true rfl, Nat.le_of_ble_eq_true rfl⟩) ⟨fb_p, fun U hU hW => ⟨rfl, by rw [hU]; exact hPc, KK.warm hW hKK⟩⟩ rfl rfl hl.1 rfl (lv_room (Nat.le_of_ble_eq_true rfl)) dX9_back_1 ⟨Nat.le_of_ble_eq_true rfl, Nat.le_of_ble_eq_true rfl⟩)) (fun r hr => ?_)
  obtain ⟨hr, hz1⟩ := hr
  replace hr := hr.symm
  subst hr
  refine lv_if_ne (tgt := 9) hx hb dX9_back_4 (by decide) (fun c_2 => ?_) (fun c_2 => ?_)
  · replace h := if_n c_2 h
    refine lv_aload_n hx hb dX9_back_9 rfl (lv_at hl 0 rfl) ?_
    refine va_get (D := D) (ci := 9) (v := .ref aIM) (C := RX9) (T := TX9) (N := 9) hx hb hts inX9 hown hK hP 0 rfl rfl 5 (by decide) fl_50 (fun _ h9 => h9) rfl dX9_back_10 ?_
    refine lv_iload_n hx hb dX9_back_13 rfl (lv_at hl 1 rfl) ?_
    by_cases s_21 : p1 = (0 : Int32)
    · replace h := if_p s_21 h
      refine va_aldq (i := p1) (C := "SimonSays$Image") hx hb hK hP 3 3 rfl rfl (gIn_iff.mp (by rw [s_21]; decide)) dX9_back_14 ?_
      rw [show va_rf (gIm aI0 aI1 p1.toNatClampNeg) = .ref aI0 from by rw [s_21]; rfl]
      obtain ⟨y3, qy3, h⟩ := ob_some h
      have hPc : va_P D vwCl [(aI0, .inr (3, [.int I0_kept, .int I0_in, .int I0_streak, .int I0_lot]))] s.heap := hP.sub [4] rfl
      refine vp_callSi (va_Run.run (va_runV (As := []) (rest := []) ⟨hx, hb, hml, hown, hts⟩ (c_X3_isKept l D cI cJ cZ cO aI0 I0_kept I0_in I0_streak I0_lot y3 qy3) (cwV 0 hts gX9_back_X3_isKept rfl rfl rfl (by decide +kernel) ⟨Nat.le_of_ble_eq_true rfl, Nat.le_of_ble_eq_true rfl⟩) ⟨fb_p, va_recv hK hP (ci := 3) (q0 := 4) rfl rfl, fun U hU hW => ⟨rfl, by rw [hU]; exact hPc, KK.warm hW hKK⟩⟩ rfl rfl hl.1 rfl (lv_room (Nat.le_of_ble_eq_true rfl)) dX9_back_15 ⟨Nat.le_of_ble_eq_true rfl, Nat.le_of_ble_eq_true rfl⟩)) (fun r hr => ?_)
      obtain ⟨hr, hz4⟩ := hr
      replace hr := hr.symm
      subst hr
      refine lv_if_ne (tgt := 24) hx hb dX9_back_18 (by decide) (fun c_5 => ?_) (fun c_5 => ?_)
      · replace h := if_n c_5 h
        refine lv_aload_n hx hb dX9_back_24 rfl (lv_at hl 0 rfl) ?_
        refine va_get (D := D) (ci := 9) (v := .ref aIM) (C := RX9) (T := TX9) (N := 9) hx hb hts inX9 hown hK hP 0 rfl rfl 5 (by decide) fl_50 (fun _ h9 => h9) rfl dX9_back_25 ?_
        refine lv_iload_n hx hb dX9_back_28 rfl (lv_at hl 1 rfl) ?_
        by_cases s_10 : p1 = (0 : Int32)
        · replace h := if_p s_10 h
          refine va_aldq (i := p1) (C := "SimonSays$Image") hx hb hK hP 3 3 rfl rfl (gIn_iff.mp (by rw [s_10]; decide)) dX9_back_29 ?_
          rw [show va_rf (gIm aI0 aI1 p1.toNatClampNeg) = .ref aI0 from by rw [s_10]; rfl]
          refine lv_aload_n hx hb dX9_back_30 rfl (lv_at hl 0 rfl) ?_
          refine va_get (D := D) (ci := 9) (v := .ref aR) (C := RX9) (T := TX9) (N := 9) hx hb hts inX9 hown hK hP 0 rfl rfl 3 (by decide) fl_37 (fun _ h9 => h9) rfl dX9_back_31 ?_
          obtain ⟨y6, qy6, h⟩ := ob_some h
          have hPc : va_P D vwCl [(aR, .inr (6, [.ref aT, .int R_in, .int R_streak, .int R_lot])), (aI0, .inr (3, [.int I0_kept, .int I0_in, .int I0_streak, .int I0_lot]))] s.heap := hP.sub [1, 4] rfl
          have hDc : va_D A [(aR, .inr (6, [.ref aT, .int R_in, .int R_streak, .int R_lot])), (aI0, .inr (3, [.int I0_kept, .int I0_in, .int I0_streak, .int I0_lot]))] := hD.sub [1, 4] (by decide) rfl
          have hFc := va_free (wc := [(aR, .inr (6, [.ref aT, .int R_in, .int R_streak, .int R_lot])), (aI0, .inr (3, [.int I0_kept, .int I0_in, .int I0_streak, .int I0_lot]))]) hD hS hA [1, 4] rfl
          refine va_callv (va_runV (As := [.ref aR]) (rest := []) ⟨hx, hb, hml, hown, hts⟩ (c_X3_giveTo l D cI cJ cZ cO aR aI0 aT R_in R_streak R_lot I0_kept I0_in I0_streak I0_lot s.heap.size y6 qy6) (cwV 1 hts gX9_back_X3_giveTo rfl rfl rfl (by decide +kernel) ⟨Nat.le_of_ble_eq_true rfl, Nat.le_of_ble_eq_true rfl⟩) ⟨fb_i, va_recv hK hP (ci := 3) (q0 := 4) rfl rfl, fun U hU hW => ⟨rfl, by rw [hU], by rw [hU]; exact hPc, KK.warm hW hKK, hDc.weaken (fun _ _ _ _ => trivial)⟩⟩ rfl rfl hl.1 rfl (lv_room (Nat.le_of_ble_eq_true rfl)) dX9_back_34 ⟨Nat.le_of_ble_eq_true rfl, Nat.le_of_ble_eq_true rfl⟩) hS (fun q _ h => hFc q h) hFc (fun u t H1 locs ht hvm hw hB hz1 hk1 hS => ?_)
          obtain ⟨hP1, hD1⟩ := hB
          rw [ht] at hP1
          obtain ⟨hP, hD⟩ := va_join (wr := [(aS, .inr (9, [.ref aX, .ref aD, .ref aT, .ref aR, .ref aH, .ref aIM, .ref aW, .ref aC, .ref aK])), (aH, .inr (2, [.ref aH_ins, .ref aH_streaks, .int H_size])), (aIM, .inl (cO, 2, .inr (.inr (.inr (.inr (gIm aI0 aI1)))))), (aI1, .inr (3, [.int I1_kept, .int I1_in, .int I1_streak, .int I1_lot]))]) (w1 := [(aR, .inr (6, [.ref aT, .int y6.1, .int y6.2.1, .int y6.2.2])), (aI0, .inr (3, [.int I0_kept, .int I0_in, .int I0_streak, .int I0_lot]))]) hP hD [1, 4] [0, 2, 3, 5] rfl rfl (by decide) (by decide) hk1 hFc hP1 hD1
          generalize H1 = H at hP hS ⊢
          have hP : va_P D vwCl [(aS, .inr (9, [.ref aX, .ref aD, .ref aT, .ref aR, .ref aH, .ref aIM, .ref aW, .ref aC, .ref aK])), (aR, .inr (6, [.ref aT, .int y6.1, .int y6.2.1, .int y6.2.2])), (aH, .inr (2, [.ref aH_ins, .ref aH_streaks, .int H_size])), (aIM, .inl (cO, 2, .inr (.inr (.inr (.inr (gIm aI0 aI1)))))), (aI0, .inr (3, [.int I0_kept, .int I0_in, .int I0_streak, .int I0_lot])), (aI1, .inr (3, [.int I1_kept, .int I1_in, .int I1_streak, .int I1_lot]))] H := hP.sub [0, 4, 1, 2, 5, 3] rfl
          have hD : va_D A [(aS, .inr (9, [.ref aX, .ref aD, .ref aT, .ref aR, .ref aH, .ref aIM, .ref aW, .ref aC, .ref aK])), (aR, .inr (6, [.ref aT, .int y6.1, .int y6.2.1, .int y6.2.2])), (aH, .inr (2, [.ref aH_ins, .ref aH_streaks, .int H_size])), (aIM, .inl (cO, 2, .inr (.inr (.inr (.inr (gIm aI0 aI1)))))), (aI0, .inr (3, [.int I0_kept, .int I0_in, .int I0_streak, .int I0_lot])), (aI1, .inr (3, [.int I1_kept, .int I1_in, .int I1_streak, .int I1_lot]))] := hD.sub [0, 4, 1, 2, 5, 3] (by decide) rfl
          refine lv_aload_n hx hb dX9_back_37 rfl (lv_at hl 0 rfl) ?_
          refine va_get (D := D) (ci := 9) (v := .ref aH) (C := RX9) (T := TX9) (N := 9) hx hb hts inX9 hown hK hP 0 rfl rfl 4 (by decide) fl_44 (fun _ h9 => h9) rfl dX9_back_38 ?_
          obtain ⟨y7, qy7, h⟩ := ob_some h
          have hPc : va_P D vwCl [(aH, .inr (2, [.ref aH_ins, .ref aH_streaks, .int H_size]))] H := hP.sub [2] rfl
          have hDc : va_D A [(aH, .inr (2, [.ref aH_ins, .ref aH_streaks, .int H_size]))] := hD.sub [2] (by decide) rfl
          have hFc := va_free (wc := [(aH, .inr (2, [.ref aH_ins, .ref aH_streaks, .int H_size]))]) hD hS hA [2] rfl
          refine va_callv (va_runV (As := []) (rest := []) ⟨hx, hb, hml, hown, hts⟩ (c_X2_forget l D cI cJ cZ cO aH aH_ins aH_streaks H_size H.size y7 qy7) (cwV 0 hts gX9_back_X2_forget rfl rfl rfl (by decide +kernel) ⟨Nat.le_of_ble_eq_true rfl, Nat.le_of_ble_eq_true rfl⟩) ⟨fb_i, va_recv hK hP (ci := 2) (q0 := 2) rfl rfl, fun U hU hW => ⟨rfl, by rw [hU], by rw [hU]; exact hPc, KK.warm hW hKK, hDc.weaken (fun _ _ _ _ => trivial)⟩⟩ rfl rfl hl.1 rfl (lv_room (Nat.le_of_ble_eq_true rfl)) dX9_back_41 ⟨Nat.le_of_ble_eq_true rfl, Nat.le_of_ble_eq_true rfl⟩) hS (fun q _ h => hFc q h) hFc (fun u t H1 locs ht hvm hw hB hz1 hk1 hS => ?_)
          obtain ⟨hP1, hD1⟩ := hB
          rw [ht] at hP1
          obtain ⟨hP, hD⟩ := va_join (wr := [(aS, .inr (9, [.ref aX, .ref aD, .ref aT, .ref aR, .ref aH, .ref aIM, .ref aW, .ref aC, .ref aK])), (aR, .inr (6, [.ref aT, .int y6.1, .int y6.2.1, .int y6.2.2])), (aIM, .inl (cO, 2, .inr (.inr (.inr (.inr (gIm aI0 aI1)))))), (aI0, .inr (3, [.int I0_kept, .int I0_in, .int I0_streak, .int I0_lot])), (aI1, .inr (3, [.int I1_kept, .int I1_in, .int I1_streak, .int I1_lot]))]) (w1 := [(aH, .inr (2, [.ref aH_ins, .ref aH_streaks, .int y7]))]) hP hD [2] [0, 1, 3, 4, 5] rfl rfl (by decide) (by decide) hk1 hFc hP1 hD1
          generalize H1 = H at hP hS ⊢
          have hP : va_P D vwCl [(aS, .inr (9, [.ref aX, .ref aD, .ref aT, .ref aR, .ref aH, .ref aIM, .ref aW, .ref aC, .ref aK])), (aR, .inr (6, [.ref aT, .int y6.1, .int y6.2.1, .int y6.2.2])), (aH, .inr (2, [.ref aH_ins, .ref aH_streaks, .int y7])), (aIM, .inl (cO, 2, .inr (.inr (.inr (.inr (gIm aI0 aI1)))))), (aI0, .inr (3, [.int I0_kept, .int I0_in, .int I0_streak, .int I0_lot])), (aI1, .inr (3, [.int I1_kept, .int I1_in, .int I1_streak, .int I1_lot]))] H := hP.sub [0, 1, 5, 2, 3, 4] rfl
          have hD : va_D A [(aS, .inr (9, [.ref aX, .ref aD, .ref aT, .ref aR, .ref aH, .ref aIM, .ref aW, .ref aC, .ref aK])), (aR, .inr (6, [.ref aT, .int y6.1, .int y6.2.1, .int y6.2.2])), (aH, .inr (2, [.ref aH_ins, .ref aH_streaks, .int y7])), (aIM, .inl (cO, 2, .inr (.inr (.inr (.inr (gIm aI0 aI1)))))), (aI0, .inr (3, [.int I0_kept, .int I0_in, .int I0_streak, .int I0_lot])), (aI1, .inr (3, [.int I1_kept, .int I1_in, .int I1_streak, .int I1_lot]))] := hD.sub [0, 1, 5, 2, 3, 4] (by decide) rfl
          refine lv_aload_n hx hb dX9_back_44 rfl (lv_at hl 0 rfl) ?_
          refine va_get (D := D) (ci := 9) (v := .ref aR) (C := RX9) (T := TX9) (N := 9) hx hb hts inX9 hown hK hP 0 rfl rfl 3 (by decide) fl_37 (fun _ h9 => h9) rfl dX9_back_45 ?_
          have hPc : va_P D vwCl [(aR, .inr (6, [.ref aT, .int y6.1, .int y6.2.1, .int y6.2.2]))] H := hP.sub [1] rfl
          refine vp_callSi (va_Run.run (va_runV (As := []) (rest := []) ⟨hx, hb, hml, hown, hts⟩ (c_X6_howManyIn l D cI cJ cZ cO aR aT y6.1 y6.2.1 y6.2.2 _ rfl) (cwV 0 hts gX9_back_X6_howManyIn rfl rfl rfl (by decide +kernel) ⟨Nat.le_of_ble_eq_true rfl, Nat.le_of_ble_eq_true rfl⟩) ⟨fb_p, va_recv hK hP (ci := 6) (q0 := 1) rfl rfl, fun U hU hW => ⟨rfl, by rw [hU]; exact hPc, KK.warm hW hKK⟩⟩ rfl rfl hl.1 rfl (lv_room (Nat.le_of_ble_eq_true rfl)) dX9_back_48 ⟨Nat.le_of_ble_eq_true rfl, Nat.le_of_ble_eq_true rfl⟩)) (fun r hr => ?_)
          replace hr := hr.symm
          subst hr
          have hy := Option.some.inj h
          subst hy
          exact W.iret (v := (f_X6_howManyIn y6.1)) hx hb hr (fun t ht hW => ⟨⟨(f_X6_howManyIn y6.1), (), rfl, rfl, by rw [ht]; exact hP, hD⟩, hS.F ht⟩) hS.2.2 dX9_back_51
        replace h := if_n s_10 h
        by_cases s_11 : p1 = (1 : Int32)
        · replace h := if_p s_11 h
          refine va_aldq (i := p1) (C := "SimonSays$Image") hx hb hK hP 3 3 rfl rfl (gIn_iff.mp (by rw [s_11]; decide)) dX9_back_29 ?_
          rw [show va_rf (gIm aI0 aI1 p1.toNatClampNeg) = .ref aI1 from by rw [s_11]; rfl]
          refine lv_aload_n hx hb dX9_back_30 rfl (lv_at hl 0 rfl) ?_
          refine va_get (D := D) (ci := 9) (v := .ref aR) (C := RX9) (T := TX9) (N := 9) hx hb hts inX9 hown hK hP 0 rfl rfl 3 (by decide) fl_37 (fun _ h9 => h9) rfl dX9_back_31 ?_
          obtain ⟨y8, qy8, h⟩ := ob_some h
          have hPc : va_P D vwCl [(aR, .inr (6, [.ref aT, .int R_in, .int R_streak, .int R_lot])), (aI1, .inr (3, [.int I1_kept, .int I1_in, .int I1_streak, .int I1_lot]))] s.heap := hP.sub [1, 5] rfl
          have hDc : va_D A [(aR, .inr (6, [.ref aT, .int R_in, .int R_streak, .int R_lot])), (aI1, .inr (3, [.int I1_kept, .int I1_in, .int I1_streak, .int I1_lot]))] := hD.sub [1, 5] (by decide) rfl
          have hFc := va_free (wc := [(aR, .inr (6, [.ref aT, .int R_in, .int R_streak, .int R_lot])), (aI1, .inr (3, [.int I1_kept, .int I1_in, .int I1_streak, .int I1_lot]))]) hD hS hA [1, 5] rfl
          refine va_callv (va_runV (As := [.ref aR]) (rest := []) ⟨hx, hb, hml, hown, hts⟩ (c_X3_giveTo l D cI cJ cZ cO aR aI1 aT R_in R_streak R_lot I1_kept I1_in I1_streak I1_lot s.heap.size y8 qy8) (cwV 1 hts gX9_back_X3_giveTo rfl rfl rfl (by decide +kernel) ⟨Nat.le_of_ble_eq_true rfl, Nat.le_of_ble_eq_true rfl⟩) ⟨fb_i, va_recv hK hP (ci := 3) (q0 := 5) rfl rfl, fun U hU hW => ⟨rfl, by rw [hU], by rw [hU]; exact hPc, KK.warm hW hKK, hDc.weaken (fun _ _ _ _ => trivial)⟩⟩ rfl rfl hl.1 rfl (lv_room (Nat.le_of_ble_eq_true rfl)) dX9_back_34 ⟨Nat.le_of_ble_eq_true rfl, Nat.le_of_ble_eq_true rfl⟩) hS (fun q _ h => hFc q h) hFc (fun u t H1 locs ht hvm hw hB hz1 hk1 hS => ?_)
          obtain ⟨hP1, hD1⟩ := hB
          rw [ht] at hP1
          obtain ⟨hP, hD⟩ := va_join (wr := [(aS, .inr (9, [.ref aX, .ref aD, .ref aT, .ref aR, .ref aH, .ref aIM, .ref aW, .ref aC, .ref aK])), (aH, .inr (2, [.ref aH_ins, .ref aH_streaks, .int H_size])), (aIM, .inl (cO, 2, .inr (.inr (.inr (.inr (gIm aI0 aI1)))))), (aI0, .inr (3, [.int I0_kept, .int I0_in, .int I0_streak, .int I0_lot]))]) (w1 := [(aR, .inr (6, [.ref aT, .int y8.1, .int y8.2.1, .int y8.2.2])), (aI1, .inr (3, [.int I1_kept, .int I1_in, .int I1_streak, .int I1_lot]))]) hP hD [1, 5] [0, 2, 3, 4] rfl rfl (by decide) (by decide) hk1 hFc hP1 hD1
          generalize H1 = H at hP hS ⊢
          have hP : va_P D vwCl [(aS, .inr (9, [.ref aX, .ref aD, .ref aT, .ref aR, .ref aH, .ref aIM, .ref aW, .ref aC, .ref aK])), (aR, .inr (6, [.ref aT, .int y8.1, .int y8.2.1, .int y8.2.2])), (aH, .inr (2, [.ref aH_ins, .ref aH_streaks, .int H_size])), (aIM, .inl (cO, 2, .inr (.inr (.inr (.inr (gIm aI0 aI1)))))), (aI0, .inr (3, [.int I0_kept, .int I0_in, .int I0_streak, .int I0_lot])), (aI1, .inr (3, [.int I1_kept, .int I1_in, .int I1_streak, .int I1_lot]))] H := hP.sub [0, 4, 1, 2, 3, 5] rfl
          have hD : va_D A [(aS, .inr (9, [.ref aX, .ref aD, .ref aT, .ref aR, .ref aH, .ref aIM, .ref aW, .ref aC, .ref aK])), (aR, .inr (6, [.ref aT, .int y8.1, .int y8.2.1, .int y8.2.2])), (aH, .inr (2, [.ref aH_ins, .ref aH_streaks, .int H_size])), (aIM, .inl (cO, 2, .inr (.inr (.inr (.inr (gIm aI0 aI1)))))), (aI0, .inr (3, [.int I0_kept, .int I0_in, .int I0_streak, .int I0_lot])), (aI1, .inr (3, [.int I1_kept, .int I1_in, .int I1_streak, .int I1_lot]))] := hD.sub [0, 4, 1, 2, 3, 5] (by decide) rfl
          refine lv_aload_n hx hb dX9_back_37 rfl (lv_at hl 0 rfl) ?_
          refine va_get (D := D) (ci := 9) (v := .ref aH) (C := RX9) (T := TX9) (N := 9) hx hb hts inX9 hown hK hP 0 rfl rfl 4 (by decide) fl_44 (fun _ h9 => h9) rfl dX9_back_38 ?_
          obtain ⟨y9, qy9, h⟩ := ob_some h
          have hPc : va_P D vwCl [(aH, .inr (2, [.ref aH_ins, .ref aH_streaks, .int H_size]))] H := hP.sub [2] rfl
          have hDc : va_D A [(aH, .inr (2, [.ref aH_ins, .ref aH_streaks, .int H_size]))] := hD.sub [2] (by decide) rfl
          have hFc := va_free (wc := [(aH, .inr (2, [.ref aH_ins, .ref aH_streaks, .int H_size]))]) hD hS hA [2] rfl
          refine va_callv (va_runV (As := []) (rest := []) ⟨hx, hb, hml, hown, hts⟩ (c_X2_forget l D cI cJ cZ cO aH aH_ins aH_streaks H_size H.size y9 qy9) (cwV 0 hts gX9_back_X2_forget rfl rfl rfl (by decide +kernel) ⟨Nat.le_of_ble_eq_true rfl, Nat.le_of_ble_eq_true rfl⟩) ⟨fb_i, va_recv hK hP (ci := 2) (q0 := 2) rfl rfl, fun U hU hW => ⟨rfl, by rw [hU], by rw [hU]; exact hPc, KK.warm hW hKK, hDc.weaken (fun _ _ _ _ => trivial)⟩⟩ rfl rfl hl.1 rfl (lv_room (Nat.le_of_ble_eq_true rfl)) dX9_back_41 ⟨Nat.le_of_ble_eq_true rfl, Nat.le_of_ble_eq_true rfl⟩) hS (fun q _ h => hFc q h) hFc (fun u t H1 locs ht hvm hw hB hz1 hk1 hS => ?_)
          obtain ⟨hP1, hD1⟩ := hB
          rw [ht] at hP1
          obtain ⟨hP, hD⟩ := va_join (wr := [(aS, .inr (9, [.ref aX, .ref aD, .ref aT, .ref aR, .ref aH, .ref aIM, .ref aW, .ref aC, .ref aK])), (aR, .inr (6, [.ref aT, .int y8.1, .int y8.2.1, .int y8.2.2])), (aIM, .inl (cO, 2, .inr (.inr (.inr (.inr (gIm aI0 aI1)))))), (aI0, .inr (3, [.int I0_kept, .int I0_in, .int I0_streak, .int I0_lot])), (aI1, .inr (3, [.int I1_kept, .int I1_in, .int I1_streak, .int I1_lot]))]) (w1 := [(aH, .inr (2, [.ref aH_ins, .ref aH_streaks, .int y9]))]) hP hD [2] [0, 1, 3, 4, 5] rfl rfl (by decide) (by decide) hk1 hFc hP1 hD1
          generalize H1 = H at hP hS ⊢
          have hP : va_P D vwCl [(aS, .inr (9, [.ref aX, .ref aD, .ref aT, .ref aR, .ref aH, .ref aIM, .ref aW, .ref aC, .ref aK])), (aR, .inr (6, [.ref aT, .int y8.1, .int y8.2.1, .int y8.2.2])), (aH, .inr (2, [.ref aH_ins, .ref aH_streaks, .int y9])), (aIM, .inl (cO, 2, .inr (.inr (.inr (.inr (gIm aI0 aI1)))))), (aI0, .inr (3, [.int I0_kept, .int I0_in, .int I0_streak, .int I0_lot])), (aI1, .inr (3, [.int I1_kept, .int I1_in, .int I1_streak, .int I1_lot]))] H := hP.sub [0, 1, 5, 2, 3, 4] rfl
          have hD : va_D A [(aS, .inr (9, [.ref aX, .ref aD, .ref aT, .ref aR, .ref aH, .ref aIM, .ref aW, .ref aC, .ref aK])), (aR, .inr (6, [.ref aT, .int y8.1, .int y8.2.1, .int y8.2.2])), (aH, .inr (2, [.ref aH_ins, .ref aH_streaks, .int y9])), (aIM, .inl (cO, 2, .inr (.inr (.inr (.inr (gIm aI0 aI1)))))), (aI0, .inr (3, [.int I0_kept, .int I0_in, .int I0_streak, .int I0_lot])), (aI1, .inr (3, [.int I1_kept, .int I1_in, .int I1_streak, .int I1_lot]))] := hD.sub [0, 1, 5, 2, 3, 4] (by decide) rfl
          refine lv_aload_n hx hb dX9_back_44 rfl (lv_at hl 0 rfl) ?_
          refine va_get (D := D) (ci := 9) (v := .ref aR) (C := RX9) (T := TX9) (N := 9) hx hb hts inX9 hown hK hP 0 rfl rfl 3 (by decide) fl_37 (fun _ h9 => h9) rfl dX9_back_45 ?_
          have hPc : va_P D vwCl [(aR, .inr (6, [.ref aT, .int y8.1, .int y8.2.1, .int y8.2.2]))] H := hP.sub [1] rfl
          refine vp_callSi (va_Run.run (va_runV (As := []) (rest := []) ⟨hx, hb, hml, hown, hts⟩ (c_X6_howManyIn l D cI cJ cZ cO aR aT y8.1 y8.2.1 y8.2.2 _ rfl) (cwV 0 hts gX9_back_X6_howManyIn rfl rfl rfl (by decide +kernel) ⟨Nat.le_of_ble_eq_true rfl, Nat.le_of_ble_eq_true rfl⟩) ⟨fb_p, va_recv hK hP (ci := 6) (q0 := 1) rfl rfl, fun U hU hW => ⟨rfl, by rw [hU]; exact hPc, KK.warm hW hKK⟩⟩ rfl rfl hl.1 rfl (lv_room (Nat.le_of_ble_eq_true rfl)) dX9_back_48 ⟨Nat.le_of_ble_eq_true rfl, Nat.le_of_ble_eq_true rfl⟩)) (fun r hr => ?_)
          replace hr := hr.symm
          subst hr
          have hy := Option.some.inj h
          subst hy
          exact W.iret (v := (f_X6_howManyIn y8.1)) hx hb hr (fun t ht hW => ⟨⟨(f_X6_howManyIn y8.1), (), rfl, rfl, by rw [ht]; exact hP, hD⟩, hS.F ht⟩) hS.2.2 dX9_back_51
        replace h := if_n s_11 h
        exact (ns h).elim
      · replace h := if_p c_5 h
        refine lv_bipush (v := (-2 : Int32)) hx hb dX9_back_21 (by decide) ?_
        have hy := Option.some.inj h
        subst hy
        exact W.iret (v := (-2 : Int32)) hx hb hr (fun t ht hW => ⟨⟨(-2 : Int32), (), rfl, rfl, by rw [ht]; exact hP, hD⟩, hS.F ht⟩) hS.2.2 dX9_back_23
    replace h := if_n s_21 h
    by_cases s_22 : p1 = (1 : Int32)
    · replace h := if_p s_22 h
      refine va_aldq (i := p1) (C := "SimonSays$Image") hx hb hK hP 3 3 rfl rfl (gIn_iff.mp (by rw [s_22]; decide)) dX9_back_14 ?_
      rw [show va_rf (gIm aI0 aI1 p1.toNatClampNeg) = .ref aI1 from by rw [s_22]; rfl]
      obtain ⟨y12, qy12, h⟩ := ob_some h
      have hPc : va_P D vwCl [(aI1, .inr (3, [.int I1_kept, .int I1_in, .int I1_streak, .int I1_lot]))] s.heap := hP.sub [5] rfl
      refine vp_callSi (va_Run.run (va_runV (As := []) (rest := []) ⟨hx, hb, hml, hown, hts⟩ (c_X3_isKept l D cI cJ cZ cO aI1 I1_kept I1_in I1_streak I1_lot y12 qy12) (cwV 0 hts gX9_back_X3_isKept rfl rfl rfl (by decide +kernel) ⟨Nat.le_of_ble_eq_true rfl, Nat.le_of_ble_eq_true rfl⟩) ⟨fb_p, va_recv hK hP (ci := 3) (q0 := 5) rfl rfl, fun U hU hW => ⟨rfl, by rw [hU]; exact hPc, KK.warm hW hKK⟩⟩ rfl rfl hl.1 rfl (lv_room (Nat.le_of_ble_eq_true rfl)) dX9_back_15 ⟨Nat.le_of_ble_eq_true rfl, Nat.le_of_ble_eq_true rfl⟩)) (fun r hr => ?_)
      obtain ⟨hr, hz13⟩ := hr
      replace hr := hr.symm
      subst hr
      refine lv_if_ne (tgt := 24) hx hb dX9_back_18 (by decide) (fun c_14 => ?_) (fun c_14 => ?_)
      · replace h := if_n c_14 h
        refine lv_aload_n hx hb dX9_back_24 rfl (lv_at hl 0 rfl) ?_
        refine va_get (D := D) (ci := 9) (v := .ref aIM) (C := RX9) (T := TX9) (N := 9) hx hb hts inX9 hown hK hP 0 rfl rfl 5 (by decide) fl_50 (fun _ h9 => h9) rfl dX9_back_25 ?_
        refine lv_iload_n hx hb dX9_back_28 rfl (lv_at hl 1 rfl) ?_
        by_cases s_19 : p1 = (0 : Int32)
        · replace h := if_p s_19 h
          refine va_aldq (i := p1) (C := "SimonSays$Image") hx hb hK hP 3 3 rfl rfl (gIn_iff.mp (by rw [s_19]; decide)) dX9_back_29 ?_
          rw [show va_rf (gIm aI0 aI1 p1.toNatClampNeg) = .ref aI0 from by rw [s_19]; rfl]
          refine lv_aload_n hx hb dX9_back_30 rfl (lv_at hl 0 rfl) ?_
          refine va_get (D := D) (ci := 9) (v := .ref aR) (C := RX9) (T := TX9) (N := 9) hx hb hts inX9 hown hK hP 0 rfl rfl 3 (by decide) fl_37 (fun _ h9 => h9) rfl dX9_back_31 ?_
          obtain ⟨y15, qy15, h⟩ := ob_some h
          have hPc : va_P D vwCl [(aR, .inr (6, [.ref aT, .int R_in, .int R_streak, .int R_lot])), (aI0, .inr (3, [.int I0_kept, .int I0_in, .int I0_streak, .int I0_lot]))] s.heap := hP.sub [1, 4] rfl
          have hDc : va_D A [(aR, .inr (6, [.ref aT, .int R_in, .int R_streak, .int R_lot])), (aI0, .inr (3, [.int I0_kept, .int I0_in, .int I0_streak, .int I0_lot]))] := hD.sub [1, 4] (by decide) rfl
          have hFc := va_free (wc := [(aR, .inr (6, [.ref aT, .int R_in, .int R_streak, .int R_lot])), (aI0, .inr (3, [.int I0_kept, .int I0_in, .int I0_streak, .int I0_lot]))]) hD hS hA [1, 4] rfl
          refine va_callv (va_runV (As := [.ref aR]) (rest := []) ⟨hx, hb, hml, hown, hts⟩ (c_X3_giveTo l D cI cJ cZ cO aR aI0 aT R_in R_streak R_lot I0_kept I0_in I0_streak I0_lot s.heap.size y15 qy15) (cwV 1 hts gX9_back_X3_giveTo rfl rfl rfl (by decide +kernel) ⟨Nat.le_of_ble_eq_true rfl, Nat.le_of_ble_eq_true rfl⟩) ⟨fb_i, va_recv hK hP (ci := 3) (q0 := 4) rfl rfl, fun U hU hW => ⟨rfl, by rw [hU], by rw [hU]; exact hPc, KK.warm hW hKK, hDc.weaken (fun _ _ _ _ => trivial)⟩⟩ rfl rfl hl.1 rfl (lv_room (Nat.le_of_ble_eq_true rfl)) dX9_back_34 ⟨Nat.le_of_ble_eq_true rfl, Nat.le_of_ble_eq_true rfl⟩) hS (fun q _ h => hFc q h) hFc (fun u t H1 locs ht hvm hw hB hz1 hk1 hS => ?_)
          obtain ⟨hP1, hD1⟩ := hB
          rw [ht] at hP1
          obtain ⟨hP, hD⟩ := va_join (wr := [(aS, .inr (9, [.ref aX, .ref aD, .ref aT, .ref aR, .ref aH, .ref aIM, .ref aW, .ref aC, .ref aK])), (aH, .inr (2, [.ref aH_ins, .ref aH_streaks, .int H_size])), (aIM, .inl (cO, 2, .inr (.inr (.inr (.inr (gIm aI0 aI1)))))), (aI1, .inr (3, [.int I1_kept, .int I1_in, .int I1_streak, .int I1_lot]))]) (w1 := [(aR, .inr (6, [.ref aT, .int y15.1, .int y15.2.1, .int y15.2.2])), (aI0, .inr (3, [.int I0_kept, .int I0_in, .int I0_streak, .int I0_lot]))]) hP hD [1, 4] [0, 2, 3, 5] rfl rfl (by decide) (by decide) hk1 hFc hP1 hD1
          generalize H1 = H at hP hS ⊢
          have hP : va_P D vwCl [(aS, .inr (9, [.ref aX, .ref aD, .ref aT, .ref aR, .ref aH, .ref aIM, .ref aW, .ref aC, .ref aK])), (aR, .inr (6, [.ref aT, .int y15.1, .int y15.2.1, .int y15.2.2])), (aH, .inr (2, [.ref aH_ins, .ref aH_streaks, .int H_size])), (aIM, .inl (cO, 2, .inr (.inr (.inr (.inr (gIm aI0 aI1)))))), (aI0, .inr (3, [.int I0_kept, .int I0_in, .int I0_streak, .int I0_lot])), (aI1, .inr (3, [.int I1_kept, .int I1_in, .int I1_streak, .int I1_lot]))] H := hP.sub [0, 4, 1, 2, 5, 3] rfl
          have hD : va_D A [(aS, .inr (9, [.ref aX, .ref aD, .ref aT, .ref aR, .ref aH, .ref aIM, .ref aW, .ref aC, .ref aK])), (aR, .inr (6, [.ref aT, .int y15.1, .int y15.2.1, .int y15.2.2])), (aH, .inr (2, [.ref aH_ins, .ref aH_streaks, .int H_size])), (aIM, .inl (cO, 2, .inr (.inr (.inr (.inr (gIm aI0 aI1)))))), (aI0, .inr (3, [.int I0_kept, .int I0_in, .int I0_streak, .int I0_lot])), (aI1, .inr (3, [.int I1_kept, .int I1_in, .int I1_streak, .int I1_lot]))] := hD.sub [0, 4, 1, 2, 5, 3] (by decide) rfl
          refine lv_aload_n hx hb dX9_back_37 rfl (lv_at hl 0 rfl) ?_
          refine va_get (D := D) (ci := 9) (v := .ref aH) (C := RX9) (T := TX9) (N := 9) hx hb hts inX9 hown hK hP 0 rfl rfl 4 (by decide) fl_44 (fun _ h9 => h9) rfl dX9_back_38 ?_
          obtain ⟨y16, qy16, h⟩ := ob_some h
          have hPc : va_P D vwCl [(aH, .inr (2, [.ref aH_ins, .ref aH_streaks, .int H_size]))] H := hP.sub [2] rfl
          have hDc : va_D A [(aH, .inr (2, [.ref aH_ins, .ref aH_streaks, .int H_size]))] := hD.sub [2] (by decide) rfl
          have hFc := va_free (wc := [(aH, .inr (2, [.ref aH_ins, .ref aH_streaks, .int H_size]))]) hD hS hA [2] rfl
          refine va_callv (va_runV (As := []) (rest := []) ⟨hx, hb, hml, hown, hts⟩ (c_X2_forget l D cI cJ cZ cO aH aH_ins aH_streaks H_size H.size y16 qy16) (cwV 0 hts gX9_back_X2_forget rfl rfl rfl (by decide +kernel) ⟨Nat.le_of_ble_eq_true rfl, Nat.le_of_ble_eq_true rfl⟩) ⟨fb_i, va_recv hK hP (ci := 2) (q0 := 2) rfl rfl, fun U hU hW => ⟨rfl, by rw [hU], by rw [hU]; exact hPc, KK.warm hW hKK, hDc.weaken (fun _ _ _ _ => trivial)⟩⟩ rfl rfl hl.1 rfl (lv_room (Nat.le_of_ble_eq_true rfl)) dX9_back_41 ⟨Nat.le_of_ble_eq_true rfl, Nat.le_of_ble_eq_true rfl⟩) hS (fun q _ h => hFc q h) hFc (fun u t H1 locs ht hvm hw hB hz1 hk1 hS => ?_)
          obtain ⟨hP1, hD1⟩ := hB
          rw [ht] at hP1
          obtain ⟨hP, hD⟩ := va_join (wr := [(aS, .inr (9, [.ref aX, .ref aD, .ref aT, .ref aR, .ref aH, .ref aIM, .ref aW, .ref aC, .ref aK])), (aR, .inr (6, [.ref aT, .int y15.1, .int y15.2.1, .int y15.2.2])), (aIM, .inl (cO, 2, .inr (.inr (.inr (.inr (gIm aI0 aI1)))))), (aI0, .inr (3, [.int I0_kept, .int I0_in, .int I0_streak, .int I0_lot])), (aI1, .inr (3, [.int I1_kept, .int I1_in, .int I1_streak, .int I1_lot]))]) (w1 := [(aH, .inr (2, [.ref aH_ins, .ref aH_streaks, .int y16]))]) hP hD [2] [0, 1, 3, 4, 5] rfl rfl (by decide) (by decide) hk1 hFc hP1 hD1
          generalize H1 = H at hP hS ⊢
          have hP : va_P D vwCl [(aS, .inr (9, [.ref aX, .ref aD, .ref aT, .ref aR, .ref aH, .ref aIM, .ref aW, .ref aC, .ref aK])), (aR, .inr (6, [.ref aT, .int y15.1, .int y15.2.1, .int y15.2.2])), (aH, .inr (2, [.ref aH_ins, .ref aH_streaks, .int y16])), (aIM, .inl (cO, 2, .inr (.inr (.inr (.inr (gIm aI0 aI1)))))), (aI0, .inr (3, [.int I0_kept, .int I0_in, .int I0_streak, .int I0_lot])), (aI1, .inr (3, [.int I1_kept, .int I1_in, .int I1_streak, .int I1_lot]))] H := hP.sub [0, 1, 5, 2, 3, 4] rfl
          have hD : va_D A [(aS, .inr (9, [.ref aX, .ref aD, .ref aT, .ref aR, .ref aH, .ref aIM, .ref aW, .ref aC, .ref aK])), (aR, .inr (6, [.ref aT, .int y15.1, .int y15.2.1, .int y15.2.2])), (aH, .inr (2, [.ref aH_ins, .ref aH_streaks, .int y16])), (aIM, .inl (cO, 2, .inr (.inr (.inr (.inr (gIm aI0 aI1)))))), (aI0, .inr (3, [.int I0_kept, .int I0_in, .int I0_streak, .int I0_lot])), (aI1, .inr (3, [.int I1_kept, .int I1_in, .int I1_streak, .int I1_lot]))] := hD.sub [0, 1, 5, 2, 3, 4] (by decide) rfl
          refine lv_aload_n hx hb dX9_back_44 rfl (lv_at hl 0 rfl) ?_
          refine va_get (D := D) (ci := 9) (v := .ref aR) (C := RX9) (T := TX9) (N := 9) hx hb hts inX9 hown hK hP 0 rfl rfl 3 (by decide) fl_37 (fun _ h9 => h9) rfl dX9_back_45 ?_
          have hPc : va_P D vwCl [(aR, .inr (6, [.ref aT, .int y15.1, .int y15.2.1, .int y15.2.2]))] H := hP.sub [1] rfl
          refine vp_callSi (va_Run.run (va_runV (As := []) (rest := []) ⟨hx, hb, hml, hown, hts⟩ (c_X6_howManyIn l D cI cJ cZ cO aR aT y15.1 y15.2.1 y15.2.2 _ rfl) (cwV 0 hts gX9_back_X6_howManyIn rfl rfl rfl (by decide +kernel) ⟨Nat.le_of_ble_eq_true rfl, Nat.le_of_ble_eq_true rfl⟩) ⟨fb_p, va_recv hK hP (ci := 6) (q0 := 1) rfl rfl, fun U hU hW => ⟨rfl, by rw [hU]; exact hPc, KK.warm hW hKK⟩⟩ rfl rfl hl.1 rfl (lv_room (Nat.le_of_ble_eq_true rfl)) dX9_back_48 ⟨Nat.le_of_ble_eq_true rfl, Nat.le_of_ble_eq_true rfl⟩)) (fun r hr => ?_)
          replace hr := hr.symm
          subst hr
          have hy := Option.some.inj h
          subst hy
          exact W.iret (v := (f_X6_howManyIn y15.1)) hx hb hr (fun t ht hW => ⟨⟨(f_X6_howManyIn y15.1), (), rfl, rfl, by rw [ht]; exact hP, hD⟩, hS.F ht⟩) hS.2.2 dX9_back_51
        replace h := if_n s_19 h
        by_cases s_20 : p1 = (1 : Int32)
        · replace h := if_p s_20 h
          refine va_aldq (i := p1) (C := "SimonSays$Image") hx hb hK hP 3 3 rfl rfl (gIn_iff.mp (by rw [s_20]; decide)) dX9_back_29 ?_
          rw [show va_rf (gIm aI0 aI1 p1.toNatClampNeg) = .ref aI1 from by rw [s_20]; rfl]
          refine lv_aload_n hx hb dX9_back_30 rfl (lv_at hl 0 rfl) ?_
          refine va_get (D := D) (ci := 9) (v := .ref aR) (C := RX9) (T := TX9) (N := 9) hx hb hts inX9 hown hK hP 0 rfl rfl 3 (by decide) fl_37 (fun _ h9 => h9) rfl dX9_back_31 ?_
          obtain ⟨y17, qy17, h⟩ := ob_some h
          have hPc : va_P D vwCl [(aR, .inr (6, [.ref aT, .int R_in, .int R_streak, .int R_lot])), (aI1, .inr (3, [.int I1_kept, .int I1_in, .int I1_streak, .int I1_lot]))] s.heap := hP.sub [1, 5] rfl
          have hDc : va_D A [(aR, .inr (6, [.ref aT, .int R_in, .int R_streak, .int R_lot])), (aI1, .inr (3, [.int I1_kept, .int I1_in, .int I1_streak, .int I1_lot]))] := hD.sub [1, 5] (by decide) rfl
          have hFc := va_free (wc := [(aR, .inr (6, [.ref aT, .int R_in, .int R_streak, .int R_lot])), (aI1, .inr (3, [.int I1_kept, .int I1_in, .int I1_streak, .int I1_lot]))]) hD hS hA [1, 5] rfl
          refine va_callv (va_runV (As := [.ref aR]) (rest := []) ⟨hx, hb, hml, hown, hts⟩ (c_X3_giveTo l D cI cJ cZ cO aR aI1 aT R_in R_streak R_lot I1_kept I1_in I1_streak I1_lot s.heap.size y17 qy17) (cwV 1 hts gX9_back_X3_giveTo rfl rfl rfl (by decide +kernel) ⟨Nat.le_of_ble_eq_true rfl, Nat.le_of_ble_eq_true rfl⟩) ⟨fb_i, va_recv hK hP (ci := 3) (q0 := 5) rfl rfl, fun U hU hW => ⟨rfl, by rw [hU], by rw [hU]; exact hPc, KK.warm hW hKK, hDc.weaken (fun _ _ _ _ => trivial)⟩⟩ rfl rfl hl.1 rfl (lv_room (Nat.le_of_ble_eq_true rfl)) dX9_back_34 ⟨Nat.le_of_ble_eq_true rfl, Nat.le_of_ble_eq_true rfl⟩) hS (fun q _ h => hFc q h) hFc (fun u t H1 locs ht hvm hw hB hz1 hk1 hS => ?_)
          obtain ⟨hP1, hD1⟩ := hB
          rw [ht] at hP1
          obtain ⟨hP, hD⟩ := va_join (wr := [(aS, .inr (9, [.ref aX, .ref aD, .ref aT, .ref aR, .ref aH, .ref aIM, .ref aW, .ref aC, .ref aK])), (aH, .inr (2, [.ref aH_ins, .ref aH_streaks, .int H_size])), (aIM, .inl (cO, 2, .inr (.inr (.inr (.inr (gIm aI0 aI1)))))), (aI0, .inr (3, [.int I0_kept, .int I0_in, .int I0_streak, .int I0_lot]))]) (w1 := [(aR, .inr (6, [.ref aT, .int y17.1, .int y17.2.1, .int y17.2.2])), (aI1, .inr (3, [.int I1_kept, .int I1_in, .int I1_streak, .int I1_lot]))]) hP hD [1, 5] [0, 2, 3, 4] rfl rfl (by decide) (by decide) hk1 hFc hP1 hD1
          generalize H1 = H at hP hS ⊢
          have hP : va_P D vwCl [(aS, .inr (9, [.ref aX, .ref aD, .ref aT, .ref aR, .ref aH, .ref aIM, .ref aW, .ref aC, .ref aK])), (aR, .inr (6, [.ref aT, .int y17.1, .int y17.2.1, .int y17.2.2])), (aH, .inr (2, [.ref aH_ins, .ref aH_streaks, .int H_size])), (aIM, .inl (cO, 2, .inr (.inr (.inr (.inr (gIm aI0 aI1)))))), (aI0, .inr (3, [.int I0_kept, .int I0_in, .int I0_streak, .int I0_lot])), (aI1, .inr (3, [.int I1_kept, .int I1_in, .int I1_streak, .int I1_lot]))] H := hP.sub [0, 4, 1, 2, 3, 5] rfl
          have hD : va_D A [(aS, .inr (9, [.ref aX, .ref aD, .ref aT, .ref aR, .ref aH, .ref aIM, .ref aW, .ref aC, .ref aK])), (aR, .inr (6, [.ref aT, .int y17.1, .int y17.2.1, .int y17.2.2])), (aH, .inr (2, [.ref aH_ins, .ref aH_streaks, .int H_size])), (aIM, .inl (cO, 2, .inr (.inr (.inr (.inr (gIm aI0 aI1)))))), (aI0, .inr (3, [.int I0_kept, .int I0_in, .int I0_streak, .int I0_lot])), (aI1, .inr (3, [.int I1_kept, .int I1_in, .int I1_streak, .int I1_lot]))] := hD.sub [0, 4, 1, 2, 3, 5] (by decide) rfl
          refine lv_aload_n hx hb dX9_back_37 rfl (lv_at hl 0 rfl) ?_
          refine va_get (D := D) (ci := 9) (v := .ref aH) (C := RX9) (T := TX9) (N := 9) hx hb hts inX9 hown hK hP 0 rfl rfl 4 (by decide) fl_44 (fun _ h9 => h9) rfl dX9_back_38 ?_
          obtain ⟨y18, qy18, h⟩ := ob_some h
          have hPc : va_P D vwCl [(aH, .inr (2, [.ref aH_ins, .ref aH_streaks, .int H_size]))] H := hP.sub [2] rfl
          have hDc : va_D A [(aH, .inr (2, [.ref aH_ins, .ref aH_streaks, .int H_size]))] := hD.sub [2] (by decide) rfl
          have hFc := va_free (wc := [(aH, .inr (2, [.ref aH_ins, .ref aH_streaks, .int H_size]))]) hD hS hA [2] rfl
          refine va_callv (va_runV (As := []) (rest := []) ⟨hx, hb, hml, hown, hts⟩ (c_X2_forget l D cI cJ cZ cO aH aH_ins aH_streaks H_size H.size y18 qy18) (cwV 0 hts gX9_back_X2_forget rfl rfl rfl (by decide +kernel) ⟨Nat.le_of_ble_eq_true rfl, Nat.le_of_ble_eq_true rfl⟩) ⟨fb_i, va_recv hK hP (ci := 2) (q0 := 2) rfl rfl, fun U hU hW => ⟨rfl, by rw [hU], by rw [hU]; exact hPc, KK.warm hW hKK, hDc.weaken (fun _ _ _ _ => trivial)⟩⟩ rfl rfl hl.1 rfl (lv_room (Nat.le_of_ble_eq_true rfl)) dX9_back_41 ⟨Nat.le_of_ble_eq_true rfl, Nat.le_of_ble_eq_true rfl⟩) hS (fun q _ h => hFc q h) hFc (fun u t H1 locs ht hvm hw hB hz1 hk1 hS => ?_)
          obtain ⟨hP1, hD1⟩ := hB
          rw [ht] at hP1
          obtain ⟨hP, hD⟩ := va_join (wr := [(aS, .inr (9, [.ref aX, .ref aD, .ref aT, .ref aR, .ref aH, .ref aIM, .ref aW, .ref aC, .ref aK])), (aR, .inr (6, [.ref aT, .int y17.1, .int y17.2.1, .int y17.2.2])), (aIM, .inl (cO, 2, .inr (.inr (.inr (.inr (gIm aI0 aI1)))))), (aI0, .inr (3, [.int I0_kept, .int I0_in, .int I0_streak, .int I0_lot])), (aI1, .inr (3, [.int I1_kept, .int I1_in, .int I1_streak, .int I1_lot]))]) (w1 := [(aH, .inr (2, [.ref aH_ins, .ref aH_streaks, .int y18]))]) hP hD [2] [0, 1, 3, 4, 5] rfl rfl (by decide) (by decide) hk1 hFc hP1 hD1
          generalize H1 = H at hP hS ⊢
          have hP : va_P D vwCl [(aS, .inr (9, [.ref aX, .ref aD, .ref aT, .ref aR, .ref aH, .ref aIM, .ref aW, .ref aC, .ref aK])), (aR, .inr (6, [.ref aT, .int y17.1, .int y17.2.1, .int y17.2.2])), (aH, .inr (2, [.ref aH_ins, .ref aH_streaks, .int y18])), (aIM, .inl (cO, 2, .inr (.inr (.inr (.inr (gIm aI0 aI1)))))), (aI0, .inr (3, [.int I0_kept, .int I0_in, .int I0_streak, .int I0_lot])), (aI1, .inr (3, [.int I1_kept, .int I1_in, .int I1_streak, .int I1_lot]))] H := hP.sub [0, 1, 5, 2, 3, 4] rfl
          have hD : va_D A [(aS, .inr (9, [.ref aX, .ref aD, .ref aT, .ref aR, .ref aH, .ref aIM, .ref aW, .ref aC, .ref aK])), (aR, .inr (6, [.ref aT, .int y17.1, .int y17.2.1, .int y17.2.2])), (aH, .inr (2, [.ref aH_ins, .ref aH_streaks, .int y18])), (aIM, .inl (cO, 2, .inr (.inr (.inr (.inr (gIm aI0 aI1)))))), (aI0, .inr (3, [.int I0_kept, .int I0_in, .int I0_streak, .int I0_lot])), (aI1, .inr (3, [.int I1_kept, .int I1_in, .int I1_streak, .int I1_lot]))] := hD.sub [0, 1, 5, 2, 3, 4] (by decide) rfl
          refine lv_aload_n hx hb dX9_back_44 rfl (lv_at hl 0 rfl) ?_
          refine va_get (D := D) (ci := 9) (v := .ref aR) (C := RX9) (T := TX9) (N := 9) hx hb hts inX9 hown hK hP 0 rfl rfl 3 (by decide) fl_37 (fun _ h9 => h9) rfl dX9_back_45 ?_
          have hPc : va_P D vwCl [(aR, .inr (6, [.ref aT, .int y17.1, .int y17.2.1, .int y17.2.2]))] H := hP.sub [1] rfl
          refine vp_callSi (va_Run.run (va_runV (As := []) (rest := []) ⟨hx, hb, hml, hown, hts⟩ (c_X6_howManyIn l D cI cJ cZ cO aR aT y17.1 y17.2.1 y17.2.2 _ rfl) (cwV 0 hts gX9_back_X6_howManyIn rfl rfl rfl (by decide +kernel) ⟨Nat.le_of_ble_eq_true rfl, Nat.le_of_ble_eq_true rfl⟩) ⟨fb_p, va_recv hK hP (ci := 6) (q0 := 1) rfl rfl, fun U hU hW => ⟨rfl, by rw [hU]; exact hPc, KK.warm hW hKK⟩⟩ rfl rfl hl.1 rfl (lv_room (Nat.le_of_ble_eq_true rfl)) dX9_back_48 ⟨Nat.le_of_ble_eq_true rfl, Nat.le_of_ble_eq_true rfl⟩)) (fun r hr => ?_)
          replace hr := hr.symm
          subst hr
          have hy := Option.some.inj h
          subst hy
          exact W.iret (v := (f_X6_howManyIn y17.1)) hx hb hr (fun t ht hW => ⟨⟨(f_X6_howManyIn y17.1), (), rfl, rfl, by rw [ht]; exact hP, hD⟩, hS.F ht⟩) hS.2.2 dX9_back_51
        replace h := if_n s_20 h
        exact (ns h).elim
      · replace h := if_p c_14 h
        refine lv_bipush (v := (-2 : Int32)) hx hb dX9_back_21 (by decide) ?_
        have hy := Option.some.inj h
        subst hy
        exact W.iret (v := (-2 : Int32)) hx hb hr (fun t ht hW => ⟨⟨(-2 : Int32), (), rfl, rfl, by rw [ht]; exact hP, hD⟩, hS.F ht⟩) hS.2.2 dX9_back_23
    replace h := if_n s_22 h
    exact (ns h).elim
  · replace h := if_p c_2 h
    refine lv_iconst (v := (-1 : Int32)) hx hb dX9_back_7 (by decide) ?_
    have hy := Option.some.inj h
    subst hy
    exact W.iret (v := (-1 : Int32)) hx hb hr (fun t ht hW => ⟨⟨(-1 : Int32), (), rfl, rfl, by rw [ht]; exact hP, hD⟩, hS.F ht⟩) hS.2.2 dX9_back_8

def f_X9_count (X_length : Int32) (R_in : Int32) (T_size : Int32) (T_littleOnes : Int32) (p1 : Int32) : Int32 := (if p1 = (0 : Int32) then (f_X1_size T_size) else (if p1 = (1 : Int32) then (f_J6_bitCount_0f7a4 (f_X1_littleOnes T_littleOnes)) else (if p1 = (2 : Int32) then (f_X6_howManyIn R_in) else (if p1 = (3 : Int32) then (f_X8_length X_length) else (-1 : Int32)))))
set_option maxHeartbeats 8000000 in
set_option maxRecDepth 100000 in
theorem c_X9_count (l : Launch) (D : va_G) (cI cJ cZ cO : ClassId) (aS : Nat) (aX : Nat) (aR : Nat) (aT : Nat) (aD : Nat) (aH : Nat) (aIM : Nat) (aW : Nat) (aC : Nat) (aK : Nat) (aX_bytes : Nat) (aT_slips : Nat) (aT_lates : Nat) (aT_copied : Nat) (X_length : Int32) (R_in : Int32) (R_streak : Int32) (R_lot : Int32) (T_size : Int32) (T_littleOnes : Int32)  (p1 : Int32)  (y0 : Int32) (h : f_X9_count X_length R_in T_size T_littleOnes p1 = y0) : Met l yX9_count wsX9_count ({ frames := 2, cells := 0, slots := 0, locals := 40 } : Room) (va_Pc [.ref aS, .int p1] (fun U => va_P D vwCl [(aS, .inr (9, [.ref aX, .ref aD, .ref aT, .ref aR, .ref aH, .ref aIM, .ref aW, .ref aC, .ref aK])), (aX, .inr (8, [.ref aX_bytes, .int X_length])), (aR, .inr (6, [.ref aT, .int R_in, .int R_streak, .int R_lot])), (aT, .inr (1, [.ref aT_slips, .ref aT_lates, .ref aT_copied, .int T_size, .int T_littleOnes]))] U.heap ∧ KK D cI cJ cZ cO U)) (vp_Si (fun r => r = y0)) 0 0 (fun _ => False) := by
  refine Met.ofW (cc := cX9_count) (maxL := 2) (ret := (some .int)) (by decide) rfl ?_
  intro p e s m args below meth c s₁ B hml hv
  obtain ⟨rfl, hP, hKK⟩ := hv
  have hx := B.exec
  have hb := B.bytes
  have hr := B.returns
  have hts := atoms_spec (ws := wsX9_count) B.pre
  have hown : s.vm.findClass RX9 = some m.cls := findClass_of_methodNamed B.named
  have hlocks := B.notSynchronized
  have hK := hKK.1
  have fl_10 := hts (.fieldLink RX9 10 "SimonSays" "text" "LSimonSays$Text;") (by decide +kernel)
  have fl_28 := hts (.fieldLink RX9 28 "SimonSays" "told" "LSimonSays$Children;") (by decide +kernel)
  have fl_37 := hts (.fieldLink RX9 37 "SimonSays" "round" "LSimonSays$Round;") (by decide +kernel)
  have inX9 : ∀ w ∈ wsX90, w ∈ wsX9_count := by decide +kernel
  have hl := lv_entry ([.ref aS, .int p1]) (n := 2) (Nat.le_of_ble_eq_true rfl)
  rw [lg_entry_eq]
  generalize (lg_sl ([.ref aS, .int p1]) ++ List.replicate (2 - (lg_sl ([.ref aS, .int p1])).length) Slot.unset).toArray = ls at hl ⊢
  have hl : lv_has ls 2 [(0, .ref aS), (1, .int p1)] := hl
  unfold f_X9_count at h
  refine lv_iload_n hx hb dX9_count_0 rfl (lv_at hl 1 rfl) ?_
  by_cases s_1 : p1 = (0 : Int32)
  · replace h := if_p s_1 h
    refine lv_tableIn (off := 31) (tgt := 32) hx hb dX9_count_1 (by rw [s_1]; decide) (by rw [s_1]; decide) (by rw [s_1]; decide) (by decide) ?_
    refine lv_aload_n hx hb dX9_count_32 rfl (lv_at hl 0 rfl) ?_
    refine va_get (D := D) (ci := 9) (v := .ref aT) (C := RX9) (T := TX9) (N := 9) hx hb hts inX9 hown hK hP 0 rfl rfl 2 (by decide) fl_28 (fun _ h9 => h9) rfl dX9_count_33 ?_
    have hPc : va_P D vwCl [(aT, .inr (1, [.ref aT_slips, .ref aT_lates, .ref aT_copied, .int T_size, .int T_littleOnes]))] s.heap := hP.sub [3] rfl
    refine vp_callSi (va_Run.run (va_runV (As := []) (rest := []) ⟨hx, hb, hml, hown, hts⟩ (c_X1_size l D cI cJ cZ cO aT aT_slips aT_lates aT_copied T_size T_littleOnes _ rfl) (cwV 0 hts gX9_count_X1_size rfl rfl rfl (by decide +kernel) ⟨Nat.le_of_ble_eq_true rfl, Nat.le_of_ble_eq_true rfl⟩) ⟨fb_p, va_recv hK hP (ci := 1) (q0 := 3) rfl rfl, fun U hU hW => ⟨rfl, by rw [hU]; exact hPc, KK.warm hW hKK⟩⟩ rfl rfl hl.1 rfl (lv_room (Nat.le_of_ble_eq_true rfl)) dX9_count_36 ⟨Nat.le_of_ble_eq_true rfl, Nat.le_of_ble_eq_true rfl⟩)) (fun r hr => ?_)
    replace hr := hr.symm
    subst hr
    exact pr_i hx hb hr hlocks dX9_count_39 h
  replace h := if_n s_1 h
  by_cases s_2 : p1 = (1 : Int32)
  · replace h := if_p s_2 h
    refine lv_tableIn (off := 39) (tgt := 40) hx hb dX9_count_1 (by rw [s_2]; decide) (by rw [s_2]; decide) (by rw [s_2]; decide) (by decide) ?_
    refine lv_aload_n hx hb dX9_count_40 rfl (lv_at hl 0 rfl) ?_
    refine va_get (D := D) (ci := 9) (v := .ref aT) (C := RX9) (T := TX9) (N := 9) hx hb hts inX9 hown hK hP 0 rfl rfl 2 (by decide) fl_28 (fun _ h9 => h9) rfl dX9_count_41 ?_
    have hPc : va_P D vwCl [(aT, .inr (1, [.ref aT_slips, .ref aT_lates, .ref aT_copied, .int T_size, .int T_littleOnes]))] s.heap := hP.sub [3] rfl
    refine vp_callSi (va_Run.run (va_runV (As := []) (rest := []) ⟨hx, hb, hml, hown, hts⟩ (c_X1_littleOnes l D cI cJ cZ cO aT aT_slips aT_lates aT_copied T_size T_littleOnes _ rfl) (cwV 0 hts gX9_count_X1_littleOnes rfl rfl rfl (by decide +kernel) ⟨Nat.le_of_ble_eq_true rfl, Nat.le_of_ble_eq_true rfl⟩) ⟨fb_p, va_recv hK hP (ci := 1) (q0 := 3) rfl rfl, fun U hU hW => ⟨rfl, by rw [hU]; exact hPc, KK.warm hW hKK⟩⟩ rfl rfl hl.1 rfl (lv_room (Nat.le_of_ble_eq_true rfl)) dX9_count_44 ⟨Nat.le_of_ble_eq_true rfl, Nat.le_of_ble_eq_true rfl⟩)) (fun r hr => ?_)
    replace hr := hr.symm
    subst hr
    have hPc : va_P D vwCl [] s.heap := hP.sub [] rfl
    refine vp_callSi (va_Run.run (va_runS (As := [.int (f_X1_littleOnes T_littleOnes)]) (rest := []) ⟨hx, hb, hml, hown, hts⟩ (c_J6_bitCount_0f7a4 l D cI cJ cZ cO (f_X1_littleOnes T_littleOnes) _ rfl) (va_cwS 1 hts gX9_count_J6_bitCount_0f7a4 rfl rfl rfl (by decide +kernel) ⟨Nat.le_of_ble_eq_true rfl, Nat.le_of_ble_eq_true rfl⟩) ⟨fb_p, fun U hU hW => ⟨rfl, by rw [hU]; exact hPc, KK.warm hW hKK⟩⟩ rfl rfl hl.1 rfl (lv_room (Nat.le_of_ble_eq_true rfl)) dX9_count_47 ⟨Nat.le_of_ble_eq_true rfl, Nat.le_of_ble_eq_true rfl⟩)) (fun r hr => ?_)
    replace hr := hr.symm
    subst hr
    exact pr_i hx hb hr hlocks dX9_count_50 h
  replace h := if_n s_2 h
  by_cases s_3 : p1 = (2 : Int32)
  · replace h := if_p s_3 h
    refine lv_tableIn (off := 50) (tgt := 51) hx hb dX9_count_1 (by rw [s_3]; decide) (by rw [s_3]; decide) (by rw [s_3]; decide) (by decide) ?_
    refine lv_aload_n hx hb dX9_count_51 rfl (lv_at hl 0 rfl) ?_
    refine va_get (D := D) (ci := 9) (v := .ref aR) (C := RX9) (T := TX9) (N := 9) hx hb hts inX9 hown hK hP 0 rfl rfl 3 (by decide) fl_37 (fun _ h9 => h9) rfl dX9_count_52 ?_
    have hPc : va_P D vwCl [(aR, .inr (6, [.ref aT, .int R_in, .int R_streak, .int R_lot]))] s.heap := hP.sub [2] rfl
    refine vp_callSi (va_Run.run (va_runV (As := []) (rest := []) ⟨hx, hb, hml, hown, hts⟩ (c_X6_howManyIn l D cI cJ cZ cO aR aT R_in R_streak R_lot _ rfl) (cwV 0 hts gX9_count_X6_howManyIn rfl rfl rfl (by decide +kernel) ⟨Nat.le_of_ble_eq_true rfl, Nat.le_of_ble_eq_true rfl⟩) ⟨fb_p, va_recv hK hP (ci := 6) (q0 := 2) rfl rfl, fun U hU hW => ⟨rfl, by rw [hU]; exact hPc, KK.warm hW hKK⟩⟩ rfl rfl hl.1 rfl (lv_room (Nat.le_of_ble_eq_true rfl)) dX9_count_55 ⟨Nat.le_of_ble_eq_true rfl, Nat.le_of_ble_eq_true rfl⟩)) (fun r hr => ?_)
    replace hr := hr.symm
    subst hr
    exact pr_i hx hb hr hlocks dX9_count_58 h
  replace h := if_n s_3 h
  by_cases s_4 : p1 = (3 : Int32)
  · replace h := if_p s_4 h
    refine lv_tableIn (off := 58) (tgt := 59) hx hb dX9_count_1 (by rw [s_4]; decide) (by rw [s_4]; decide) (by rw [s_4]; decide) (by decide) ?_
    refine lv_aload_n hx hb dX9_count_59 rfl (lv_at hl 0 rfl) ?_
    refine va_get (D := D) (ci := 9) (v := .ref aX) (C := RX9) (T := TX9) (N := 9) hx hb hts inX9 hown hK hP 0 rfl rfl 0 (by decide) fl_10 (fun _ h9 => h9) rfl dX9_count_60 ?_
    have hPc : va_P D vwCl [(aX, .inr (8, [.ref aX_bytes, .int X_length]))] s.heap := hP.sub [1] rfl
    refine vp_callSi (va_Run.run (va_runV (As := []) (rest := []) ⟨hx, hb, hml, hown, hts⟩ (c_X8_length l D cI cJ cZ cO aX aX_bytes X_length _ rfl) (cwV 0 hts gX9_count_X8_length rfl rfl rfl (by decide +kernel) ⟨Nat.le_of_ble_eq_true rfl, Nat.le_of_ble_eq_true rfl⟩) ⟨fb_p, va_recv hK hP (ci := 8) (q0 := 1) rfl rfl, fun U hU hW => ⟨rfl, by rw [hU]; exact hPc, KK.warm hW hKK⟩⟩ rfl rfl hl.1 rfl (lv_room (Nat.le_of_ble_eq_true rfl)) dX9_count_63 ⟨Nat.le_of_ble_eq_true rfl, Nat.le_of_ble_eq_true rfl⟩)) (fun r hr => ?_)
    replace hr := hr.symm
    subst hr
    exact pr_i hx hb hr hlocks dX9_count_66 h
  replace h := if_n s_4 h
  refine lv_tableOut (tgt := 67) hx hb dX9_count_1 (by have e0 := i32_nek (0) (0 : Int32) (by decide) s_1; have e1 := i32_nek (1) (1 : Int32) (by decide) s_2; have e2 := i32_nek (2) (2 : Int32) (by decide) s_3; have e3 := i32_nek (3) (3 : Int32) (by decide) s_4; omega) (by decide) ?_
  refine lv_iconst (v := (-1 : Int32)) hx hb dX9_count_67 (by decide) ?_
  exact pr_i hx hb hr hlocks dX9_count_68 h

def f_X9_trace (K_trace : Int64) : Int64 := (f_X4_theTrace K_trace)
set_option maxHeartbeats 8000000 in
set_option maxRecDepth 100000 in
theorem c_X9_trace (l : Launch) (D : va_G) (cI cJ cZ cO : ClassId) (aS : Nat) (aK : Nat) (aX : Nat) (aD : Nat) (aT : Nat) (aR : Nat) (aH : Nat) (aIM : Nat) (aW : Nat) (aC : Nat) (K_trace : Int64)    (y0 : Int64) (h : f_X9_trace K_trace = y0) : Met l yX9_trace wsX9_trace ({ frames := 1, cells := 0, slots := 0, locals := 20 } : Room) (va_Pc [.ref aS] (fun U => va_P D vwCl [(aS, .inr (9, [.ref aX, .ref aD, .ref aT, .ref aR, .ref aH, .ref aIM, .ref aW, .ref aC, .ref aK])), (aK, .inr (4, [.ref aT, .ref aR, .long K_trace]))] U.heap ∧ KK D cI cJ cZ cO U)) (vp_Sl (fun r => r = y0)) 0 0 (fun _ => False) := by
  refine Met.ofW (cc := cX9_trace) (maxL := 1) (ret := (some .long)) (by decide) rfl ?_
  intro p e s m args below meth c s₁ B hml hv
  obtain ⟨rfl, hP, hKK⟩ := hv
  have hx := B.exec
  have hb := B.bytes
  have hr := B.returns
  have hts := atoms_spec (ws := wsX9_trace) B.pre
  have hown : s.vm.findClass RX9 = some m.cls := findClass_of_methodNamed B.named
  have hlocks := B.notSynchronized
  have hK := hKK.1
  have fl_76 := hts (.fieldLink RX9 76 "SimonSays" "kinds" "LSimonSays$Kinds;") (by decide +kernel)
  have inX9 : ∀ w ∈ wsX90, w ∈ wsX9_trace := by decide +kernel
  have hl := lv_entry ([.ref aS]) (n := 1) (Nat.le_of_ble_eq_true rfl)
  rw [lg_entry_eq]
  generalize (lg_sl ([.ref aS]) ++ List.replicate (1 - (lg_sl ([.ref aS])).length) Slot.unset).toArray = ls at hl ⊢
  have hl : lv_has ls 1 [(0, .ref aS)] := hl
  unfold f_X9_trace at h
  refine lv_aload_n hx hb dX9_trace_0 rfl (lv_at hl 0 rfl) ?_
  refine va_get (D := D) (ci := 9) (v := .ref aK) (C := RX9) (T := TX9) (N := 9) hx hb hts inX9 hown hK hP 0 rfl rfl 8 (by decide) fl_76 (fun _ h9 => h9) rfl dX9_trace_1 ?_
  have hPc : va_P D vwCl [(aK, .inr (4, [.ref aT, .ref aR, .long K_trace]))] s.heap := hP.sub [1] rfl
  refine vp_callSl (va_Run.run (va_runV (As := []) (rest := []) ⟨hx, hb, hml, hown, hts⟩ (c_X4_theTrace l D cI cJ cZ cO aK aT aR K_trace _ rfl) (cwV 0 hts gX9_trace_X4_theTrace rfl rfl rfl (by decide +kernel) ⟨Nat.le_of_ble_eq_true rfl, Nat.le_of_ble_eq_true rfl⟩) ⟨fb_p, va_recv hK hP (ci := 4) (q0 := 1) rfl rfl, fun U hU hW => ⟨rfl, by rw [hU]; exact hPc, KK.warm hW hKK⟩⟩ rfl rfl hl.1 rfl (lv_room (Nat.le_of_ble_eq_true rfl)) dX9_trace_4 ⟨Nat.le_of_ble_eq_true rfl, Nat.le_of_ble_eq_true rfl⟩)) (fun r hr => ?_)
  replace hr := hr.symm
  subst hr
  exact pr_l hx hb hr hlocks dX9_trace_7 h
