/-! helper rows for the walks: the world's words, guards, ends -/
abbrev vwCl : List vw_C := [(RX0, TX0, 4), (RX1, TX1, 5), (RX2, TX2, 3), (RX3, TX3, 4), (RX4, TX4, 3), (RX5, TX5, 6), (RX6, TX6, 4), (RX7, TX7, 2), (RX8, TX8, 2), (RX9, TX9, 9), (RX10, TX10, 23)]
abbrev TYS (cI cJ cZ cO : ClassId) : List (ClassId × FieldType) := [(cI, .int), (cJ, .long), (cZ, .boolean), (cO, .object "SimonSays$Image")]
def gN (U : State) : Prop := va_Nw (.methodLinkNest RX0 39 yX9_powerOfTen "SimonSays") U ∧ va_Nw (.methodLinkNest RX0 74 yX9_streakBehind "SimonSays") U ∧ va_Nw (.methodLinkNest RX6 70 yX9_streakBehind "SimonSays") U ∧ va_Nw (.methodLinkNest RX7 19 yX9_isOrder "SimonSays") U ∧ va_AO "SimonSays$Image" U
theorem gN.warm {s U : State} (hW : s.WarmedH U.vm) (h : gN s) : gN U := ⟨va_Nw.warmM hW h.1, va_Nw.warmM hW h.2.1, va_Nw.warmM hW h.2.2.1, va_Nw.warmM hW h.2.2.2.1, va_AO.moved hW.alike h.2.2.2.2⟩
theorem gN.same {u U : State} (hv : u.vm = U.vm) (h : gN u) : gN U := ⟨va_Nw.same rfl hv h.1, va_Nw.same rfl hv h.2.1, va_Nw.same rfl hv h.2.2.1, va_Nw.same rfl hv h.2.2.2.1, va_AO.moved (by rw [hv]; exact Vm.Alike.refl _) h.2.2.2.2⟩
theorem gN_X0_39 {U : State} (h : gN U) : va_Nw (.methodLinkNest RX0 39 yX9_powerOfTen "SimonSays") U := h.1
theorem gN_X0_74 {U : State} (h : gN U) : va_Nw (.methodLinkNest RX0 74 yX9_streakBehind "SimonSays") U := h.2.1
theorem gN_X6_70 {U : State} (h : gN U) : va_Nw (.methodLinkNest RX6 70 yX9_streakBehind "SimonSays") U := h.2.2.1
theorem gN_X7_19 {U : State} (h : gN U) : va_Nw (.methodLinkNest RX7 19 yX9_isOrder "SimonSays") U := h.2.2.2.1
theorem gN_AO {U : State} (h : gN U) : va_AO "SimonSays$Image" U := h.2.2.2.2
def KK (D : va_G) (cI cJ cZ cO : ClassId) (U : State) : Prop := va_K D vwCl (TYS cI cJ cZ cO) U ∧ gN U
theorem KK.warm {D : va_G} {cI cJ cZ cO : ClassId} {s U : State} (hW : s.WarmedH U.vm) (h : KK D cI cJ cZ cO s) : KK D cI cJ cZ cO U := ⟨va_K.moved hW.alike h.1, gN.warm hW h.2⟩
theorem KK.call {D : va_G} {cI cJ cZ cO : ClassId} {U : State} {g : JFrame} {mk : MethodId} {a : Array Value} (h : KK D cI cJ cZ cO U) : KK D cI cJ cZ cO (U.calling g mk a) := ⟨va_K.moved (u := U) (U := U.calling g mk a) (Vm.Alike.refl U.vm) h.1, gN.same (u := U) (U := U.calling g mk a) rfl h.2⟩
theorem fb_p {D : va_G} {cI cJ cZ cO : ClassId} {av : List Value} {ws : va_W} : FrameBlind (va_Pc av (fun U => va_P D vwCl ws U.heap ∧ KK D cI cJ cZ cO U)) := fun a U g mk q => by
  obtain ⟨q0, qP, qK⟩ := q
  exact ⟨q0, qP, qK.call⟩
theorem fb_i {D : va_G} {cI cJ cZ cO : ClassId} {av : List Value} {ws ws2 : va_W} {sz : Nat} {B : Nat → Prop} : FrameBlind (va_Pc av (fun U => U.heap.size = sz ∧ va_P D vwCl ws U.heap ∧ KK D cI cJ cZ cO U ∧ va_D B ws2)) := fun a U g mk q => by
  obtain ⟨q0, q1, qP, qK, qD⟩ := q
  exact ⟨q0, q1, qP, qK.call, qD⟩
/-- the texts "child" and "little", and what the JDK's text methods look at -/
def sBy : List (List Int32) := [[99, 104, 105, 108, 100], [108, 105, 116, 116, 108, 101]]
def sLn : List Nat := [5, 6]
def sch (k : Nat) (i : Int32) : Int32 := ((sBy.getD k []).getD i.toNatClampNeg 0) &&& 255
def SA (adK adV : Nat → Nat) (A : Nat → Prop) (U : State) (H : Heap) : Prop := va_Z "java/lang/String" "COMPACT_STRINGS" "Z" (.int 1) A U H ∧ va_Zq "jdk/internal/util/Preconditions" "SIOOBE_FORMATTER" "Ljava/util/function/BiFunction;" A U H ∧ vk_S 2 sLn sBy adK adV A U H ∧ vk_R RX5 88 "child" (adK 0) U ∧ vk_R RX5 94 "little" (adK 1) U
theorem SA.kept {adK adV : Nat → Nat} {A : Nat → Prop} {U : State} {H H1 : Heap} (h : SA adK adV A U H) (hq : ∀ a : Nat, a < H.size → ¬ A a → H1[a]? = H[a]?) : SA adK adV A U H1 := ⟨h.1.kept hq, h.2.1.kept hq, h.2.2.1.kept hq, h.2.2.2⟩
theorem SA.narrow {adK adV : Nat → Nat} {A B : Nat → Prop} {U : State} {H : Heap} (h : SA adK adV A U H) (hAB : ∀ q, B q → A q) : SA adK adV B U H := ⟨h.1.narrow hAB, h.2.1.narrow hAB, h.2.2.1.narrow hAB, h.2.2.2⟩
theorem SA.warm {adK adV : Nat → Nat} {A : Nat → Prop} {s U : State} {H : Heap} (hW : s.WarmedH U.vm) (h : SA adK adV A s H) : SA adK adV A U H := ⟨va_Z.moved hW.alike h.1, va_Zq.moved hW.alike h.2.1, vk_S.moved hW.alike h.2.2.1, vk_R.warm hW h.2.2.2.1, vk_R.warm hW h.2.2.2.2⟩
theorem SA.call {adK adV : Nat → Nat} {A : Nat → Prop} {U : State} {g : JFrame} {mk : MethodId} {a : Array Value} (h : SA adK adV A U U.heap) : SA adK adV A (U.calling g mk a) (U.calling g mk a).heap := ⟨va_Z.moved (u := U) (U := U.calling g mk a) (Vm.Alike.refl U.vm) h.1, va_Zq.moved (u := U) (U := U.calling g mk a) (Vm.Alike.refl U.vm) h.2.1, vk_S.moved (u := U) (U := U.calling g mk a) (Vm.Alike.refl U.vm) h.2.2.1, vk_R.same (u := U) (U := U.calling g mk a) rfl h.2.2.2.1, vk_R.same (u := U) (U := U.calling g mk a) rfl h.2.2.2.2⟩
theorem SA.at {adK adV : Nat → Nat} {A : Nat → Prop} {s U : State} {H : Heap} (hU : U.heap = H) (hW : s.WarmedH U.vm) (h : SA adK adV A s H) : SA adK adV A U U.heap := by
  rw [hU]
  exact SA.warm hW h
theorem fb_s {adK adV : Nat → Nat} {A : Nat → Prop} {av : List Value} : FrameBlind (va_Pc av (fun U => SA adK adV A U U.heap)) := fun a U g mk q => by
  obtain ⟨q0, q1⟩ := q
  exact ⟨q0, q1.call⟩
theorem fb_t {av : List Value} : FrameBlind (va_Pc av (fun _ => True)) := fun a U g mk q => ⟨q.1, trivial⟩
theorem fb_ps {D : va_G} {cI cJ cZ cO : ClassId} {adK adV : Nat → Nat} {A : Nat → Prop} {av : List Value} {ws : va_W} : FrameBlind (va_Pc av (fun U => va_P D vwCl ws U.heap ∧ KK D cI cJ cZ cO U ∧ SA adK adV A U U.heap)) := fun a U g mk q => by
  obtain ⟨q0, qP, qK, qS⟩ := q
  exact ⟨q0, qP, qK.call, qS.call⟩
theorem fb_is {D : va_G} {cI cJ cZ cO : ClassId} {adK adV : Nat → Nat} {A : Nat → Prop} {av : List Value} {ws ws2 : va_W} {sz : Nat} {B : Nat → Prop} : FrameBlind (va_Pc av (fun U => U.heap.size = sz ∧ va_P D vwCl ws U.heap ∧ KK D cI cJ cZ cO U ∧ va_D B ws2 ∧ SA adK adV A U U.heap)) := fun a U g mk q => by
  obtain ⟨q0, q1, qP, qK, qD, qS⟩ := q
  exact ⟨q0, q1, qP, qK.call, qD, qS.call⟩
def gIn (i : Int32) (n : Nat) : Bool := decide (0 ≤ i.toInt) && decide (i.toInt < (n : Int))
theorem gIn_iff {i : Int32} {n : Nat} : gIn i n = true ↔ vp_in i n := by
  rw [vp_in_iff, gIn, Bool.and_eq_true, decide_eq_true_eq, decide_eq_true_eq]
theorem gd_in {α : Type} {i : Int32} {n : Nat} {k : Option α} {v : α} (h : (if gIn i n = true then k else none) = some v) : vp_in i n ∧ k = some v := by
  by_cases hc : gIn i n = true
  · rw [if_pos hc] at h; exact ⟨gIn_iff.mp hc, h⟩
  · rw [if_neg hc] at h; cases h
theorem gd_nz {α : Type} {y : Int32} {k : Option α} {v : α} (h : (if y = 0 then none else k) = some v) : ¬ y = 0 ∧ k = some v := by
  by_cases hc : y = 0
  · rw [if_pos hc] at h; cases h
  · rw [if_neg hc] at h; exact ⟨hc, h⟩
theorem gd_nzl {α : Type} {y : Int64} {k : Option α} {v : α} (h : (if y = 0 then none else k) = some v) : ¬ y = 0 ∧ k = some v := by
  by_cases hc : y = 0
  · rw [if_pos hc] at h; cases h
  · rw [if_neg hc] at h; exact ⟨hc, h⟩
def gCp (sp dp n : Int32) (n0 n1 : Nat) : Bool := decide (¬ sp < 0 ∧ ¬ dp < 0 ∧ ¬ n < 0 ∧ sp.toNatClampNeg + n.toNatClampNeg ≤ n0 ∧ dp.toNatClampNeg + n.toNatClampNeg ≤ n1)
theorem gd_cp {α : Type} {sp dp n : Int32} {n0 n1 : Nat} {k : Option α} {v : α} (h : (if gCp sp dp n n0 n1 = true then k else none) = some v) : (¬ sp < 0 ∧ ¬ dp < 0 ∧ ¬ n < 0 ∧ sp.toNatClampNeg + n.toNatClampNeg ≤ n0 ∧ dp.toNatClampNeg + n.toNatClampNeg ≤ n1) ∧ k = some v := by
  by_cases hc : gCp sp dp n n0 n1 = true
  · rw [if_pos hc] at h; exact ⟨of_decide_eq_true hc, h⟩
  · rw [if_neg hc] at h; cases h
theorem if_p {α : Type} {c : Prop} [Decidable c] {a b v : α} (hc : c) (h : (if c then a else b) = v) : a = v := by rw [if_pos hc] at h; exact h
theorem if_n {α : Type} {c : Prop} [Decidable c] {a b v : α} (hc : ¬ c) (h : (if c then a else b) = v) : b = v := by rw [if_neg hc] at h; exact h
theorem ns {α : Type} {v : α} (h : (none : Option α) = some v) : False := by cases h
theorem ob_some {α β : Type} {o : Option α} {k : α → Option β} {v : β} (h : Option.bind o k = some v) : ∃ y, o = some y ∧ k y = some v := by
  cases o with
  | none => cases h
  | some y => exact ⟨y, rfl, h⟩
abbrev zo (r : Int32) : Prop := r = 0 ∨ r = 1
theorem gd_zo {α : Type} {x : Int32} {k : Option α} {v : α} (h : (if zo x then k else none) = some v) : zo x ∧ k = some v := by
  by_cases hc : zo x
  · rw [if_pos hc] at h; exact ⟨hc, h⟩
  · rw [if_neg hc] at h; cases h
theorem zo_nar {v : Int32} (h : zo v) : narrow .boolean (.int v) = .int v := by rcases h with rfl | rfl <;> rfl
theorem i32_nek {x : Int32} (k : Int) (y : Int32) (hk : y.toInt = k) (h : ¬ x = y) : x.toInt ≠ k := fun q => h (Int32.toInt_inj.mp (q.trans hk.symm))
def gIm (a b : Nat) : Nat → Option Nat := fun j => if j = 0 then some a else if j = 1 then some b else none
section PR
variable {p : Program} {l : Launch} {e : Env} {R : Room} {s : State} {m : MethodId} {args : Array Value} {below : List Frame} {meth : Method} {c : Code} {cc : ByteArray} {pc : Nat} {ls : Array Slot}
theorem pr_i {x v : Int32} (hx : p.tables.exec = Jvm.exec) (hb : c.code = cc) (hr : meth.sig.returnType = some .int) (hlocks : meth.locks = false) (hdg : decode cc pc = .ok (.ireturn, 1)) (h : x = v) : W p l e R s m args below meth c s.heap [] 0 0 (MQ below (vp_Si (fun r => r = v)) args s 0 0 (fun _ => False)) (F0 m pc ls [.int x]) := by
  subst h
  exact W.iret (v := x) hx hb hr (fun t ht hW => ⟨x, rfl, rfl, ht⟩) (fun q hq => by cases hq) hdg hlocks
theorem pr_z {x v : Int32} (hx : p.tables.exec = Jvm.exec) (hb : c.code = cc) (hr : meth.sig.returnType = some .boolean) (hlocks : meth.locks = false) (hdg : decode cc pc = .ok (.ireturn, 1)) (h : x = v) (hz : zo x) : W p l e R s m args below meth c s.heap [] 0 0 (MQ below (vp_Si (fun r => r = v ∧ zo r)) args s 0 0 (fun _ => False)) (F0 m pc ls [.int x]) := by
  subst h
  exact W.zret (v := x) hx hb hr (zo_nar hz) (fun t ht hW => ⟨x, rfl, ⟨rfl, hz⟩, ht⟩) (fun q hq => by cases hq) hdg hlocks
theorem pr_n {x v : Int32} {ty : FieldType} (hx : p.tables.exec = Jvm.exec) (hb : c.code = cc) (hr : meth.sig.returnType = some ty) (hlocks : meth.locks = false) (hdg : decode cc pc = .ok (.ireturn, 1)) (h : x = v) (hn : narrow ty (.int x) = .int x) : W p l e R s m args below meth c s.heap [] 0 0 (MQ below (vp_Si (fun r => r = v)) args s 0 0 (fun _ => False)) (F0 m pc ls [.int x]) := by
  subst h
  exact W.zret (v := x) hx hb hr hn (fun t ht hW => ⟨x, rfl, rfl, ht⟩) (fun q hq => by cases hq) hdg hlocks
theorem pr_l {x v : Int64} (hx : p.tables.exec = Jvm.exec) (hb : c.code = cc) (hr : meth.sig.returnType = some .long) (hlocks : meth.locks = false) (hdg : decode cc pc = .ok (.lreturn, 1)) (h : x = v) : W p l e R s m args below meth c s.heap [] 0 0 (MQ below (vp_Sl (fun r => r = v)) args s 0 0 (fun _ => False)) (F0 m pc ls [.long x]) := by
  subst h
  exact W.lret (v := x) hx hb hr (fun t ht hW => ⟨x, rfl, rfl, ht⟩) (fun q hq => by cases hq) hdg hlocks
theorem pr_v (hx : p.tables.exec = Jvm.exec) (hb : c.code = cc) (hr : meth.sig.returnType = none) (hlocks : meth.locks = false) (hdg : decode cc pc = .ok (.return_, 1)) : W p l e R s m args below meth c s.heap [] 0 0 (MQ below (va_Sv (fun _ => True)) args s 0 0 (fun _ => False)) (F0 m pc ls []) :=
  W.vret hx hb hr (fun t ht hW => ⟨rfl, trivial, ht⟩) (fun q hq => by cases hq) hdg hlocks
theorem pr_r {a : Nat} {C : String} (hx : p.tables.exec = Jvm.exec) (hb : c.code = cc) (hr : meth.sig.returnType = some (.object C)) (hlocks : meth.locks = false) (hdg : decode cc pc = .ok (.areturn, 1)) : W p l e R s m args below meth c s.heap [] 0 0 (MQ below (va_Sr (fun _ => True) (fun _ => .ref a)) args s 0 0 (fun _ => False)) (F0 m pc ls [.ref a]) :=
  W.aret (v := .ref a) hx hb hr (Or.inl ⟨_, rfl⟩) (Or.inr ⟨_, rfl⟩) (fun t ht hW => ⟨0, rfl, trivial, ht⟩) (fun q hq => by cases hq) hdg hlocks
end PR
