section
-- ===== PART A: goes FIRST, ahead of the names: the tables' words, and 'selects' of the private methods out of them =====
/-- a private method of a class that the tables say can be made, by its rows of tables_1 -/
def lw_okq (q : MethodName × Nat) : Prop := (q.1.cls ≠ "java/lang/invoke/MethodHandle" ∧ q.1.cls ≠ "java/lang/invoke/VarHandle") ∧ Cond.instantiable q.1.cls q.2 ∈ tables_1 ∧ Cond.privateMethod q.1 ∈ tables_1 ∧ Cond.instanceMethod q.1 ∈ tables_1
theorem lw_p0 : lw_okq (⟨"SimonSays$Reader", "advance", "()V"⟩, 6) := ⟨⟨by decide +kernel, by decide +kernel⟩, List.mem_of_getElem? (i := 42) (by decide +kernel), List.mem_of_getElem? (i := 255) (by decide +kernel), List.mem_of_getElem? (i := 256) (by decide +kernel)⟩
theorem lw_p1 : lw_okq (⟨"SimonSays$Reader", "advanceOverWord", "()V"⟩, 6) := ⟨⟨by decide +kernel, by decide +kernel⟩, List.mem_of_getElem? (i := 42) (by decide +kernel), List.mem_of_getElem? (i := 267) (by decide +kernel), List.mem_of_getElem? (i := 268) (by decide +kernel)⟩
theorem lw_p2 : lw_okq (⟨"SimonSays$Reader", "spells", "(Ljava/lang/String;)Z"⟩, 6) := ⟨⟨by decide +kernel, by decide +kernel⟩, List.mem_of_getElem? (i := 42) (by decide +kernel), List.mem_of_getElem? (i := 272) (by decide +kernel), List.mem_of_getElem? (i := 273) (by decide +kernel)⟩
theorem lw_p3 : lw_okq (⟨"SimonSays$Reader", "advanceOverNumber", "()V"⟩, 6) := ⟨⟨by decide +kernel, by decide +kernel⟩, List.mem_of_getElem? (i := 42) (by decide +kernel), List.mem_of_getElem? (i := 328) (by decide +kernel), List.mem_of_getElem? (i := 329) (by decide +kernel)⟩
theorem lw_p4 : lw_okq (⟨"SimonSays$Reader", "readItem", "()Z"⟩, 6) := ⟨⟨by decide +kernel, by decide +kernel⟩, List.mem_of_getElem? (i := 42) (by decide +kernel), List.mem_of_getElem? (i := 335) (by decide +kernel), List.mem_of_getElem? (i := 336) (by decide +kernel)⟩
theorem lw_p5 : lw_okq (⟨"SimonSays$Reader", "readChild", "()Z"⟩, 6) := ⟨⟨by decide +kernel, by decide +kernel⟩, List.mem_of_getElem? (i := 42) (by decide +kernel), List.mem_of_getElem? (i := 339) (by decide +kernel), List.mem_of_getElem? (i := 340) (by decide +kernel)⟩
theorem lw_p6 : lw_okq (⟨"SimonSays$Reader", "isNumberUpTo", "(I)Z"⟩, 6) := ⟨⟨by decide +kernel, by decide +kernel⟩, List.mem_of_getElem? (i := 42) (by decide +kernel), List.mem_of_getElem? (i := 347) (by decide +kernel), List.mem_of_getElem? (i := 348) (by decide +kernel)⟩
theorem lw_p7 : lw_okq (⟨"SimonSays$Reader", "readLittle", "()Z"⟩, 6) := ⟨⟨by decide +kernel, by decide +kernel⟩, List.mem_of_getElem? (i := 42) (by decide +kernel), List.mem_of_getElem? (i := 359) (by decide +kernel), List.mem_of_getElem? (i := 360) (by decide +kernel)⟩
theorem lw_p8 : lw_okq (⟨"SimonSays$History", "loseOldest", "()V"⟩, 3) := ⟨⟨by decide +kernel, by decide +kernel⟩, List.mem_of_getElem? (i := 110) (by decide +kernel), List.mem_of_getElem? (i := 482) (by decide +kernel), List.mem_of_getElem? (i := 483) (by decide +kernel)⟩
theorem lw_p9 : lw_okq (⟨"SimonSays$Round", "draw", "()I"⟩, 4) := ⟨⟨by decide +kernel, by decide +kernel⟩, List.mem_of_getElem? (i := 91) (by decide +kernel), List.mem_of_getElem? (i := 499) (by decide +kernel), List.mem_of_getElem? (i := 500) (by decide +kernel)⟩
theorem lw_p10 : lw_okq (⟨"SimonSays$Chances", "addGroup", "(II)V"⟩, 4) := ⟨⟨by decide +kernel, by decide +kernel⟩, List.mem_of_getElem? (i := 159) (by decide +kernel), List.mem_of_getElem? (i := 606) (by decide +kernel), List.mem_of_getElem? (i := 607) (by decide +kernel)⟩
theorem lw_p11 : lw_okq (⟨"SimonSays$Kinds", "asChild", "(I)I"⟩, 3) := ⟨⟨by decide +kernel, by decide +kernel⟩, List.mem_of_getElem? (i := 179) (by decide +kernel), List.mem_of_getElem? (i := 690) (by decide +kernel), List.mem_of_getElem? (i := 691) (by decide +kernel)⟩
theorem lw_p12 : lw_okq (⟨"SimonSays$Kinds", "asDreamer", "(I)I"⟩, 3) := ⟨⟨by decide +kernel, by decide +kernel⟩, List.mem_of_getElem? (i := 179) (by decide +kernel), List.mem_of_getElem? (i := 695) (by decide +kernel), List.mem_of_getElem? (i := 696) (by decide +kernel)⟩
theorem lw_p13 : lw_okq (⟨"SimonSays$Kinds", "asWatcher", "(I)I"⟩, 3) := ⟨⟨by decide +kernel, by decide +kernel⟩, List.mem_of_getElem? (i := 179) (by decide +kernel), List.mem_of_getElem? (i := 701) (by decide +kernel), List.mem_of_getElem? (i := 702) (by decide +kernel)⟩
theorem lw_p14 : lw_okq (⟨"SimonSays$Kinds", "asRunner", "(I)I"⟩, 3) := ⟨⟨by decide +kernel, by decide +kernel⟩, List.mem_of_getElem? (i := 179) (by decide +kernel), List.mem_of_getElem? (i := 707) (by decide +kernel), List.mem_of_getElem? (i := 708) (by decide +kernel)⟩
theorem lw_p15 : lw_okq (⟨"SimonSays$Kinds", "asCopier", "(I)I"⟩, 3) := ⟨⟨by decide +kernel, by decide +kernel⟩, List.mem_of_getElem? (i := 179) (by decide +kernel), List.mem_of_getElem? (i := 712) (by decide +kernel), List.mem_of_getElem? (i := 713) (by decide +kernel)⟩
def lw_privs_1 : List (MethodName × Nat) := [(⟨"SimonSays$Reader", "advance", "()V"⟩, 6), (⟨"SimonSays$Reader", "advanceOverWord", "()V"⟩, 6), (⟨"SimonSays$Reader", "spells", "(Ljava/lang/String;)Z"⟩, 6), (⟨"SimonSays$Reader", "advanceOverNumber", "()V"⟩, 6), (⟨"SimonSays$Reader", "readItem", "()Z"⟩, 6), (⟨"SimonSays$Reader", "readChild", "()Z"⟩, 6), (⟨"SimonSays$Reader", "isNumberUpTo", "(I)Z"⟩, 6), (⟨"SimonSays$Reader", "readLittle", "()Z"⟩, 6), (⟨"SimonSays$History", "loseOldest", "()V"⟩, 3), (⟨"SimonSays$Round", "draw", "()I"⟩, 4), (⟨"SimonSays$Chances", "addGroup", "(II)V"⟩, 4), (⟨"SimonSays$Kinds", "asChild", "(I)I"⟩, 3), (⟨"SimonSays$Kinds", "asDreamer", "(I)I"⟩, 3), (⟨"SimonSays$Kinds", "asWatcher", "(I)I"⟩, 3), (⟨"SimonSays$Kinds", "asRunner", "(I)I"⟩, 3), (⟨"SimonSays$Kinds", "asCopier", "(I)I"⟩, 3)]
theorem lw_r1 : ∀ q ∈ lw_privs_1, lw_okq q := List.forall_mem_cons.mpr ⟨lw_p0, List.forall_mem_cons.mpr ⟨lw_p1, List.forall_mem_cons.mpr ⟨lw_p2, List.forall_mem_cons.mpr ⟨lw_p3, List.forall_mem_cons.mpr ⟨lw_p4, List.forall_mem_cons.mpr ⟨lw_p5, List.forall_mem_cons.mpr ⟨lw_p6, List.forall_mem_cons.mpr ⟨lw_p7, List.forall_mem_cons.mpr ⟨lw_p8, List.forall_mem_cons.mpr ⟨lw_p9, List.forall_mem_cons.mpr ⟨lw_p10, List.forall_mem_cons.mpr ⟨lw_p11, List.forall_mem_cons.mpr ⟨lw_p12, List.forall_mem_cons.mpr ⟨lw_p13, List.forall_mem_cons.mpr ⟨lw_p14, List.forall_mem_cons.mpr ⟨lw_p15, fun _ h => absurd h List.not_mem_nil⟩⟩⟩⟩⟩⟩⟩⟩⟩⟩⟩⟩⟩⟩⟩⟩
theorem lw_p16 : lw_okq (⟨"SimonSays$Kinds", "asListener", "(I)I"⟩, 3) := ⟨⟨by decide +kernel, by decide +kernel⟩, List.mem_of_getElem? (i := 179) (by decide +kernel), List.mem_of_getElem? (i := 721) (by decide +kernel), List.mem_of_getElem? (i := 722) (by decide +kernel)⟩
theorem lw_p17 : lw_okq (⟨"SimonSaysModel", "next", "()V"⟩, 23) := ⟨⟨by decide +kernel, by decide +kernel⟩, List.mem_of_getElem? (i := 772) (by decide +kernel), List.mem_of_getElem? (i := 866) (by decide +kernel), List.mem_of_getElem? (i := 867) (by decide +kernel)⟩
theorem lw_p18 : lw_okq (⟨"SimonSaysModel", "takesChild", "()Z"⟩, 23) := ⟨⟨by decide +kernel, by decide +kernel⟩, List.mem_of_getElem? (i := 772) (by decide +kernel), List.mem_of_getElem? (i := 883) (by decide +kernel), List.mem_of_getElem? (i := 884) (by decide +kernel)⟩
theorem lw_p19 : lw_okq (⟨"SimonSaysModel", "takes", "(II)Z"⟩, 23) := ⟨⟨by decide +kernel, by decide +kernel⟩, List.mem_of_getElem? (i := 772) (by decide +kernel), List.mem_of_getElem? (i := 887) (by decide +kernel), List.mem_of_getElem? (i := 888) (by decide +kernel)⟩
theorem lw_p20 : lw_okq (⟨"SimonSaysModel", "stops", "()Z"⟩, 23) := ⟨⟨by decide +kernel, by decide +kernel⟩, List.mem_of_getElem? (i := 772) (by decide +kernel), List.mem_of_getElem? (i := 892) (by decide +kernel), List.mem_of_getElem? (i := 893) (by decide +kernel)⟩
theorem lw_p21 : lw_okq (⟨"SimonSaysModel", "takesLittle", "()Z"⟩, 23) := ⟨⟨by decide +kernel, by decide +kernel⟩, List.mem_of_getElem? (i := 772) (by decide +kernel), List.mem_of_getElem? (i := 897) (by decide +kernel), List.mem_of_getElem? (i := 898) (by decide +kernel)⟩
theorem lw_p22 : lw_okq (⟨"SimonSaysModel", "isChild", "(I)Z"⟩, 23) := ⟨⟨by decide +kernel, by decide +kernel⟩, List.mem_of_getElem? (i := 772) (by decide +kernel), List.mem_of_getElem? (i := 905) (by decide +kernel), List.mem_of_getElem? (i := 906) (by decide +kernel)⟩
theorem lw_p23 : lw_okq (⟨"SimonSaysModel", "leaderOf", "(I)I"⟩, 23) := ⟨⟨by decide +kernel, by decide +kernel⟩, List.mem_of_getElem? (i := 772) (by decide +kernel), List.mem_of_getElem? (i := 913) (by decide +kernel), List.mem_of_getElem? (i := 914) (by decide +kernel)⟩
theorem lw_p24 : lw_okq (⟨"SimonSaysModel", "fair", "()I"⟩, 23) := ⟨⟨by decide +kernel, by decide +kernel⟩, List.mem_of_getElem? (i := 772) (by decide +kernel), List.mem_of_getElem? (i := 921) (by decide +kernel), List.mem_of_getElem? (i := 922) (by decide +kernel)⟩
theorem lw_p25 : lw_okq (⟨"SimonSaysModel", "errsOf", "(III)I"⟩, 23) := ⟨⟨by decide +kernel, by decide +kernel⟩, List.mem_of_getElem? (i := 772) (by decide +kernel), List.mem_of_getElem? (i := 933) (by decide +kernel), List.mem_of_getElem? (i := 934) (by decide +kernel)⟩
theorem lw_p26 : lw_okq (⟨"SimonSaysModel", "ledBy", "(I)I"⟩, 23) := ⟨⟨by decide +kernel, by decide +kernel⟩, List.mem_of_getElem? (i := 772) (by decide +kernel), List.mem_of_getElem? (i := 942) (by decide +kernel), List.mem_of_getElem? (i := 943) (by decide +kernel)⟩
theorem lw_p27 : lw_okq (⟨"SimonSaysModel", "remember", "()V"⟩, 23) := ⟨⟨by decide +kernel, by decide +kernel⟩, List.mem_of_getElem? (i := 772) (by decide +kernel), List.mem_of_getElem? (i := 946) (by decide +kernel), List.mem_of_getElem? (i := 947) (by decide +kernel)⟩
theorem lw_p28 : lw_okq (⟨"SimonSaysModel", "isSet", "(I)Z"⟩, 23) := ⟨⟨by decide +kernel, by decide +kernel⟩, List.mem_of_getElem? (i := 772) (by decide +kernel), List.mem_of_getElem? (i := 972) (by decide +kernel), List.mem_of_getElem? (i := 973) (by decide +kernel)⟩
theorem lw_p29 : lw_okq (⟨"SimonSaysModel", "waysOf", "(II)J"⟩, 23) := ⟨⟨by decide +kernel, by decide +kernel⟩, List.mem_of_getElem? (i := 772) (by decide +kernel), List.mem_of_getElem? (i := 979) (by decide +kernel), List.mem_of_getElem? (i := 980) (by decide +kernel)⟩
theorem lw_p30 : lw_okq (⟨"SimonSaysModel", "staysOf", "(III)J"⟩, 23) := ⟨⟨by decide +kernel, by decide +kernel⟩, List.mem_of_getElem? (i := 772) (by decide +kernel), List.mem_of_getElem? (i := 998) (by decide +kernel), List.mem_of_getElem? (i := 999) (by decide +kernel)⟩
theorem lw_p31 : lw_okq (⟨"SimonSaysModel", "leftOf", "(II)J"⟩, 23) := ⟨⟨by decide +kernel, by decide +kernel⟩, List.mem_of_getElem? (i := 772) (by decide +kernel), List.mem_of_getElem? (i := 1013) (by decide +kernel), List.mem_of_getElem? (i := 1014) (by decide +kernel)⟩
def lw_privs_2 : List (MethodName × Nat) := [(⟨"SimonSays$Kinds", "asListener", "(I)I"⟩, 3), (⟨"SimonSaysModel", "next", "()V"⟩, 23), (⟨"SimonSaysModel", "takesChild", "()Z"⟩, 23), (⟨"SimonSaysModel", "takes", "(II)Z"⟩, 23), (⟨"SimonSaysModel", "stops", "()Z"⟩, 23), (⟨"SimonSaysModel", "takesLittle", "()Z"⟩, 23), (⟨"SimonSaysModel", "isChild", "(I)Z"⟩, 23), (⟨"SimonSaysModel", "leaderOf", "(I)I"⟩, 23), (⟨"SimonSaysModel", "fair", "()I"⟩, 23), (⟨"SimonSaysModel", "errsOf", "(III)I"⟩, 23), (⟨"SimonSaysModel", "ledBy", "(I)I"⟩, 23), (⟨"SimonSaysModel", "remember", "()V"⟩, 23), (⟨"SimonSaysModel", "isSet", "(I)Z"⟩, 23), (⟨"SimonSaysModel", "waysOf", "(II)J"⟩, 23), (⟨"SimonSaysModel", "staysOf", "(III)J"⟩, 23), (⟨"SimonSaysModel", "leftOf", "(II)J"⟩, 23)]
theorem lw_r2 : ∀ q ∈ lw_privs_2, lw_okq q := List.forall_mem_cons.mpr ⟨lw_p16, List.forall_mem_cons.mpr ⟨lw_p17, List.forall_mem_cons.mpr ⟨lw_p18, List.forall_mem_cons.mpr ⟨lw_p19, List.forall_mem_cons.mpr ⟨lw_p20, List.forall_mem_cons.mpr ⟨lw_p21, List.forall_mem_cons.mpr ⟨lw_p22, List.forall_mem_cons.mpr ⟨lw_p23, List.forall_mem_cons.mpr ⟨lw_p24, List.forall_mem_cons.mpr ⟨lw_p25, List.forall_mem_cons.mpr ⟨lw_p26, List.forall_mem_cons.mpr ⟨lw_p27, List.forall_mem_cons.mpr ⟨lw_p28, List.forall_mem_cons.mpr ⟨lw_p29, List.forall_mem_cons.mpr ⟨lw_p30, List.forall_mem_cons.mpr ⟨lw_p31, fun _ h => absurd h List.not_mem_nil⟩⟩⟩⟩⟩⟩⟩⟩⟩⟩⟩⟩⟩⟩⟩⟩
def lw_privs : List (MethodName × Nat) := lw_privs_1 ++ (lw_privs_2)
def lw_tbl : List Cond := k2_sels lw_privs ++ tables_1
theorem lw_privs_ok : ∀ q ∈ lw_privs, lw_okq q := by
  show ∀ q ∈ lw_privs_1 ++ (lw_privs_2), lw_okq q
  exact List.forall_mem_append.mpr ⟨lw_r1, lw_r2⟩
-- ===== end of PART A; then your names; then what follows =====
/-! ===== BEGIN words of one list among another's, by their places ===== -/
theorem goodIn_r {big : List Cond} (ws : List Cond) (ps : List Nat) (hp : ws = ps.filterMap (fun i => big[i]?)) (h : ws.all goodWord = true) : GoodIn big ws := by
  intro w hw
  have h1 := List.all_eq_true.mp h w hw
  rw [hp] at hw
  obtain ⟨i, -, hi⟩ := List.mem_filterMap.mp hw
  have hm : w ∈ big := by first | exact List.mem_of_getElem? hi | exact List.getElem?_mem hi
  exact ⟨hm, good_of_word h1⟩
theorem goodIn_app {big a b : List Cond} (ha : GoodIn big a) (hb : GoodIn big b) : GoodIn big (a ++ b) := fun w h => (List.mem_append.mp h).elim (ha w) (hb w)
theorem goodIn_ca {big a b : List Cond} {c : Cond} (ha : GoodIn big (c :: a)) (hb : GoodIn big b) : GoodIn big (c :: (a ++ b)) := fun w h => (List.mem_cons.mp h).elim (fun e => ha w (List.mem_cons.mpr (Or.inl e))) (fun h => (List.mem_append.mp h).elim (fun h => ha w (List.mem_cons.mpr (Or.inr h))) (hb w))
theorem goodIn_sub {big ws : List Cond} (hm : ∀ w ∈ ws, w ∈ big) (h : ws.all goodWord = true) : GoodIn big ws := fun w hw => ⟨hm w hw, good_of_word (List.all_eq_true.mp h w hw)⟩
/-! ===== END ===== -/

/-! ===== BEGIN printed: names, fields, word lists, decode rows ===== -/
def RX0 : String := "SimonSays$Chances"
def TX0 : u_T := fun k => match k with
  | 0 => ("SimonSays$Chances", "told", "LSimonSays$Children;", true)
  | 1 => ("SimonSays$Chances", "round", "LSimonSays$Round;", true)
  | 2 => ("SimonSays$Chances", "row", "LSimonSays$Row;", true)
  | _ => ("SimonSays$Chances", "byNumber", "[J", true)
def tyX0 : Nat → FieldType := fun k => match k with
  | 0 => .object "SimonSays$Children"
  | 1 => .object "SimonSays$Round"
  | 2 => .object "SimonSays$Row"
  | _ => .array .long
abbrev wsX00 : List Cond := u_ws RX0 TX0 4
theorem nmX0 : ∀ a, a < 4 → ∀ b, b < 4 → a ≠ b → (TX0 a).2.1 ≠ (TX0 b).2.1 := by decide +kernel
theorem tyX0_ok : ∀ k, k < 4 → parseFieldDescriptor (TX0 k).2.2.1 = some (tyX0 k) := by decide +kernel
abbrev cX0_init : ByteArray := prog_2_method_1_code
def yX0_init : MethodName := ⟨RX0, "<init>", "(LSimonSays$Children;LSimonSays$Round;LSimonSays$Row;)V"⟩
abbrev cX0_lower : ByteArray := prog_2_method_2_code
def yX0_lower : MethodName := ⟨RX0, "lower", "(I)J"⟩
abbrev cX0_setFalls : ByteArray := prog_2_method_3_code
def yX0_setFalls : MethodName := ⟨RX0, "setFalls", "(II)J"⟩
abbrev cX0_numberFalls : ByteArray := prog_2_method_4_code
def yX0_numberFalls : MethodName := ⟨RX0, "numberFalls", "(II)J"⟩
abbrev cX0_addGroup : ByteArray := prog_2_method_5_code
def yX0_addGroup : MethodName := ⟨RX0, "addGroup", "(II)V"⟩
abbrev cX0_leaderStays : ByteArray := prog_2_method_6_code
def yX0_leaderStays : MethodName := ⟨RX0, "leaderStays", "(I)J"⟩
abbrev cX0_justOneStays : ByteArray := prog_2_method_7_code
def yX0_justOneStays : MethodName := ⟨RX0, "justOneStays", "()J"⟩
abbrev cX0_bestRow : ByteArray := prog_2_method_8_code
def yX0_bestRow : MethodName := ⟨RX0, "bestRow", "(I)I"⟩
abbrev cX0_rowNumber : ByteArray := prog_2_method_9_code
def yX0_rowNumber : MethodName := ⟨RX0, "rowNumber", "(II)I"⟩
abbrev cX0_ordersThatCould : ByteArray := prog_2_method_10_code
def yX0_ordersThatCould : MethodName := ⟨RX0, "ordersThatCould", "(I)I"⟩
abbrev cX0_likeliestOrder : ByteArray := prog_2_method_11_code
def yX0_likeliestOrder : MethodName := ⟨RX0, "likeliestOrder", "(I)I"⟩
def RX1 : String := "SimonSays$Children"
def TX1 : u_T := fun k => match k with
  | 0 => ("SimonSays$Children", "slips", "[I", true)
  | 1 => ("SimonSays$Children", "lates", "[I", true)
  | 2 => ("SimonSays$Children", "copied", "[I", true)
  | 3 => ("SimonSays$Children", "size", "I", false)
  | _ => ("SimonSays$Children", "littleOnes", "I", false)
def tyX1 : Nat → FieldType := fun k => match k with
  | 0 => .array .int
  | 1 => .array .int
  | 2 => .array .int
  | 3 => .int
  | _ => .int
abbrev wsX10 : List Cond := u_ws RX1 TX1 5
theorem nmX1 : ∀ a, a < 5 → ∀ b, b < 5 → a ≠ b → (TX1 a).2.1 ≠ (TX1 b).2.1 := by decide +kernel
theorem tyX1_ok : ∀ k, k < 5 → parseFieldDescriptor (TX1 k).2.2.1 = some (tyX1 k) := by decide +kernel
abbrev cX1_init : ByteArray := prog_3_method_1_code
def yX1_init : MethodName := ⟨RX1, "<init>", "()V"⟩
abbrev cX1_forget : ByteArray := prog_3_method_2_code
def yX1_forget : MethodName := ⟨RX1, "forget", "()V"⟩
abbrev cX1_add : ByteArray := prog_3_method_3_code
def yX1_add : MethodName := ⟨RX1, "add", "(III)V"⟩
abbrev cX1_makeLittle : ByteArray := prog_3_method_4_code
def yX1_makeLittle : MethodName := ⟨RX1, "makeLittle", "(I)V"⟩
abbrev cX1_takeOver : ByteArray := prog_3_method_5_code
def yX1_takeOver : MethodName := ⟨RX1, "takeOver", "(LSimonSays$Children;)V"⟩
abbrev cX1_size : ByteArray := prog_3_method_6_code
def yX1_size : MethodName := ⟨RX1, "size", "()I"⟩
abbrev cX1_littleOnes : ByteArray := prog_3_method_7_code
def yX1_littleOnes : MethodName := ⟨RX1, "littleOnes", "()I"⟩
abbrev cX1_has : ByteArray := prog_3_method_8_code
def yX1_has : MethodName := ⟨RX1, "has", "(I)Z"⟩
abbrev cX1_everyone : ByteArray := prog_3_method_9_code
def yX1_everyone : MethodName := ⟨RX1, "everyone", "()I"⟩
abbrev cX1_isSet : ByteArray := prog_3_method_10_code
def yX1_isSet : MethodName := ⟨RX1, "isSet", "(I)Z"⟩
abbrev cX1_isLittle : ByteArray := prog_3_method_11_code
def yX1_isLittle : MethodName := ⟨RX1, "isLittle", "(I)Z"⟩
abbrev cX1_slipOf : ByteArray := prog_3_method_12_code
def yX1_slipOf : MethodName := ⟨RX1, "slipOf", "(I)I"⟩
abbrev cX1_lateOf : ByteArray := prog_3_method_13_code
def yX1_lateOf : MethodName := ⟨RX1, "lateOf", "(I)I"⟩
abbrev cX1_copiedBy : ByteArray := prog_3_method_14_code
def yX1_copiedBy : MethodName := ⟨RX1, "copiedBy", "(I)I"⟩
abbrev cX1_howManyCopy : ByteArray := prog_3_method_15_code
def yX1_howManyCopy : MethodName := ⟨RX1, "howManyCopy", "(I)I"⟩
abbrev cX1_errsOf : ByteArray := prog_3_method_16_code
def yX1_errsOf : MethodName := ⟨RX1, "errsOf", "(III)I"⟩
def RX2 : String := "SimonSays$History"
def TX2 : u_T := fun k => match k with
  | 0 => ("SimonSays$History", "ins", "[I", true)
  | 1 => ("SimonSays$History", "streaks", "[I", true)
  | _ => ("SimonSays$History", "size", "I", false)
def tyX2 : Nat → FieldType := fun k => match k with
  | 0 => .array .int
  | 1 => .array .int
  | _ => .int
abbrev wsX20 : List Cond := u_ws RX2 TX2 3
theorem nmX2 : ∀ a, a < 3 → ∀ b, b < 3 → a ≠ b → (TX2 a).2.1 ≠ (TX2 b).2.1 := by decide +kernel
theorem tyX2_ok : ∀ k, k < 3 → parseFieldDescriptor (TX2 k).2.2.1 = some (tyX2 k) := by decide +kernel
abbrev cX2_init : ByteArray := prog_4_method_1_code
def yX2_init : MethodName := ⟨RX2, "<init>", "()V"⟩
abbrev cX2_size : ByteArray := prog_4_method_2_code
def yX2_size : MethodName := ⟨RX2, "size", "()I"⟩
abbrev cX2_forget : ByteArray := prog_4_method_3_code
def yX2_forget : MethodName := ⟨RX2, "forget", "()V"⟩
abbrev cX2_add : ByteArray := prog_4_method_4_code
def yX2_add : MethodName := ⟨RX2, "add", "(II)V"⟩
abbrev cX2_loseOldest : ByteArray := prog_4_method_5_code
def yX2_loseOldest : MethodName := ⟨RX2, "loseOldest", "()V"⟩
abbrev cX2_dropLatest : ByteArray := prog_4_method_6_code
def yX2_dropLatest : MethodName := ⟨RX2, "dropLatest", "()V"⟩
abbrev cX2_droppedIn : ByteArray := prog_4_method_7_code
def yX2_droppedIn : MethodName := ⟨RX2, "droppedIn", "()I"⟩
abbrev cX2_droppedStreak : ByteArray := prog_4_method_8_code
def yX2_droppedStreak : MethodName := ⟨RX2, "droppedStreak", "()I"⟩
def RX3 : String := "SimonSays$Image"
def TX3 : u_T := fun k => match k with
  | 0 => ("SimonSays$Image", "kept", "Z", false)
  | 1 => ("SimonSays$Image", "in", "I", false)
  | 2 => ("SimonSays$Image", "streak", "I", false)
  | _ => ("SimonSays$Image", "lot", "I", false)
def tyX3 : Nat → FieldType := fun k => match k with
  | 0 => .boolean
  | 1 => .int
  | 2 => .int
  | _ => .int
abbrev wsX30 : List Cond := u_ws RX3 TX3 4
theorem nmX3 : ∀ a, a < 4 → ∀ b, b < 4 → a ≠ b → (TX3 a).2.1 ≠ (TX3 b).2.1 := by decide +kernel
theorem tyX3_ok : ∀ k, k < 4 → parseFieldDescriptor (TX3 k).2.2.1 = some (tyX3 k) := by decide +kernel
abbrev cX3_init : ByteArray := prog_5_method_1_code
def yX3_init : MethodName := ⟨RX3, "<init>", "()V"⟩
abbrev cX3_isKept : ByteArray := prog_5_method_2_code
def yX3_isKept : MethodName := ⟨RX3, "isKept", "()Z"⟩
abbrev cX3_forget : ByteArray := prog_5_method_3_code
def yX3_forget : MethodName := ⟨RX3, "forget", "()V"⟩
abbrev cX3_take : ByteArray := prog_5_method_4_code
def yX3_take : MethodName := ⟨RX3, "take", "(LSimonSays$Round;)V"⟩
abbrev cX3_giveTo : ByteArray := prog_5_method_5_code
def yX3_giveTo : MethodName := ⟨RX3, "giveTo", "(LSimonSays$Round;)V"⟩
def RX4 : String := "SimonSays$Kinds"
def TX4 : u_T := fun k => match k with
  | 0 => ("SimonSays$Kinds", "told", "LSimonSays$Children;", true)
  | 1 => ("SimonSays$Kinds", "round", "LSimonSays$Round;", true)
  | _ => ("SimonSays$Kinds", "trace", "J", false)
def tyX4 : Nat → FieldType := fun k => match k with
  | 0 => .object "SimonSays$Children"
  | 1 => .object "SimonSays$Round"
  | _ => .long
abbrev wsX40 : List Cond := u_ws RX4 TX4 3
theorem nmX4 : ∀ a, a < 3 → ∀ b, b < 3 → a ≠ b → (TX4 a).2.1 ≠ (TX4 b).2.1 := by decide +kernel
theorem tyX4_ok : ∀ k, k < 3 → parseFieldDescriptor (TX4 k).2.2.1 = some (tyX4 k) := by decide +kernel
abbrev cX4_init : ByteArray := prog_6_method_1_code
def yX4_init : MethodName := ⟨RX4, "<init>", "(LSimonSays$Children;LSimonSays$Round;)V"⟩
abbrev cX4_theTrace : ByteArray := prog_6_method_2_code
def yX4_theTrace : MethodName := ⟨RX4, "theTrace", "()J"⟩
abbrev cX4_rateAs : ByteArray := prog_6_method_3_code
def yX4_rateAs : MethodName := ⟨RX4, "rateAs", "(II)I"⟩
abbrev cX4_asChild : ByteArray := prog_6_method_4_code
def yX4_asChild : MethodName := ⟨RX4, "asChild", "(I)I"⟩
abbrev cX4_asDreamer : ByteArray := prog_6_method_5_code
def yX4_asDreamer : MethodName := ⟨RX4, "asDreamer", "(I)I"⟩
abbrev cX4_asWatcher : ByteArray := prog_6_method_6_code
def yX4_asWatcher : MethodName := ⟨RX4, "asWatcher", "(I)I"⟩
abbrev cX4_asRunner : ByteArray := prog_6_method_7_code
def yX4_asRunner : MethodName := ⟨RX4, "asRunner", "(I)I"⟩
abbrev cX4_asCopier : ByteArray := prog_6_method_8_code
def yX4_asCopier : MethodName := ⟨RX4, "asCopier", "(I)I"⟩
abbrev cX4_asListener : ByteArray := prog_6_method_9_code
def yX4_asListener : MethodName := ⟨RX4, "asListener", "(I)I"⟩
def RX5 : String := "SimonSays$Reader"
def TX5 : u_T := fun k => match k with
  | 0 => ("SimonSays$Reader", "text", "LSimonSays$Text;", true)
  | 1 => ("SimonSays$Reader", "found", "LSimonSays$Children;", true)
  | 2 => ("SimonSays$Reader", "token", "I", false)
  | 3 => ("SimonSays$Reader", "start", "I", false)
  | 4 => ("SimonSays$Reader", "end", "I", false)
  | _ => ("SimonSays$Reader", "value", "I", false)
def tyX5 : Nat → FieldType := fun k => match k with
  | 0 => .object "SimonSays$Text"
  | 1 => .object "SimonSays$Children"
  | 2 => .int
  | 3 => .int
  | 4 => .int
  | _ => .int
abbrev wsX50 : List Cond := u_ws RX5 TX5 6
theorem nmX5 : ∀ a, a < 6 → ∀ b, b < 6 → a ≠ b → (TX5 a).2.1 ≠ (TX5 b).2.1 := by decide +kernel
theorem tyX5_ok : ∀ k, k < 6 → parseFieldDescriptor (TX5 k).2.2.1 = some (tyX5 k) := by decide +kernel
abbrev cX5_init : ByteArray := prog_7_method_1_code
def yX5_init : MethodName := ⟨RX5, "<init>", "(LSimonSays$Text;)V"⟩
abbrev cX5_readItems : ByteArray := prog_7_method_2_code
def yX5_readItems : MethodName := ⟨RX5, "readItems", "()I"⟩
abbrev cX5_fault : ByteArray := prog_7_method_3_code
def yX5_fault : MethodName := ⟨RX5, "fault", "()I"⟩
abbrev cX5_found : ByteArray := prog_7_method_4_code
def yX5_found : MethodName := ⟨RX5, "found", "()LSimonSays$Children;"⟩
abbrev cX5_readItem : ByteArray := prog_7_method_5_code
def yX5_readItem : MethodName := ⟨RX5, "readItem", "()Z"⟩
abbrev cX5_readChild : ByteArray := prog_7_method_6_code
def yX5_readChild : MethodName := ⟨RX5, "readChild", "()Z"⟩
abbrev cX5_readLittle : ByteArray := prog_7_method_7_code
def yX5_readLittle : MethodName := ⟨RX5, "readLittle", "()Z"⟩
abbrev cX5_isNumberUpTo : ByteArray := prog_7_method_8_code
def yX5_isNumberUpTo : MethodName := ⟨RX5, "isNumberUpTo", "(I)Z"⟩
abbrev cX5_advance : ByteArray := prog_7_method_9_code
def yX5_advance : MethodName := ⟨RX5, "advance", "()V"⟩
abbrev cX5_advanceOverWord : ByteArray := prog_7_method_10_code
def yX5_advanceOverWord : MethodName := ⟨RX5, "advanceOverWord", "()V"⟩
abbrev cX5_advanceOverNumber : ByteArray := prog_7_method_11_code
def yX5_advanceOverNumber : MethodName := ⟨RX5, "advanceOverNumber", "()V"⟩
abbrev cX5_spells : ByteArray := prog_7_method_12_code
def yX5_spells : MethodName := ⟨RX5, "spells", "(Ljava/lang/String;)Z"⟩
abbrev cX5_isLetter : ByteArray := prog_7_method_13_code
def yX5_isLetter : MethodName := ⟨RX5, "isLetter", "(I)Z"⟩
abbrev cX5_isDigit : ByteArray := prog_7_method_14_code
def yX5_isDigit : MethodName := ⟨RX5, "isDigit", "(I)Z"⟩
def RX6 : String := "SimonSays$Round"
def TX6 : u_T := fun k => match k with
  | 0 => ("SimonSays$Round", "told", "LSimonSays$Children;", true)
  | 1 => ("SimonSays$Round", "in", "I", false)
  | 2 => ("SimonSays$Round", "streak", "I", false)
  | _ => ("SimonSays$Round", "lot", "I", false)
def tyX6 : Nat → FieldType := fun k => match k with
  | 0 => .object "SimonSays$Children"
  | 1 => .int
  | 2 => .int
  | _ => .int
abbrev wsX60 : List Cond := u_ws RX6 TX6 4
theorem nmX6 : ∀ a, a < 4 → ∀ b, b < 4 → a ≠ b → (TX6 a).2.1 ≠ (TX6 b).2.1 := by decide +kernel
theorem tyX6_ok : ∀ k, k < 4 → parseFieldDescriptor (TX6 k).2.2.1 = some (tyX6 k) := by decide +kernel
abbrev cX6_init : ByteArray := prog_8_method_1_code
def yX6_init : MethodName := ⟨RX6, "<init>", "(LSimonSays$Children;)V"⟩
abbrev cX6_startAnew : ByteArray := prog_8_method_2_code
def yX6_startAnew : MethodName := ⟨RX6, "startAnew", "()V"⟩
abbrev cX6_become : ByteArray := prog_8_method_3_code
def yX6_become : MethodName := ⟨RX6, "become", "(II)V"⟩
abbrev cX6_whoIsIn : ByteArray := prog_8_method_4_code
def yX6_whoIsIn : MethodName := ⟨RX6, "whoIsIn", "()I"⟩
abbrev cX6_howManyIn : ByteArray := prog_8_method_5_code
def yX6_howManyIn : MethodName := ⟨RX6, "howManyIn", "()I"⟩
abbrev cX6_streak : ByteArray := prog_8_method_6_code
def yX6_streak : MethodName := ⟨RX6, "streak", "()I"⟩
abbrev cX6_theLot : ByteArray := prog_8_method_7_code
def yX6_theLot : MethodName := ⟨RX6, "theLot", "()I"⟩
abbrev cX6_setLot : ByteArray := prog_8_method_8_code
def yX6_setLot : MethodName := ⟨RX6, "setLot", "(I)V"⟩
abbrev cX6_isIn : ByteArray := prog_8_method_9_code
def yX6_isIn : MethodName := ⟨RX6, "isIn", "(I)Z"⟩
abbrev cX6_letIn : ByteArray := prog_8_method_10_code
def yX6_letIn : MethodName := ⟨RX6, "letIn", "(I)V"⟩
abbrev cX6_leaderOf : ByteArray := prog_8_method_11_code
def yX6_leaderOf : MethodName := ⟨RX6, "leaderOf", "(I)I"⟩
abbrev cX6_isLeader : ByteArray := prog_8_method_12_code
def yX6_isLeader : MethodName := ⟨RX6, "isLeader", "(I)Z"⟩
abbrev cX6_groupOf : ByteArray := prog_8_method_13_code
def yX6_groupOf : MethodName := ⟨RX6, "groupOf", "(I)I"⟩
abbrev cX6_obey : ByteArray := prog_8_method_14_code
def yX6_obey : MethodName := ⟨RX6, "obey", "(I)I"⟩
abbrev cX6_draw : ByteArray := prog_8_method_15_code
def yX6_draw : MethodName := ⟨RX6, "draw", "()I"⟩
abbrev cX6_fewestSaidAhead : ByteArray := prog_8_method_16_code
def yX6_fewestSaidAhead : MethodName := ⟨RX6, "fewestSaidAhead", "(II)I"⟩
abbrev cX6_isFair : ByteArray := prog_8_method_17_code
def yX6_isFair : MethodName := ⟨RX6, "isFair", "()Z"⟩
def RX7 : String := "SimonSays$Row"
def TX7 : u_T := fun k => match k with
  | 0 => ("SimonSays$Row", "figures", "[I", true)
  | _ => ("SimonSays$Row", "length", "I", false)
def tyX7 : Nat → FieldType := fun k => match k with
  | 0 => .array .int
  | _ => .int
abbrev wsX70 : List Cond := u_ws RX7 TX7 2
theorem nmX7 : ∀ a, a < 2 → ∀ b, b < 2 → a ≠ b → (TX7 a).2.1 ≠ (TX7 b).2.1 := by decide +kernel
theorem tyX7_ok : ∀ k, k < 2 → parseFieldDescriptor (TX7 k).2.2.1 = some (tyX7 k) := by decide +kernel
abbrev cX7_init : ByteArray := prog_9_method_1_code
def yX7_init : MethodName := ⟨RX7, "<init>", "()V"⟩
abbrev cX7_length : ByteArray := prog_9_method_2_code
def yX7_length : MethodName := ⟨RX7, "length", "()I"⟩
abbrev cX7_read : ByteArray := prog_9_method_3_code
def yX7_read : MethodName := ⟨RX7, "read", "(II)Z"⟩
abbrev cX7_orderAt : ByteArray := prog_9_method_4_code
def yX7_orderAt : MethodName := ⟨RX7, "orderAt", "(I)I"⟩
def RX8 : String := "SimonSays$Text"
def TX8 : u_T := fun k => match k with
  | 0 => ("SimonSays$Text", "bytes", "[I", true)
  | _ => ("SimonSays$Text", "length", "I", false)
def tyX8 : Nat → FieldType := fun k => match k with
  | 0 => .array .int
  | _ => .int
abbrev wsX80 : List Cond := u_ws RX8 TX8 2
theorem nmX8 : ∀ a, a < 2 → ∀ b, b < 2 → a ≠ b → (TX8 a).2.1 ≠ (TX8 b).2.1 := by decide +kernel
theorem tyX8_ok : ∀ k, k < 2 → parseFieldDescriptor (TX8 k).2.2.1 = some (tyX8 k) := by decide +kernel
abbrev cX8_init : ByteArray := prog_10_method_1_code
def yX8_init : MethodName := ⟨RX8, "<init>", "()V"⟩
abbrev cX8_length : ByteArray := prog_10_method_2_code
def yX8_length : MethodName := ⟨RX8, "length", "()I"⟩
abbrev cX8_append : ByteArray := prog_10_method_3_code
def yX8_append : MethodName := ⟨RX8, "append", "(I)V"⟩
abbrev cX8_byteAt : ByteArray := prog_10_method_4_code
def yX8_byteAt : MethodName := ⟨RX8, "byteAt", "(I)I"⟩
abbrev cX8_drop : ByteArray := prog_10_method_5_code
def yX8_drop : MethodName := ⟨RX8, "drop", "()V"⟩
def RX9 : String := "SimonSays"
def TX9 : u_T := fun k => match k with
  | 0 => ("SimonSays", "text", "LSimonSays$Text;", true)
  | 1 => ("SimonSays", "reader", "LSimonSays$Reader;", true)
  | 2 => ("SimonSays", "told", "LSimonSays$Children;", true)
  | 3 => ("SimonSays", "round", "LSimonSays$Round;", true)
  | 4 => ("SimonSays", "history", "LSimonSays$History;", true)
  | 5 => ("SimonSays", "images", "[LSimonSays$Image;", true)
  | 6 => ("SimonSays", "asked", "LSimonSays$Row;", true)
  | 7 => ("SimonSays", "chances", "LSimonSays$Chances;", true)
  | _ => ("SimonSays", "kinds", "LSimonSays$Kinds;", true)
def tyX9 : Nat → FieldType := fun k => match k with
  | 0 => .object "SimonSays$Text"
  | 1 => .object "SimonSays$Reader"
  | 2 => .object "SimonSays$Children"
  | 3 => .object "SimonSays$Round"
  | 4 => .object "SimonSays$History"
  | 5 => .array (.object "SimonSays$Image")
  | 6 => .object "SimonSays$Row"
  | 7 => .object "SimonSays$Chances"
  | _ => .object "SimonSays$Kinds"
abbrev wsX90 : List Cond := u_ws RX9 TX9 9
theorem nmX9 : ∀ a, a < 9 → ∀ b, b < 9 → a ≠ b → (TX9 a).2.1 ≠ (TX9 b).2.1 := by decide +kernel
theorem tyX9_ok : ∀ k, k < 9 → parseFieldDescriptor (TX9 k).2.2.1 = some (tyX9 k) := by decide +kernel
abbrev cX9_init : ByteArray := prog_1_method_1_code
def yX9_init : MethodName := ⟨RX9, "<init>", "()V"⟩
abbrev cX9_type : ByteArray := prog_1_method_2_code
def yX9_type : MethodName := ⟨RX9, "type", "(JI)I"⟩
abbrev cX9_clear : ByteArray := prog_1_method_3_code
def yX9_clear : MethodName := ⟨RX9, "clear", "()I"⟩
abbrev cX9_children : ByteArray := prog_1_method_4_code
def yX9_children : MethodName := ⟨RX9, "children", "()I"⟩
abbrev cX9_child : ByteArray := prog_1_method_5_code
def yX9_child : MethodName := ⟨RX9, "child", "(II)I"⟩
abbrev cX9_now : ByteArray := prog_1_method_6_code
def yX9_now : MethodName := ⟨RX9, "now", "(I)I"⟩
abbrev cX9_errs : ByteArray := prog_1_method_7_code
def yX9_errs : MethodName := ⟨RX9, "errs", "(II)I"⟩
abbrev cX9_call : ByteArray := prog_1_method_8_code
def yX9_call : MethodName := ⟨RX9, "call", "(I)I"⟩
abbrev cX9_comesBack : ByteArray := prog_1_method_9_code
def yX9_comesBack : MethodName := ⟨RX9, "comesBack", "(I)I"⟩
abbrev cX9_undo : ByteArray := prog_1_method_10_code
def yX9_undo : MethodName := ⟨RX9, "undo", "()I"⟩
abbrev cX9_lot : ByteArray := prog_1_method_11_code
def yX9_lot : MethodName := ⟨RX9, "lot", "(I)I"⟩
abbrev cX9_falls : ByteArray := prog_1_method_12_code
def yX9_falls : MethodName := ⟨RX9, "falls", "(III)J"⟩
abbrev cX9_many : ByteArray := prog_1_method_13_code
def yX9_many : MethodName := ⟨RX9, "many", "(III)J"⟩
abbrev cX9_stays : ByteArray := prog_1_method_14_code
def yX9_stays : MethodName := ⟨RX9, "stays", "(III)J"⟩
abbrev cX9_left : ByteArray := prog_1_method_15_code
def yX9_left : MethodName := ⟨RX9, "left", "(II)J"⟩
abbrev cX9_best : ByteArray := prog_1_method_16_code
def yX9_best : MethodName := ⟨RX9, "best", "(I)I"⟩
abbrev cX9_lure : ByteArray := prog_1_method_17_code
def yX9_lure : MethodName := ⟨RX9, "lure", "(II)I"⟩
abbrev cX9_could : ByteArray := prog_1_method_18_code
def yX9_could : MethodName := ⟨RX9, "could", "(I)I"⟩
abbrev cX9_likeliest : ByteArray := prog_1_method_19_code
def yX9_likeliest : MethodName := ⟨RX9, "likeliest", "(I)I"⟩
abbrev cX9_rate : ByteArray := prog_1_method_20_code
def yX9_rate : MethodName := ⟨RX9, "rate", "(II)I"⟩
abbrev cX9_keep : ByteArray := prog_1_method_21_code
def yX9_keep : MethodName := ⟨RX9, "keep", "(I)I"⟩
abbrev cX9_back : ByteArray := prog_1_method_22_code
def yX9_back : MethodName := ⟨RX9, "back", "(I)I"⟩
abbrev cX9_count : ByteArray := prog_1_method_23_code
def yX9_count : MethodName := ⟨RX9, "count", "(I)I"⟩
abbrev cX9_trace : ByteArray := prog_1_method_24_code
def yX9_trace : MethodName := ⟨RX9, "trace", "()J"⟩
abbrev cX9_isOrder : ByteArray := prog_1_method_25_code
def yX9_isOrder : MethodName := ⟨RX9, "isOrder", "(I)Z"⟩
abbrev cX9_isImage : ByteArray := prog_1_method_26_code
def yX9_isImage : MethodName := ⟨RX9, "isImage", "(I)Z"⟩
abbrev cX9_isHalf : ByteArray := prog_1_method_27_code
def yX9_isHalf : MethodName := ⟨RX9, "isHalf", "(I)Z"⟩
abbrev cX9_streakBehind : ByteArray := prog_1_method_28_code
def yX9_streakBehind : MethodName := ⟨RX9, "streakBehind", "(II)I"⟩
abbrev cX9_powerOfTen : ByteArray := prog_1_method_29_code
def yX9_powerOfTen : MethodName := ⟨RX9, "powerOfTen", "(I)J"⟩
abbrev cX9_leastTerms : ByteArray := prog_1_method_30_code
def yX9_leastTerms : MethodName := ⟨RX9, "leastTerms", "(JJI)J"⟩
abbrev cX9_greatestDivisor : ByteArray := prog_1_method_31_code
def yX9_greatestDivisor : MethodName := ⟨RX9, "greatestDivisor", "(JJ)J"⟩
def RX10 : String := "SimonSaysModel"
def TX10 : u_T := fun k => match k with
  | 0 => ("SimonSaysModel", "text", "[I", true)
  | 1 => ("SimonSaysModel", "size", "I", false)
  | 2 => ("SimonSaysModel", "many", "I", false)
  | 3 => ("SimonSaysModel", "slips", "[I", true)
  | 4 => ("SimonSaysModel", "lates", "[I", true)
  | 5 => ("SimonSaysModel", "copies", "[I", true)
  | 6 => ("SimonSaysModel", "little", "I", false)
  | 7 => ("SimonSaysModel", "in", "I", false)
  | 8 => ("SimonSaysModel", "streak", "I", false)
  | 9 => ("SimonSaysModel", "lot", "I", false)
  | 10 => ("SimonSaysModel", "undos", "I", false)
  | 11 => ("SimonSaysModel", "before", "[I", true)
  | 12 => ("SimonSaysModel", "images", "[I", true)
  | 13 => ("SimonSaysModel", "kept", "[Z", true)
  | 14 => ("SimonSaysModel", "trace", "J", false)
  | 15 => ("SimonSaysModel", "at", "I", false)
  | 16 => ("SimonSaysModel", "begin", "I", false)
  | 17 => ("SimonSaysModel", "kind", "I", false)
  | 18 => ("SimonSaysModel", "value", "J", false)
  | 19 => ("SimonSaysModel", "readMany", "I", false)
  | 20 => ("SimonSaysModel", "readLittle", "I", false)
  | 21 => ("SimonSaysModel", "read", "[I", true)
  | _ => ("SimonSaysModel", "below", "J", false)
def tyX10 : Nat → FieldType := fun k => match k with
  | 0 => .array .int
  | 1 => .int
  | 2 => .int
  | 3 => .array .int
  | 4 => .array .int
  | 5 => .array .int
  | 6 => .int
  | 7 => .int
  | 8 => .int
  | 9 => .int
  | 10 => .int
  | 11 => .array .int
  | 12 => .array .int
  | 13 => .array .boolean
  | 14 => .long
  | 15 => .int
  | 16 => .int
  | 17 => .int
  | 18 => .long
  | 19 => .int
  | 20 => .int
  | 21 => .array .int
  | _ => .long
abbrev wsX100 : List Cond := u_ws RX10 TX10 23
theorem nmX10 : ∀ a, a < 23 → ∀ b, b < 23 → a ≠ b → (TX10 a).2.1 ≠ (TX10 b).2.1 := by decide +kernel
theorem tyX10_ok : ∀ k, k < 23 → parseFieldDescriptor (TX10 k).2.2.1 = some (tyX10 k) := by decide +kernel
abbrev cX10_init : ByteArray := prog_12_method_1_code
def yX10_init : MethodName := ⟨RX10, "<init>", "()V"⟩
abbrev cX10_within : ByteArray := prog_12_method_3_code
def yX10_within : MethodName := ⟨RX10, "within", "(JJJ)Z"⟩
abbrev cX10_has : ByteArray := prog_12_method_4_code
def yX10_has : MethodName := ⟨RX10, "has", "(II)Z"⟩
abbrev cX10_bits : ByteArray := prog_12_method_5_code
def yX10_bits : MethodName := ⟨RX10, "bits", "(I)I"⟩
abbrev cX10_isChild : ByteArray := prog_12_method_6_code
def yX10_isChild : MethodName := ⟨RX10, "isChild", "(I)Z"⟩
abbrev cX10_isOrder : ByteArray := prog_12_method_7_code
def yX10_isOrder : MethodName := ⟨RX10, "isOrder", "(I)Z"⟩
abbrev cX10_isSet : ByteArray := prog_12_method_8_code
def yX10_isSet : MethodName := ⟨RX10, "isSet", "(I)Z"⟩
abbrev cX10_type : ByteArray := prog_12_method_9_code
def yX10_type : MethodName := ⟨RX10, "type", "(JI)I"⟩
abbrev cX10_clear : ByteArray := prog_12_method_10_code
def yX10_clear : MethodName := ⟨RX10, "clear", "()I"⟩
abbrev cX10_isLetter : ByteArray := prog_12_method_11_code
def yX10_isLetter : MethodName := ⟨RX10, "isLetter", "(I)Z"⟩
abbrev cX10_isFigure : ByteArray := prog_12_method_12_code
def yX10_isFigure : MethodName := ⟨RX10, "isFigure", "(I)Z"⟩
abbrev cX10_next : ByteArray := prog_12_method_13_code
def yX10_next : MethodName := ⟨RX10, "next", "()V"⟩
abbrev cX10_takes : ByteArray := prog_12_method_14_code
def yX10_takes : MethodName := ⟨RX10, "takes", "(II)Z"⟩
abbrev cX10_stops : ByteArray := prog_12_method_15_code
def yX10_stops : MethodName := ⟨RX10, "stops", "()Z"⟩
abbrev cX10_takesChild : ByteArray := prog_12_method_16_code
def yX10_takesChild : MethodName := ⟨RX10, "takesChild", "()Z"⟩
abbrev cX10_takesLittle : ByteArray := prog_12_method_17_code
def yX10_takesLittle : MethodName := ⟨RX10, "takesLittle", "()Z"⟩
abbrev cX10_children : ByteArray := prog_12_method_18_code
def yX10_children : MethodName := ⟨RX10, "children", "()I"⟩
abbrev cX10_leaderOf : ByteArray := prog_12_method_19_code
def yX10_leaderOf : MethodName := ⟨RX10, "leaderOf", "(I)I"⟩
abbrev cX10_ledBy : ByteArray := prog_12_method_20_code
def yX10_ledBy : MethodName := ⟨RX10, "ledBy", "(I)I"⟩
abbrev cX10_errsOf : ByteArray := prog_12_method_21_code
def yX10_errsOf : MethodName := ⟨RX10, "errsOf", "(III)I"⟩
abbrev cX10_streakBehind : ByteArray := prog_12_method_22_code
def yX10_streakBehind : MethodName := ⟨RX10, "streakBehind", "(II)I"⟩
abbrev cX10_fair : ByteArray := prog_12_method_23_code
def yX10_fair : MethodName := ⟨RX10, "fair", "()I"⟩
abbrev cX10_child : ByteArray := prog_12_method_24_code
def yX10_child : MethodName := ⟨RX10, "child", "(II)I"⟩
abbrev cX10_now : ByteArray := prog_12_method_25_code
def yX10_now : MethodName := ⟨RX10, "now", "(I)I"⟩
abbrev cX10_errs : ByteArray := prog_12_method_26_code
def yX10_errs : MethodName := ⟨RX10, "errs", "(II)I"⟩
abbrev cX10_remember : ByteArray := prog_12_method_27_code
def yX10_remember : MethodName := ⟨RX10, "remember", "()V"⟩
abbrev cX10_call : ByteArray := prog_12_method_28_code
def yX10_call : MethodName := ⟨RX10, "call", "(I)I"⟩
abbrev cX10_comesBack : ByteArray := prog_12_method_29_code
def yX10_comesBack : MethodName := ⟨RX10, "comesBack", "(I)I"⟩
abbrev cX10_undo : ByteArray := prog_12_method_30_code
def yX10_undo : MethodName := ⟨RX10, "undo", "()I"⟩
abbrev cX10_lot : ByteArray := prog_12_method_31_code
def yX10_lot : MethodName := ⟨RX10, "lot", "(I)I"⟩
abbrev cX10_part : ByteArray := prog_12_method_32_code
def yX10_part : MethodName := ⟨RX10, "part", "(JJI)J"⟩
abbrev cX10_waysOf : ByteArray := prog_12_method_33_code
def yX10_waysOf : MethodName := ⟨RX10, "waysOf", "(II)J"⟩
abbrev cX10_isPart : ByteArray := prog_12_method_34_code
def yX10_isPart : MethodName := ⟨RX10, "isPart", "(I)Z"⟩
abbrev cX10_falls : ByteArray := prog_12_method_35_code
def yX10_falls : MethodName := ⟨RX10, "falls", "(III)J"⟩
abbrev cX10_many : ByteArray := prog_12_method_36_code
def yX10_many : MethodName := ⟨RX10, "many", "(III)J"⟩
abbrev cX10_ordersIn : ByteArray := prog_12_method_37_code
def yX10_ordersIn : MethodName := ⟨RX10, "ordersIn", "(I)I"⟩
abbrev cX10_orderAt : ByteArray := prog_12_method_38_code
def yX10_orderAt : MethodName := ⟨RX10, "orderAt", "(III)I"⟩
abbrev cX10_staysOf : ByteArray := prog_12_method_39_code
def yX10_staysOf : MethodName := ⟨RX10, "staysOf", "(III)J"⟩
abbrev cX10_tens : ByteArray := prog_12_method_40_code
def yX10_tens : MethodName := ⟨RX10, "tens", "(I)J"⟩
abbrev cX10_stays : ByteArray := prog_12_method_41_code
def yX10_stays : MethodName := ⟨RX10, "stays", "(III)J"⟩
abbrev cX10_leftOf : ByteArray := prog_12_method_42_code
def yX10_leftOf : MethodName := ⟨RX10, "leftOf", "(II)J"⟩
abbrev cX10_left : ByteArray := prog_12_method_43_code
def yX10_left : MethodName := ⟨RX10, "left", "(II)J"⟩
abbrev cX10_best : ByteArray := prog_12_method_44_code
def yX10_best : MethodName := ⟨RX10, "best", "(I)I"⟩
abbrev cX10_lure : ByteArray := prog_12_method_45_code
def yX10_lure : MethodName := ⟨RX10, "lure", "(II)I"⟩
abbrev cX10_could : ByteArray := prog_12_method_46_code
def yX10_could : MethodName := ⟨RX10, "could", "(I)I"⟩
abbrev cX10_likeliest : ByteArray := prog_12_method_47_code
def yX10_likeliest : MethodName := ⟨RX10, "likeliest", "(I)I"⟩
abbrev cX10_rate : ByteArray := prog_12_method_48_code
def yX10_rate : MethodName := ⟨RX10, "rate", "(II)I"⟩
abbrev cX10_keep : ByteArray := prog_12_method_49_code
def yX10_keep : MethodName := ⟨RX10, "keep", "(I)I"⟩
abbrev cX10_back : ByteArray := prog_12_method_50_code
def yX10_back : MethodName := ⟨RX10, "back", "(I)I"⟩
abbrev cX10_count : ByteArray := prog_12_method_51_code
def yX10_count : MethodName := ⟨RX10, "count", "(I)I"⟩
abbrev cX10_trace : ByteArray := prog_12_method_52_code
def yX10_trace : MethodName := ⟨RX10, "trace", "()J"⟩
def RJ6 : String := "java/lang/Integer"
def TJ6 : u_T := fun k => match k with
  | _ => ("", "", "", false)
def tyJ6 : Nat → FieldType := fun k => match k with
  | _ => .int
abbrev wsJ60 : List Cond := u_ws RJ6 TJ6 0
theorem nmJ6 : ∀ a, a < 0 → ∀ b, b < 0 → a ≠ b → (TJ6 a).2.1 ≠ (TJ6 b).2.1 := by decide +kernel
theorem tyJ6_ok : ∀ k, k < 0 → parseFieldDescriptor (TJ6 k).2.2.1 = some (tyJ6 k) := by decide +kernel
abbrev cJ6_bitCount_0f7a4 : ByteArray := prog_13_method_49_code
def yJ6_bitCount_0f7a4 : MethodName := ⟨RJ6, "bitCount", "(I)I"⟩
def RJ9 : String := "java/lang/Math"
def TJ9 : u_T := fun k => match k with
  | _ => ("", "", "", false)
def tyJ9 : Nat → FieldType := fun k => match k with
  | _ => .int
abbrev wsJ90 : List Cond := u_ws RJ9 TJ9 0
theorem nmJ9 : ∀ a, a < 0 → ∀ b, b < 0 → a ≠ b → (TJ9 a).2.1 ≠ (TJ9 b).2.1 := by decide +kernel
theorem tyJ9_ok : ∀ k, k < 0 → parseFieldDescriptor (TJ9 k).2.2.1 = some (tyJ9 k) := by decide +kernel
abbrev cJ9_min_7cf53 : ByteArray := prog_14_method_69_code
def yJ9_min_7cf53 : MethodName := ⟨RJ9, "min", "(II)I"⟩
def RJ0 : String := "java/lang/String"
def TJ0 : u_T := fun k => match k with
  | _ => ("", "", "", false)
def tyJ0 : Nat → FieldType := fun k => match k with
  | _ => .int
abbrev wsJ00 : List Cond := u_ws RJ0 TJ0 0
theorem nmJ0 : ∀ a, a < 0 → ∀ b, b < 0 → a ≠ b → (TJ0 a).2.1 ≠ (TJ0 b).2.1 := by decide +kernel
theorem tyJ0_ok : ∀ k, k < 0 → parseFieldDescriptor (TJ0 k).2.2.1 = some (tyJ0 k) := by decide +kernel
abbrev cJ0_length_8abf5 : ByteArray := prog_15_method_54_code
def yJ0_length_8abf5 : MethodName := ⟨RJ0, "length", "()I"⟩
abbrev cJ0_charAt_5068e : ByteArray := prog_15_method_56_code
def yJ0_charAt_5068e : MethodName := ⟨RJ0, "charAt", "(I)C"⟩
abbrev cJ0_coder_7d493 : ByteArray := prog_15_method_152_code
def yJ0_coder_7d493 : MethodName := ⟨RJ0, "coder", "()B"⟩
abbrev cJ0_isLatin1_aae02 : ByteArray := prog_15_method_154_code
def yJ0_isLatin1_aae02 : MethodName := ⟨RJ0, "isLatin1", "()Z"⟩
abbrev cJ0_checkIndex_df160 : ByteArray := prog_15_method_155_code
def yJ0_checkIndex_df160 : MethodName := ⟨RJ0, "checkIndex", "(II)V"⟩
def RJ1 : String := "java/lang/StringLatin1"
def TJ1 : u_T := fun k => match k with
  | _ => ("", "", "", false)
def tyJ1 : Nat → FieldType := fun k => match k with
  | _ => .int
abbrev wsJ10 : List Cond := u_ws RJ1 TJ1 0
theorem nmJ1 : ∀ a, a < 0 → ∀ b, b < 0 → a ≠ b → (TJ1 a).2.1 ≠ (TJ1 b).2.1 := by decide +kernel
theorem tyJ1_ok : ∀ k, k < 0 → parseFieldDescriptor (TJ1 k).2.2.1 = some (tyJ1 k) := by decide +kernel
abbrev cJ1_charAt_3b067 : ByteArray := prog_16_method_2_code
def yJ1_charAt_3b067 : MethodName := ⟨RJ1, "charAt", "([BI)C"⟩
def RJ2 : String := "java/lang/StringUTF16"
def TJ2 : u_T := fun k => match k with
  | _ => ("", "", "", false)
def tyJ2 : Nat → FieldType := fun k => match k with
  | _ => .int
abbrev wsJ20 : List Cond := u_ws RJ2 TJ2 0
theorem nmJ2 : ∀ a, a < 0 → ∀ b, b < 0 → a ≠ b → (TJ2 a).2.1 ≠ (TJ2 b).2.1 := by decide +kernel
theorem tyJ2_ok : ∀ k, k < 0 → parseFieldDescriptor (TJ2 k).2.2.1 = some (tyJ2 k) := by decide +kernel
abbrev cJ2_getChar_3b067 : ByteArray := prog_17_method_5_code
def yJ2_getChar_3b067 : MethodName := ⟨RJ2, "getChar", "([BI)C"⟩
abbrev cJ2_length_9d52b : ByteArray := prog_17_method_6_code
def yJ2_length_9d52b : MethodName := ⟨RJ2, "length", "([B)I"⟩
abbrev cJ2_charAt_3b067 : ByteArray := prog_17_method_83_code
def yJ2_charAt_3b067 : MethodName := ⟨RJ2, "charAt", "([BI)C"⟩
abbrev cJ2_checkIndex_2214a : ByteArray := prog_17_method_91_code
def yJ2_checkIndex_2214a : MethodName := ⟨RJ2, "checkIndex", "(I[B)V"⟩
def RJ10 : String := "java/lang/System"
def TJ10 : u_T := fun k => match k with
  | _ => ("", "", "", false)
def tyJ10 : Nat → FieldType := fun k => match k with
  | _ => .int
abbrev wsJ100 : List Cond := u_ws RJ10 TJ10 0
theorem nmJ10 : ∀ a, a < 0 → ∀ b, b < 0 → a ≠ b → (TJ10 a).2.1 ≠ (TJ10 b).2.1 := by decide +kernel
theorem tyJ10_ok : ∀ k, k < 0 → parseFieldDescriptor (TJ10 k).2.2.1 = some (tyJ10 k) := by decide +kernel
def RJ3 : String := "jdk/internal/util/Preconditions"
def TJ3 : u_T := fun k => match k with
  | _ => ("", "", "", false)
def tyJ3 : Nat → FieldType := fun k => match k with
  | _ => .int
abbrev wsJ30 : List Cond := u_ws RJ3 TJ3 0
theorem nmJ3 : ∀ a, a < 0 → ∀ b, b < 0 → a ≠ b → (TJ3 a).2.1 ≠ (TJ3 b).2.1 := by decide +kernel
theorem tyJ3_ok : ∀ k, k < 0 → parseFieldDescriptor (TJ3 k).2.2.1 = some (tyJ3 k) := by decide +kernel
abbrev cJ3_checkIndex_8e157 : ByteArray := prog_19_method_11_code
def yJ3_checkIndex_8e157 : MethodName := ⟨RJ3, "checkIndex", "(IILjava/util/function/BiFunction;)I"⟩
def RL : String := "SimonSaysLaw"
abbrev cL_law : ByteArray := code
def yL_law : MethodName := ⟨RL, "law", "([I)Z"⟩
def wsX0_init : List Cond := .code yX0_init cX0_init 4 none :: ([.methodLink RX0 3 objectInit, .instanceMethod objectInit, .code objectInit ⟨#[0xb1]⟩ 1 none, .fieldLink RX0 9 "SimonSays$Chances" "told" "LSimonSays$Children;", .fieldLink RX0 15 "SimonSays$Chances" "round" "LSimonSays$Round;", .fieldLink RX0 19 "SimonSays$Chances" "row" "LSimonSays$Row;", .arrayClass .long, .fieldLink RX0 23 "SimonSays$Chances" "byNumber" "[J"] ++ wsX00)
def wsX1_size : List Cond := .code yX1_size cX1_size 1 (some .int) :: ([.fieldLink RX1 21 "SimonSays$Children" "size" "I"] ++ wsX10)
def wsX1_has : List Cond := .code yX1_has cX1_has 2 (some .boolean) :: ([.fieldLink RX1 21 "SimonSays$Children" "size" "I"] ++ wsX10)
def wsX6_isIn : List Cond := .code yX6_isIn cX6_isIn 2 (some .boolean) :: ([.fieldLink RX6 9 "SimonSays$Round" "told" "LSimonSays$Children;", .fieldLink RX6 29 "SimonSays$Round" "in" "I", .methodLink RX6 41 yX1_has, .instanceMethod yX1_has, .selects RX1 yX1_has yX1_has, .initialized RX1, .code yX1_has cX1_has 2 (some .boolean), .fieldLink RX1 21 "SimonSays$Children" "size" "I"] ++ wsX60 ++ wsX10)
def wsX1_copiedBy : List Cond := .code yX1_copiedBy cX1_copiedBy 2 (some .int) :: ([.fieldLink RX1 18 "SimonSays$Children" "copied" "[I", .methodLink RX1 49 yX1_has, .instanceMethod yX1_has, .selects RX1 yX1_has yX1_has, .initialized RX1, .code yX1_has cX1_has 2 (some .boolean), .fieldLink RX1 21 "SimonSays$Children" "size" "I"] ++ wsX10)
def wsX6_leaderOf : List Cond := .code yX6_leaderOf cX6_leaderOf 5 (some .int) :: ([.fieldLink RX6 9 "SimonSays$Round" "told" "LSimonSays$Children;", .methodLink RX6 45 yX1_copiedBy, .instanceMethod yX1_copiedBy, .selects RX1 yX1_copiedBy yX1_copiedBy, .initialized RX1, .code yX1_copiedBy cX1_copiedBy 2 (some .int), .fieldLink RX1 18 "SimonSays$Children" "copied" "[I", .methodLink RX1 49 yX1_has, .instanceMethod yX1_has, .selects RX1 yX1_has yX1_has, .code yX1_has cX1_has 2 (some .boolean), .fieldLink RX1 21 "SimonSays$Children" "size" "I", .methodLink RX6 48 yX6_isIn, .instanceMethod yX6_isIn, .selects RX6 yX6_isIn yX6_isIn, .initialized RX6, .code yX6_isIn cX6_isIn 2 (some .boolean), .fieldLink RX6 29 "SimonSays$Round" "in" "I", .methodLink RX6 41 yX1_has] ++ wsX60 ++ wsX10)
def wsX6_isLeader : List Cond := .code yX6_isLeader cX6_isLeader 2 (some .boolean) :: ([.methodLink RX6 48 yX6_isIn, .instanceMethod yX6_isIn, .selects RX6 yX6_isIn yX6_isIn, .initialized RX6, .code yX6_isIn cX6_isIn 2 (some .boolean), .fieldLink RX6 9 "SimonSays$Round" "told" "LSimonSays$Children;", .fieldLink RX6 29 "SimonSays$Round" "in" "I", .methodLink RX6 41 yX1_has, .instanceMethod yX1_has, .selects RX1 yX1_has yX1_has, .initialized RX1, .code yX1_has cX1_has 2 (some .boolean), .fieldLink RX1 21 "SimonSays$Children" "size" "I", .methodLink RX6 51 yX6_leaderOf, .instanceMethod yX6_leaderOf, .selects RX6 yX6_leaderOf yX6_leaderOf, .code yX6_leaderOf cX6_leaderOf 5 (some .int), .methodLink RX6 45 yX1_copiedBy, .instanceMethod yX1_copiedBy, .selects RX1 yX1_copiedBy yX1_copiedBy, .code yX1_copiedBy cX1_copiedBy 2 (some .int), .fieldLink RX1 18 "SimonSays$Children" "copied" "[I", .methodLink RX1 49 yX1_has] ++ wsX60 ++ wsX10)
def wsX9_powerOfTen : List Cond := .code yX9_powerOfTen cX9_powerOfTen 4 (some .long) :: ([.constantLong RX9 270 (10)])
def wsX0_lower_r1 : List Cond := [Cond.fieldLink RX0 9 "SimonSays$Chances" "told" "LSimonSays$Children;", Cond.fieldLink RX0 15 "SimonSays$Chances" "round" "LSimonSays$Round;", Cond.methodLink RX0 27 yX1_size, Cond.instanceMethod yX1_size, Cond.selects RX1 yX1_size yX1_size, Cond.initialized RX1, Cond.code yX1_size cX1_size 1 (some .int), Cond.fieldLink RX1 21 "SimonSays$Children" "size" "I", Cond.methodLink RX0 33 yX6_isLeader, Cond.instanceMethod yX6_isLeader, Cond.selects RX6 yX6_isLeader yX6_isLeader, Cond.initialized RX6, Cond.code yX6_isLeader cX6_isLeader 2 (some .boolean), Cond.methodLink RX6 48 yX6_isIn, Cond.instanceMethod yX6_isIn, Cond.selects RX6 yX6_isIn yX6_isIn, Cond.code yX6_isIn cX6_isIn 2 (some .boolean), Cond.fieldLink RX6 9 "SimonSays$Round" "told" "LSimonSays$Children;", Cond.fieldLink RX6 29 "SimonSays$Round" "in" "I", Cond.methodLink RX6 41 yX1_has, Cond.instanceMethod yX1_has, Cond.selects RX1 yX1_has yX1_has, Cond.code yX1_has cX1_has 2 (some .boolean), Cond.methodLink RX6 51 yX6_leaderOf]
def wsX0_lower_r2 : List Cond := [Cond.instanceMethod yX6_leaderOf, Cond.selects RX6 yX6_leaderOf yX6_leaderOf, Cond.code yX6_leaderOf cX6_leaderOf 5 (some .int), Cond.methodLink RX6 45 yX1_copiedBy, Cond.instanceMethod yX1_copiedBy, Cond.selects RX1 yX1_copiedBy yX1_copiedBy, Cond.code yX1_copiedBy cX1_copiedBy 2 (some .int), Cond.fieldLink RX1 18 "SimonSays$Children" "copied" "[I", Cond.methodLink RX1 49 yX1_has, Cond.static yX9_powerOfTen, Cond.initialized RX9, Cond.code yX9_powerOfTen cX9_powerOfTen 4 (some .long), Cond.constantLong RX9 270 (10)]
def wsX0_lower : List Cond := .code yX0_lower cX0_lower 4 (some .long) :: ((wsX0_lower_r1 ++ wsX0_lower_r2) ++ wsX00 ++ wsX10 ++ wsX60)
def wsX6_whoIsIn : List Cond := .code yX6_whoIsIn cX6_whoIsIn 1 (some .int) :: ([.fieldLink RX6 29 "SimonSays$Round" "in" "I"] ++ wsX60)
def wsX6_groupOf_r1 : List Cond := [Cond.fieldLink RX6 9 "SimonSays$Round" "told" "LSimonSays$Children;", Cond.methodLink RX6 54 yX1_size, Cond.instanceMethod yX1_size, Cond.selects RX1 yX1_size yX1_size, Cond.initialized RX1, Cond.code yX1_size cX1_size 1 (some .int), Cond.fieldLink RX1 21 "SimonSays$Children" "size" "I", Cond.methodLink RX6 48 yX6_isIn, Cond.instanceMethod yX6_isIn, Cond.selects RX6 yX6_isIn yX6_isIn, Cond.initialized RX6, Cond.code yX6_isIn cX6_isIn 2 (some .boolean), Cond.fieldLink RX6 29 "SimonSays$Round" "in" "I", Cond.methodLink RX6 41 yX1_has, Cond.instanceMethod yX1_has, Cond.selects RX1 yX1_has yX1_has, Cond.code yX1_has cX1_has 2 (some .boolean), Cond.methodLink RX6 51 yX6_leaderOf, Cond.instanceMethod yX6_leaderOf, Cond.selects RX6 yX6_leaderOf yX6_leaderOf, Cond.code yX6_leaderOf cX6_leaderOf 5 (some .int), Cond.methodLink RX6 45 yX1_copiedBy, Cond.instanceMethod yX1_copiedBy, Cond.selects RX1 yX1_copiedBy yX1_copiedBy]
def wsX6_groupOf_r2 : List Cond := [Cond.code yX1_copiedBy cX1_copiedBy 2 (some .int), Cond.fieldLink RX1 18 "SimonSays$Children" "copied" "[I", Cond.methodLink RX1 49 yX1_has]
def wsX6_groupOf : List Cond := .code yX6_groupOf cX6_groupOf 4 (some .int) :: ((wsX6_groupOf_r1 ++ wsX6_groupOf_r2) ++ wsX60 ++ wsX10)
def wsX6_streak : List Cond := .code yX6_streak cX6_streak 1 (some .int) :: ([.fieldLink RX6 32 "SimonSays$Round" "streak" "I"] ++ wsX60)
def wsX1_slipOf : List Cond := .code yX1_slipOf cX1_slipOf 2 (some .int) :: ([.fieldLink RX1 9 "SimonSays$Children" "slips" "[I", .methodLink RX1 49 yX1_has, .instanceMethod yX1_has, .selects RX1 yX1_has yX1_has, .initialized RX1, .code yX1_has cX1_has 2 (some .boolean), .fieldLink RX1 21 "SimonSays$Children" "size" "I"] ++ wsX10)
def wsX1_lateOf : List Cond := .code yX1_lateOf cX1_lateOf 2 (some .int) :: ([.fieldLink RX1 15 "SimonSays$Children" "lates" "[I", .methodLink RX1 49 yX1_has, .instanceMethod yX1_has, .selects RX1 yX1_has yX1_has, .initialized RX1, .code yX1_has cX1_has 2 (some .boolean), .fieldLink RX1 21 "SimonSays$Children" "size" "I"] ++ wsX10)
def wsX1_errsOf : List Cond := .code yX1_errsOf cX1_errsOf 4 (some .int) :: ([.methodLink RX1 53 Lib.Math.min.name, .static Lib.Math.min.name, .initialized "java/lang/Math", .code Lib.Math.min.name Lib.Math.min.code 2 (some .int), .methodLink RX1 31 yX1_slipOf, .instanceMethod yX1_slipOf, .selects RX1 yX1_slipOf yX1_slipOf, .initialized RX1, .code yX1_slipOf cX1_slipOf 2 (some .int), .fieldLink RX1 9 "SimonSays$Children" "slips" "[I", .methodLink RX1 49 yX1_has, .instanceMethod yX1_has, .selects RX1 yX1_has yX1_has, .code yX1_has cX1_has 2 (some .boolean), .fieldLink RX1 21 "SimonSays$Children" "size" "I", .methodLink RX1 35 yX1_lateOf, .instanceMethod yX1_lateOf, .selects RX1 yX1_lateOf yX1_lateOf, .code yX1_lateOf cX1_lateOf 2 (some .int), .fieldLink RX1 15 "SimonSays$Children" "lates" "[I"] ++ wsX10)
def wsX0_setFalls_r1 : List Cond := [Cond.fieldLink RX0 15 "SimonSays$Chances" "round" "LSimonSays$Round;", Cond.fieldLink RX0 9 "SimonSays$Chances" "told" "LSimonSays$Children;", Cond.methodLink RX0 43 yX6_whoIsIn, Cond.instanceMethod yX6_whoIsIn, Cond.selects RX6 yX6_whoIsIn yX6_whoIsIn, Cond.initialized RX6, Cond.code yX6_whoIsIn cX6_whoIsIn 1 (some .int), Cond.fieldLink RX6 29 "SimonSays$Round" "in" "I", Cond.methodLink RX0 27 yX1_size, Cond.instanceMethod yX1_size, Cond.selects RX1 yX1_size yX1_size, Cond.initialized RX1, Cond.code yX1_size cX1_size 1 (some .int), Cond.fieldLink RX1 21 "SimonSays$Children" "size" "I", Cond.methodLink RX0 33 yX6_isLeader, Cond.instanceMethod yX6_isLeader, Cond.selects RX6 yX6_isLeader yX6_isLeader, Cond.code yX6_isLeader cX6_isLeader 2 (some .boolean), Cond.methodLink RX6 48 yX6_isIn, Cond.instanceMethod yX6_isIn, Cond.selects RX6 yX6_isIn yX6_isIn, Cond.code yX6_isIn cX6_isIn 2 (some .boolean), Cond.fieldLink RX6 9 "SimonSays$Round" "told" "LSimonSays$Children;", Cond.methodLink RX6 41 yX1_has]
def wsX0_setFalls_r2 : List Cond := [Cond.instanceMethod yX1_has, Cond.selects RX1 yX1_has yX1_has, Cond.code yX1_has cX1_has 2 (some .boolean), Cond.methodLink RX6 51 yX6_leaderOf, Cond.instanceMethod yX6_leaderOf, Cond.selects RX6 yX6_leaderOf yX6_leaderOf, Cond.code yX6_leaderOf cX6_leaderOf 5 (some .int), Cond.methodLink RX6 45 yX1_copiedBy, Cond.instanceMethod yX1_copiedBy, Cond.selects RX1 yX1_copiedBy yX1_copiedBy, Cond.code yX1_copiedBy cX1_copiedBy 2 (some .int), Cond.fieldLink RX1 18 "SimonSays$Children" "copied" "[I", Cond.methodLink RX1 49 yX1_has, Cond.methodLink RX0 46 yX6_groupOf, Cond.instanceMethod yX6_groupOf, Cond.selects RX6 yX6_groupOf yX6_groupOf, Cond.code yX6_groupOf cX6_groupOf 4 (some .int), Cond.methodLink RX6 54 yX1_size, Cond.methodLink RX0 50 yX6_streak, Cond.instanceMethod yX6_streak, Cond.selects RX6 yX6_streak yX6_streak, Cond.code yX6_streak cX6_streak 1 (some .int), Cond.fieldLink RX6 32 "SimonSays$Round" "streak" "I", Cond.methodLink RX0 53 yX1_errsOf]
def wsX0_setFalls_r3 : List Cond := [Cond.instanceMethod yX1_errsOf, Cond.selects RX1 yX1_errsOf yX1_errsOf, Cond.code yX1_errsOf cX1_errsOf 4 (some .int), Cond.methodLink RX1 53 Lib.Math.min.name, Cond.static Lib.Math.min.name, Cond.initialized "java/lang/Math", Cond.code Lib.Math.min.name Lib.Math.min.code 2 (some .int), Cond.methodLink RX1 31 yX1_slipOf, Cond.instanceMethod yX1_slipOf, Cond.selects RX1 yX1_slipOf yX1_slipOf, Cond.code yX1_slipOf cX1_slipOf 2 (some .int), Cond.fieldLink RX1 9 "SimonSays$Children" "slips" "[I", Cond.methodLink RX1 35 yX1_lateOf, Cond.instanceMethod yX1_lateOf, Cond.selects RX1 yX1_lateOf yX1_lateOf, Cond.code yX1_lateOf cX1_lateOf 2 (some .int), Cond.fieldLink RX1 15 "SimonSays$Children" "lates" "[I"]
def wsX0_setFalls : List Cond := .code yX0_setFalls cX0_setFalls 8 (some .long) :: ((wsX0_setFalls_r1 ++ (wsX0_setFalls_r2 ++ wsX0_setFalls_r3)) ++ wsX00 ++ wsX60 ++ wsX10)
def wsJ6_bitCount_0f7a4 : List Cond := .code yJ6_bitCount_0f7a4 cJ6_bitCount_0f7a4 1 (some .int) :: ([.constant RJ6 265 (1431655765), .constant RJ6 266 (858993459), .constant RJ6 267 (252645135)])
def wsX0_addGroup : List Cond := .code yX0_addGroup cX0_addGroup 6 none :: ([.fieldLink RX0 23 "SimonSays$Chances" "byNumber" "[J"] ++ wsX00)
def wsX0_numberFalls_r1 : List Cond := [Cond.fieldLink RX0 23 "SimonSays$Chances" "byNumber" "[J", Cond.fieldLink RX0 9 "SimonSays$Chances" "told" "LSimonSays$Children;", Cond.fieldLink RX0 15 "SimonSays$Chances" "round" "LSimonSays$Round;", Cond.methodLink RX0 27 yX1_size, Cond.instanceMethod yX1_size, Cond.selects RX1 yX1_size yX1_size, Cond.initialized RX1, Cond.code yX1_size cX1_size 1 (some .int), Cond.fieldLink RX1 21 "SimonSays$Children" "size" "I", Cond.methodLink RX0 33 yX6_isLeader, Cond.instanceMethod yX6_isLeader, Cond.selects RX6 yX6_isLeader yX6_isLeader, Cond.initialized RX6, Cond.code yX6_isLeader cX6_isLeader 2 (some .boolean), Cond.methodLink RX6 48 yX6_isIn, Cond.instanceMethod yX6_isIn, Cond.selects RX6 yX6_isIn yX6_isIn, Cond.code yX6_isIn cX6_isIn 2 (some .boolean), Cond.fieldLink RX6 9 "SimonSays$Round" "told" "LSimonSays$Children;", Cond.fieldLink RX6 29 "SimonSays$Round" "in" "I", Cond.methodLink RX6 41 yX1_has, Cond.instanceMethod yX1_has, Cond.selects RX1 yX1_has yX1_has, Cond.code yX1_has cX1_has 2 (some .boolean)]
def wsX0_numberFalls_r2 : List Cond := [Cond.methodLink RX6 51 yX6_leaderOf, Cond.instanceMethod yX6_leaderOf, Cond.selects RX6 yX6_leaderOf yX6_leaderOf, Cond.code yX6_leaderOf cX6_leaderOf 5 (some .int), Cond.methodLink RX6 45 yX1_copiedBy, Cond.instanceMethod yX1_copiedBy, Cond.selects RX1 yX1_copiedBy yX1_copiedBy, Cond.code yX1_copiedBy cX1_copiedBy 2 (some .int), Cond.fieldLink RX1 18 "SimonSays$Children" "copied" "[I", Cond.methodLink RX1 49 yX1_has, Cond.methodLink RX0 46 yX6_groupOf, Cond.instanceMethod yX6_groupOf, Cond.selects RX6 yX6_groupOf yX6_groupOf, Cond.code yX6_groupOf cX6_groupOf 4 (some .int), Cond.methodLink RX6 54 yX1_size, Cond.methodLink RX0 57 yJ6_bitCount_0f7a4, Cond.static yJ6_bitCount_0f7a4, Cond.initialized RJ6, Cond.code yJ6_bitCount_0f7a4 cJ6_bitCount_0f7a4 1 (some .int), Cond.constant RJ6 265 (1431655765), Cond.constant RJ6 266 (858993459), Cond.constant RJ6 267 (252645135), Cond.methodLink RX0 50 yX6_streak, Cond.instanceMethod yX6_streak]
def wsX0_numberFalls_r3 : List Cond := [Cond.selects RX6 yX6_streak yX6_streak, Cond.code yX6_streak cX6_streak 1 (some .int), Cond.fieldLink RX6 32 "SimonSays$Round" "streak" "I", Cond.methodLink RX0 53 yX1_errsOf, Cond.instanceMethod yX1_errsOf, Cond.selects RX1 yX1_errsOf yX1_errsOf, Cond.code yX1_errsOf cX1_errsOf 4 (some .int), Cond.methodLink RX1 53 Lib.Math.min.name, Cond.static Lib.Math.min.name, Cond.initialized "java/lang/Math", Cond.code Lib.Math.min.name Lib.Math.min.code 2 (some .int), Cond.methodLink RX1 31 yX1_slipOf, Cond.instanceMethod yX1_slipOf, Cond.selects RX1 yX1_slipOf yX1_slipOf, Cond.code yX1_slipOf cX1_slipOf 2 (some .int), Cond.fieldLink RX1 9 "SimonSays$Children" "slips" "[I", Cond.methodLink RX1 35 yX1_lateOf, Cond.instanceMethod yX1_lateOf, Cond.selects RX1 yX1_lateOf yX1_lateOf, Cond.code yX1_lateOf cX1_lateOf 2 (some .int), Cond.fieldLink RX1 15 "SimonSays$Children" "lates" "[I", Cond.methodLink RX0 62 yX0_addGroup, Cond.instanceMethod yX0_addGroup, Cond.selects RX0 yX0_addGroup yX0_addGroup]
def wsX0_numberFalls_r4 : List Cond := [Cond.initialized RX0, Cond.code yX0_addGroup cX0_addGroup 6 none]
def wsX0_numberFalls : List Cond := .code yX0_numberFalls cX0_numberFalls 4 (some .long) :: ((wsX0_numberFalls_r1 ++ (wsX0_numberFalls_r2 ++ (wsX0_numberFalls_r3 ++ wsX0_numberFalls_r4))) ++ wsX00 ++ wsX10 ++ wsX60)
def wsX7_length : List Cond := .code yX7_length cX7_length 1 (some .int) :: ([.fieldLink RX7 15 "SimonSays$Row" "length" "I"] ++ wsX70)
def wsX7_orderAt : List Cond := .code yX7_orderAt cX7_orderAt 2 (some .int) :: ([.fieldLink RX7 15 "SimonSays$Row" "length" "I", .fieldLink RX7 9 "SimonSays$Row" "figures" "[I"] ++ wsX70)
def wsX9_streakBehind : List Cond := .code yX9_streakBehind cX9_streakBehind 2 (some .int) :: ([.methodLink RX9 265 Lib.Math.min.name, .static Lib.Math.min.name, .initialized "java/lang/Math", .code Lib.Math.min.name Lib.Math.min.code 2 (some .int)])
def wsX0_leaderStays_r1 : List Cond := [Cond.fieldLink RX0 15 "SimonSays$Chances" "round" "LSimonSays$Round;", Cond.fieldLink RX0 19 "SimonSays$Chances" "row" "LSimonSays$Row;", Cond.fieldLink RX0 9 "SimonSays$Chances" "told" "LSimonSays$Children;", Cond.methodLink RX0 50 yX6_streak, Cond.instanceMethod yX6_streak, Cond.selects RX6 yX6_streak yX6_streak, Cond.initialized RX6, Cond.code yX6_streak cX6_streak 1 (some .int), Cond.fieldLink RX6 32 "SimonSays$Round" "streak" "I", Cond.methodLink RX0 66 yX7_length, Cond.instanceMethod yX7_length, Cond.selects RX7 yX7_length yX7_length, Cond.initialized RX7, Cond.code yX7_length cX7_length 1 (some .int), Cond.fieldLink RX7 15 "SimonSays$Row" "length" "I", Cond.methodLink RX0 71 yX7_orderAt, Cond.instanceMethod yX7_orderAt, Cond.selects RX7 yX7_orderAt yX7_orderAt, Cond.code yX7_orderAt cX7_orderAt 2 (some .int), Cond.fieldLink RX7 9 "SimonSays$Row" "figures" "[I", Cond.methodLink RX0 53 yX1_errsOf, Cond.instanceMethod yX1_errsOf, Cond.selects RX1 yX1_errsOf yX1_errsOf, Cond.initialized RX1]
def wsX0_leaderStays_r2 : List Cond := [Cond.code yX1_errsOf cX1_errsOf 4 (some .int), Cond.methodLink RX1 53 Lib.Math.min.name, Cond.static Lib.Math.min.name, Cond.initialized "java/lang/Math", Cond.code Lib.Math.min.name Lib.Math.min.code 2 (some .int), Cond.methodLink RX1 31 yX1_slipOf, Cond.instanceMethod yX1_slipOf, Cond.selects RX1 yX1_slipOf yX1_slipOf, Cond.code yX1_slipOf cX1_slipOf 2 (some .int), Cond.fieldLink RX1 9 "SimonSays$Children" "slips" "[I", Cond.methodLink RX1 49 yX1_has, Cond.instanceMethod yX1_has, Cond.selects RX1 yX1_has yX1_has, Cond.code yX1_has cX1_has 2 (some .boolean), Cond.fieldLink RX1 21 "SimonSays$Children" "size" "I", Cond.methodLink RX1 35 yX1_lateOf, Cond.instanceMethod yX1_lateOf, Cond.selects RX1 yX1_lateOf yX1_lateOf, Cond.code yX1_lateOf cX1_lateOf 2 (some .int), Cond.fieldLink RX1 15 "SimonSays$Children" "lates" "[I", Cond.static yX9_streakBehind, Cond.initialized RX9, Cond.code yX9_streakBehind cX9_streakBehind 2 (some .int), Cond.methodLink RX9 265 Lib.Math.min.name]
def wsX0_leaderStays : List Cond := .code yX0_leaderStays cX0_leaderStays 7 (some .long) :: ((wsX0_leaderStays_r1 ++ wsX0_leaderStays_r2) ++ wsX00 ++ wsX60 ++ wsX70 ++ wsX10)
def wsX0_justOneStays_r1 : List Cond := [Cond.fieldLink RX0 19 "SimonSays$Chances" "row" "LSimonSays$Row;", Cond.fieldLink RX0 9 "SimonSays$Chances" "told" "LSimonSays$Children;", Cond.fieldLink RX0 15 "SimonSays$Chances" "round" "LSimonSays$Round;", Cond.methodLink RX0 66 yX7_length, Cond.instanceMethod yX7_length, Cond.selects RX7 yX7_length yX7_length, Cond.initialized RX7, Cond.code yX7_length cX7_length 1 (some .int), Cond.fieldLink RX7 15 "SimonSays$Row" "length" "I", Cond.static yX9_powerOfTen, Cond.initialized RX9, Cond.code yX9_powerOfTen cX9_powerOfTen 4 (some .long), Cond.constantLong RX9 270 (10), Cond.methodLink RX0 27 yX1_size, Cond.instanceMethod yX1_size, Cond.selects RX1 yX1_size yX1_size, Cond.initialized RX1, Cond.code yX1_size cX1_size 1 (some .int), Cond.fieldLink RX1 21 "SimonSays$Children" "size" "I", Cond.methodLink RX0 33 yX6_isLeader, Cond.instanceMethod yX6_isLeader, Cond.selects RX6 yX6_isLeader yX6_isLeader, Cond.initialized RX6, Cond.code yX6_isLeader cX6_isLeader 2 (some .boolean)]
def wsX0_justOneStays_r2 : List Cond := [Cond.methodLink RX6 48 yX6_isIn, Cond.instanceMethod yX6_isIn, Cond.selects RX6 yX6_isIn yX6_isIn, Cond.code yX6_isIn cX6_isIn 2 (some .boolean), Cond.fieldLink RX6 9 "SimonSays$Round" "told" "LSimonSays$Children;", Cond.fieldLink RX6 29 "SimonSays$Round" "in" "I", Cond.methodLink RX6 41 yX1_has, Cond.instanceMethod yX1_has, Cond.selects RX1 yX1_has yX1_has, Cond.code yX1_has cX1_has 2 (some .boolean), Cond.methodLink RX6 51 yX6_leaderOf, Cond.instanceMethod yX6_leaderOf, Cond.selects RX6 yX6_leaderOf yX6_leaderOf, Cond.code yX6_leaderOf cX6_leaderOf 5 (some .int), Cond.methodLink RX6 45 yX1_copiedBy, Cond.instanceMethod yX1_copiedBy, Cond.selects RX1 yX1_copiedBy yX1_copiedBy, Cond.code yX1_copiedBy cX1_copiedBy 2 (some .int), Cond.fieldLink RX1 18 "SimonSays$Children" "copied" "[I", Cond.methodLink RX1 49 yX1_has, Cond.methodLink RX0 78 yX0_leaderStays, Cond.instanceMethod yX0_leaderStays, Cond.selects RX0 yX0_leaderStays yX0_leaderStays, Cond.initialized RX0]
def wsX0_justOneStays_r3 : List Cond := [Cond.code yX0_leaderStays cX0_leaderStays 7 (some .long), Cond.methodLink RX0 50 yX6_streak, Cond.instanceMethod yX6_streak, Cond.selects RX6 yX6_streak yX6_streak, Cond.code yX6_streak cX6_streak 1 (some .int), Cond.fieldLink RX6 32 "SimonSays$Round" "streak" "I", Cond.methodLink RX0 71 yX7_orderAt, Cond.instanceMethod yX7_orderAt, Cond.selects RX7 yX7_orderAt yX7_orderAt, Cond.code yX7_orderAt cX7_orderAt 2 (some .int), Cond.fieldLink RX7 9 "SimonSays$Row" "figures" "[I", Cond.methodLink RX0 53 yX1_errsOf, Cond.instanceMethod yX1_errsOf, Cond.selects RX1 yX1_errsOf yX1_errsOf, Cond.code yX1_errsOf cX1_errsOf 4 (some .int), Cond.methodLink RX1 53 Lib.Math.min.name, Cond.static Lib.Math.min.name, Cond.initialized "java/lang/Math", Cond.code Lib.Math.min.name Lib.Math.min.code 2 (some .int), Cond.methodLink RX1 31 yX1_slipOf, Cond.instanceMethod yX1_slipOf, Cond.selects RX1 yX1_slipOf yX1_slipOf, Cond.code yX1_slipOf cX1_slipOf 2 (some .int), Cond.fieldLink RX1 9 "SimonSays$Children" "slips" "[I"]
def wsX0_justOneStays_r4 : List Cond := [Cond.methodLink RX1 35 yX1_lateOf, Cond.instanceMethod yX1_lateOf, Cond.selects RX1 yX1_lateOf yX1_lateOf, Cond.code yX1_lateOf cX1_lateOf 2 (some .int), Cond.fieldLink RX1 15 "SimonSays$Children" "lates" "[I", Cond.static yX9_streakBehind, Cond.code yX9_streakBehind cX9_streakBehind 2 (some .int), Cond.methodLink RX9 265 Lib.Math.min.name, Cond.methodLink RX0 46 yX6_groupOf, Cond.instanceMethod yX6_groupOf, Cond.selects RX6 yX6_groupOf yX6_groupOf, Cond.code yX6_groupOf cX6_groupOf 4 (some .int), Cond.methodLink RX6 54 yX1_size, Cond.methodLink RX0 57 yJ6_bitCount_0f7a4, Cond.static yJ6_bitCount_0f7a4, Cond.initialized RJ6, Cond.code yJ6_bitCount_0f7a4 cJ6_bitCount_0f7a4 1 (some .int), Cond.constant RJ6 265 (1431655765), Cond.constant RJ6 266 (858993459), Cond.constant RJ6 267 (252645135)]
def wsX0_justOneStays : List Cond := .code yX0_justOneStays cX0_justOneStays 13 (some .long) :: ((wsX0_justOneStays_r1 ++ (wsX0_justOneStays_r2 ++ (wsX0_justOneStays_r3 ++ wsX0_justOneStays_r4))) ++ wsX00 ++ wsX70 ++ wsX10 ++ wsX60)
def wsX0_rowNumber : List Cond := .code yX0_rowNumber cX0_rowNumber 4 (some .int) :: ([])
def wsX9_isOrder : List Cond := .code yX9_isOrder cX9_isOrder 1 (some .boolean) :: ([])
def wsX7_read : List Cond := .code yX7_read cX7_read 5 (some .boolean) :: ([.fieldLink RX7 15 "SimonSays$Row" "length" "I", .fieldLink RX7 9 "SimonSays$Row" "figures" "[I", .static yX9_isOrder, .initialized RX9, .code yX9_isOrder cX9_isOrder 1 (some .boolean)] ++ wsX70)
def wsX0_bestRow_r1 : List Cond := [Cond.constantLong RX0 81 (-1), Cond.fieldLink RX0 19 "SimonSays$Chances" "row" "LSimonSays$Row;", Cond.methodLink RX0 83 yX0_rowNumber, Cond.static yX0_rowNumber, Cond.initialized RX0, Cond.code yX0_rowNumber cX0_rowNumber 4 (some .int), Cond.methodLink RX0 86 yX7_read, Cond.instanceMethod yX7_read, Cond.selects RX7 yX7_read yX7_read, Cond.initialized RX7, Cond.code yX7_read cX7_read 5 (some .boolean), Cond.fieldLink RX7 15 "SimonSays$Row" "length" "I", Cond.fieldLink RX7 9 "SimonSays$Row" "figures" "[I", Cond.static yX9_isOrder, Cond.initialized RX9, Cond.code yX9_isOrder cX9_isOrder 1 (some .boolean), Cond.methodLink RX0 90 yX0_justOneStays, Cond.instanceMethod yX0_justOneStays, Cond.selects RX0 yX0_justOneStays yX0_justOneStays, Cond.code yX0_justOneStays cX0_justOneStays 13 (some .long), Cond.fieldLink RX0 9 "SimonSays$Chances" "told" "LSimonSays$Children;", Cond.fieldLink RX0 15 "SimonSays$Chances" "round" "LSimonSays$Round;", Cond.methodLink RX0 66 yX7_length, Cond.instanceMethod yX7_length]
def wsX0_bestRow_r2 : List Cond := [Cond.selects RX7 yX7_length yX7_length, Cond.code yX7_length cX7_length 1 (some .int), Cond.static yX9_powerOfTen, Cond.code yX9_powerOfTen cX9_powerOfTen 4 (some .long), Cond.constantLong RX9 270 (10), Cond.methodLink RX0 27 yX1_size, Cond.instanceMethod yX1_size, Cond.selects RX1 yX1_size yX1_size, Cond.initialized RX1, Cond.code yX1_size cX1_size 1 (some .int), Cond.fieldLink RX1 21 "SimonSays$Children" "size" "I", Cond.methodLink RX0 33 yX6_isLeader, Cond.instanceMethod yX6_isLeader, Cond.selects RX6 yX6_isLeader yX6_isLeader, Cond.initialized RX6, Cond.code yX6_isLeader cX6_isLeader 2 (some .boolean), Cond.methodLink RX6 48 yX6_isIn, Cond.instanceMethod yX6_isIn, Cond.selects RX6 yX6_isIn yX6_isIn, Cond.code yX6_isIn cX6_isIn 2 (some .boolean), Cond.fieldLink RX6 9 "SimonSays$Round" "told" "LSimonSays$Children;", Cond.fieldLink RX6 29 "SimonSays$Round" "in" "I", Cond.methodLink RX6 41 yX1_has, Cond.instanceMethod yX1_has]
def wsX0_bestRow_r3 : List Cond := [Cond.selects RX1 yX1_has yX1_has, Cond.code yX1_has cX1_has 2 (some .boolean), Cond.methodLink RX6 51 yX6_leaderOf, Cond.instanceMethod yX6_leaderOf, Cond.selects RX6 yX6_leaderOf yX6_leaderOf, Cond.code yX6_leaderOf cX6_leaderOf 5 (some .int), Cond.methodLink RX6 45 yX1_copiedBy, Cond.instanceMethod yX1_copiedBy, Cond.selects RX1 yX1_copiedBy yX1_copiedBy, Cond.code yX1_copiedBy cX1_copiedBy 2 (some .int), Cond.fieldLink RX1 18 "SimonSays$Children" "copied" "[I", Cond.methodLink RX1 49 yX1_has, Cond.methodLink RX0 78 yX0_leaderStays, Cond.instanceMethod yX0_leaderStays, Cond.selects RX0 yX0_leaderStays yX0_leaderStays, Cond.code yX0_leaderStays cX0_leaderStays 7 (some .long), Cond.methodLink RX0 50 yX6_streak, Cond.instanceMethod yX6_streak, Cond.selects RX6 yX6_streak yX6_streak, Cond.code yX6_streak cX6_streak 1 (some .int), Cond.fieldLink RX6 32 "SimonSays$Round" "streak" "I", Cond.methodLink RX0 71 yX7_orderAt, Cond.instanceMethod yX7_orderAt, Cond.selects RX7 yX7_orderAt yX7_orderAt]
def wsX0_bestRow_r4 : List Cond := [Cond.code yX7_orderAt cX7_orderAt 2 (some .int), Cond.methodLink RX0 53 yX1_errsOf, Cond.instanceMethod yX1_errsOf, Cond.selects RX1 yX1_errsOf yX1_errsOf, Cond.code yX1_errsOf cX1_errsOf 4 (some .int), Cond.methodLink RX1 53 Lib.Math.min.name, Cond.static Lib.Math.min.name, Cond.initialized "java/lang/Math", Cond.code Lib.Math.min.name Lib.Math.min.code 2 (some .int), Cond.methodLink RX1 31 yX1_slipOf, Cond.instanceMethod yX1_slipOf, Cond.selects RX1 yX1_slipOf yX1_slipOf, Cond.code yX1_slipOf cX1_slipOf 2 (some .int), Cond.fieldLink RX1 9 "SimonSays$Children" "slips" "[I", Cond.methodLink RX1 35 yX1_lateOf, Cond.instanceMethod yX1_lateOf, Cond.selects RX1 yX1_lateOf yX1_lateOf, Cond.code yX1_lateOf cX1_lateOf 2 (some .int), Cond.fieldLink RX1 15 "SimonSays$Children" "lates" "[I", Cond.static yX9_streakBehind, Cond.code yX9_streakBehind cX9_streakBehind 2 (some .int), Cond.methodLink RX9 265 Lib.Math.min.name, Cond.methodLink RX0 46 yX6_groupOf, Cond.instanceMethod yX6_groupOf]
def wsX0_bestRow_r5 : List Cond := [Cond.selects RX6 yX6_groupOf yX6_groupOf, Cond.code yX6_groupOf cX6_groupOf 4 (some .int), Cond.methodLink RX6 54 yX1_size, Cond.methodLink RX0 57 yJ6_bitCount_0f7a4, Cond.static yJ6_bitCount_0f7a4, Cond.initialized RJ6, Cond.code yJ6_bitCount_0f7a4 cJ6_bitCount_0f7a4 1 (some .int), Cond.constant RJ6 265 (1431655765), Cond.constant RJ6 266 (858993459), Cond.constant RJ6 267 (252645135)]
def wsX0_bestRow : List Cond := .code yX0_bestRow cX0_bestRow 9 (some .int) :: ((wsX0_bestRow_r1 ++ (wsX0_bestRow_r2 ++ (wsX0_bestRow_r3 ++ (wsX0_bestRow_r4 ++ wsX0_bestRow_r5)))) ++ wsX00 ++ wsX70 ++ wsX10 ++ wsX60)
def wsX0_ordersThatCould_r1 : List Cond := [Cond.methodLink RX0 94 yX0_setFalls, Cond.instanceMethod yX0_setFalls, Cond.selects RX0 yX0_setFalls yX0_setFalls, Cond.initialized RX0, Cond.code yX0_setFalls cX0_setFalls 8 (some .long), Cond.fieldLink RX0 15 "SimonSays$Chances" "round" "LSimonSays$Round;", Cond.fieldLink RX0 9 "SimonSays$Chances" "told" "LSimonSays$Children;", Cond.methodLink RX0 43 yX6_whoIsIn, Cond.instanceMethod yX6_whoIsIn, Cond.selects RX6 yX6_whoIsIn yX6_whoIsIn, Cond.initialized RX6, Cond.code yX6_whoIsIn cX6_whoIsIn 1 (some .int), Cond.fieldLink RX6 29 "SimonSays$Round" "in" "I", Cond.methodLink RX0 27 yX1_size, Cond.instanceMethod yX1_size, Cond.selects RX1 yX1_size yX1_size, Cond.initialized RX1, Cond.code yX1_size cX1_size 1 (some .int), Cond.fieldLink RX1 21 "SimonSays$Children" "size" "I", Cond.methodLink RX0 33 yX6_isLeader, Cond.instanceMethod yX6_isLeader, Cond.selects RX6 yX6_isLeader yX6_isLeader, Cond.code yX6_isLeader cX6_isLeader 2 (some .boolean), Cond.methodLink RX6 48 yX6_isIn]
def wsX0_ordersThatCould_r2 : List Cond := [Cond.instanceMethod yX6_isIn, Cond.selects RX6 yX6_isIn yX6_isIn, Cond.code yX6_isIn cX6_isIn 2 (some .boolean), Cond.fieldLink RX6 9 "SimonSays$Round" "told" "LSimonSays$Children;", Cond.methodLink RX6 41 yX1_has, Cond.instanceMethod yX1_has, Cond.selects RX1 yX1_has yX1_has, Cond.code yX1_has cX1_has 2 (some .boolean), Cond.methodLink RX6 51 yX6_leaderOf, Cond.instanceMethod yX6_leaderOf, Cond.selects RX6 yX6_leaderOf yX6_leaderOf, Cond.code yX6_leaderOf cX6_leaderOf 5 (some .int), Cond.methodLink RX6 45 yX1_copiedBy, Cond.instanceMethod yX1_copiedBy, Cond.selects RX1 yX1_copiedBy yX1_copiedBy, Cond.code yX1_copiedBy cX1_copiedBy 2 (some .int), Cond.fieldLink RX1 18 "SimonSays$Children" "copied" "[I", Cond.methodLink RX1 49 yX1_has, Cond.methodLink RX0 46 yX6_groupOf, Cond.instanceMethod yX6_groupOf, Cond.selects RX6 yX6_groupOf yX6_groupOf, Cond.code yX6_groupOf cX6_groupOf 4 (some .int), Cond.methodLink RX6 54 yX1_size, Cond.methodLink RX0 50 yX6_streak]
def wsX0_ordersThatCould_r3 : List Cond := [Cond.instanceMethod yX6_streak, Cond.selects RX6 yX6_streak yX6_streak, Cond.code yX6_streak cX6_streak 1 (some .int), Cond.fieldLink RX6 32 "SimonSays$Round" "streak" "I", Cond.methodLink RX0 53 yX1_errsOf, Cond.instanceMethod yX1_errsOf, Cond.selects RX1 yX1_errsOf yX1_errsOf, Cond.code yX1_errsOf cX1_errsOf 4 (some .int), Cond.methodLink RX1 53 Lib.Math.min.name, Cond.static Lib.Math.min.name, Cond.initialized "java/lang/Math", Cond.code Lib.Math.min.name Lib.Math.min.code 2 (some .int), Cond.methodLink RX1 31 yX1_slipOf, Cond.instanceMethod yX1_slipOf, Cond.selects RX1 yX1_slipOf yX1_slipOf, Cond.code yX1_slipOf cX1_slipOf 2 (some .int), Cond.fieldLink RX1 9 "SimonSays$Children" "slips" "[I", Cond.methodLink RX1 35 yX1_lateOf, Cond.instanceMethod yX1_lateOf, Cond.selects RX1 yX1_lateOf yX1_lateOf, Cond.code yX1_lateOf cX1_lateOf 2 (some .int), Cond.fieldLink RX1 15 "SimonSays$Children" "lates" "[I"]
def wsX0_ordersThatCould : List Cond := .code yX0_ordersThatCould cX0_ordersThatCould 4 (some .int) :: ((wsX0_ordersThatCould_r1 ++ (wsX0_ordersThatCould_r2 ++ wsX0_ordersThatCould_r3)) ++ wsX00 ++ wsX60 ++ wsX10)
def wsX0_likeliestOrder_r1 : List Cond := [Cond.methodLink RX0 94 yX0_setFalls, Cond.instanceMethod yX0_setFalls, Cond.selects RX0 yX0_setFalls yX0_setFalls, Cond.initialized RX0, Cond.code yX0_setFalls cX0_setFalls 8 (some .long), Cond.fieldLink RX0 15 "SimonSays$Chances" "round" "LSimonSays$Round;", Cond.fieldLink RX0 9 "SimonSays$Chances" "told" "LSimonSays$Children;", Cond.methodLink RX0 43 yX6_whoIsIn, Cond.instanceMethod yX6_whoIsIn, Cond.selects RX6 yX6_whoIsIn yX6_whoIsIn, Cond.initialized RX6, Cond.code yX6_whoIsIn cX6_whoIsIn 1 (some .int), Cond.fieldLink RX6 29 "SimonSays$Round" "in" "I", Cond.methodLink RX0 27 yX1_size, Cond.instanceMethod yX1_size, Cond.selects RX1 yX1_size yX1_size, Cond.initialized RX1, Cond.code yX1_size cX1_size 1 (some .int), Cond.fieldLink RX1 21 "SimonSays$Children" "size" "I", Cond.methodLink RX0 33 yX6_isLeader, Cond.instanceMethod yX6_isLeader, Cond.selects RX6 yX6_isLeader yX6_isLeader, Cond.code yX6_isLeader cX6_isLeader 2 (some .boolean), Cond.methodLink RX6 48 yX6_isIn]
def wsX0_likeliestOrder_r2 : List Cond := [Cond.instanceMethod yX6_isIn, Cond.selects RX6 yX6_isIn yX6_isIn, Cond.code yX6_isIn cX6_isIn 2 (some .boolean), Cond.fieldLink RX6 9 "SimonSays$Round" "told" "LSimonSays$Children;", Cond.methodLink RX6 41 yX1_has, Cond.instanceMethod yX1_has, Cond.selects RX1 yX1_has yX1_has, Cond.code yX1_has cX1_has 2 (some .boolean), Cond.methodLink RX6 51 yX6_leaderOf, Cond.instanceMethod yX6_leaderOf, Cond.selects RX6 yX6_leaderOf yX6_leaderOf, Cond.code yX6_leaderOf cX6_leaderOf 5 (some .int), Cond.methodLink RX6 45 yX1_copiedBy, Cond.instanceMethod yX1_copiedBy, Cond.selects RX1 yX1_copiedBy yX1_copiedBy, Cond.code yX1_copiedBy cX1_copiedBy 2 (some .int), Cond.fieldLink RX1 18 "SimonSays$Children" "copied" "[I", Cond.methodLink RX1 49 yX1_has, Cond.methodLink RX0 46 yX6_groupOf, Cond.instanceMethod yX6_groupOf, Cond.selects RX6 yX6_groupOf yX6_groupOf, Cond.code yX6_groupOf cX6_groupOf 4 (some .int), Cond.methodLink RX6 54 yX1_size, Cond.methodLink RX0 50 yX6_streak]
def wsX0_likeliestOrder_r3 : List Cond := [Cond.instanceMethod yX6_streak, Cond.selects RX6 yX6_streak yX6_streak, Cond.code yX6_streak cX6_streak 1 (some .int), Cond.fieldLink RX6 32 "SimonSays$Round" "streak" "I", Cond.methodLink RX0 53 yX1_errsOf, Cond.instanceMethod yX1_errsOf, Cond.selects RX1 yX1_errsOf yX1_errsOf, Cond.code yX1_errsOf cX1_errsOf 4 (some .int), Cond.methodLink RX1 53 Lib.Math.min.name, Cond.static Lib.Math.min.name, Cond.initialized "java/lang/Math", Cond.code Lib.Math.min.name Lib.Math.min.code 2 (some .int), Cond.methodLink RX1 31 yX1_slipOf, Cond.instanceMethod yX1_slipOf, Cond.selects RX1 yX1_slipOf yX1_slipOf, Cond.code yX1_slipOf cX1_slipOf 2 (some .int), Cond.fieldLink RX1 9 "SimonSays$Children" "slips" "[I", Cond.methodLink RX1 35 yX1_lateOf, Cond.instanceMethod yX1_lateOf, Cond.selects RX1 yX1_lateOf yX1_lateOf, Cond.code yX1_lateOf cX1_lateOf 2 (some .int), Cond.fieldLink RX1 15 "SimonSays$Children" "lates" "[I"]
def wsX0_likeliestOrder : List Cond := .code yX0_likeliestOrder cX0_likeliestOrder 8 (some .int) :: ((wsX0_likeliestOrder_r1 ++ (wsX0_likeliestOrder_r2 ++ wsX0_likeliestOrder_r3)) ++ wsX00 ++ wsX60 ++ wsX10)
def wsX1_init : List Cond := .code yX1_init cX1_init 1 none :: ([.methodLink RX1 3 objectInit, .instanceMethod objectInit, .code objectInit ⟨#[0xb1]⟩ 1 none, .arrayClass .int, .fieldLink RX1 9 "SimonSays$Children" "slips" "[I", .fieldLink RX1 15 "SimonSays$Children" "lates" "[I", .fieldLink RX1 18 "SimonSays$Children" "copied" "[I"] ++ wsX10)
def wsX1_forget : List Cond := .code yX1_forget cX1_forget 1 none :: ([.fieldLink RX1 21 "SimonSays$Children" "size" "I", .fieldLink RX1 25 "SimonSays$Children" "littleOnes" "I"] ++ wsX10)
def wsX1_add : List Cond := .code yX1_add cX1_add 4 none :: ([.fieldLink RX1 21 "SimonSays$Children" "size" "I", .fieldLink RX1 9 "SimonSays$Children" "slips" "[I", .fieldLink RX1 15 "SimonSays$Children" "lates" "[I", .fieldLink RX1 18 "SimonSays$Children" "copied" "[I"] ++ wsX10)
def wsX1_makeLittle : List Cond := .code yX1_makeLittle cX1_makeLittle 2 none :: ([.fieldLink RX1 25 "SimonSays$Children" "littleOnes" "I"] ++ wsX10)
def wsX1_takeOver_r1 : List Cond := [Cond.fieldLink RX1 21 "SimonSays$Children" "size" "I", Cond.fieldLink RX1 25 "SimonSays$Children" "littleOnes" "I", Cond.methodLink RX1 28 yX1_forget, Cond.instanceMethod yX1_forget, Cond.selects RX1 yX1_forget yX1_forget, Cond.initialized RX1, Cond.code yX1_forget cX1_forget 1 none, Cond.methodLink RX1 31 yX1_slipOf, Cond.instanceMethod yX1_slipOf, Cond.selects RX1 yX1_slipOf yX1_slipOf, Cond.code yX1_slipOf cX1_slipOf 2 (some .int), Cond.fieldLink RX1 9 "SimonSays$Children" "slips" "[I", Cond.methodLink RX1 49 yX1_has, Cond.instanceMethod yX1_has, Cond.selects RX1 yX1_has yX1_has, Cond.code yX1_has cX1_has 2 (some .boolean), Cond.methodLink RX1 35 yX1_lateOf, Cond.instanceMethod yX1_lateOf, Cond.selects RX1 yX1_lateOf yX1_lateOf, Cond.code yX1_lateOf cX1_lateOf 2 (some .int), Cond.fieldLink RX1 15 "SimonSays$Children" "lates" "[I", Cond.methodLink RX1 38 yX1_copiedBy, Cond.instanceMethod yX1_copiedBy, Cond.selects RX1 yX1_copiedBy yX1_copiedBy]
def wsX1_takeOver_r2 : List Cond := [Cond.code yX1_copiedBy cX1_copiedBy 2 (some .int), Cond.fieldLink RX1 18 "SimonSays$Children" "copied" "[I", Cond.methodLink RX1 41 yX1_add, Cond.instanceMethod yX1_add, Cond.selects RX1 yX1_add yX1_add, Cond.code yX1_add cX1_add 4 none]
def wsX1_takeOver : List Cond := .code yX1_takeOver cX1_takeOver 3 none :: ((wsX1_takeOver_r1 ++ wsX1_takeOver_r2) ++ wsX10)
def wsX1_littleOnes : List Cond := .code yX1_littleOnes cX1_littleOnes 1 (some .int) :: ([.fieldLink RX1 25 "SimonSays$Children" "littleOnes" "I"] ++ wsX10)
def wsX1_everyone : List Cond := .code yX1_everyone cX1_everyone 1 (some .int) :: ([.fieldLink RX1 21 "SimonSays$Children" "size" "I"] ++ wsX10)
def wsX1_isSet : List Cond := .code yX1_isSet cX1_isSet 2 (some .boolean) :: ([.methodLink RX1 45 yX1_everyone, .instanceMethod yX1_everyone, .selects RX1 yX1_everyone yX1_everyone, .initialized RX1, .code yX1_everyone cX1_everyone 1 (some .int), .fieldLink RX1 21 "SimonSays$Children" "size" "I"] ++ wsX10)
def wsX1_isLittle : List Cond := .code yX1_isLittle cX1_isLittle 2 (some .boolean) :: ([.fieldLink RX1 25 "SimonSays$Children" "littleOnes" "I", .methodLink RX1 49 yX1_has, .instanceMethod yX1_has, .selects RX1 yX1_has yX1_has, .initialized RX1, .code yX1_has cX1_has 2 (some .boolean), .fieldLink RX1 21 "SimonSays$Children" "size" "I"] ++ wsX10)
def wsX1_howManyCopy : List Cond := .code yX1_howManyCopy cX1_howManyCopy 4 (some .int) :: ([.fieldLink RX1 21 "SimonSays$Children" "size" "I", .methodLink RX1 38 yX1_copiedBy, .instanceMethod yX1_copiedBy, .selects RX1 yX1_copiedBy yX1_copiedBy, .initialized RX1, .code yX1_copiedBy cX1_copiedBy 2 (some .int), .fieldLink RX1 18 "SimonSays$Children" "copied" "[I", .methodLink RX1 49 yX1_has, .instanceMethod yX1_has, .selects RX1 yX1_has yX1_has, .code yX1_has cX1_has 2 (some .boolean)] ++ wsX10)
def wsX2_init : List Cond := .code yX2_init cX2_init 1 none :: ([.methodLink RX2 3 objectInit, .instanceMethod objectInit, .code objectInit ⟨#[0xb1]⟩ 1 none, .arrayClass .int, .fieldLink RX2 9 "SimonSays$History" "ins" "[I", .fieldLink RX2 15 "SimonSays$History" "streaks" "[I"] ++ wsX20)
def wsX2_size : List Cond := .code yX2_size cX2_size 1 (some .int) :: ([.fieldLink RX2 18 "SimonSays$History" "size" "I"] ++ wsX20)
def wsX2_forget : List Cond := .code yX2_forget cX2_forget 1 none :: ([.fieldLink RX2 18 "SimonSays$History" "size" "I"] ++ wsX20)
def wsX2_loseOldest : List Cond := .code yX2_loseOldest cX2_loseOldest 1 none :: ([.fieldLink RX2 18 "SimonSays$History" "size" "I", .fieldLink RX2 9 "SimonSays$History" "ins" "[I", .methodLink RX2 25 arraycopyName, .native arraycopyName, .static arraycopyName, .initialized "java/lang/System", .fieldLink RX2 15 "SimonSays$History" "streaks" "[I"] ++ wsX20)
def wsX2_add : List Cond := .code yX2_add cX2_add 3 none :: ([.fieldLink RX2 18 "SimonSays$History" "size" "I", .fieldLink RX2 9 "SimonSays$History" "ins" "[I", .fieldLink RX2 15 "SimonSays$History" "streaks" "[I", .methodLink RX2 22 yX2_loseOldest, .instanceMethod yX2_loseOldest, .selects RX2 yX2_loseOldest yX2_loseOldest, .initialized RX2, .code yX2_loseOldest cX2_loseOldest 1 none, .methodLink RX2 25 arraycopyName, .native arraycopyName, .static arraycopyName, .initialized "java/lang/System"] ++ wsX20)
def wsX2_dropLatest : List Cond := .code yX2_dropLatest cX2_dropLatest 1 none :: ([.fieldLink RX2 18 "SimonSays$History" "size" "I"] ++ wsX20)
def wsX2_droppedIn : List Cond := .code yX2_droppedIn cX2_droppedIn 1 (some .int) :: ([.fieldLink RX2 18 "SimonSays$History" "size" "I", .fieldLink RX2 9 "SimonSays$History" "ins" "[I"] ++ wsX20)
def wsX2_droppedStreak : List Cond := .code yX2_droppedStreak cX2_droppedStreak 1 (some .int) :: ([.fieldLink RX2 18 "SimonSays$History" "size" "I", .fieldLink RX2 15 "SimonSays$History" "streaks" "[I"] ++ wsX20)
def wsX3_init : List Cond := .code yX3_init cX3_init 1 none :: ([.methodLink RX3 1 objectInit, .instanceMethod objectInit, .code objectInit ⟨#[0xb1]⟩ 1 none, .fieldLink RX3 7 "SimonSays$Image" "kept" "Z"] ++ wsX30)
def wsX3_isKept : List Cond := .code yX3_isKept cX3_isKept 1 (some .boolean) :: ([.fieldLink RX3 7 "SimonSays$Image" "kept" "Z"] ++ wsX30)
def wsX3_forget : List Cond := .code yX3_forget cX3_forget 1 none :: ([.fieldLink RX3 7 "SimonSays$Image" "kept" "Z"] ++ wsX30)
def wsX6_theLot : List Cond := .code yX6_theLot cX6_theLot 1 (some .int) :: ([.fieldLink RX6 15 "SimonSays$Round" "lot" "I"] ++ wsX60)
def wsX3_take : List Cond := .code yX3_take cX3_take 2 none :: ([.fieldLink RX3 7 "SimonSays$Image" "kept" "Z", .fieldLink RX3 19 "SimonSays$Image" "in" "I", .fieldLink RX3 26 "SimonSays$Image" "streak" "I", .fieldLink RX3 31 "SimonSays$Image" "lot" "I", .methodLink RX3 13 yX6_whoIsIn, .instanceMethod yX6_whoIsIn, .selects RX6 yX6_whoIsIn yX6_whoIsIn, .initialized RX6, .code yX6_whoIsIn cX6_whoIsIn 1 (some .int), .fieldLink RX6 29 "SimonSays$Round" "in" "I", .methodLink RX3 23 yX6_streak, .instanceMethod yX6_streak, .selects RX6 yX6_streak yX6_streak, .code yX6_streak cX6_streak 1 (some .int), .fieldLink RX6 32 "SimonSays$Round" "streak" "I", .methodLink RX3 28 yX6_theLot, .instanceMethod yX6_theLot, .selects RX6 yX6_theLot yX6_theLot, .code yX6_theLot cX6_theLot 1 (some .int), .fieldLink RX6 15 "SimonSays$Round" "lot" "I"] ++ wsX30 ++ wsX60)
def wsX6_become : List Cond := .code yX6_become cX6_become 3 none :: ([.fieldLink RX6 29 "SimonSays$Round" "in" "I", .fieldLink RX6 32 "SimonSays$Round" "streak" "I"] ++ wsX60)
def wsX6_setLot : List Cond := .code yX6_setLot cX6_setLot 2 none :: ([.fieldLink RX6 15 "SimonSays$Round" "lot" "I"] ++ wsX60)
def wsX3_giveTo : List Cond := .code yX3_giveTo cX3_giveTo 2 none :: ([.fieldLink RX3 19 "SimonSays$Image" "in" "I", .fieldLink RX3 26 "SimonSays$Image" "streak" "I", .fieldLink RX3 31 "SimonSays$Image" "lot" "I", .methodLink RX3 34 yX6_become, .instanceMethod yX6_become, .selects RX6 yX6_become yX6_become, .initialized RX6, .code yX6_become cX6_become 3 none, .fieldLink RX6 29 "SimonSays$Round" "in" "I", .fieldLink RX6 32 "SimonSays$Round" "streak" "I", .methodLink RX3 38 yX6_setLot, .instanceMethod yX6_setLot, .selects RX6 yX6_setLot yX6_setLot, .code yX6_setLot cX6_setLot 2 none, .fieldLink RX6 15 "SimonSays$Round" "lot" "I"] ++ wsX30 ++ wsX60)
def wsX4_init : List Cond := .code yX4_init cX4_init 3 none :: ([.methodLink RX4 3 objectInit, .instanceMethod objectInit, .code objectInit ⟨#[0xb1]⟩ 1 none, .fieldLink RX4 9 "SimonSays$Kinds" "told" "LSimonSays$Children;", .fieldLink RX4 15 "SimonSays$Kinds" "round" "LSimonSays$Round;"] ++ wsX40)
def wsX4_theTrace : List Cond := .code yX4_theTrace cX4_theTrace 1 (some .long) :: ([.fieldLink RX4 19 "SimonSays$Kinds" "trace" "J"] ++ wsX40)
def wsX4_asChild : List Cond := .code yX4_asChild cX4_asChild 2 (some .int) :: ([.fieldLink RX4 19 "SimonSays$Kinds" "trace" "J", .fieldLink RX4 9 "SimonSays$Kinds" "told" "LSimonSays$Children;", .methodLink RX4 43 yX1_slipOf, .instanceMethod yX1_slipOf, .selects RX1 yX1_slipOf yX1_slipOf, .initialized RX1, .code yX1_slipOf cX1_slipOf 2 (some .int), .fieldLink RX1 9 "SimonSays$Children" "slips" "[I", .methodLink RX1 49 yX1_has, .instanceMethod yX1_has, .selects RX1 yX1_has yX1_has, .code yX1_has cX1_has 2 (some .boolean), .fieldLink RX1 21 "SimonSays$Children" "size" "I"] ++ wsX40 ++ wsX10)
def wsX4_asDreamer_r1 : List Cond := [Cond.fieldLink RX4 19 "SimonSays$Kinds" "trace" "J", Cond.constantLong RX4 48 (10), Cond.fieldLink RX4 15 "SimonSays$Kinds" "round" "LSimonSays$Round;", Cond.methodLink RX4 23 yX4_asChild, Cond.instanceMethod yX4_asChild, Cond.selects RX4 yX4_asChild yX4_asChild, Cond.initialized RX4, Cond.code yX4_asChild cX4_asChild 2 (some .int), Cond.fieldLink RX4 9 "SimonSays$Kinds" "told" "LSimonSays$Children;", Cond.methodLink RX4 43 yX1_slipOf, Cond.instanceMethod yX1_slipOf, Cond.selects RX1 yX1_slipOf yX1_slipOf, Cond.initialized RX1, Cond.code yX1_slipOf cX1_slipOf 2 (some .int), Cond.fieldLink RX1 9 "SimonSays$Children" "slips" "[I", Cond.methodLink RX1 49 yX1_has, Cond.instanceMethod yX1_has, Cond.selects RX1 yX1_has yX1_has, Cond.code yX1_has cX1_has 2 (some .boolean), Cond.fieldLink RX1 21 "SimonSays$Children" "size" "I", Cond.methodLink RX4 50 yX6_streak, Cond.instanceMethod yX6_streak, Cond.selects RX6 yX6_streak yX6_streak, Cond.initialized RX6]
def wsX4_asDreamer_r2 : List Cond := [Cond.code yX6_streak cX6_streak 1 (some .int), Cond.fieldLink RX6 32 "SimonSays$Round" "streak" "I"]
def wsX4_asDreamer : List Cond := .code yX4_asDreamer cX4_asDreamer 2 (some .int) :: ((wsX4_asDreamer_r1 ++ wsX4_asDreamer_r2) ++ wsX40 ++ wsX10 ++ wsX60)
def wsX4_asWatcher : List Cond := .code yX4_asWatcher cX4_asWatcher 2 (some .int) :: ([.fieldLink RX4 19 "SimonSays$Kinds" "trace" "J", .constantLong RX4 56 (100), .fieldLink RX4 9 "SimonSays$Kinds" "told" "LSimonSays$Children;", .methodLink RX4 23 yX4_asChild, .instanceMethod yX4_asChild, .selects RX4 yX4_asChild yX4_asChild, .initialized RX4, .code yX4_asChild cX4_asChild 2 (some .int), .methodLink RX4 43 yX1_slipOf, .instanceMethod yX1_slipOf, .selects RX1 yX1_slipOf yX1_slipOf, .initialized RX1, .code yX1_slipOf cX1_slipOf 2 (some .int), .fieldLink RX1 9 "SimonSays$Children" "slips" "[I", .methodLink RX1 49 yX1_has, .instanceMethod yX1_has, .selects RX1 yX1_has yX1_has, .code yX1_has cX1_has 2 (some .boolean), .fieldLink RX1 21 "SimonSays$Children" "size" "I", .methodLink RX4 58 yX1_lateOf, .instanceMethod yX1_lateOf, .selects RX1 yX1_lateOf yX1_lateOf, .code yX1_lateOf cX1_lateOf 2 (some .int), .fieldLink RX1 15 "SimonSays$Children" "lates" "[I"] ++ wsX40 ++ wsX10)
def wsX4_asRunner_r1 : List Cond := [Cond.fieldLink RX4 19 "SimonSays$Kinds" "trace" "J", Cond.constantLong RX4 61 (1000), Cond.methodLink RX4 27 yX4_asDreamer, Cond.instanceMethod yX4_asDreamer, Cond.selects RX4 yX4_asDreamer yX4_asDreamer, Cond.initialized RX4, Cond.code yX4_asDreamer cX4_asDreamer 2 (some .int), Cond.constantLong RX4 48 (10), Cond.fieldLink RX4 15 "SimonSays$Kinds" "round" "LSimonSays$Round;", Cond.methodLink RX4 23 yX4_asChild, Cond.instanceMethod yX4_asChild, Cond.selects RX4 yX4_asChild yX4_asChild, Cond.code yX4_asChild cX4_asChild 2 (some .int), Cond.fieldLink RX4 9 "SimonSays$Kinds" "told" "LSimonSays$Children;", Cond.methodLink RX4 43 yX1_slipOf, Cond.instanceMethod yX1_slipOf, Cond.selects RX1 yX1_slipOf yX1_slipOf, Cond.initialized RX1, Cond.code yX1_slipOf cX1_slipOf 2 (some .int), Cond.fieldLink RX1 9 "SimonSays$Children" "slips" "[I", Cond.methodLink RX1 49 yX1_has, Cond.instanceMethod yX1_has, Cond.selects RX1 yX1_has yX1_has, Cond.code yX1_has cX1_has 2 (some .boolean)]
def wsX4_asRunner_r2 : List Cond := [Cond.fieldLink RX1 21 "SimonSays$Children" "size" "I", Cond.methodLink RX4 50 yX6_streak, Cond.instanceMethod yX6_streak, Cond.selects RX6 yX6_streak yX6_streak, Cond.initialized RX6, Cond.code yX6_streak cX6_streak 1 (some .int), Cond.fieldLink RX6 32 "SimonSays$Round" "streak" "I"]
def wsX4_asRunner : List Cond := .code yX4_asRunner cX4_asRunner 2 (some .int) :: ((wsX4_asRunner_r1 ++ wsX4_asRunner_r2) ++ wsX40 ++ wsX10 ++ wsX60)
def wsX4_asCopier_r1 : List Cond := [Cond.fieldLink RX4 19 "SimonSays$Kinds" "trace" "J", Cond.constantLong RX4 63 (10000), Cond.fieldLink RX4 9 "SimonSays$Kinds" "told" "LSimonSays$Children;", Cond.methodLink RX4 30 yX4_asWatcher, Cond.instanceMethod yX4_asWatcher, Cond.selects RX4 yX4_asWatcher yX4_asWatcher, Cond.initialized RX4, Cond.code yX4_asWatcher cX4_asWatcher 2 (some .int), Cond.constantLong RX4 56 (100), Cond.methodLink RX4 23 yX4_asChild, Cond.instanceMethod yX4_asChild, Cond.selects RX4 yX4_asChild yX4_asChild, Cond.code yX4_asChild cX4_asChild 2 (some .int), Cond.methodLink RX4 43 yX1_slipOf, Cond.instanceMethod yX1_slipOf, Cond.selects RX1 yX1_slipOf yX1_slipOf, Cond.initialized RX1, Cond.code yX1_slipOf cX1_slipOf 2 (some .int), Cond.fieldLink RX1 9 "SimonSays$Children" "slips" "[I", Cond.methodLink RX1 49 yX1_has, Cond.instanceMethod yX1_has, Cond.selects RX1 yX1_has yX1_has, Cond.code yX1_has cX1_has 2 (some .boolean), Cond.fieldLink RX1 21 "SimonSays$Children" "size" "I"]
def wsX4_asCopier_r2 : List Cond := [Cond.methodLink RX4 58 yX1_lateOf, Cond.instanceMethod yX1_lateOf, Cond.selects RX1 yX1_lateOf yX1_lateOf, Cond.code yX1_lateOf cX1_lateOf 2 (some .int), Cond.fieldLink RX1 15 "SimonSays$Children" "lates" "[I", Cond.methodLink RX4 65 yX1_howManyCopy, Cond.instanceMethod yX1_howManyCopy, Cond.selects RX1 yX1_howManyCopy yX1_howManyCopy, Cond.code yX1_howManyCopy cX1_howManyCopy 4 (some .int), Cond.methodLink RX1 38 yX1_copiedBy, Cond.instanceMethod yX1_copiedBy, Cond.selects RX1 yX1_copiedBy yX1_copiedBy, Cond.code yX1_copiedBy cX1_copiedBy 2 (some .int), Cond.fieldLink RX1 18 "SimonSays$Children" "copied" "[I"]
def wsX4_asCopier : List Cond := .code yX4_asCopier cX4_asCopier 2 (some .int) :: ((wsX4_asCopier_r1 ++ wsX4_asCopier_r2) ++ wsX40 ++ wsX10)
def wsX6_howManyIn : List Cond := .code yX6_howManyIn cX6_howManyIn 1 (some .int) :: ([.fieldLink RX6 29 "SimonSays$Round" "in" "I", .methodLink RX6 35 yJ6_bitCount_0f7a4, .static yJ6_bitCount_0f7a4, .initialized RJ6, .code yJ6_bitCount_0f7a4 cJ6_bitCount_0f7a4 1 (some .int), .constant RJ6 265 (1431655765), .constant RJ6 266 (858993459), .constant RJ6 267 (252645135)] ++ wsX60)
def wsX4_asListener_r1 : List Cond := [Cond.fieldLink RX4 19 "SimonSays$Kinds" "trace" "J", Cond.constantLong RX4 68 (100000), Cond.fieldLink RX4 15 "SimonSays$Kinds" "round" "LSimonSays$Round;", Cond.methodLink RX4 23 yX4_asChild, Cond.instanceMethod yX4_asChild, Cond.selects RX4 yX4_asChild yX4_asChild, Cond.initialized RX4, Cond.code yX4_asChild cX4_asChild 2 (some .int), Cond.fieldLink RX4 9 "SimonSays$Kinds" "told" "LSimonSays$Children;", Cond.methodLink RX4 43 yX1_slipOf, Cond.instanceMethod yX1_slipOf, Cond.selects RX1 yX1_slipOf yX1_slipOf, Cond.initialized RX1, Cond.code yX1_slipOf cX1_slipOf 2 (some .int), Cond.fieldLink RX1 9 "SimonSays$Children" "slips" "[I", Cond.methodLink RX1 49 yX1_has, Cond.instanceMethod yX1_has, Cond.selects RX1 yX1_has yX1_has, Cond.code yX1_has cX1_has 2 (some .boolean), Cond.fieldLink RX1 21 "SimonSays$Children" "size" "I", Cond.methodLink RX4 70 yX6_howManyIn, Cond.instanceMethod yX6_howManyIn, Cond.selects RX6 yX6_howManyIn yX6_howManyIn, Cond.initialized RX6]
def wsX4_asListener_r2 : List Cond := [Cond.code yX6_howManyIn cX6_howManyIn 1 (some .int), Cond.fieldLink RX6 29 "SimonSays$Round" "in" "I", Cond.methodLink RX6 35 yJ6_bitCount_0f7a4, Cond.static yJ6_bitCount_0f7a4, Cond.initialized RJ6, Cond.code yJ6_bitCount_0f7a4 cJ6_bitCount_0f7a4 1 (some .int), Cond.constant RJ6 265 (1431655765), Cond.constant RJ6 266 (858993459), Cond.constant RJ6 267 (252645135)]
def wsX4_asListener : List Cond := .code yX4_asListener cX4_asListener 2 (some .int) :: ((wsX4_asListener_r1 ++ wsX4_asListener_r2) ++ wsX40 ++ wsX10 ++ wsX60)
def wsX4_rateAs_r1 : List Cond := [Cond.constant RX4 42 (-1000000), Cond.methodLink RX4 23 yX4_asChild, Cond.instanceMethod yX4_asChild, Cond.selects RX4 yX4_asChild yX4_asChild, Cond.initialized RX4, Cond.code yX4_asChild cX4_asChild 2 (some .int), Cond.fieldLink RX4 19 "SimonSays$Kinds" "trace" "J", Cond.fieldLink RX4 9 "SimonSays$Kinds" "told" "LSimonSays$Children;", Cond.methodLink RX4 43 yX1_slipOf, Cond.instanceMethod yX1_slipOf, Cond.selects RX1 yX1_slipOf yX1_slipOf, Cond.initialized RX1, Cond.code yX1_slipOf cX1_slipOf 2 (some .int), Cond.fieldLink RX1 9 "SimonSays$Children" "slips" "[I", Cond.methodLink RX1 49 yX1_has, Cond.instanceMethod yX1_has, Cond.selects RX1 yX1_has yX1_has, Cond.code yX1_has cX1_has 2 (some .boolean), Cond.fieldLink RX1 21 "SimonSays$Children" "size" "I", Cond.methodLink RX4 27 yX4_asDreamer, Cond.instanceMethod yX4_asDreamer, Cond.selects RX4 yX4_asDreamer yX4_asDreamer, Cond.code yX4_asDreamer cX4_asDreamer 2 (some .int), Cond.constantLong RX4 48 (10)]
def wsX4_rateAs_r2 : List Cond := [Cond.fieldLink RX4 15 "SimonSays$Kinds" "round" "LSimonSays$Round;", Cond.methodLink RX4 50 yX6_streak, Cond.instanceMethod yX6_streak, Cond.selects RX6 yX6_streak yX6_streak, Cond.initialized RX6, Cond.code yX6_streak cX6_streak 1 (some .int), Cond.fieldLink RX6 32 "SimonSays$Round" "streak" "I", Cond.methodLink RX4 30 yX4_asWatcher, Cond.instanceMethod yX4_asWatcher, Cond.selects RX4 yX4_asWatcher yX4_asWatcher, Cond.code yX4_asWatcher cX4_asWatcher 2 (some .int), Cond.constantLong RX4 56 (100), Cond.methodLink RX4 58 yX1_lateOf, Cond.instanceMethod yX1_lateOf, Cond.selects RX1 yX1_lateOf yX1_lateOf, Cond.code yX1_lateOf cX1_lateOf 2 (some .int), Cond.fieldLink RX1 15 "SimonSays$Children" "lates" "[I", Cond.methodLink RX4 33 yX4_asRunner, Cond.instanceMethod yX4_asRunner, Cond.selects RX4 yX4_asRunner yX4_asRunner, Cond.code yX4_asRunner cX4_asRunner 2 (some .int), Cond.constantLong RX4 61 (1000), Cond.methodLink RX4 36 yX4_asCopier, Cond.instanceMethod yX4_asCopier]
def wsX4_rateAs_r3 : List Cond := [Cond.selects RX4 yX4_asCopier yX4_asCopier, Cond.code yX4_asCopier cX4_asCopier 2 (some .int), Cond.constantLong RX4 63 (10000), Cond.methodLink RX4 65 yX1_howManyCopy, Cond.instanceMethod yX1_howManyCopy, Cond.selects RX1 yX1_howManyCopy yX1_howManyCopy, Cond.code yX1_howManyCopy cX1_howManyCopy 4 (some .int), Cond.methodLink RX1 38 yX1_copiedBy, Cond.instanceMethod yX1_copiedBy, Cond.selects RX1 yX1_copiedBy yX1_copiedBy, Cond.code yX1_copiedBy cX1_copiedBy 2 (some .int), Cond.fieldLink RX1 18 "SimonSays$Children" "copied" "[I", Cond.methodLink RX4 39 yX4_asListener, Cond.instanceMethod yX4_asListener, Cond.selects RX4 yX4_asListener yX4_asListener, Cond.code yX4_asListener cX4_asListener 2 (some .int), Cond.constantLong RX4 68 (100000), Cond.methodLink RX4 70 yX6_howManyIn, Cond.instanceMethod yX6_howManyIn, Cond.selects RX6 yX6_howManyIn yX6_howManyIn, Cond.code yX6_howManyIn cX6_howManyIn 1 (some .int), Cond.fieldLink RX6 29 "SimonSays$Round" "in" "I", Cond.methodLink RX6 35 yJ6_bitCount_0f7a4, Cond.static yJ6_bitCount_0f7a4]
def wsX4_rateAs_r4 : List Cond := [Cond.initialized RJ6, Cond.code yJ6_bitCount_0f7a4 cJ6_bitCount_0f7a4 1 (some .int), Cond.constant RJ6 265 (1431655765), Cond.constant RJ6 266 (858993459), Cond.constant RJ6 267 (252645135)]
def wsX4_rateAs : List Cond := .code yX4_rateAs cX4_rateAs 3 (some .int) :: ((wsX4_rateAs_r1 ++ (wsX4_rateAs_r2 ++ (wsX4_rateAs_r3 ++ wsX4_rateAs_r4))) ++ wsX40 ++ wsX10 ++ wsX60)
def wsX5_init : List Cond := .code yX5_init cX5_init 2 none :: ([.methodLink RX5 3 objectInit, .instanceMethod objectInit, .code objectInit ⟨#[0xb1]⟩ 1 none, .fieldLink RX5 9 "SimonSays$Reader" "text" "LSimonSays$Text;", .classLink RX5 15 RX1, .instantiable RX1 5, .initialized RX1, .fieldLink RX5 18 "SimonSays$Reader" "found" "LSimonSays$Children;", .methodLink RX5 17 yX1_init, .instanceMethod yX1_init, .code yX1_init cX1_init 1 none, .methodLink RX1 3 objectInit, .arrayClass .int, .fieldLink RX1 9 "SimonSays$Children" "slips" "[I", .fieldLink RX1 15 "SimonSays$Children" "lates" "[I", .fieldLink RX1 18 "SimonSays$Children" "copied" "[I"] ++ wsX50 ++ wsX10)
def wsX8_length : List Cond := .code yX8_length cX8_length 1 (some .int) :: ([.fieldLink RX8 15 "SimonSays$Text" "length" "I"] ++ wsX80)
def wsX8_byteAt : List Cond := .code yX8_byteAt cX8_byteAt 2 (some .int) :: ([.fieldLink RX8 15 "SimonSays$Text" "length" "I", .fieldLink RX8 9 "SimonSays$Text" "bytes" "[I"] ++ wsX80)
def wsX5_isLetter : List Cond := .code yX5_isLetter cX5_isLetter 1 (some .boolean) :: ([])
def wsJ0_coder_7d493 : List Cond := .code yJ0_coder_7d493 cJ0_coder_7d493 1 (some .byte) :: ([.fieldLink RJ0 38 "java/lang/String" "COMPACT_STRINGS" "Z", .fieldLink RJ0 15 "java/lang/String" "coder" "B"])
def wsJ0_length_8abf5 : List Cond := .code yJ0_length_8abf5 cJ0_length_8abf5 1 (some .int) :: ([.fieldLink RJ0 9 "java/lang/String" "value" "[B", .methodLink RJ0 335 yJ0_coder_7d493, .instanceMethod yJ0_coder_7d493, .selects RJ0 yJ0_coder_7d493 yJ0_coder_7d493, .initialized RJ0, .code yJ0_coder_7d493 cJ0_coder_7d493 1 (some .byte), .fieldLink RJ0 38 "java/lang/String" "COMPACT_STRINGS" "Z", .fieldLink RJ0 15 "java/lang/String" "coder" "B"])
def wsJ0_isLatin1_aae02 : List Cond := .code yJ0_isLatin1_aae02 cJ0_isLatin1_aae02 1 (some .boolean) :: ([.fieldLink RJ0 38 "java/lang/String" "COMPACT_STRINGS" "Z", .fieldLink RJ0 15 "java/lang/String" "coder" "B"])
def wsJ3_checkIndex_8e157 : List Cond := .code yJ3_checkIndex_8e157 cJ3_checkIndex_8e157 3 (some .int) :: ([])
def wsJ0_checkIndex_df160 : List Cond := .code yJ0_checkIndex_df160 cJ0_checkIndex_df160 2 none :: ([.fieldLink RJ0 1053 "jdk/internal/util/Preconditions" "SIOOBE_FORMATTER" "Ljava/util/function/BiFunction;", .methodLink RJ0 1059 yJ3_checkIndex_8e157, .static yJ3_checkIndex_8e157, .initialized RJ3, .code yJ3_checkIndex_8e157 cJ3_checkIndex_8e157 3 (some .int)])
def wsJ1_charAt_3b067 : List Cond := .code yJ1_charAt_3b067 cJ1_charAt_3b067 2 (some .char) :: ([.methodLink RJ1 9 yJ0_checkIndex_df160, .static yJ0_checkIndex_df160, .initialized RJ0, .code yJ0_checkIndex_df160 cJ0_checkIndex_df160 2 none, .fieldLink RJ0 1053 "jdk/internal/util/Preconditions" "SIOOBE_FORMATTER" "Ljava/util/function/BiFunction;", .methodLink RJ0 1059 yJ3_checkIndex_8e157, .static yJ3_checkIndex_8e157, .initialized RJ3, .code yJ3_checkIndex_8e157 cJ3_checkIndex_8e157 3 (some .int)])
def wsJ2_length_9d52b : List Cond := .code yJ2_length_9d52b cJ2_length_9d52b 1 (some .int) :: ([])
def wsJ2_checkIndex_2214a : List Cond := .code yJ2_checkIndex_2214a cJ2_checkIndex_2214a 2 none :: ([.methodLink RJ2 48 yJ2_length_9d52b, .static yJ2_length_9d52b, .initialized RJ2, .code yJ2_length_9d52b cJ2_length_9d52b 1 (some .int), .methodLink RJ2 414 yJ0_checkIndex_df160, .static yJ0_checkIndex_df160, .initialized RJ0, .code yJ0_checkIndex_df160 cJ0_checkIndex_df160 2 none, .fieldLink RJ0 1053 "jdk/internal/util/Preconditions" "SIOOBE_FORMATTER" "Ljava/util/function/BiFunction;", .methodLink RJ0 1059 yJ3_checkIndex_8e157, .static yJ3_checkIndex_8e157, .initialized RJ3, .code yJ3_checkIndex_8e157 cJ3_checkIndex_8e157 3 (some .int)])
def wsJ2_getChar_3b067 : List Cond := .code yJ2_getChar_3b067 cJ2_getChar_3b067 2 (some .char) :: ([.fieldLink RJ2 44 "java/lang/StringUTF16" "$assertionsDisabled" "Z", .fieldLink RJ2 59 "java/lang/StringUTF16" "HI_BYTE_SHIFT" "I", .fieldLink RJ2 63 "java/lang/StringUTF16" "LO_BYTE_SHIFT" "I", .methodLink RJ2 48 yJ2_length_9d52b, .static yJ2_length_9d52b, .initialized RJ2, .code yJ2_length_9d52b cJ2_length_9d52b 1 (some .int)])
def wsJ2_charAt_3b067 : List Cond := .code yJ2_charAt_3b067 cJ2_charAt_3b067 2 (some .char) :: ([.methodLink RJ2 67 yJ2_checkIndex_2214a, .static yJ2_checkIndex_2214a, .initialized RJ2, .code yJ2_checkIndex_2214a cJ2_checkIndex_2214a 2 none, .methodLink RJ2 48 yJ2_length_9d52b, .static yJ2_length_9d52b, .code yJ2_length_9d52b cJ2_length_9d52b 1 (some .int), .methodLink RJ2 414 yJ0_checkIndex_df160, .static yJ0_checkIndex_df160, .initialized RJ0, .code yJ0_checkIndex_df160 cJ0_checkIndex_df160 2 none, .fieldLink RJ0 1053 "jdk/internal/util/Preconditions" "SIOOBE_FORMATTER" "Ljava/util/function/BiFunction;", .methodLink RJ0 1059 yJ3_checkIndex_8e157, .static yJ3_checkIndex_8e157, .initialized RJ3, .code yJ3_checkIndex_8e157 cJ3_checkIndex_8e157 3 (some .int), .methodLink RJ2 71 yJ2_getChar_3b067, .static yJ2_getChar_3b067, .code yJ2_getChar_3b067 cJ2_getChar_3b067 2 (some .char), .fieldLink RJ2 44 "java/lang/StringUTF16" "$assertionsDisabled" "Z", .fieldLink RJ2 59 "java/lang/StringUTF16" "HI_BYTE_SHIFT" "I", .fieldLink RJ2 63 "java/lang/StringUTF16" "LO_BYTE_SHIFT" "I"])
def wsJ0_charAt_5068e_r1 : List Cond := [Cond.fieldLink RJ0 9 "java/lang/String" "value" "[B", Cond.methodLink RJ0 492 yJ0_isLatin1_aae02, Cond.instanceMethod yJ0_isLatin1_aae02, Cond.selects RJ0 yJ0_isLatin1_aae02 yJ0_isLatin1_aae02, Cond.initialized RJ0, Cond.code yJ0_isLatin1_aae02 cJ0_isLatin1_aae02 1 (some .boolean), Cond.fieldLink RJ0 38 "java/lang/String" "COMPACT_STRINGS" "Z", Cond.fieldLink RJ0 15 "java/lang/String" "coder" "B", Cond.methodLink RJ0 495 yJ1_charAt_3b067, Cond.static yJ1_charAt_3b067, Cond.initialized RJ1, Cond.code yJ1_charAt_3b067 cJ1_charAt_3b067 2 (some .char), Cond.methodLink RJ1 9 yJ0_checkIndex_df160, Cond.static yJ0_checkIndex_df160, Cond.code yJ0_checkIndex_df160 cJ0_checkIndex_df160 2 none, Cond.fieldLink RJ0 1053 "jdk/internal/util/Preconditions" "SIOOBE_FORMATTER" "Ljava/util/function/BiFunction;", Cond.methodLink RJ0 1059 yJ3_checkIndex_8e157, Cond.static yJ3_checkIndex_8e157, Cond.initialized RJ3, Cond.code yJ3_checkIndex_8e157 cJ3_checkIndex_8e157 3 (some .int), Cond.methodLink RJ0 498 yJ2_charAt_3b067, Cond.static yJ2_charAt_3b067, Cond.initialized RJ2, Cond.code yJ2_charAt_3b067 cJ2_charAt_3b067 2 (some .char)]
def wsJ0_charAt_5068e_r2 : List Cond := [Cond.methodLink RJ2 67 yJ2_checkIndex_2214a, Cond.static yJ2_checkIndex_2214a, Cond.code yJ2_checkIndex_2214a cJ2_checkIndex_2214a 2 none, Cond.methodLink RJ2 48 yJ2_length_9d52b, Cond.static yJ2_length_9d52b, Cond.code yJ2_length_9d52b cJ2_length_9d52b 1 (some .int), Cond.methodLink RJ2 414 yJ0_checkIndex_df160, Cond.methodLink RJ2 71 yJ2_getChar_3b067, Cond.static yJ2_getChar_3b067, Cond.code yJ2_getChar_3b067 cJ2_getChar_3b067 2 (some .char), Cond.fieldLink RJ2 44 "java/lang/StringUTF16" "$assertionsDisabled" "Z", Cond.fieldLink RJ2 59 "java/lang/StringUTF16" "HI_BYTE_SHIFT" "I", Cond.fieldLink RJ2 63 "java/lang/StringUTF16" "LO_BYTE_SHIFT" "I"]
def wsJ0_charAt_5068e : List Cond := .code yJ0_charAt_5068e cJ0_charAt_5068e 2 (some .char) :: ((wsJ0_charAt_5068e_r1 ++ wsJ0_charAt_5068e_r2))
def wsX5_spells_r1 : List Cond := [Cond.fieldLink RX5 25 "SimonSays$Reader" "end" "I", Cond.fieldLink RX5 39 "SimonSays$Reader" "start" "I", Cond.fieldLink RX5 9 "SimonSays$Reader" "text" "LSimonSays$Text;", Cond.methodLink RX5 105 yJ0_length_8abf5, Cond.instanceMethod yJ0_length_8abf5, Cond.selects RJ0 yJ0_length_8abf5 yJ0_length_8abf5, Cond.initialized RJ0, Cond.code yJ0_length_8abf5 cJ0_length_8abf5 1 (some .int), Cond.fieldLink RJ0 9 "java/lang/String" "value" "[B", Cond.methodLink RJ0 335 yJ0_coder_7d493, Cond.instanceMethod yJ0_coder_7d493, Cond.selects RJ0 yJ0_coder_7d493 yJ0_coder_7d493, Cond.code yJ0_coder_7d493 cJ0_coder_7d493 1 (some .byte), Cond.fieldLink RJ0 38 "java/lang/String" "COMPACT_STRINGS" "Z", Cond.fieldLink RJ0 15 "java/lang/String" "coder" "B", Cond.methodLink RX5 75 yX8_byteAt, Cond.instanceMethod yX8_byteAt, Cond.selects RX8 yX8_byteAt yX8_byteAt, Cond.initialized RX8, Cond.code yX8_byteAt cX8_byteAt 2 (some .int), Cond.fieldLink RX8 15 "SimonSays$Text" "length" "I", Cond.fieldLink RX8 9 "SimonSays$Text" "bytes" "[I", Cond.methodLink RX5 108 yJ0_charAt_5068e, Cond.instanceMethod yJ0_charAt_5068e]
def wsX5_spells_r2 : List Cond := [Cond.selects RJ0 yJ0_charAt_5068e yJ0_charAt_5068e, Cond.code yJ0_charAt_5068e cJ0_charAt_5068e 2 (some .char), Cond.methodLink RJ0 492 yJ0_isLatin1_aae02, Cond.instanceMethod yJ0_isLatin1_aae02, Cond.selects RJ0 yJ0_isLatin1_aae02 yJ0_isLatin1_aae02, Cond.code yJ0_isLatin1_aae02 cJ0_isLatin1_aae02 1 (some .boolean), Cond.methodLink RJ0 495 yJ1_charAt_3b067, Cond.static yJ1_charAt_3b067, Cond.initialized RJ1, Cond.code yJ1_charAt_3b067 cJ1_charAt_3b067 2 (some .char), Cond.methodLink RJ1 9 yJ0_checkIndex_df160, Cond.static yJ0_checkIndex_df160, Cond.code yJ0_checkIndex_df160 cJ0_checkIndex_df160 2 none, Cond.fieldLink RJ0 1053 "jdk/internal/util/Preconditions" "SIOOBE_FORMATTER" "Ljava/util/function/BiFunction;", Cond.methodLink RJ0 1059 yJ3_checkIndex_8e157, Cond.static yJ3_checkIndex_8e157, Cond.initialized RJ3, Cond.code yJ3_checkIndex_8e157 cJ3_checkIndex_8e157 3 (some .int), Cond.methodLink RJ0 498 yJ2_charAt_3b067, Cond.static yJ2_charAt_3b067, Cond.initialized RJ2, Cond.code yJ2_charAt_3b067 cJ2_charAt_3b067 2 (some .char), Cond.methodLink RJ2 67 yJ2_checkIndex_2214a, Cond.static yJ2_checkIndex_2214a]
def wsX5_spells_r3 : List Cond := [Cond.code yJ2_checkIndex_2214a cJ2_checkIndex_2214a 2 none, Cond.methodLink RJ2 48 yJ2_length_9d52b, Cond.static yJ2_length_9d52b, Cond.code yJ2_length_9d52b cJ2_length_9d52b 1 (some .int), Cond.methodLink RJ2 414 yJ0_checkIndex_df160, Cond.methodLink RJ2 71 yJ2_getChar_3b067, Cond.static yJ2_getChar_3b067, Cond.code yJ2_getChar_3b067 cJ2_getChar_3b067 2 (some .char), Cond.fieldLink RJ2 44 "java/lang/StringUTF16" "$assertionsDisabled" "Z", Cond.fieldLink RJ2 59 "java/lang/StringUTF16" "HI_BYTE_SHIFT" "I", Cond.fieldLink RJ2 63 "java/lang/StringUTF16" "LO_BYTE_SHIFT" "I"]
def wsX5_spells : List Cond := .code yX5_spells cX5_spells 3 (some .boolean) :: ((wsX5_spells_r1 ++ (wsX5_spells_r2 ++ wsX5_spells_r3)) ++ wsX50 ++ wsX80)
def wsX5_advanceOverWord_r1 : List Cond := [Cond.fieldLink RX5 25 "SimonSays$Reader" "end" "I", Cond.fieldLink RX5 9 "SimonSays$Reader" "text" "LSimonSays$Text;", Cond.fieldLink RX5 32 "SimonSays$Reader" "token" "I", Cond.methodLink RX5 70 yX8_length, Cond.instanceMethod yX8_length, Cond.selects RX8 yX8_length yX8_length, Cond.initialized RX8, Cond.code yX8_length cX8_length 1 (some .int), Cond.fieldLink RX8 15 "SimonSays$Text" "length" "I", Cond.methodLink RX5 75 yX8_byteAt, Cond.instanceMethod yX8_byteAt, Cond.selects RX8 yX8_byteAt yX8_byteAt, Cond.code yX8_byteAt cX8_byteAt 2 (some .int), Cond.fieldLink RX8 9 "SimonSays$Text" "bytes" "[I", Cond.methodLink RX5 79 yX5_isLetter, Cond.static yX5_isLetter, Cond.initialized RX5, Cond.code yX5_isLetter cX5_isLetter 1 (some .boolean), Cond.methodLink RX5 93 yX5_spells, Cond.instanceMethod yX5_spells, Cond.selects RX5 yX5_spells yX5_spells, Cond.code yX5_spells cX5_spells 3 (some .boolean), Cond.fieldLink RX5 39 "SimonSays$Reader" "start" "I", Cond.methodLink RX5 105 yJ0_length_8abf5]
def wsX5_advanceOverWord_r2 : List Cond := [Cond.instanceMethod yJ0_length_8abf5, Cond.selects RJ0 yJ0_length_8abf5 yJ0_length_8abf5, Cond.initialized RJ0, Cond.code yJ0_length_8abf5 cJ0_length_8abf5 1 (some .int), Cond.fieldLink RJ0 9 "java/lang/String" "value" "[B", Cond.methodLink RJ0 335 yJ0_coder_7d493, Cond.instanceMethod yJ0_coder_7d493, Cond.selects RJ0 yJ0_coder_7d493 yJ0_coder_7d493, Cond.code yJ0_coder_7d493 cJ0_coder_7d493 1 (some .byte), Cond.fieldLink RJ0 38 "java/lang/String" "COMPACT_STRINGS" "Z", Cond.fieldLink RJ0 15 "java/lang/String" "coder" "B", Cond.methodLink RX5 108 yJ0_charAt_5068e, Cond.instanceMethod yJ0_charAt_5068e, Cond.selects RJ0 yJ0_charAt_5068e yJ0_charAt_5068e, Cond.code yJ0_charAt_5068e cJ0_charAt_5068e 2 (some .char), Cond.methodLink RJ0 492 yJ0_isLatin1_aae02, Cond.instanceMethod yJ0_isLatin1_aae02, Cond.selects RJ0 yJ0_isLatin1_aae02 yJ0_isLatin1_aae02, Cond.code yJ0_isLatin1_aae02 cJ0_isLatin1_aae02 1 (some .boolean), Cond.methodLink RJ0 495 yJ1_charAt_3b067, Cond.static yJ1_charAt_3b067, Cond.initialized RJ1, Cond.code yJ1_charAt_3b067 cJ1_charAt_3b067 2 (some .char), Cond.methodLink RJ1 9 yJ0_checkIndex_df160]
def wsX5_advanceOverWord_r3 : List Cond := [Cond.static yJ0_checkIndex_df160, Cond.code yJ0_checkIndex_df160 cJ0_checkIndex_df160 2 none, Cond.fieldLink RJ0 1053 "jdk/internal/util/Preconditions" "SIOOBE_FORMATTER" "Ljava/util/function/BiFunction;", Cond.methodLink RJ0 1059 yJ3_checkIndex_8e157, Cond.static yJ3_checkIndex_8e157, Cond.initialized RJ3, Cond.code yJ3_checkIndex_8e157 cJ3_checkIndex_8e157 3 (some .int), Cond.methodLink RJ0 498 yJ2_charAt_3b067, Cond.static yJ2_charAt_3b067, Cond.initialized RJ2, Cond.code yJ2_charAt_3b067 cJ2_charAt_3b067 2 (some .char), Cond.methodLink RJ2 67 yJ2_checkIndex_2214a, Cond.static yJ2_checkIndex_2214a, Cond.code yJ2_checkIndex_2214a cJ2_checkIndex_2214a 2 none, Cond.methodLink RJ2 48 yJ2_length_9d52b, Cond.static yJ2_length_9d52b, Cond.code yJ2_length_9d52b cJ2_length_9d52b 1 (some .int), Cond.methodLink RJ2 414 yJ0_checkIndex_df160, Cond.methodLink RJ2 71 yJ2_getChar_3b067, Cond.static yJ2_getChar_3b067, Cond.code yJ2_getChar_3b067 cJ2_getChar_3b067 2 (some .char), Cond.fieldLink RJ2 44 "java/lang/StringUTF16" "$assertionsDisabled" "Z", Cond.fieldLink RJ2 59 "java/lang/StringUTF16" "HI_BYTE_SHIFT" "I", Cond.fieldLink RJ2 63 "java/lang/StringUTF16" "LO_BYTE_SHIFT" "I"]
def wsX5_advanceOverWord : List Cond := .code yX5_advanceOverWord cX5_advanceOverWord 1 none :: ((wsX5_advanceOverWord_r1 ++ (wsX5_advanceOverWord_r2 ++ wsX5_advanceOverWord_r3)) ++ wsX50 ++ wsX80)
def wsX5_isDigit : List Cond := .code yX5_isDigit cX5_isDigit 1 (some .boolean) :: ([])
def wsX5_advanceOverNumber : List Cond := .code yX5_advanceOverNumber cX5_advanceOverNumber 3 none :: ([.fieldLink RX5 9 "SimonSays$Reader" "text" "LSimonSays$Text;", .fieldLink RX5 39 "SimonSays$Reader" "start" "I", .fieldLink RX5 56 "SimonSays$Reader" "value" "I", .fieldLink RX5 25 "SimonSays$Reader" "end" "I", .methodLink RX5 99 Lib.Math.min.name, .static Lib.Math.min.name, .initialized "java/lang/Math", .code Lib.Math.min.name Lib.Math.min.code 2 (some .int), .fieldLink RX5 32 "SimonSays$Reader" "token" "I", .methodLink RX5 75 yX8_byteAt, .instanceMethod yX8_byteAt, .selects RX8 yX8_byteAt yX8_byteAt, .initialized RX8, .code yX8_byteAt cX8_byteAt 2 (some .int), .fieldLink RX8 15 "SimonSays$Text" "length" "I", .fieldLink RX8 9 "SimonSays$Text" "bytes" "[I", .methodLink RX5 70 yX8_length, .instanceMethod yX8_length, .selects RX8 yX8_length yX8_length, .code yX8_length cX8_length 1 (some .int), .methodLink RX5 85 yX5_isDigit, .static yX5_isDigit, .initialized RX5, .code yX5_isDigit cX5_isDigit 1 (some .boolean)] ++ wsX50 ++ wsX80)
def wsX5_advance_r1 : List Cond := [Cond.fieldLink RX5 25 "SimonSays$Reader" "end" "I", Cond.fieldLink RX5 39 "SimonSays$Reader" "start" "I", Cond.fieldLink RX5 9 "SimonSays$Reader" "text" "LSimonSays$Text;", Cond.fieldLink RX5 32 "SimonSays$Reader" "token" "I", Cond.methodLink RX5 70 yX8_length, Cond.instanceMethod yX8_length, Cond.selects RX8 yX8_length yX8_length, Cond.initialized RX8, Cond.code yX8_length cX8_length 1 (some .int), Cond.fieldLink RX8 15 "SimonSays$Text" "length" "I", Cond.methodLink RX5 75 yX8_byteAt, Cond.instanceMethod yX8_byteAt, Cond.selects RX8 yX8_byteAt yX8_byteAt, Cond.code yX8_byteAt cX8_byteAt 2 (some .int), Cond.fieldLink RX8 9 "SimonSays$Text" "bytes" "[I", Cond.methodLink RX5 79 yX5_isLetter, Cond.static yX5_isLetter, Cond.initialized RX5, Cond.code yX5_isLetter cX5_isLetter 1 (some .boolean), Cond.methodLink RX5 82 yX5_advanceOverWord, Cond.instanceMethod yX5_advanceOverWord, Cond.selects RX5 yX5_advanceOverWord yX5_advanceOverWord, Cond.code yX5_advanceOverWord cX5_advanceOverWord 1 none, Cond.methodLink RX5 93 yX5_spells]
def wsX5_advance_r2 : List Cond := [Cond.instanceMethod yX5_spells, Cond.selects RX5 yX5_spells yX5_spells, Cond.code yX5_spells cX5_spells 3 (some .boolean), Cond.methodLink RX5 105 yJ0_length_8abf5, Cond.instanceMethod yJ0_length_8abf5, Cond.selects RJ0 yJ0_length_8abf5 yJ0_length_8abf5, Cond.initialized RJ0, Cond.code yJ0_length_8abf5 cJ0_length_8abf5 1 (some .int), Cond.fieldLink RJ0 9 "java/lang/String" "value" "[B", Cond.methodLink RJ0 335 yJ0_coder_7d493, Cond.instanceMethod yJ0_coder_7d493, Cond.selects RJ0 yJ0_coder_7d493 yJ0_coder_7d493, Cond.code yJ0_coder_7d493 cJ0_coder_7d493 1 (some .byte), Cond.fieldLink RJ0 38 "java/lang/String" "COMPACT_STRINGS" "Z", Cond.fieldLink RJ0 15 "java/lang/String" "coder" "B", Cond.methodLink RX5 108 yJ0_charAt_5068e, Cond.instanceMethod yJ0_charAt_5068e, Cond.selects RJ0 yJ0_charAt_5068e yJ0_charAt_5068e, Cond.code yJ0_charAt_5068e cJ0_charAt_5068e 2 (some .char), Cond.methodLink RJ0 492 yJ0_isLatin1_aae02, Cond.instanceMethod yJ0_isLatin1_aae02, Cond.selects RJ0 yJ0_isLatin1_aae02 yJ0_isLatin1_aae02, Cond.code yJ0_isLatin1_aae02 cJ0_isLatin1_aae02 1 (some .boolean), Cond.methodLink RJ0 495 yJ1_charAt_3b067]
def wsX5_advance_r3 : List Cond := [Cond.static yJ1_charAt_3b067, Cond.initialized RJ1, Cond.code yJ1_charAt_3b067 cJ1_charAt_3b067 2 (some .char), Cond.methodLink RJ1 9 yJ0_checkIndex_df160, Cond.static yJ0_checkIndex_df160, Cond.code yJ0_checkIndex_df160 cJ0_checkIndex_df160 2 none, Cond.fieldLink RJ0 1053 "jdk/internal/util/Preconditions" "SIOOBE_FORMATTER" "Ljava/util/function/BiFunction;", Cond.methodLink RJ0 1059 yJ3_checkIndex_8e157, Cond.static yJ3_checkIndex_8e157, Cond.initialized RJ3, Cond.code yJ3_checkIndex_8e157 cJ3_checkIndex_8e157 3 (some .int), Cond.methodLink RJ0 498 yJ2_charAt_3b067, Cond.static yJ2_charAt_3b067, Cond.initialized RJ2, Cond.code yJ2_charAt_3b067 cJ2_charAt_3b067 2 (some .char), Cond.methodLink RJ2 67 yJ2_checkIndex_2214a, Cond.static yJ2_checkIndex_2214a, Cond.code yJ2_checkIndex_2214a cJ2_checkIndex_2214a 2 none, Cond.methodLink RJ2 48 yJ2_length_9d52b, Cond.static yJ2_length_9d52b, Cond.code yJ2_length_9d52b cJ2_length_9d52b 1 (some .int), Cond.methodLink RJ2 414 yJ0_checkIndex_df160, Cond.methodLink RJ2 71 yJ2_getChar_3b067, Cond.static yJ2_getChar_3b067]
def wsX5_advance_r4 : List Cond := [Cond.code yJ2_getChar_3b067 cJ2_getChar_3b067 2 (some .char), Cond.fieldLink RJ2 44 "java/lang/StringUTF16" "$assertionsDisabled" "Z", Cond.fieldLink RJ2 59 "java/lang/StringUTF16" "HI_BYTE_SHIFT" "I", Cond.fieldLink RJ2 63 "java/lang/StringUTF16" "LO_BYTE_SHIFT" "I", Cond.methodLink RX5 85 yX5_isDigit, Cond.static yX5_isDigit, Cond.code yX5_isDigit cX5_isDigit 1 (some .boolean), Cond.methodLink RX5 88 yX5_advanceOverNumber, Cond.instanceMethod yX5_advanceOverNumber, Cond.selects RX5 yX5_advanceOverNumber yX5_advanceOverNumber, Cond.code yX5_advanceOverNumber cX5_advanceOverNumber 3 none, Cond.fieldLink RX5 56 "SimonSays$Reader" "value" "I", Cond.methodLink RX5 99 Lib.Math.min.name, Cond.static Lib.Math.min.name, Cond.initialized "java/lang/Math", Cond.code Lib.Math.min.name Lib.Math.min.code 2 (some .int)]
def wsX5_advance : List Cond := .code yX5_advance cX5_advance 2 none :: ((wsX5_advance_r1 ++ (wsX5_advance_r2 ++ (wsX5_advance_r3 ++ wsX5_advance_r4))) ++ wsX50 ++ wsX80)
def wsX5_isNumberUpTo : List Cond := .code yX5_isNumberUpTo cX5_isNumberUpTo 2 (some .boolean) :: ([.fieldLink RX5 32 "SimonSays$Reader" "token" "I", .fieldLink RX5 56 "SimonSays$Reader" "value" "I"] ++ wsX50)
def wsX5_readChild_r1 : List Cond := [Cond.fieldLink RX5 18 "SimonSays$Reader" "found" "LSimonSays$Children;", Cond.fieldLink RX5 56 "SimonSays$Reader" "value" "I", Cond.fieldLink RX5 32 "SimonSays$Reader" "token" "I", Cond.methodLink RX5 48 yX1_size, Cond.instanceMethod yX1_size, Cond.selects RX1 yX1_size yX1_size, Cond.initialized RX1, Cond.code yX1_size cX1_size 1 (some .int), Cond.fieldLink RX1 21 "SimonSays$Children" "size" "I", Cond.methodLink RX5 29 yX5_advance, Cond.instanceMethod yX5_advance, Cond.selects RX5 yX5_advance yX5_advance, Cond.initialized RX5, Cond.code yX5_advance cX5_advance 2 none, Cond.fieldLink RX5 25 "SimonSays$Reader" "end" "I", Cond.fieldLink RX5 39 "SimonSays$Reader" "start" "I", Cond.fieldLink RX5 9 "SimonSays$Reader" "text" "LSimonSays$Text;", Cond.methodLink RX5 70 yX8_length, Cond.instanceMethod yX8_length, Cond.selects RX8 yX8_length yX8_length, Cond.initialized RX8, Cond.code yX8_length cX8_length 1 (some .int), Cond.fieldLink RX8 15 "SimonSays$Text" "length" "I", Cond.methodLink RX5 75 yX8_byteAt]
def wsX5_readChild_r2 : List Cond := [Cond.instanceMethod yX8_byteAt, Cond.selects RX8 yX8_byteAt yX8_byteAt, Cond.code yX8_byteAt cX8_byteAt 2 (some .int), Cond.fieldLink RX8 9 "SimonSays$Text" "bytes" "[I", Cond.methodLink RX5 79 yX5_isLetter, Cond.static yX5_isLetter, Cond.code yX5_isLetter cX5_isLetter 1 (some .boolean), Cond.methodLink RX5 82 yX5_advanceOverWord, Cond.instanceMethod yX5_advanceOverWord, Cond.selects RX5 yX5_advanceOverWord yX5_advanceOverWord, Cond.code yX5_advanceOverWord cX5_advanceOverWord 1 none, Cond.methodLink RX5 93 yX5_spells, Cond.instanceMethod yX5_spells, Cond.selects RX5 yX5_spells yX5_spells, Cond.code yX5_spells cX5_spells 3 (some .boolean), Cond.methodLink RX5 105 yJ0_length_8abf5, Cond.instanceMethod yJ0_length_8abf5, Cond.selects RJ0 yJ0_length_8abf5 yJ0_length_8abf5, Cond.initialized RJ0, Cond.code yJ0_length_8abf5 cJ0_length_8abf5 1 (some .int), Cond.fieldLink RJ0 9 "java/lang/String" "value" "[B", Cond.methodLink RJ0 335 yJ0_coder_7d493, Cond.instanceMethod yJ0_coder_7d493, Cond.selects RJ0 yJ0_coder_7d493 yJ0_coder_7d493]
def wsX5_readChild_r3 : List Cond := [Cond.code yJ0_coder_7d493 cJ0_coder_7d493 1 (some .byte), Cond.fieldLink RJ0 38 "java/lang/String" "COMPACT_STRINGS" "Z", Cond.fieldLink RJ0 15 "java/lang/String" "coder" "B", Cond.methodLink RX5 108 yJ0_charAt_5068e, Cond.instanceMethod yJ0_charAt_5068e, Cond.selects RJ0 yJ0_charAt_5068e yJ0_charAt_5068e, Cond.code yJ0_charAt_5068e cJ0_charAt_5068e 2 (some .char), Cond.methodLink RJ0 492 yJ0_isLatin1_aae02, Cond.instanceMethod yJ0_isLatin1_aae02, Cond.selects RJ0 yJ0_isLatin1_aae02 yJ0_isLatin1_aae02, Cond.code yJ0_isLatin1_aae02 cJ0_isLatin1_aae02 1 (some .boolean), Cond.methodLink RJ0 495 yJ1_charAt_3b067, Cond.static yJ1_charAt_3b067, Cond.initialized RJ1, Cond.code yJ1_charAt_3b067 cJ1_charAt_3b067 2 (some .char), Cond.methodLink RJ1 9 yJ0_checkIndex_df160, Cond.static yJ0_checkIndex_df160, Cond.code yJ0_checkIndex_df160 cJ0_checkIndex_df160 2 none, Cond.fieldLink RJ0 1053 "jdk/internal/util/Preconditions" "SIOOBE_FORMATTER" "Ljava/util/function/BiFunction;", Cond.methodLink RJ0 1059 yJ3_checkIndex_8e157, Cond.static yJ3_checkIndex_8e157, Cond.initialized RJ3, Cond.code yJ3_checkIndex_8e157 cJ3_checkIndex_8e157 3 (some .int), Cond.methodLink RJ0 498 yJ2_charAt_3b067]
def wsX5_readChild_r4 : List Cond := [Cond.static yJ2_charAt_3b067, Cond.initialized RJ2, Cond.code yJ2_charAt_3b067 cJ2_charAt_3b067 2 (some .char), Cond.methodLink RJ2 67 yJ2_checkIndex_2214a, Cond.static yJ2_checkIndex_2214a, Cond.code yJ2_checkIndex_2214a cJ2_checkIndex_2214a 2 none, Cond.methodLink RJ2 48 yJ2_length_9d52b, Cond.static yJ2_length_9d52b, Cond.code yJ2_length_9d52b cJ2_length_9d52b 1 (some .int), Cond.methodLink RJ2 414 yJ0_checkIndex_df160, Cond.methodLink RJ2 71 yJ2_getChar_3b067, Cond.static yJ2_getChar_3b067, Cond.code yJ2_getChar_3b067 cJ2_getChar_3b067 2 (some .char), Cond.fieldLink RJ2 44 "java/lang/StringUTF16" "$assertionsDisabled" "Z", Cond.fieldLink RJ2 59 "java/lang/StringUTF16" "HI_BYTE_SHIFT" "I", Cond.fieldLink RJ2 63 "java/lang/StringUTF16" "LO_BYTE_SHIFT" "I", Cond.methodLink RX5 85 yX5_isDigit, Cond.static yX5_isDigit, Cond.code yX5_isDigit cX5_isDigit 1 (some .boolean), Cond.methodLink RX5 88 yX5_advanceOverNumber, Cond.instanceMethod yX5_advanceOverNumber, Cond.selects RX5 yX5_advanceOverNumber yX5_advanceOverNumber, Cond.code yX5_advanceOverNumber cX5_advanceOverNumber 3 none, Cond.methodLink RX5 99 Lib.Math.min.name]
def wsX5_readChild_r5 : List Cond := [Cond.static Lib.Math.min.name, Cond.initialized "java/lang/Math", Cond.code Lib.Math.min.name Lib.Math.min.code 2 (some .int), Cond.methodLink RX5 52 yX5_isNumberUpTo, Cond.instanceMethod yX5_isNumberUpTo, Cond.selects RX5 yX5_isNumberUpTo yX5_isNumberUpTo, Cond.code yX5_isNumberUpTo cX5_isNumberUpTo 2 (some .boolean), Cond.methodLink RX5 59 yX1_has, Cond.instanceMethod yX1_has, Cond.selects RX1 yX1_has yX1_has, Cond.code yX1_has cX1_has 2 (some .boolean), Cond.methodLink RX5 62 yX1_add, Cond.instanceMethod yX1_add, Cond.selects RX1 yX1_add yX1_add, Cond.code yX1_add cX1_add 4 none, Cond.fieldLink RX1 9 "SimonSays$Children" "slips" "[I", Cond.fieldLink RX1 15 "SimonSays$Children" "lates" "[I", Cond.fieldLink RX1 18 "SimonSays$Children" "copied" "[I"]
def wsX5_readChild : List Cond := .code yX5_readChild cX5_readChild 4 (some .boolean) :: ((wsX5_readChild_r1 ++ (wsX5_readChild_r2 ++ (wsX5_readChild_r3 ++ (wsX5_readChild_r4 ++ wsX5_readChild_r5)))) ++ wsX50 ++ wsX10 ++ wsX80)
def wsX5_readLittle_r1 : List Cond := [Cond.fieldLink RX5 32 "SimonSays$Reader" "token" "I", Cond.fieldLink RX5 18 "SimonSays$Reader" "found" "LSimonSays$Children;", Cond.fieldLink RX5 56 "SimonSays$Reader" "value" "I", Cond.methodLink RX5 29 yX5_advance, Cond.instanceMethod yX5_advance, Cond.selects RX5 yX5_advance yX5_advance, Cond.initialized RX5, Cond.code yX5_advance cX5_advance 2 none, Cond.fieldLink RX5 25 "SimonSays$Reader" "end" "I", Cond.fieldLink RX5 39 "SimonSays$Reader" "start" "I", Cond.fieldLink RX5 9 "SimonSays$Reader" "text" "LSimonSays$Text;", Cond.methodLink RX5 70 yX8_length, Cond.instanceMethod yX8_length, Cond.selects RX8 yX8_length yX8_length, Cond.initialized RX8, Cond.code yX8_length cX8_length 1 (some .int), Cond.fieldLink RX8 15 "SimonSays$Text" "length" "I", Cond.methodLink RX5 75 yX8_byteAt, Cond.instanceMethod yX8_byteAt, Cond.selects RX8 yX8_byteAt yX8_byteAt, Cond.code yX8_byteAt cX8_byteAt 2 (some .int), Cond.fieldLink RX8 9 "SimonSays$Text" "bytes" "[I", Cond.methodLink RX5 79 yX5_isLetter, Cond.static yX5_isLetter]
def wsX5_readLittle_r2 : List Cond := [Cond.code yX5_isLetter cX5_isLetter 1 (some .boolean), Cond.methodLink RX5 82 yX5_advanceOverWord, Cond.instanceMethod yX5_advanceOverWord, Cond.selects RX5 yX5_advanceOverWord yX5_advanceOverWord, Cond.code yX5_advanceOverWord cX5_advanceOverWord 1 none, Cond.methodLink RX5 93 yX5_spells, Cond.instanceMethod yX5_spells, Cond.selects RX5 yX5_spells yX5_spells, Cond.code yX5_spells cX5_spells 3 (some .boolean), Cond.methodLink RX5 105 yJ0_length_8abf5, Cond.instanceMethod yJ0_length_8abf5, Cond.selects RJ0 yJ0_length_8abf5 yJ0_length_8abf5, Cond.initialized RJ0, Cond.code yJ0_length_8abf5 cJ0_length_8abf5 1 (some .int), Cond.fieldLink RJ0 9 "java/lang/String" "value" "[B", Cond.methodLink RJ0 335 yJ0_coder_7d493, Cond.instanceMethod yJ0_coder_7d493, Cond.selects RJ0 yJ0_coder_7d493 yJ0_coder_7d493, Cond.code yJ0_coder_7d493 cJ0_coder_7d493 1 (some .byte), Cond.fieldLink RJ0 38 "java/lang/String" "COMPACT_STRINGS" "Z", Cond.fieldLink RJ0 15 "java/lang/String" "coder" "B", Cond.methodLink RX5 108 yJ0_charAt_5068e, Cond.instanceMethod yJ0_charAt_5068e, Cond.selects RJ0 yJ0_charAt_5068e yJ0_charAt_5068e]
def wsX5_readLittle_r3 : List Cond := [Cond.code yJ0_charAt_5068e cJ0_charAt_5068e 2 (some .char), Cond.methodLink RJ0 492 yJ0_isLatin1_aae02, Cond.instanceMethod yJ0_isLatin1_aae02, Cond.selects RJ0 yJ0_isLatin1_aae02 yJ0_isLatin1_aae02, Cond.code yJ0_isLatin1_aae02 cJ0_isLatin1_aae02 1 (some .boolean), Cond.methodLink RJ0 495 yJ1_charAt_3b067, Cond.static yJ1_charAt_3b067, Cond.initialized RJ1, Cond.code yJ1_charAt_3b067 cJ1_charAt_3b067 2 (some .char), Cond.methodLink RJ1 9 yJ0_checkIndex_df160, Cond.static yJ0_checkIndex_df160, Cond.code yJ0_checkIndex_df160 cJ0_checkIndex_df160 2 none, Cond.fieldLink RJ0 1053 "jdk/internal/util/Preconditions" "SIOOBE_FORMATTER" "Ljava/util/function/BiFunction;", Cond.methodLink RJ0 1059 yJ3_checkIndex_8e157, Cond.static yJ3_checkIndex_8e157, Cond.initialized RJ3, Cond.code yJ3_checkIndex_8e157 cJ3_checkIndex_8e157 3 (some .int), Cond.methodLink RJ0 498 yJ2_charAt_3b067, Cond.static yJ2_charAt_3b067, Cond.initialized RJ2, Cond.code yJ2_charAt_3b067 cJ2_charAt_3b067 2 (some .char), Cond.methodLink RJ2 67 yJ2_checkIndex_2214a, Cond.static yJ2_checkIndex_2214a, Cond.code yJ2_checkIndex_2214a cJ2_checkIndex_2214a 2 none]
def wsX5_readLittle_r4 : List Cond := [Cond.methodLink RJ2 48 yJ2_length_9d52b, Cond.static yJ2_length_9d52b, Cond.code yJ2_length_9d52b cJ2_length_9d52b 1 (some .int), Cond.methodLink RJ2 414 yJ0_checkIndex_df160, Cond.methodLink RJ2 71 yJ2_getChar_3b067, Cond.static yJ2_getChar_3b067, Cond.code yJ2_getChar_3b067 cJ2_getChar_3b067 2 (some .char), Cond.fieldLink RJ2 44 "java/lang/StringUTF16" "$assertionsDisabled" "Z", Cond.fieldLink RJ2 59 "java/lang/StringUTF16" "HI_BYTE_SHIFT" "I", Cond.fieldLink RJ2 63 "java/lang/StringUTF16" "LO_BYTE_SHIFT" "I", Cond.methodLink RX5 85 yX5_isDigit, Cond.static yX5_isDigit, Cond.code yX5_isDigit cX5_isDigit 1 (some .boolean), Cond.methodLink RX5 88 yX5_advanceOverNumber, Cond.instanceMethod yX5_advanceOverNumber, Cond.selects RX5 yX5_advanceOverNumber yX5_advanceOverNumber, Cond.code yX5_advanceOverNumber cX5_advanceOverNumber 3 none, Cond.methodLink RX5 99 Lib.Math.min.name, Cond.static Lib.Math.min.name, Cond.initialized "java/lang/Math", Cond.code Lib.Math.min.name Lib.Math.min.code 2 (some .int), Cond.methodLink RX5 59 yX1_has, Cond.instanceMethod yX1_has, Cond.selects RX1 yX1_has yX1_has]
def wsX5_readLittle_r5 : List Cond := [Cond.initialized RX1, Cond.code yX1_has cX1_has 2 (some .boolean), Cond.fieldLink RX1 21 "SimonSays$Children" "size" "I", Cond.methodLink RX5 66 yX1_makeLittle, Cond.instanceMethod yX1_makeLittle, Cond.selects RX1 yX1_makeLittle yX1_makeLittle, Cond.code yX1_makeLittle cX1_makeLittle 2 none, Cond.fieldLink RX1 25 "SimonSays$Children" "littleOnes" "I"]
def wsX5_readLittle : List Cond := .code yX5_readLittle cX5_readLittle 2 (some .boolean) :: ((wsX5_readLittle_r1 ++ (wsX5_readLittle_r2 ++ (wsX5_readLittle_r3 ++ (wsX5_readLittle_r4 ++ wsX5_readLittle_r5)))) ++ wsX50 ++ wsX80 ++ wsX10)
def wsX5_readItem_r1 : List Cond := [Cond.fieldLink RX5 32 "SimonSays$Reader" "token" "I", Cond.methodLink RX5 42 yX5_readChild, Cond.instanceMethod yX5_readChild, Cond.selects RX5 yX5_readChild yX5_readChild, Cond.initialized RX5, Cond.code yX5_readChild cX5_readChild 4 (some .boolean), Cond.fieldLink RX5 18 "SimonSays$Reader" "found" "LSimonSays$Children;", Cond.fieldLink RX5 56 "SimonSays$Reader" "value" "I", Cond.methodLink RX5 48 yX1_size, Cond.instanceMethod yX1_size, Cond.selects RX1 yX1_size yX1_size, Cond.initialized RX1, Cond.code yX1_size cX1_size 1 (some .int), Cond.fieldLink RX1 21 "SimonSays$Children" "size" "I", Cond.methodLink RX5 29 yX5_advance, Cond.instanceMethod yX5_advance, Cond.selects RX5 yX5_advance yX5_advance, Cond.code yX5_advance cX5_advance 2 none, Cond.fieldLink RX5 25 "SimonSays$Reader" "end" "I", Cond.fieldLink RX5 39 "SimonSays$Reader" "start" "I", Cond.fieldLink RX5 9 "SimonSays$Reader" "text" "LSimonSays$Text;", Cond.methodLink RX5 70 yX8_length, Cond.instanceMethod yX8_length, Cond.selects RX8 yX8_length yX8_length]
def wsX5_readItem_r2 : List Cond := [Cond.initialized RX8, Cond.code yX8_length cX8_length 1 (some .int), Cond.fieldLink RX8 15 "SimonSays$Text" "length" "I", Cond.methodLink RX5 75 yX8_byteAt, Cond.instanceMethod yX8_byteAt, Cond.selects RX8 yX8_byteAt yX8_byteAt, Cond.code yX8_byteAt cX8_byteAt 2 (some .int), Cond.fieldLink RX8 9 "SimonSays$Text" "bytes" "[I", Cond.methodLink RX5 79 yX5_isLetter, Cond.static yX5_isLetter, Cond.code yX5_isLetter cX5_isLetter 1 (some .boolean), Cond.methodLink RX5 82 yX5_advanceOverWord, Cond.instanceMethod yX5_advanceOverWord, Cond.selects RX5 yX5_advanceOverWord yX5_advanceOverWord, Cond.code yX5_advanceOverWord cX5_advanceOverWord 1 none, Cond.methodLink RX5 93 yX5_spells, Cond.instanceMethod yX5_spells, Cond.selects RX5 yX5_spells yX5_spells, Cond.code yX5_spells cX5_spells 3 (some .boolean), Cond.methodLink RX5 105 yJ0_length_8abf5, Cond.instanceMethod yJ0_length_8abf5, Cond.selects RJ0 yJ0_length_8abf5 yJ0_length_8abf5, Cond.initialized RJ0, Cond.code yJ0_length_8abf5 cJ0_length_8abf5 1 (some .int)]
def wsX5_readItem_r3 : List Cond := [Cond.fieldLink RJ0 9 "java/lang/String" "value" "[B", Cond.methodLink RJ0 335 yJ0_coder_7d493, Cond.instanceMethod yJ0_coder_7d493, Cond.selects RJ0 yJ0_coder_7d493 yJ0_coder_7d493, Cond.code yJ0_coder_7d493 cJ0_coder_7d493 1 (some .byte), Cond.fieldLink RJ0 38 "java/lang/String" "COMPACT_STRINGS" "Z", Cond.fieldLink RJ0 15 "java/lang/String" "coder" "B", Cond.methodLink RX5 108 yJ0_charAt_5068e, Cond.instanceMethod yJ0_charAt_5068e, Cond.selects RJ0 yJ0_charAt_5068e yJ0_charAt_5068e, Cond.code yJ0_charAt_5068e cJ0_charAt_5068e 2 (some .char), Cond.methodLink RJ0 492 yJ0_isLatin1_aae02, Cond.instanceMethod yJ0_isLatin1_aae02, Cond.selects RJ0 yJ0_isLatin1_aae02 yJ0_isLatin1_aae02, Cond.code yJ0_isLatin1_aae02 cJ0_isLatin1_aae02 1 (some .boolean), Cond.methodLink RJ0 495 yJ1_charAt_3b067, Cond.static yJ1_charAt_3b067, Cond.initialized RJ1, Cond.code yJ1_charAt_3b067 cJ1_charAt_3b067 2 (some .char), Cond.methodLink RJ1 9 yJ0_checkIndex_df160, Cond.static yJ0_checkIndex_df160, Cond.code yJ0_checkIndex_df160 cJ0_checkIndex_df160 2 none, Cond.fieldLink RJ0 1053 "jdk/internal/util/Preconditions" "SIOOBE_FORMATTER" "Ljava/util/function/BiFunction;", Cond.methodLink RJ0 1059 yJ3_checkIndex_8e157]
def wsX5_readItem_r4 : List Cond := [Cond.static yJ3_checkIndex_8e157, Cond.initialized RJ3, Cond.code yJ3_checkIndex_8e157 cJ3_checkIndex_8e157 3 (some .int), Cond.methodLink RJ0 498 yJ2_charAt_3b067, Cond.static yJ2_charAt_3b067, Cond.initialized RJ2, Cond.code yJ2_charAt_3b067 cJ2_charAt_3b067 2 (some .char), Cond.methodLink RJ2 67 yJ2_checkIndex_2214a, Cond.static yJ2_checkIndex_2214a, Cond.code yJ2_checkIndex_2214a cJ2_checkIndex_2214a 2 none, Cond.methodLink RJ2 48 yJ2_length_9d52b, Cond.static yJ2_length_9d52b, Cond.code yJ2_length_9d52b cJ2_length_9d52b 1 (some .int), Cond.methodLink RJ2 414 yJ0_checkIndex_df160, Cond.methodLink RJ2 71 yJ2_getChar_3b067, Cond.static yJ2_getChar_3b067, Cond.code yJ2_getChar_3b067 cJ2_getChar_3b067 2 (some .char), Cond.fieldLink RJ2 44 "java/lang/StringUTF16" "$assertionsDisabled" "Z", Cond.fieldLink RJ2 59 "java/lang/StringUTF16" "HI_BYTE_SHIFT" "I", Cond.fieldLink RJ2 63 "java/lang/StringUTF16" "LO_BYTE_SHIFT" "I", Cond.methodLink RX5 85 yX5_isDigit, Cond.static yX5_isDigit, Cond.code yX5_isDigit cX5_isDigit 1 (some .boolean), Cond.methodLink RX5 88 yX5_advanceOverNumber]
def wsX5_readItem_r5 : List Cond := [Cond.instanceMethod yX5_advanceOverNumber, Cond.selects RX5 yX5_advanceOverNumber yX5_advanceOverNumber, Cond.code yX5_advanceOverNumber cX5_advanceOverNumber 3 none, Cond.methodLink RX5 99 Lib.Math.min.name, Cond.static Lib.Math.min.name, Cond.initialized "java/lang/Math", Cond.code Lib.Math.min.name Lib.Math.min.code 2 (some .int), Cond.methodLink RX5 52 yX5_isNumberUpTo, Cond.instanceMethod yX5_isNumberUpTo, Cond.selects RX5 yX5_isNumberUpTo yX5_isNumberUpTo, Cond.code yX5_isNumberUpTo cX5_isNumberUpTo 2 (some .boolean), Cond.methodLink RX5 59 yX1_has, Cond.instanceMethod yX1_has, Cond.selects RX1 yX1_has yX1_has, Cond.code yX1_has cX1_has 2 (some .boolean), Cond.methodLink RX5 62 yX1_add, Cond.instanceMethod yX1_add, Cond.selects RX1 yX1_add yX1_add, Cond.code yX1_add cX1_add 4 none, Cond.fieldLink RX1 9 "SimonSays$Children" "slips" "[I", Cond.fieldLink RX1 15 "SimonSays$Children" "lates" "[I", Cond.fieldLink RX1 18 "SimonSays$Children" "copied" "[I", Cond.methodLink RX5 45 yX5_readLittle, Cond.instanceMethod yX5_readLittle]
def wsX5_readItem_r6 : List Cond := [Cond.selects RX5 yX5_readLittle yX5_readLittle, Cond.code yX5_readLittle cX5_readLittle 2 (some .boolean), Cond.methodLink RX5 66 yX1_makeLittle, Cond.instanceMethod yX1_makeLittle, Cond.selects RX1 yX1_makeLittle yX1_makeLittle, Cond.code yX1_makeLittle cX1_makeLittle 2 none, Cond.fieldLink RX1 25 "SimonSays$Children" "littleOnes" "I"]
def wsX5_readItem : List Cond := .code yX5_readItem cX5_readItem 1 (some .boolean) :: ((wsX5_readItem_r1 ++ (wsX5_readItem_r2 ++ (wsX5_readItem_r3 ++ (wsX5_readItem_r4 ++ (wsX5_readItem_r5 ++ wsX5_readItem_r6))))) ++ wsX50 ++ wsX10 ++ wsX80)
def wsX5_readItems_r1 : List Cond := [Cond.fieldLink RX5 18 "SimonSays$Reader" "found" "LSimonSays$Children;", Cond.fieldLink RX5 25 "SimonSays$Reader" "end" "I", Cond.fieldLink RX5 32 "SimonSays$Reader" "token" "I", Cond.methodLink RX5 22 yX1_forget, Cond.instanceMethod yX1_forget, Cond.selects RX1 yX1_forget yX1_forget, Cond.initialized RX1, Cond.code yX1_forget cX1_forget 1 none, Cond.fieldLink RX1 21 "SimonSays$Children" "size" "I", Cond.fieldLink RX1 25 "SimonSays$Children" "littleOnes" "I", Cond.methodLink RX5 29 yX5_advance, Cond.instanceMethod yX5_advance, Cond.selects RX5 yX5_advance yX5_advance, Cond.initialized RX5, Cond.code yX5_advance cX5_advance 2 none, Cond.fieldLink RX5 39 "SimonSays$Reader" "start" "I", Cond.fieldLink RX5 9 "SimonSays$Reader" "text" "LSimonSays$Text;", Cond.methodLink RX5 70 yX8_length, Cond.instanceMethod yX8_length, Cond.selects RX8 yX8_length yX8_length, Cond.initialized RX8, Cond.code yX8_length cX8_length 1 (some .int), Cond.fieldLink RX8 15 "SimonSays$Text" "length" "I", Cond.methodLink RX5 75 yX8_byteAt]
def wsX5_readItems_r2 : List Cond := [Cond.instanceMethod yX8_byteAt, Cond.selects RX8 yX8_byteAt yX8_byteAt, Cond.code yX8_byteAt cX8_byteAt 2 (some .int), Cond.fieldLink RX8 9 "SimonSays$Text" "bytes" "[I", Cond.methodLink RX5 79 yX5_isLetter, Cond.static yX5_isLetter, Cond.code yX5_isLetter cX5_isLetter 1 (some .boolean), Cond.methodLink RX5 82 yX5_advanceOverWord, Cond.instanceMethod yX5_advanceOverWord, Cond.selects RX5 yX5_advanceOverWord yX5_advanceOverWord, Cond.code yX5_advanceOverWord cX5_advanceOverWord 1 none, Cond.methodLink RX5 93 yX5_spells, Cond.instanceMethod yX5_spells, Cond.selects RX5 yX5_spells yX5_spells, Cond.code yX5_spells cX5_spells 3 (some .boolean), Cond.methodLink RX5 105 yJ0_length_8abf5, Cond.instanceMethod yJ0_length_8abf5, Cond.selects RJ0 yJ0_length_8abf5 yJ0_length_8abf5, Cond.initialized RJ0, Cond.code yJ0_length_8abf5 cJ0_length_8abf5 1 (some .int), Cond.fieldLink RJ0 9 "java/lang/String" "value" "[B", Cond.methodLink RJ0 335 yJ0_coder_7d493, Cond.instanceMethod yJ0_coder_7d493, Cond.selects RJ0 yJ0_coder_7d493 yJ0_coder_7d493]
def wsX5_readItems_r3 : List Cond := [Cond.code yJ0_coder_7d493 cJ0_coder_7d493 1 (some .byte), Cond.fieldLink RJ0 38 "java/lang/String" "COMPACT_STRINGS" "Z", Cond.fieldLink RJ0 15 "java/lang/String" "coder" "B", Cond.methodLink RX5 108 yJ0_charAt_5068e, Cond.instanceMethod yJ0_charAt_5068e, Cond.selects RJ0 yJ0_charAt_5068e yJ0_charAt_5068e, Cond.code yJ0_charAt_5068e cJ0_charAt_5068e 2 (some .char), Cond.methodLink RJ0 492 yJ0_isLatin1_aae02, Cond.instanceMethod yJ0_isLatin1_aae02, Cond.selects RJ0 yJ0_isLatin1_aae02 yJ0_isLatin1_aae02, Cond.code yJ0_isLatin1_aae02 cJ0_isLatin1_aae02 1 (some .boolean), Cond.methodLink RJ0 495 yJ1_charAt_3b067, Cond.static yJ1_charAt_3b067, Cond.initialized RJ1, Cond.code yJ1_charAt_3b067 cJ1_charAt_3b067 2 (some .char), Cond.methodLink RJ1 9 yJ0_checkIndex_df160, Cond.static yJ0_checkIndex_df160, Cond.code yJ0_checkIndex_df160 cJ0_checkIndex_df160 2 none, Cond.fieldLink RJ0 1053 "jdk/internal/util/Preconditions" "SIOOBE_FORMATTER" "Ljava/util/function/BiFunction;", Cond.methodLink RJ0 1059 yJ3_checkIndex_8e157, Cond.static yJ3_checkIndex_8e157, Cond.initialized RJ3, Cond.code yJ3_checkIndex_8e157 cJ3_checkIndex_8e157 3 (some .int), Cond.methodLink RJ0 498 yJ2_charAt_3b067]
def wsX5_readItems_r4 : List Cond := [Cond.static yJ2_charAt_3b067, Cond.initialized RJ2, Cond.code yJ2_charAt_3b067 cJ2_charAt_3b067 2 (some .char), Cond.methodLink RJ2 67 yJ2_checkIndex_2214a, Cond.static yJ2_checkIndex_2214a, Cond.code yJ2_checkIndex_2214a cJ2_checkIndex_2214a 2 none, Cond.methodLink RJ2 48 yJ2_length_9d52b, Cond.static yJ2_length_9d52b, Cond.code yJ2_length_9d52b cJ2_length_9d52b 1 (some .int), Cond.methodLink RJ2 414 yJ0_checkIndex_df160, Cond.methodLink RJ2 71 yJ2_getChar_3b067, Cond.static yJ2_getChar_3b067, Cond.code yJ2_getChar_3b067 cJ2_getChar_3b067 2 (some .char), Cond.fieldLink RJ2 44 "java/lang/StringUTF16" "$assertionsDisabled" "Z", Cond.fieldLink RJ2 59 "java/lang/StringUTF16" "HI_BYTE_SHIFT" "I", Cond.fieldLink RJ2 63 "java/lang/StringUTF16" "LO_BYTE_SHIFT" "I", Cond.methodLink RX5 85 yX5_isDigit, Cond.static yX5_isDigit, Cond.code yX5_isDigit cX5_isDigit 1 (some .boolean), Cond.methodLink RX5 88 yX5_advanceOverNumber, Cond.instanceMethod yX5_advanceOverNumber, Cond.selects RX5 yX5_advanceOverNumber yX5_advanceOverNumber, Cond.code yX5_advanceOverNumber cX5_advanceOverNumber 3 none, Cond.fieldLink RX5 56 "SimonSays$Reader" "value" "I"]
def wsX5_readItems_r5 : List Cond := [Cond.methodLink RX5 99 Lib.Math.min.name, Cond.static Lib.Math.min.name, Cond.initialized "java/lang/Math", Cond.code Lib.Math.min.name Lib.Math.min.code 2 (some .int), Cond.methodLink RX5 35 yX5_readItem, Cond.instanceMethod yX5_readItem, Cond.selects RX5 yX5_readItem yX5_readItem, Cond.code yX5_readItem cX5_readItem 1 (some .boolean), Cond.methodLink RX5 42 yX5_readChild, Cond.instanceMethod yX5_readChild, Cond.selects RX5 yX5_readChild yX5_readChild, Cond.code yX5_readChild cX5_readChild 4 (some .boolean), Cond.methodLink RX5 48 yX1_size, Cond.instanceMethod yX1_size, Cond.selects RX1 yX1_size yX1_size, Cond.code yX1_size cX1_size 1 (some .int), Cond.methodLink RX5 52 yX5_isNumberUpTo, Cond.instanceMethod yX5_isNumberUpTo, Cond.selects RX5 yX5_isNumberUpTo yX5_isNumberUpTo, Cond.code yX5_isNumberUpTo cX5_isNumberUpTo 2 (some .boolean), Cond.methodLink RX5 59 yX1_has, Cond.instanceMethod yX1_has, Cond.selects RX1 yX1_has yX1_has, Cond.code yX1_has cX1_has 2 (some .boolean)]
def wsX5_readItems_r6 : List Cond := [Cond.methodLink RX5 62 yX1_add, Cond.instanceMethod yX1_add, Cond.selects RX1 yX1_add yX1_add, Cond.code yX1_add cX1_add 4 none, Cond.fieldLink RX1 9 "SimonSays$Children" "slips" "[I", Cond.fieldLink RX1 15 "SimonSays$Children" "lates" "[I", Cond.fieldLink RX1 18 "SimonSays$Children" "copied" "[I", Cond.methodLink RX5 45 yX5_readLittle, Cond.instanceMethod yX5_readLittle, Cond.selects RX5 yX5_readLittle yX5_readLittle, Cond.code yX5_readLittle cX5_readLittle 2 (some .boolean), Cond.methodLink RX5 66 yX1_makeLittle, Cond.instanceMethod yX1_makeLittle, Cond.selects RX1 yX1_makeLittle yX1_makeLittle, Cond.code yX1_makeLittle cX1_makeLittle 2 none]
def wsX5_readItems : List Cond := .code yX5_readItems cX5_readItems 2 (some .int) :: ((wsX5_readItems_r1 ++ (wsX5_readItems_r2 ++ (wsX5_readItems_r3 ++ (wsX5_readItems_r4 ++ (wsX5_readItems_r5 ++ wsX5_readItems_r6))))) ++ wsX50 ++ wsX10 ++ wsX80)
def wsX5_fault : List Cond := .code yX5_fault cX5_fault 1 (some .int) :: ([.fieldLink RX5 39 "SimonSays$Reader" "start" "I"] ++ wsX50)
def wsX5_found : List Cond := .code yX5_found cX5_found 1 (some (.object "SimonSays$Children")) :: ([.fieldLink RX5 18 "SimonSays$Reader" "found" "LSimonSays$Children;"] ++ wsX50)
def wsX6_init : List Cond := .code yX6_init cX6_init 2 none :: ([.methodLink RX6 3 objectInit, .instanceMethod objectInit, .code objectInit ⟨#[0xb1]⟩ 1 none, .fieldLink RX6 9 "SimonSays$Round" "told" "LSimonSays$Children;", .fieldLink RX6 15 "SimonSays$Round" "lot" "I"] ++ wsX60)
def wsX6_startAnew : List Cond := .code yX6_startAnew cX6_startAnew 1 none :: ([.fieldLink RX6 9 "SimonSays$Round" "told" "LSimonSays$Children;", .methodLink RX6 19 yX1_everyone, .instanceMethod yX1_everyone, .selects RX1 yX1_everyone yX1_everyone, .initialized RX1, .code yX1_everyone cX1_everyone 1 (some .int), .fieldLink RX1 21 "SimonSays$Children" "size" "I", .methodLink RX6 25 yX6_become, .instanceMethod yX6_become, .selects RX6 yX6_become yX6_become, .initialized RX6, .code yX6_become cX6_become 3 none, .fieldLink RX6 29 "SimonSays$Round" "in" "I", .fieldLink RX6 32 "SimonSays$Round" "streak" "I"] ++ wsX60 ++ wsX10)
def wsX6_letIn : List Cond := .code yX6_letIn cX6_letIn 2 none :: ([.fieldLink RX6 29 "SimonSays$Round" "in" "I"] ++ wsX60)
def wsX6_draw : List Cond := .code yX6_draw cX6_draw 1 (some .int) :: ([.fieldLink RX6 15 "SimonSays$Round" "lot" "I", .constant RX6 74 (1103515245)] ++ wsX60)
def wsX6_obey_r1 : List Cond := [Cond.fieldLink RX6 9 "SimonSays$Round" "told" "LSimonSays$Children;", Cond.fieldLink RX6 32 "SimonSays$Round" "streak" "I", Cond.fieldLink RX6 29 "SimonSays$Round" "in" "I", Cond.methodLink RX6 54 yX1_size, Cond.instanceMethod yX1_size, Cond.selects RX1 yX1_size yX1_size, Cond.initialized RX1, Cond.code yX1_size cX1_size 1 (some .int), Cond.fieldLink RX1 21 "SimonSays$Children" "size" "I", Cond.methodLink RX6 57 yX6_isLeader, Cond.instanceMethod yX6_isLeader, Cond.selects RX6 yX6_isLeader yX6_isLeader, Cond.initialized RX6, Cond.code yX6_isLeader cX6_isLeader 2 (some .boolean), Cond.methodLink RX6 48 yX6_isIn, Cond.instanceMethod yX6_isIn, Cond.selects RX6 yX6_isIn yX6_isIn, Cond.code yX6_isIn cX6_isIn 2 (some .boolean), Cond.methodLink RX6 41 yX1_has, Cond.instanceMethod yX1_has, Cond.selects RX1 yX1_has yX1_has, Cond.code yX1_has cX1_has 2 (some .boolean), Cond.methodLink RX6 51 yX6_leaderOf, Cond.instanceMethod yX6_leaderOf]
def wsX6_obey_r2 : List Cond := [Cond.selects RX6 yX6_leaderOf yX6_leaderOf, Cond.code yX6_leaderOf cX6_leaderOf 5 (some .int), Cond.methodLink RX6 45 yX1_copiedBy, Cond.instanceMethod yX1_copiedBy, Cond.selects RX1 yX1_copiedBy yX1_copiedBy, Cond.code yX1_copiedBy cX1_copiedBy 2 (some .int), Cond.fieldLink RX1 18 "SimonSays$Children" "copied" "[I", Cond.methodLink RX1 49 yX1_has, Cond.methodLink RX6 60 yX6_draw, Cond.instanceMethod yX6_draw, Cond.selects RX6 yX6_draw yX6_draw, Cond.code yX6_draw cX6_draw 1 (some .int), Cond.fieldLink RX6 15 "SimonSays$Round" "lot" "I", Cond.constant RX6 74 (1103515245), Cond.methodLink RX6 63 yX1_errsOf, Cond.instanceMethod yX1_errsOf, Cond.selects RX1 yX1_errsOf yX1_errsOf, Cond.code yX1_errsOf cX1_errsOf 4 (some .int), Cond.methodLink RX1 53 Lib.Math.min.name, Cond.static Lib.Math.min.name, Cond.initialized "java/lang/Math", Cond.code Lib.Math.min.name Lib.Math.min.code 2 (some .int), Cond.methodLink RX1 31 yX1_slipOf, Cond.instanceMethod yX1_slipOf]
def wsX6_obey_r3 : List Cond := [Cond.selects RX1 yX1_slipOf yX1_slipOf, Cond.code yX1_slipOf cX1_slipOf 2 (some .int), Cond.fieldLink RX1 9 "SimonSays$Children" "slips" "[I", Cond.methodLink RX1 35 yX1_lateOf, Cond.instanceMethod yX1_lateOf, Cond.selects RX1 yX1_lateOf yX1_lateOf, Cond.code yX1_lateOf cX1_lateOf 2 (some .int), Cond.fieldLink RX1 15 "SimonSays$Children" "lates" "[I", Cond.methodLink RX6 67 yX6_groupOf, Cond.instanceMethod yX6_groupOf, Cond.selects RX6 yX6_groupOf yX6_groupOf, Cond.code yX6_groupOf cX6_groupOf 4 (some .int), Cond.static yX9_streakBehind, Cond.initialized RX9, Cond.code yX9_streakBehind cX9_streakBehind 2 (some .int), Cond.methodLink RX9 265 Lib.Math.min.name, Cond.methodLink RX6 25 yX6_become, Cond.instanceMethod yX6_become, Cond.selects RX6 yX6_become yX6_become, Cond.code yX6_become cX6_become 3 none]
def wsX6_obey : List Cond := .code yX6_obey cX6_obey 4 (some .int) :: ((wsX6_obey_r1 ++ (wsX6_obey_r2 ++ wsX6_obey_r3)) ++ wsX60 ++ wsX10)
def wsX6_fewestSaidAhead_r1 : List Cond := [Cond.fieldLink RX6 32 "SimonSays$Round" "streak" "I", Cond.fieldLink RX6 9 "SimonSays$Round" "told" "LSimonSays$Children;", Cond.methodLink RX6 51 yX6_leaderOf, Cond.instanceMethod yX6_leaderOf, Cond.selects RX6 yX6_leaderOf yX6_leaderOf, Cond.initialized RX6, Cond.code yX6_leaderOf cX6_leaderOf 5 (some .int), Cond.methodLink RX6 45 yX1_copiedBy, Cond.instanceMethod yX1_copiedBy, Cond.selects RX1 yX1_copiedBy yX1_copiedBy, Cond.initialized RX1, Cond.code yX1_copiedBy cX1_copiedBy 2 (some .int), Cond.fieldLink RX1 18 "SimonSays$Children" "copied" "[I", Cond.methodLink RX1 49 yX1_has, Cond.instanceMethod yX1_has, Cond.selects RX1 yX1_has yX1_has, Cond.code yX1_has cX1_has 2 (some .boolean), Cond.fieldLink RX1 21 "SimonSays$Children" "size" "I", Cond.methodLink RX6 48 yX6_isIn, Cond.instanceMethod yX6_isIn, Cond.selects RX6 yX6_isIn yX6_isIn, Cond.code yX6_isIn cX6_isIn 2 (some .boolean), Cond.fieldLink RX6 29 "SimonSays$Round" "in" "I", Cond.methodLink RX6 41 yX1_has]
def wsX6_fewestSaidAhead_r2 : List Cond := [Cond.methodLink RX6 63 yX1_errsOf, Cond.instanceMethod yX1_errsOf, Cond.selects RX1 yX1_errsOf yX1_errsOf, Cond.code yX1_errsOf cX1_errsOf 4 (some .int), Cond.methodLink RX1 53 Lib.Math.min.name, Cond.static Lib.Math.min.name, Cond.initialized "java/lang/Math", Cond.code Lib.Math.min.name Lib.Math.min.code 2 (some .int), Cond.methodLink RX1 31 yX1_slipOf, Cond.instanceMethod yX1_slipOf, Cond.selects RX1 yX1_slipOf yX1_slipOf, Cond.code yX1_slipOf cX1_slipOf 2 (some .int), Cond.fieldLink RX1 9 "SimonSays$Children" "slips" "[I", Cond.methodLink RX1 35 yX1_lateOf, Cond.instanceMethod yX1_lateOf, Cond.selects RX1 yX1_lateOf yX1_lateOf, Cond.code yX1_lateOf cX1_lateOf 2 (some .int), Cond.fieldLink RX1 15 "SimonSays$Children" "lates" "[I", Cond.static yX9_streakBehind, Cond.initialized RX9, Cond.code yX9_streakBehind cX9_streakBehind 2 (some .int), Cond.methodLink RX9 265 Lib.Math.min.name]
def wsX6_fewestSaidAhead : List Cond := .code yX6_fewestSaidAhead cX6_fewestSaidAhead 6 (some .int) :: ((wsX6_fewestSaidAhead_r1 ++ wsX6_fewestSaidAhead_r2) ++ wsX60 ++ wsX10)
def wsX6_isFair : List Cond := .code yX6_isFair cX6_isFair 3 (some .boolean) :: ([.fieldLink RX6 9 "SimonSays$Round" "told" "LSimonSays$Children;", .fieldLink RX6 29 "SimonSays$Round" "in" "I", .methodLink RX6 75 yX1_littleOnes, .instanceMethod yX1_littleOnes, .selects RX1 yX1_littleOnes yX1_littleOnes, .initialized RX1, .code yX1_littleOnes cX1_littleOnes 1 (some .int), .fieldLink RX1 25 "SimonSays$Children" "littleOnes" "I"] ++ wsX60 ++ wsX10)
def wsX7_init : List Cond := .code yX7_init cX7_init 1 none :: ([.methodLink RX7 3 objectInit, .instanceMethod objectInit, .code objectInit ⟨#[0xb1]⟩ 1 none, .arrayClass .int, .fieldLink RX7 9 "SimonSays$Row" "figures" "[I"] ++ wsX70)
def wsX8_init : List Cond := .code yX8_init cX8_init 1 none :: ([.methodLink RX8 3 objectInit, .instanceMethod objectInit, .code objectInit ⟨#[0xb1]⟩ 1 none, .arrayClass .int, .fieldLink RX8 9 "SimonSays$Text" "bytes" "[I"] ++ wsX80)
def wsX8_append : List Cond := .code yX8_append cX8_append 2 none :: ([.fieldLink RX8 15 "SimonSays$Text" "length" "I", .fieldLink RX8 9 "SimonSays$Text" "bytes" "[I"] ++ wsX80)
def wsX8_drop : List Cond := .code yX8_drop cX8_drop 1 none :: ([.fieldLink RX8 15 "SimonSays$Text" "length" "I"] ++ wsX80)
def wsX9_init_r1 : List Cond := [Cond.methodLink RX9 1 objectInit, Cond.instanceMethod objectInit, Cond.code objectInit ⟨#[0xb1]⟩ 1 none, Cond.classLink RX9 7 RX8, Cond.instantiable RX8 2, Cond.initialized RX8, Cond.fieldLink RX9 10 "SimonSays" "text" "LSimonSays$Text;", Cond.classLink RX9 16 RX5, Cond.instantiable RX5 6, Cond.initialized RX5, Cond.fieldLink RX9 21 "SimonSays" "reader" "LSimonSays$Reader;", Cond.classLink RX9 25 RX1, Cond.instantiable RX1 5, Cond.initialized RX1, Cond.fieldLink RX9 28 "SimonSays" "told" "LSimonSays$Children;", Cond.classLink RX9 32 RX6, Cond.instantiable RX6 4, Cond.initialized RX6, Cond.fieldLink RX9 37 "SimonSays" "round" "LSimonSays$Round;", Cond.classLink RX9 41 RX2, Cond.instantiable RX2 3, Cond.initialized RX2, Cond.fieldLink RX9 44 "SimonSays" "history" "LSimonSays$History;", Cond.classLink RX9 48 RX3]
def wsX9_init_r2 : List Cond := [Cond.fieldLink RX9 50 "SimonSays" "images" "[LSimonSays$Image;", Cond.instantiable RX3 4, Cond.initialized RX3, Cond.classLink RX9 55 RX7, Cond.instantiable RX7 2, Cond.initialized RX7, Cond.fieldLink RX9 58 "SimonSays" "asked" "LSimonSays$Row;", Cond.classLink RX9 62 RX0, Cond.instantiable RX0 4, Cond.initialized RX0, Cond.fieldLink RX9 67 "SimonSays" "chances" "LSimonSays$Chances;", Cond.classLink RX9 71 RX4, Cond.instantiable RX4 3, Cond.initialized RX4, Cond.fieldLink RX9 76 "SimonSays" "kinds" "LSimonSays$Kinds;", Cond.methodLink RX9 9 yX8_init, Cond.instanceMethod yX8_init, Cond.code yX8_init cX8_init 1 none, Cond.methodLink RX8 3 objectInit, Cond.arrayClass .int, Cond.fieldLink RX8 9 "SimonSays$Text" "bytes" "[I", Cond.methodLink RX9 18 yX5_init, Cond.instanceMethod yX5_init, Cond.code yX5_init cX5_init 2 none]
def wsX9_init_r3 : List Cond := [Cond.methodLink RX5 3 objectInit, Cond.fieldLink RX5 9 "SimonSays$Reader" "text" "LSimonSays$Text;", Cond.classLink RX5 15 RX1, Cond.fieldLink RX5 18 "SimonSays$Reader" "found" "LSimonSays$Children;", Cond.methodLink RX5 17 yX1_init, Cond.instanceMethod yX1_init, Cond.code yX1_init cX1_init 1 none, Cond.methodLink RX1 3 objectInit, Cond.fieldLink RX1 9 "SimonSays$Children" "slips" "[I", Cond.fieldLink RX1 15 "SimonSays$Children" "lates" "[I", Cond.fieldLink RX1 18 "SimonSays$Children" "copied" "[I", Cond.methodLink RX9 27 yX1_init, Cond.methodLink RX9 34 yX6_init, Cond.instanceMethod yX6_init, Cond.code yX6_init cX6_init 2 none, Cond.methodLink RX6 3 objectInit, Cond.fieldLink RX6 9 "SimonSays$Round" "told" "LSimonSays$Children;", Cond.fieldLink RX6 15 "SimonSays$Round" "lot" "I", Cond.methodLink RX9 43 yX2_init, Cond.instanceMethod yX2_init, Cond.code yX2_init cX2_init 1 none, Cond.methodLink RX2 3 objectInit, Cond.fieldLink RX2 9 "SimonSays$History" "ins" "[I", Cond.fieldLink RX2 15 "SimonSays$History" "streaks" "[I"]
def wsX9_init_r4 : List Cond := [Cond.methodLink RX9 54 yX3_init, Cond.instanceMethod yX3_init, Cond.code yX3_init cX3_init 1 none, Cond.methodLink RX3 1 objectInit, Cond.fieldLink RX3 7 "SimonSays$Image" "kept" "Z", Cond.methodLink RX9 57 yX7_init, Cond.instanceMethod yX7_init, Cond.code yX7_init cX7_init 1 none, Cond.methodLink RX7 3 objectInit, Cond.fieldLink RX7 9 "SimonSays$Row" "figures" "[I", Cond.methodLink RX9 64 yX0_init, Cond.instanceMethod yX0_init, Cond.code yX0_init cX0_init 4 none, Cond.methodLink RX0 3 objectInit, Cond.fieldLink RX0 9 "SimonSays$Chances" "told" "LSimonSays$Children;", Cond.fieldLink RX0 15 "SimonSays$Chances" "round" "LSimonSays$Round;", Cond.fieldLink RX0 19 "SimonSays$Chances" "row" "LSimonSays$Row;", Cond.arrayClass .long, Cond.fieldLink RX0 23 "SimonSays$Chances" "byNumber" "[J", Cond.methodLink RX9 73 yX4_init, Cond.instanceMethod yX4_init, Cond.code yX4_init cX4_init 3 none, Cond.methodLink RX4 3 objectInit, Cond.fieldLink RX4 9 "SimonSays$Kinds" "told" "LSimonSays$Children;"]
def wsX9_init_r5 : List Cond := [Cond.fieldLink RX4 15 "SimonSays$Kinds" "round" "LSimonSays$Round;"]
def wsX9_init : List Cond := .code yX9_init cX9_init 2 none :: ((wsX9_init_r1 ++ (wsX9_init_r2 ++ (wsX9_init_r3 ++ (wsX9_init_r4 ++ wsX9_init_r5)))) ++ wsX80 ++ wsX90 ++ wsX50 ++ wsX10 ++ wsX60 ++ wsX20 ++ wsX30 ++ wsX70 ++ wsX00 ++ wsX40)
def wsX9_type : List Cond := .code yX9_type cX9_type 5 (some .int) :: ([.fieldLink RX9 10 "SimonSays" "text" "LSimonSays$Text;", .methodLink RX9 80 yX8_length, .instanceMethod yX8_length, .selects RX8 yX8_length yX8_length, .initialized RX8, .code yX8_length cX8_length 1 (some .int), .fieldLink RX8 15 "SimonSays$Text" "length" "I", .methodLink RX9 84 yX8_append, .instanceMethod yX8_append, .selects RX8 yX8_append yX8_append, .code yX8_append cX8_append 2 none, .fieldLink RX8 9 "SimonSays$Text" "bytes" "[I"] ++ wsX90 ++ wsX80)
def wsX9_clear : List Cond := .code yX9_clear cX9_clear 2 (some .int) :: ([.fieldLink RX9 10 "SimonSays" "text" "LSimonSays$Text;", .methodLink RX9 80 yX8_length, .instanceMethod yX8_length, .selects RX8 yX8_length yX8_length, .initialized RX8, .code yX8_length cX8_length 1 (some .int), .fieldLink RX8 15 "SimonSays$Text" "length" "I", .methodLink RX9 88 yX8_drop, .instanceMethod yX8_drop, .selects RX8 yX8_drop yX8_drop, .code yX8_drop cX8_drop 1 none] ++ wsX90 ++ wsX80)
def wsX9_children_r1 : List Cond := [Cond.fieldLink RX9 21 "SimonSays" "reader" "LSimonSays$Reader;", Cond.fieldLink RX9 28 "SimonSays" "told" "LSimonSays$Children;", Cond.fieldLink RX9 37 "SimonSays" "round" "LSimonSays$Round;", Cond.fieldLink RX9 44 "SimonSays" "history" "LSimonSays$History;", Cond.fieldLink RX9 50 "SimonSays" "images" "[LSimonSays$Image;", Cond.fieldLink RX9 10 "SimonSays" "text" "LSimonSays$Text;", Cond.methodLink RX9 91 yX5_readItems, Cond.instanceMethod yX5_readItems, Cond.selects RX5 yX5_readItems yX5_readItems, Cond.initialized RX5, Cond.code yX5_readItems cX5_readItems 2 (some .int), Cond.fieldLink RX5 18 "SimonSays$Reader" "found" "LSimonSays$Children;", Cond.fieldLink RX5 25 "SimonSays$Reader" "end" "I", Cond.fieldLink RX5 32 "SimonSays$Reader" "token" "I", Cond.methodLink RX5 22 yX1_forget, Cond.instanceMethod yX1_forget, Cond.selects RX1 yX1_forget yX1_forget, Cond.initialized RX1, Cond.code yX1_forget cX1_forget 1 none, Cond.fieldLink RX1 21 "SimonSays$Children" "size" "I", Cond.fieldLink RX1 25 "SimonSays$Children" "littleOnes" "I", Cond.methodLink RX5 29 yX5_advance, Cond.instanceMethod yX5_advance, Cond.selects RX5 yX5_advance yX5_advance]
def wsX9_children_r2 : List Cond := [Cond.code yX5_advance cX5_advance 2 none, Cond.fieldLink RX5 39 "SimonSays$Reader" "start" "I", Cond.fieldLink RX5 9 "SimonSays$Reader" "text" "LSimonSays$Text;", Cond.methodLink RX5 70 yX8_length, Cond.instanceMethod yX8_length, Cond.selects RX8 yX8_length yX8_length, Cond.initialized RX8, Cond.code yX8_length cX8_length 1 (some .int), Cond.fieldLink RX8 15 "SimonSays$Text" "length" "I", Cond.methodLink RX5 75 yX8_byteAt, Cond.instanceMethod yX8_byteAt, Cond.selects RX8 yX8_byteAt yX8_byteAt, Cond.code yX8_byteAt cX8_byteAt 2 (some .int), Cond.fieldLink RX8 9 "SimonSays$Text" "bytes" "[I", Cond.methodLink RX5 79 yX5_isLetter, Cond.static yX5_isLetter, Cond.code yX5_isLetter cX5_isLetter 1 (some .boolean), Cond.methodLink RX5 82 yX5_advanceOverWord, Cond.instanceMethod yX5_advanceOverWord, Cond.selects RX5 yX5_advanceOverWord yX5_advanceOverWord, Cond.code yX5_advanceOverWord cX5_advanceOverWord 1 none, Cond.methodLink RX5 93 yX5_spells, Cond.instanceMethod yX5_spells, Cond.selects RX5 yX5_spells yX5_spells]
def wsX9_children_r3 : List Cond := [Cond.code yX5_spells cX5_spells 3 (some .boolean), Cond.methodLink RX5 105 yJ0_length_8abf5, Cond.instanceMethod yJ0_length_8abf5, Cond.selects RJ0 yJ0_length_8abf5 yJ0_length_8abf5, Cond.initialized RJ0, Cond.code yJ0_length_8abf5 cJ0_length_8abf5 1 (some .int), Cond.fieldLink RJ0 9 "java/lang/String" "value" "[B", Cond.methodLink RJ0 335 yJ0_coder_7d493, Cond.instanceMethod yJ0_coder_7d493, Cond.selects RJ0 yJ0_coder_7d493 yJ0_coder_7d493, Cond.code yJ0_coder_7d493 cJ0_coder_7d493 1 (some .byte), Cond.fieldLink RJ0 38 "java/lang/String" "COMPACT_STRINGS" "Z", Cond.fieldLink RJ0 15 "java/lang/String" "coder" "B", Cond.methodLink RX5 108 yJ0_charAt_5068e, Cond.instanceMethod yJ0_charAt_5068e, Cond.selects RJ0 yJ0_charAt_5068e yJ0_charAt_5068e, Cond.code yJ0_charAt_5068e cJ0_charAt_5068e 2 (some .char), Cond.methodLink RJ0 492 yJ0_isLatin1_aae02, Cond.instanceMethod yJ0_isLatin1_aae02, Cond.selects RJ0 yJ0_isLatin1_aae02 yJ0_isLatin1_aae02, Cond.code yJ0_isLatin1_aae02 cJ0_isLatin1_aae02 1 (some .boolean), Cond.methodLink RJ0 495 yJ1_charAt_3b067, Cond.static yJ1_charAt_3b067, Cond.initialized RJ1]
def wsX9_children_r4 : List Cond := [Cond.code yJ1_charAt_3b067 cJ1_charAt_3b067 2 (some .char), Cond.methodLink RJ1 9 yJ0_checkIndex_df160, Cond.static yJ0_checkIndex_df160, Cond.code yJ0_checkIndex_df160 cJ0_checkIndex_df160 2 none, Cond.fieldLink RJ0 1053 "jdk/internal/util/Preconditions" "SIOOBE_FORMATTER" "Ljava/util/function/BiFunction;", Cond.methodLink RJ0 1059 yJ3_checkIndex_8e157, Cond.static yJ3_checkIndex_8e157, Cond.initialized RJ3, Cond.code yJ3_checkIndex_8e157 cJ3_checkIndex_8e157 3 (some .int), Cond.methodLink RJ0 498 yJ2_charAt_3b067, Cond.static yJ2_charAt_3b067, Cond.initialized RJ2, Cond.code yJ2_charAt_3b067 cJ2_charAt_3b067 2 (some .char), Cond.methodLink RJ2 67 yJ2_checkIndex_2214a, Cond.static yJ2_checkIndex_2214a, Cond.code yJ2_checkIndex_2214a cJ2_checkIndex_2214a 2 none, Cond.methodLink RJ2 48 yJ2_length_9d52b, Cond.static yJ2_length_9d52b, Cond.code yJ2_length_9d52b cJ2_length_9d52b 1 (some .int), Cond.methodLink RJ2 414 yJ0_checkIndex_df160, Cond.methodLink RJ2 71 yJ2_getChar_3b067, Cond.static yJ2_getChar_3b067, Cond.code yJ2_getChar_3b067 cJ2_getChar_3b067 2 (some .char), Cond.fieldLink RJ2 44 "java/lang/StringUTF16" "$assertionsDisabled" "Z"]
def wsX9_children_r5 : List Cond := [Cond.fieldLink RJ2 59 "java/lang/StringUTF16" "HI_BYTE_SHIFT" "I", Cond.fieldLink RJ2 63 "java/lang/StringUTF16" "LO_BYTE_SHIFT" "I", Cond.methodLink RX5 85 yX5_isDigit, Cond.static yX5_isDigit, Cond.code yX5_isDigit cX5_isDigit 1 (some .boolean), Cond.methodLink RX5 88 yX5_advanceOverNumber, Cond.instanceMethod yX5_advanceOverNumber, Cond.selects RX5 yX5_advanceOverNumber yX5_advanceOverNumber, Cond.code yX5_advanceOverNumber cX5_advanceOverNumber 3 none, Cond.fieldLink RX5 56 "SimonSays$Reader" "value" "I", Cond.methodLink RX5 99 Lib.Math.min.name, Cond.static Lib.Math.min.name, Cond.initialized "java/lang/Math", Cond.code Lib.Math.min.name Lib.Math.min.code 2 (some .int), Cond.methodLink RX5 35 yX5_readItem, Cond.instanceMethod yX5_readItem, Cond.selects RX5 yX5_readItem yX5_readItem, Cond.code yX5_readItem cX5_readItem 1 (some .boolean), Cond.methodLink RX5 42 yX5_readChild, Cond.instanceMethod yX5_readChild, Cond.selects RX5 yX5_readChild yX5_readChild, Cond.code yX5_readChild cX5_readChild 4 (some .boolean), Cond.methodLink RX5 48 yX1_size, Cond.instanceMethod yX1_size]
def wsX9_children_r6 : List Cond := [Cond.selects RX1 yX1_size yX1_size, Cond.code yX1_size cX1_size 1 (some .int), Cond.methodLink RX5 52 yX5_isNumberUpTo, Cond.instanceMethod yX5_isNumberUpTo, Cond.selects RX5 yX5_isNumberUpTo yX5_isNumberUpTo, Cond.code yX5_isNumberUpTo cX5_isNumberUpTo 2 (some .boolean), Cond.methodLink RX5 59 yX1_has, Cond.instanceMethod yX1_has, Cond.selects RX1 yX1_has yX1_has, Cond.code yX1_has cX1_has 2 (some .boolean), Cond.methodLink RX5 62 yX1_add, Cond.instanceMethod yX1_add, Cond.selects RX1 yX1_add yX1_add, Cond.code yX1_add cX1_add 4 none, Cond.fieldLink RX1 9 "SimonSays$Children" "slips" "[I", Cond.fieldLink RX1 15 "SimonSays$Children" "lates" "[I", Cond.fieldLink RX1 18 "SimonSays$Children" "copied" "[I", Cond.methodLink RX5 45 yX5_readLittle, Cond.instanceMethod yX5_readLittle, Cond.selects RX5 yX5_readLittle yX5_readLittle, Cond.code yX5_readLittle cX5_readLittle 2 (some .boolean), Cond.methodLink RX5 66 yX1_makeLittle, Cond.instanceMethod yX1_makeLittle, Cond.selects RX1 yX1_makeLittle yX1_makeLittle]
def wsX9_children_r7 : List Cond := [Cond.code yX1_makeLittle cX1_makeLittle 2 none, Cond.methodLink RX9 94 yX5_fault, Cond.instanceMethod yX5_fault, Cond.selects RX5 yX5_fault yX5_fault, Cond.code yX5_fault cX5_fault 1 (some .int), Cond.methodLink RX9 97 yX5_found, Cond.instanceMethod yX5_found, Cond.selects RX5 yX5_found yX5_found, Cond.code yX5_found cX5_found 1 (some (.object "SimonSays$Children")), Cond.methodLink RX9 101 yX1_takeOver, Cond.instanceMethod yX1_takeOver, Cond.selects RX1 yX1_takeOver yX1_takeOver, Cond.code yX1_takeOver cX1_takeOver 3 none, Cond.methodLink RX1 28 yX1_forget, Cond.methodLink RX1 31 yX1_slipOf, Cond.instanceMethod yX1_slipOf, Cond.selects RX1 yX1_slipOf yX1_slipOf, Cond.code yX1_slipOf cX1_slipOf 2 (some .int), Cond.methodLink RX1 49 yX1_has, Cond.methodLink RX1 35 yX1_lateOf, Cond.instanceMethod yX1_lateOf, Cond.selects RX1 yX1_lateOf yX1_lateOf, Cond.code yX1_lateOf cX1_lateOf 2 (some .int), Cond.methodLink RX1 38 yX1_copiedBy]
def wsX9_children_r8 : List Cond := [Cond.instanceMethod yX1_copiedBy, Cond.selects RX1 yX1_copiedBy yX1_copiedBy, Cond.code yX1_copiedBy cX1_copiedBy 2 (some .int), Cond.methodLink RX1 41 yX1_add, Cond.methodLink RX9 104 yX6_startAnew, Cond.instanceMethod yX6_startAnew, Cond.selects RX6 yX6_startAnew yX6_startAnew, Cond.initialized RX6, Cond.code yX6_startAnew cX6_startAnew 1 none, Cond.fieldLink RX6 9 "SimonSays$Round" "told" "LSimonSays$Children;", Cond.methodLink RX6 19 yX1_everyone, Cond.instanceMethod yX1_everyone, Cond.selects RX1 yX1_everyone yX1_everyone, Cond.code yX1_everyone cX1_everyone 1 (some .int), Cond.methodLink RX6 25 yX6_become, Cond.instanceMethod yX6_become, Cond.selects RX6 yX6_become yX6_become, Cond.code yX6_become cX6_become 3 none, Cond.fieldLink RX6 29 "SimonSays$Round" "in" "I", Cond.fieldLink RX6 32 "SimonSays$Round" "streak" "I", Cond.methodLink RX9 107 yX2_forget, Cond.instanceMethod yX2_forget, Cond.selects RX2 yX2_forget yX2_forget, Cond.initialized RX2]
def wsX9_children_r9 : List Cond := [Cond.code yX2_forget cX2_forget 1 none, Cond.fieldLink RX2 18 "SimonSays$History" "size" "I", Cond.methodLink RX9 110 yX3_forget, Cond.instanceMethod yX3_forget, Cond.selects RX3 yX3_forget yX3_forget, Cond.initialized RX3, Cond.code yX3_forget cX3_forget 1 none, Cond.fieldLink RX3 7 "SimonSays$Image" "kept" "Z", Cond.methodLink RX9 88 yX8_drop, Cond.instanceMethod yX8_drop, Cond.selects RX8 yX8_drop yX8_drop, Cond.code yX8_drop cX8_drop 1 none]
def wsX9_children : List Cond := .code yX9_children cX9_children 3 (some .int) :: ((wsX9_children_r1 ++ (wsX9_children_r2 ++ (wsX9_children_r3 ++ (wsX9_children_r4 ++ (wsX9_children_r5 ++ (wsX9_children_r6 ++ (wsX9_children_r7 ++ (wsX9_children_r8 ++ wsX9_children_r9)))))))) ++ wsX90 ++ wsX50 ++ wsX10 ++ wsX80 ++ wsX60 ++ wsX20 ++ wsX30)
def wsX9_child_r1 : List Cond := [Cond.fieldLink RX9 28 "SimonSays" "told" "LSimonSays$Children;", Cond.fieldLink RX9 37 "SimonSays" "round" "LSimonSays$Round;", Cond.methodLink RX9 111 yX1_has, Cond.instanceMethod yX1_has, Cond.selects RX1 yX1_has yX1_has, Cond.initialized RX1, Cond.code yX1_has cX1_has 2 (some .boolean), Cond.fieldLink RX1 21 "SimonSays$Children" "size" "I", Cond.methodLink RX9 115 yX1_slipOf, Cond.instanceMethod yX1_slipOf, Cond.selects RX1 yX1_slipOf yX1_slipOf, Cond.code yX1_slipOf cX1_slipOf 2 (some .int), Cond.fieldLink RX1 9 "SimonSays$Children" "slips" "[I", Cond.methodLink RX1 49 yX1_has, Cond.methodLink RX9 119 yX1_lateOf, Cond.instanceMethod yX1_lateOf, Cond.selects RX1 yX1_lateOf yX1_lateOf, Cond.code yX1_lateOf cX1_lateOf 2 (some .int), Cond.fieldLink RX1 15 "SimonSays$Children" "lates" "[I", Cond.methodLink RX9 122 yX1_copiedBy, Cond.instanceMethod yX1_copiedBy, Cond.selects RX1 yX1_copiedBy yX1_copiedBy, Cond.code yX1_copiedBy cX1_copiedBy 2 (some .int), Cond.fieldLink RX1 18 "SimonSays$Children" "copied" "[I"]
def wsX9_child_r2 : List Cond := [Cond.methodLink RX9 125 yX1_isLittle, Cond.instanceMethod yX1_isLittle, Cond.selects RX1 yX1_isLittle yX1_isLittle, Cond.code yX1_isLittle cX1_isLittle 2 (some .boolean), Cond.fieldLink RX1 25 "SimonSays$Children" "littleOnes" "I", Cond.methodLink RX9 128 yX6_isIn, Cond.instanceMethod yX6_isIn, Cond.selects RX6 yX6_isIn yX6_isIn, Cond.initialized RX6, Cond.code yX6_isIn cX6_isIn 2 (some .boolean), Cond.fieldLink RX6 9 "SimonSays$Round" "told" "LSimonSays$Children;", Cond.fieldLink RX6 29 "SimonSays$Round" "in" "I", Cond.methodLink RX6 41 yX1_has, Cond.methodLink RX9 131 yX6_leaderOf, Cond.instanceMethod yX6_leaderOf, Cond.selects RX6 yX6_leaderOf yX6_leaderOf, Cond.code yX6_leaderOf cX6_leaderOf 5 (some .int), Cond.methodLink RX6 45 yX1_copiedBy, Cond.methodLink RX6 48 yX6_isIn]
def wsX9_child : List Cond := .code yX9_child cX9_child 3 (some .int) :: ((wsX9_child_r1 ++ wsX9_child_r2) ++ wsX90 ++ wsX10 ++ wsX60)
def wsX9_now_r1 : List Cond := [Cond.fieldLink RX9 37 "SimonSays" "round" "LSimonSays$Round;", Cond.fieldLink RX9 44 "SimonSays" "history" "LSimonSays$History;", Cond.methodLink RX9 134 yX6_whoIsIn, Cond.instanceMethod yX6_whoIsIn, Cond.selects RX6 yX6_whoIsIn yX6_whoIsIn, Cond.initialized RX6, Cond.code yX6_whoIsIn cX6_whoIsIn 1 (some .int), Cond.fieldLink RX6 29 "SimonSays$Round" "in" "I", Cond.methodLink RX9 137 yX6_streak, Cond.instanceMethod yX6_streak, Cond.selects RX6 yX6_streak yX6_streak, Cond.code yX6_streak cX6_streak 1 (some .int), Cond.fieldLink RX6 32 "SimonSays$Round" "streak" "I", Cond.methodLink RX9 140 yX6_isFair, Cond.instanceMethod yX6_isFair, Cond.selects RX6 yX6_isFair yX6_isFair, Cond.code yX6_isFair cX6_isFair 3 (some .boolean), Cond.fieldLink RX6 9 "SimonSays$Round" "told" "LSimonSays$Children;", Cond.methodLink RX6 75 yX1_littleOnes, Cond.instanceMethod yX1_littleOnes, Cond.selects RX1 yX1_littleOnes yX1_littleOnes, Cond.initialized RX1, Cond.code yX1_littleOnes cX1_littleOnes 1 (some .int), Cond.fieldLink RX1 25 "SimonSays$Children" "littleOnes" "I"]
def wsX9_now_r2 : List Cond := [Cond.methodLink RX9 144 yX2_size, Cond.instanceMethod yX2_size, Cond.selects RX2 yX2_size yX2_size, Cond.initialized RX2, Cond.code yX2_size cX2_size 1 (some .int), Cond.fieldLink RX2 18 "SimonSays$History" "size" "I"]
def wsX9_now : List Cond := .code yX9_now cX9_now 2 (some .int) :: ((wsX9_now_r1 ++ wsX9_now_r2) ++ wsX90 ++ wsX60 ++ wsX10 ++ wsX20)
def wsX9_errs_r1 : List Cond := [Cond.fieldLink RX9 28 "SimonSays" "told" "LSimonSays$Children;", Cond.fieldLink RX9 37 "SimonSays" "round" "LSimonSays$Round;", Cond.methodLink RX9 111 yX1_has, Cond.instanceMethod yX1_has, Cond.selects RX1 yX1_has yX1_has, Cond.initialized RX1, Cond.code yX1_has cX1_has 2 (some .boolean), Cond.fieldLink RX1 21 "SimonSays$Children" "size" "I", Cond.methodLink RX9 147 yX9_isOrder, Cond.static yX9_isOrder, Cond.initialized RX9, Cond.code yX9_isOrder cX9_isOrder 1 (some .boolean), Cond.methodLink RX9 128 yX6_isIn, Cond.instanceMethod yX6_isIn, Cond.selects RX6 yX6_isIn yX6_isIn, Cond.initialized RX6, Cond.code yX6_isIn cX6_isIn 2 (some .boolean), Cond.fieldLink RX6 9 "SimonSays$Round" "told" "LSimonSays$Children;", Cond.fieldLink RX6 29 "SimonSays$Round" "in" "I", Cond.methodLink RX6 41 yX1_has, Cond.methodLink RX9 137 yX6_streak, Cond.instanceMethod yX6_streak, Cond.selects RX6 yX6_streak yX6_streak, Cond.code yX6_streak cX6_streak 1 (some .int)]
def wsX9_errs_r2 : List Cond := [Cond.fieldLink RX6 32 "SimonSays$Round" "streak" "I", Cond.methodLink RX9 150 yX1_errsOf, Cond.instanceMethod yX1_errsOf, Cond.selects RX1 yX1_errsOf yX1_errsOf, Cond.code yX1_errsOf cX1_errsOf 4 (some .int), Cond.methodLink RX1 53 Lib.Math.min.name, Cond.static Lib.Math.min.name, Cond.initialized "java/lang/Math", Cond.code Lib.Math.min.name Lib.Math.min.code 2 (some .int), Cond.methodLink RX1 31 yX1_slipOf, Cond.instanceMethod yX1_slipOf, Cond.selects RX1 yX1_slipOf yX1_slipOf, Cond.code yX1_slipOf cX1_slipOf 2 (some .int), Cond.fieldLink RX1 9 "SimonSays$Children" "slips" "[I", Cond.methodLink RX1 49 yX1_has, Cond.methodLink RX1 35 yX1_lateOf, Cond.instanceMethod yX1_lateOf, Cond.selects RX1 yX1_lateOf yX1_lateOf, Cond.code yX1_lateOf cX1_lateOf 2 (some .int), Cond.fieldLink RX1 15 "SimonSays$Children" "lates" "[I"]
def wsX9_errs : List Cond := .code yX9_errs cX9_errs 3 (some .int) :: ((wsX9_errs_r1 ++ wsX9_errs_r2) ++ wsX90 ++ wsX10 ++ wsX60)
def wsX9_call_r1 : List Cond := [Cond.fieldLink RX9 37 "SimonSays" "round" "LSimonSays$Round;", Cond.fieldLink RX9 44 "SimonSays" "history" "LSimonSays$History;", Cond.methodLink RX9 147 yX9_isOrder, Cond.static yX9_isOrder, Cond.initialized RX9, Cond.code yX9_isOrder cX9_isOrder 1 (some .boolean), Cond.methodLink RX9 134 yX6_whoIsIn, Cond.instanceMethod yX6_whoIsIn, Cond.selects RX6 yX6_whoIsIn yX6_whoIsIn, Cond.initialized RX6, Cond.code yX6_whoIsIn cX6_whoIsIn 1 (some .int), Cond.fieldLink RX6 29 "SimonSays$Round" "in" "I", Cond.methodLink RX9 137 yX6_streak, Cond.instanceMethod yX6_streak, Cond.selects RX6 yX6_streak yX6_streak, Cond.code yX6_streak cX6_streak 1 (some .int), Cond.fieldLink RX6 32 "SimonSays$Round" "streak" "I", Cond.methodLink RX9 154 yX2_add, Cond.instanceMethod yX2_add, Cond.selects RX2 yX2_add yX2_add, Cond.initialized RX2, Cond.code yX2_add cX2_add 3 none, Cond.fieldLink RX2 18 "SimonSays$History" "size" "I", Cond.fieldLink RX2 9 "SimonSays$History" "ins" "[I"]
def wsX9_call_r2 : List Cond := [Cond.fieldLink RX2 15 "SimonSays$History" "streaks" "[I", Cond.methodLink RX2 22 yX2_loseOldest, Cond.instanceMethod yX2_loseOldest, Cond.selects RX2 yX2_loseOldest yX2_loseOldest, Cond.code yX2_loseOldest cX2_loseOldest 1 none, Cond.methodLink RX2 25 arraycopyName, Cond.native arraycopyName, Cond.static arraycopyName, Cond.initialized "java/lang/System", Cond.methodLink RX9 158 yX6_obey, Cond.instanceMethod yX6_obey, Cond.selects RX6 yX6_obey yX6_obey, Cond.code yX6_obey cX6_obey 4 (some .int), Cond.fieldLink RX6 9 "SimonSays$Round" "told" "LSimonSays$Children;", Cond.methodLink RX6 54 yX1_size, Cond.instanceMethod yX1_size, Cond.selects RX1 yX1_size yX1_size, Cond.initialized RX1, Cond.code yX1_size cX1_size 1 (some .int), Cond.fieldLink RX1 21 "SimonSays$Children" "size" "I", Cond.methodLink RX6 57 yX6_isLeader, Cond.instanceMethod yX6_isLeader, Cond.selects RX6 yX6_isLeader yX6_isLeader, Cond.code yX6_isLeader cX6_isLeader 2 (some .boolean)]
def wsX9_call_r3 : List Cond := [Cond.methodLink RX6 48 yX6_isIn, Cond.instanceMethod yX6_isIn, Cond.selects RX6 yX6_isIn yX6_isIn, Cond.code yX6_isIn cX6_isIn 2 (some .boolean), Cond.methodLink RX6 41 yX1_has, Cond.instanceMethod yX1_has, Cond.selects RX1 yX1_has yX1_has, Cond.code yX1_has cX1_has 2 (some .boolean), Cond.methodLink RX6 51 yX6_leaderOf, Cond.instanceMethod yX6_leaderOf, Cond.selects RX6 yX6_leaderOf yX6_leaderOf, Cond.code yX6_leaderOf cX6_leaderOf 5 (some .int), Cond.methodLink RX6 45 yX1_copiedBy, Cond.instanceMethod yX1_copiedBy, Cond.selects RX1 yX1_copiedBy yX1_copiedBy, Cond.code yX1_copiedBy cX1_copiedBy 2 (some .int), Cond.fieldLink RX1 18 "SimonSays$Children" "copied" "[I", Cond.methodLink RX1 49 yX1_has, Cond.methodLink RX6 60 yX6_draw, Cond.instanceMethod yX6_draw, Cond.selects RX6 yX6_draw yX6_draw, Cond.code yX6_draw cX6_draw 1 (some .int), Cond.fieldLink RX6 15 "SimonSays$Round" "lot" "I", Cond.constant RX6 74 (1103515245)]
def wsX9_call_r4 : List Cond := [Cond.methodLink RX6 63 yX1_errsOf, Cond.instanceMethod yX1_errsOf, Cond.selects RX1 yX1_errsOf yX1_errsOf, Cond.code yX1_errsOf cX1_errsOf 4 (some .int), Cond.methodLink RX1 53 Lib.Math.min.name, Cond.static Lib.Math.min.name, Cond.initialized "java/lang/Math", Cond.code Lib.Math.min.name Lib.Math.min.code 2 (some .int), Cond.methodLink RX1 31 yX1_slipOf, Cond.instanceMethod yX1_slipOf, Cond.selects RX1 yX1_slipOf yX1_slipOf, Cond.code yX1_slipOf cX1_slipOf 2 (some .int), Cond.fieldLink RX1 9 "SimonSays$Children" "slips" "[I", Cond.methodLink RX1 35 yX1_lateOf, Cond.instanceMethod yX1_lateOf, Cond.selects RX1 yX1_lateOf yX1_lateOf, Cond.code yX1_lateOf cX1_lateOf 2 (some .int), Cond.fieldLink RX1 15 "SimonSays$Children" "lates" "[I", Cond.methodLink RX6 67 yX6_groupOf, Cond.instanceMethod yX6_groupOf, Cond.selects RX6 yX6_groupOf yX6_groupOf, Cond.code yX6_groupOf cX6_groupOf 4 (some .int), Cond.static yX9_streakBehind, Cond.code yX9_streakBehind cX9_streakBehind 2 (some .int)]
def wsX9_call_r5 : List Cond := [Cond.methodLink RX9 265 Lib.Math.min.name, Cond.methodLink RX6 25 yX6_become, Cond.instanceMethod yX6_become, Cond.selects RX6 yX6_become yX6_become, Cond.code yX6_become cX6_become 3 none]
def wsX9_call : List Cond := .code yX9_call cX9_call 2 (some .int) :: ((wsX9_call_r1 ++ (wsX9_call_r2 ++ (wsX9_call_r3 ++ (wsX9_call_r4 ++ wsX9_call_r5)))) ++ wsX90 ++ wsX60 ++ wsX20 ++ wsX10)
def wsX9_comesBack_r1 : List Cond := [Cond.fieldLink RX9 28 "SimonSays" "told" "LSimonSays$Children;", Cond.fieldLink RX9 37 "SimonSays" "round" "LSimonSays$Round;", Cond.fieldLink RX9 44 "SimonSays" "history" "LSimonSays$History;", Cond.methodLink RX9 111 yX1_has, Cond.instanceMethod yX1_has, Cond.selects RX1 yX1_has yX1_has, Cond.initialized RX1, Cond.code yX1_has cX1_has 2 (some .boolean), Cond.fieldLink RX1 21 "SimonSays$Children" "size" "I", Cond.methodLink RX9 128 yX6_isIn, Cond.instanceMethod yX6_isIn, Cond.selects RX6 yX6_isIn yX6_isIn, Cond.initialized RX6, Cond.code yX6_isIn cX6_isIn 2 (some .boolean), Cond.fieldLink RX6 9 "SimonSays$Round" "told" "LSimonSays$Children;", Cond.fieldLink RX6 29 "SimonSays$Round" "in" "I", Cond.methodLink RX6 41 yX1_has, Cond.methodLink RX9 134 yX6_whoIsIn, Cond.instanceMethod yX6_whoIsIn, Cond.selects RX6 yX6_whoIsIn yX6_whoIsIn, Cond.code yX6_whoIsIn cX6_whoIsIn 1 (some .int), Cond.methodLink RX9 137 yX6_streak, Cond.instanceMethod yX6_streak, Cond.selects RX6 yX6_streak yX6_streak]
def wsX9_comesBack_r2 : List Cond := [Cond.code yX6_streak cX6_streak 1 (some .int), Cond.fieldLink RX6 32 "SimonSays$Round" "streak" "I", Cond.methodLink RX9 154 yX2_add, Cond.instanceMethod yX2_add, Cond.selects RX2 yX2_add yX2_add, Cond.initialized RX2, Cond.code yX2_add cX2_add 3 none, Cond.fieldLink RX2 18 "SimonSays$History" "size" "I", Cond.fieldLink RX2 9 "SimonSays$History" "ins" "[I", Cond.fieldLink RX2 15 "SimonSays$History" "streaks" "[I", Cond.methodLink RX2 22 yX2_loseOldest, Cond.instanceMethod yX2_loseOldest, Cond.selects RX2 yX2_loseOldest yX2_loseOldest, Cond.code yX2_loseOldest cX2_loseOldest 1 none, Cond.methodLink RX2 25 arraycopyName, Cond.native arraycopyName, Cond.static arraycopyName, Cond.initialized "java/lang/System", Cond.methodLink RX9 161 yX6_letIn, Cond.instanceMethod yX6_letIn, Cond.selects RX6 yX6_letIn yX6_letIn, Cond.code yX6_letIn cX6_letIn 2 none, Cond.methodLink RX9 164 yX6_howManyIn, Cond.instanceMethod yX6_howManyIn]
def wsX9_comesBack_r3 : List Cond := [Cond.selects RX6 yX6_howManyIn yX6_howManyIn, Cond.code yX6_howManyIn cX6_howManyIn 1 (some .int), Cond.methodLink RX6 35 yJ6_bitCount_0f7a4, Cond.static yJ6_bitCount_0f7a4, Cond.initialized RJ6, Cond.code yJ6_bitCount_0f7a4 cJ6_bitCount_0f7a4 1 (some .int), Cond.constant RJ6 265 (1431655765), Cond.constant RJ6 266 (858993459), Cond.constant RJ6 267 (252645135)]
def wsX9_comesBack : List Cond := .code yX9_comesBack cX9_comesBack 2 (some .int) :: ((wsX9_comesBack_r1 ++ (wsX9_comesBack_r2 ++ wsX9_comesBack_r3)) ++ wsX90 ++ wsX10 ++ wsX60 ++ wsX20)
def wsX9_undo_r1 : List Cond := [Cond.fieldLink RX9 44 "SimonSays" "history" "LSimonSays$History;", Cond.fieldLink RX9 37 "SimonSays" "round" "LSimonSays$Round;", Cond.methodLink RX9 144 yX2_size, Cond.instanceMethod yX2_size, Cond.selects RX2 yX2_size yX2_size, Cond.initialized RX2, Cond.code yX2_size cX2_size 1 (some .int), Cond.fieldLink RX2 18 "SimonSays$History" "size" "I", Cond.methodLink RX9 167 yX2_dropLatest, Cond.instanceMethod yX2_dropLatest, Cond.selects RX2 yX2_dropLatest yX2_dropLatest, Cond.code yX2_dropLatest cX2_dropLatest 1 none, Cond.methodLink RX9 170 yX2_droppedIn, Cond.instanceMethod yX2_droppedIn, Cond.selects RX2 yX2_droppedIn yX2_droppedIn, Cond.code yX2_droppedIn cX2_droppedIn 1 (some .int), Cond.fieldLink RX2 9 "SimonSays$History" "ins" "[I", Cond.methodLink RX9 173 yX2_droppedStreak, Cond.instanceMethod yX2_droppedStreak, Cond.selects RX2 yX2_droppedStreak yX2_droppedStreak, Cond.code yX2_droppedStreak cX2_droppedStreak 1 (some .int), Cond.fieldLink RX2 15 "SimonSays$History" "streaks" "[I", Cond.methodLink RX9 176 yX6_become, Cond.instanceMethod yX6_become]
def wsX9_undo_r2 : List Cond := [Cond.selects RX6 yX6_become yX6_become, Cond.initialized RX6, Cond.code yX6_become cX6_become 3 none, Cond.fieldLink RX6 29 "SimonSays$Round" "in" "I", Cond.fieldLink RX6 32 "SimonSays$Round" "streak" "I"]
def wsX9_undo : List Cond := .code yX9_undo cX9_undo 1 (some .int) :: ((wsX9_undo_r1 ++ wsX9_undo_r2) ++ wsX90 ++ wsX20 ++ wsX60)
def wsX9_lot : List Cond := .code yX9_lot cX9_lot 3 (some .int) :: ([.fieldLink RX9 37 "SimonSays" "round" "LSimonSays$Round;", .methodLink RX9 179 yX6_theLot, .instanceMethod yX6_theLot, .selects RX6 yX6_theLot yX6_theLot, .initialized RX6, .code yX6_theLot cX6_theLot 1 (some .int), .fieldLink RX6 15 "SimonSays$Round" "lot" "I", .methodLink RX9 182 yX6_setLot, .instanceMethod yX6_setLot, .selects RX6 yX6_setLot yX6_setLot, .code yX6_setLot cX6_setLot 2 none] ++ wsX90 ++ wsX60)
def wsX9_isHalf : List Cond := .code yX9_isHalf cX9_isHalf 1 (some .boolean) :: ([])
def wsX9_greatestDivisor : List Cond := .code yX9_greatestDivisor cX9_greatestDivisor 11 (some .long) :: ([])
def wsX9_leastTerms : List Cond := .code yX9_leastTerms cX9_leastTerms 9 (some .long) :: ([.methodLink RX9 272 yX9_greatestDivisor, .static yX9_greatestDivisor, .initialized RX9, .code yX9_greatestDivisor cX9_greatestDivisor 11 (some .long)])
def wsX9_falls_r1 : List Cond := [Cond.fieldLink RX9 28 "SimonSays" "told" "LSimonSays$Children;", Cond.constantLong RX9 191 (-1), Cond.fieldLink RX9 67 "SimonSays" "chances" "LSimonSays$Chances;", Cond.methodLink RX9 147 yX9_isOrder, Cond.static yX9_isOrder, Cond.initialized RX9, Cond.code yX9_isOrder cX9_isOrder 1 (some .boolean), Cond.methodLink RX9 185 yX1_isSet, Cond.instanceMethod yX1_isSet, Cond.selects RX1 yX1_isSet yX1_isSet, Cond.initialized RX1, Cond.code yX1_isSet cX1_isSet 2 (some .boolean), Cond.methodLink RX1 45 yX1_everyone, Cond.instanceMethod yX1_everyone, Cond.selects RX1 yX1_everyone yX1_everyone, Cond.code yX1_everyone cX1_everyone 1 (some .int), Cond.fieldLink RX1 21 "SimonSays$Children" "size" "I", Cond.methodLink RX9 188 yX9_isHalf, Cond.static yX9_isHalf, Cond.code yX9_isHalf cX9_isHalf 1 (some .boolean), Cond.methodLink RX9 193 yX0_setFalls, Cond.instanceMethod yX0_setFalls, Cond.selects RX0 yX0_setFalls yX0_setFalls, Cond.initialized RX0]
def wsX9_falls_r2 : List Cond := [Cond.code yX0_setFalls cX0_setFalls 8 (some .long), Cond.fieldLink RX0 15 "SimonSays$Chances" "round" "LSimonSays$Round;", Cond.fieldLink RX0 9 "SimonSays$Chances" "told" "LSimonSays$Children;", Cond.methodLink RX0 43 yX6_whoIsIn, Cond.instanceMethod yX6_whoIsIn, Cond.selects RX6 yX6_whoIsIn yX6_whoIsIn, Cond.initialized RX6, Cond.code yX6_whoIsIn cX6_whoIsIn 1 (some .int), Cond.fieldLink RX6 29 "SimonSays$Round" "in" "I", Cond.methodLink RX0 27 yX1_size, Cond.instanceMethod yX1_size, Cond.selects RX1 yX1_size yX1_size, Cond.code yX1_size cX1_size 1 (some .int), Cond.methodLink RX0 33 yX6_isLeader, Cond.instanceMethod yX6_isLeader, Cond.selects RX6 yX6_isLeader yX6_isLeader, Cond.code yX6_isLeader cX6_isLeader 2 (some .boolean), Cond.methodLink RX6 48 yX6_isIn, Cond.instanceMethod yX6_isIn, Cond.selects RX6 yX6_isIn yX6_isIn, Cond.code yX6_isIn cX6_isIn 2 (some .boolean), Cond.fieldLink RX6 9 "SimonSays$Round" "told" "LSimonSays$Children;", Cond.methodLink RX6 41 yX1_has, Cond.instanceMethod yX1_has]
def wsX9_falls_r3 : List Cond := [Cond.selects RX1 yX1_has yX1_has, Cond.code yX1_has cX1_has 2 (some .boolean), Cond.methodLink RX6 51 yX6_leaderOf, Cond.instanceMethod yX6_leaderOf, Cond.selects RX6 yX6_leaderOf yX6_leaderOf, Cond.code yX6_leaderOf cX6_leaderOf 5 (some .int), Cond.methodLink RX6 45 yX1_copiedBy, Cond.instanceMethod yX1_copiedBy, Cond.selects RX1 yX1_copiedBy yX1_copiedBy, Cond.code yX1_copiedBy cX1_copiedBy 2 (some .int), Cond.fieldLink RX1 18 "SimonSays$Children" "copied" "[I", Cond.methodLink RX1 49 yX1_has, Cond.methodLink RX0 46 yX6_groupOf, Cond.instanceMethod yX6_groupOf, Cond.selects RX6 yX6_groupOf yX6_groupOf, Cond.code yX6_groupOf cX6_groupOf 4 (some .int), Cond.methodLink RX6 54 yX1_size, Cond.methodLink RX0 50 yX6_streak, Cond.instanceMethod yX6_streak, Cond.selects RX6 yX6_streak yX6_streak, Cond.code yX6_streak cX6_streak 1 (some .int), Cond.fieldLink RX6 32 "SimonSays$Round" "streak" "I", Cond.methodLink RX0 53 yX1_errsOf, Cond.instanceMethod yX1_errsOf]
def wsX9_falls_r4 : List Cond := [Cond.selects RX1 yX1_errsOf yX1_errsOf, Cond.code yX1_errsOf cX1_errsOf 4 (some .int), Cond.methodLink RX1 53 Lib.Math.min.name, Cond.static Lib.Math.min.name, Cond.initialized "java/lang/Math", Cond.code Lib.Math.min.name Lib.Math.min.code 2 (some .int), Cond.methodLink RX1 31 yX1_slipOf, Cond.instanceMethod yX1_slipOf, Cond.selects RX1 yX1_slipOf yX1_slipOf, Cond.code yX1_slipOf cX1_slipOf 2 (some .int), Cond.fieldLink RX1 9 "SimonSays$Children" "slips" "[I", Cond.methodLink RX1 35 yX1_lateOf, Cond.instanceMethod yX1_lateOf, Cond.selects RX1 yX1_lateOf yX1_lateOf, Cond.code yX1_lateOf cX1_lateOf 2 (some .int), Cond.fieldLink RX1 15 "SimonSays$Children" "lates" "[I", Cond.methodLink RX9 197 yX0_lower, Cond.instanceMethod yX0_lower, Cond.selects RX0 yX0_lower yX0_lower, Cond.code yX0_lower cX0_lower 4 (some .long), Cond.static yX9_powerOfTen, Cond.code yX9_powerOfTen cX9_powerOfTen 4 (some .long), Cond.constantLong RX9 270 (10), Cond.methodLink RX9 201 yX9_leastTerms]
def wsX9_falls_r5 : List Cond := [Cond.static yX9_leastTerms, Cond.code yX9_leastTerms cX9_leastTerms 9 (some .long), Cond.methodLink RX9 272 yX9_greatestDivisor, Cond.static yX9_greatestDivisor, Cond.code yX9_greatestDivisor cX9_greatestDivisor 11 (some .long)]
def wsX9_falls : List Cond := .code yX9_falls cX9_falls 4 (some .long) :: ((wsX9_falls_r1 ++ (wsX9_falls_r2 ++ (wsX9_falls_r3 ++ (wsX9_falls_r4 ++ wsX9_falls_r5)))) ++ wsX90 ++ wsX10 ++ wsX00 ++ wsX60)
def wsX9_many_r1 : List Cond := [Cond.constantLong RX9 191 (-1), Cond.fieldLink RX9 67 "SimonSays" "chances" "LSimonSays$Chances;", Cond.methodLink RX9 147 yX9_isOrder, Cond.static yX9_isOrder, Cond.initialized RX9, Cond.code yX9_isOrder cX9_isOrder 1 (some .boolean), Cond.methodLink RX9 188 yX9_isHalf, Cond.static yX9_isHalf, Cond.code yX9_isHalf cX9_isHalf 1 (some .boolean), Cond.methodLink RX9 205 yX0_numberFalls, Cond.instanceMethod yX0_numberFalls, Cond.selects RX0 yX0_numberFalls yX0_numberFalls, Cond.initialized RX0, Cond.code yX0_numberFalls cX0_numberFalls 4 (some .long), Cond.fieldLink RX0 23 "SimonSays$Chances" "byNumber" "[J", Cond.fieldLink RX0 9 "SimonSays$Chances" "told" "LSimonSays$Children;", Cond.fieldLink RX0 15 "SimonSays$Chances" "round" "LSimonSays$Round;", Cond.methodLink RX0 27 yX1_size, Cond.instanceMethod yX1_size, Cond.selects RX1 yX1_size yX1_size, Cond.initialized RX1, Cond.code yX1_size cX1_size 1 (some .int), Cond.fieldLink RX1 21 "SimonSays$Children" "size" "I", Cond.methodLink RX0 33 yX6_isLeader]
def wsX9_many_r2 : List Cond := [Cond.instanceMethod yX6_isLeader, Cond.selects RX6 yX6_isLeader yX6_isLeader, Cond.initialized RX6, Cond.code yX6_isLeader cX6_isLeader 2 (some .boolean), Cond.methodLink RX6 48 yX6_isIn, Cond.instanceMethod yX6_isIn, Cond.selects RX6 yX6_isIn yX6_isIn, Cond.code yX6_isIn cX6_isIn 2 (some .boolean), Cond.fieldLink RX6 9 "SimonSays$Round" "told" "LSimonSays$Children;", Cond.fieldLink RX6 29 "SimonSays$Round" "in" "I", Cond.methodLink RX6 41 yX1_has, Cond.instanceMethod yX1_has, Cond.selects RX1 yX1_has yX1_has, Cond.code yX1_has cX1_has 2 (some .boolean), Cond.methodLink RX6 51 yX6_leaderOf, Cond.instanceMethod yX6_leaderOf, Cond.selects RX6 yX6_leaderOf yX6_leaderOf, Cond.code yX6_leaderOf cX6_leaderOf 5 (some .int), Cond.methodLink RX6 45 yX1_copiedBy, Cond.instanceMethod yX1_copiedBy, Cond.selects RX1 yX1_copiedBy yX1_copiedBy, Cond.code yX1_copiedBy cX1_copiedBy 2 (some .int), Cond.fieldLink RX1 18 "SimonSays$Children" "copied" "[I", Cond.methodLink RX1 49 yX1_has]
def wsX9_many_r3 : List Cond := [Cond.methodLink RX0 46 yX6_groupOf, Cond.instanceMethod yX6_groupOf, Cond.selects RX6 yX6_groupOf yX6_groupOf, Cond.code yX6_groupOf cX6_groupOf 4 (some .int), Cond.methodLink RX6 54 yX1_size, Cond.methodLink RX0 57 yJ6_bitCount_0f7a4, Cond.static yJ6_bitCount_0f7a4, Cond.initialized RJ6, Cond.code yJ6_bitCount_0f7a4 cJ6_bitCount_0f7a4 1 (some .int), Cond.constant RJ6 265 (1431655765), Cond.constant RJ6 266 (858993459), Cond.constant RJ6 267 (252645135), Cond.methodLink RX0 50 yX6_streak, Cond.instanceMethod yX6_streak, Cond.selects RX6 yX6_streak yX6_streak, Cond.code yX6_streak cX6_streak 1 (some .int), Cond.fieldLink RX6 32 "SimonSays$Round" "streak" "I", Cond.methodLink RX0 53 yX1_errsOf, Cond.instanceMethod yX1_errsOf, Cond.selects RX1 yX1_errsOf yX1_errsOf, Cond.code yX1_errsOf cX1_errsOf 4 (some .int), Cond.methodLink RX1 53 Lib.Math.min.name, Cond.static Lib.Math.min.name, Cond.initialized "java/lang/Math"]
def wsX9_many_r4 : List Cond := [Cond.code Lib.Math.min.name Lib.Math.min.code 2 (some .int), Cond.methodLink RX1 31 yX1_slipOf, Cond.instanceMethod yX1_slipOf, Cond.selects RX1 yX1_slipOf yX1_slipOf, Cond.code yX1_slipOf cX1_slipOf 2 (some .int), Cond.fieldLink RX1 9 "SimonSays$Children" "slips" "[I", Cond.methodLink RX1 35 yX1_lateOf, Cond.instanceMethod yX1_lateOf, Cond.selects RX1 yX1_lateOf yX1_lateOf, Cond.code yX1_lateOf cX1_lateOf 2 (some .int), Cond.fieldLink RX1 15 "SimonSays$Children" "lates" "[I", Cond.methodLink RX0 62 yX0_addGroup, Cond.instanceMethod yX0_addGroup, Cond.selects RX0 yX0_addGroup yX0_addGroup, Cond.code yX0_addGroup cX0_addGroup 6 none, Cond.methodLink RX9 197 yX0_lower, Cond.instanceMethod yX0_lower, Cond.selects RX0 yX0_lower yX0_lower, Cond.code yX0_lower cX0_lower 4 (some .long), Cond.static yX9_powerOfTen, Cond.code yX9_powerOfTen cX9_powerOfTen 4 (some .long), Cond.constantLong RX9 270 (10), Cond.methodLink RX9 201 yX9_leastTerms, Cond.static yX9_leastTerms]
def wsX9_many_r5 : List Cond := [Cond.code yX9_leastTerms cX9_leastTerms 9 (some .long), Cond.methodLink RX9 272 yX9_greatestDivisor, Cond.static yX9_greatestDivisor, Cond.code yX9_greatestDivisor cX9_greatestDivisor 11 (some .long)]
def wsX9_many : List Cond := .code yX9_many cX9_many 4 (some .long) :: ((wsX9_many_r1 ++ (wsX9_many_r2 ++ (wsX9_many_r3 ++ (wsX9_many_r4 ++ wsX9_many_r5)))) ++ wsX90 ++ wsX00 ++ wsX10 ++ wsX60)
def wsX9_stays_r1 : List Cond := [Cond.fieldLink RX9 28 "SimonSays" "told" "LSimonSays$Children;", Cond.fieldLink RX9 58 "SimonSays" "asked" "LSimonSays$Row;", Cond.constantLong RX9 191 (-1), Cond.fieldLink RX9 37 "SimonSays" "round" "LSimonSays$Round;", Cond.fieldLink RX9 67 "SimonSays" "chances" "LSimonSays$Chances;", Cond.methodLink RX9 111 yX1_has, Cond.instanceMethod yX1_has, Cond.selects RX1 yX1_has yX1_has, Cond.initialized RX1, Cond.code yX1_has cX1_has 2 (some .boolean), Cond.fieldLink RX1 21 "SimonSays$Children" "size" "I", Cond.methodLink RX9 208 yX7_read, Cond.instanceMethod yX7_read, Cond.selects RX7 yX7_read yX7_read, Cond.initialized RX7, Cond.code yX7_read cX7_read 5 (some .boolean), Cond.fieldLink RX7 15 "SimonSays$Row" "length" "I", Cond.fieldLink RX7 9 "SimonSays$Row" "figures" "[I", Cond.static yX9_isOrder, Cond.initialized RX9, Cond.code yX9_isOrder cX9_isOrder 1 (some .boolean), Cond.methodLink RX9 188 yX9_isHalf, Cond.static yX9_isHalf, Cond.code yX9_isHalf cX9_isHalf 1 (some .boolean)]
def wsX9_stays_r2 : List Cond := [Cond.methodLink RX9 128 yX6_isIn, Cond.instanceMethod yX6_isIn, Cond.selects RX6 yX6_isIn yX6_isIn, Cond.initialized RX6, Cond.code yX6_isIn cX6_isIn 2 (some .boolean), Cond.fieldLink RX6 9 "SimonSays$Round" "told" "LSimonSays$Children;", Cond.fieldLink RX6 29 "SimonSays$Round" "in" "I", Cond.methodLink RX6 41 yX1_has, Cond.methodLink RX9 201 yX9_leastTerms, Cond.static yX9_leastTerms, Cond.code yX9_leastTerms cX9_leastTerms 9 (some .long), Cond.methodLink RX9 272 yX9_greatestDivisor, Cond.static yX9_greatestDivisor, Cond.code yX9_greatestDivisor cX9_greatestDivisor 11 (some .long), Cond.methodLink RX9 131 yX6_leaderOf, Cond.instanceMethod yX6_leaderOf, Cond.selects RX6 yX6_leaderOf yX6_leaderOf, Cond.code yX6_leaderOf cX6_leaderOf 5 (some .int), Cond.methodLink RX6 45 yX1_copiedBy, Cond.instanceMethod yX1_copiedBy, Cond.selects RX1 yX1_copiedBy yX1_copiedBy, Cond.code yX1_copiedBy cX1_copiedBy 2 (some .int), Cond.fieldLink RX1 18 "SimonSays$Children" "copied" "[I", Cond.methodLink RX1 49 yX1_has]
def wsX9_stays_r3 : List Cond := [Cond.methodLink RX6 48 yX6_isIn, Cond.methodLink RX9 212 yX0_leaderStays, Cond.instanceMethod yX0_leaderStays, Cond.selects RX0 yX0_leaderStays yX0_leaderStays, Cond.initialized RX0, Cond.code yX0_leaderStays cX0_leaderStays 7 (some .long), Cond.fieldLink RX0 15 "SimonSays$Chances" "round" "LSimonSays$Round;", Cond.fieldLink RX0 19 "SimonSays$Chances" "row" "LSimonSays$Row;", Cond.fieldLink RX0 9 "SimonSays$Chances" "told" "LSimonSays$Children;", Cond.methodLink RX0 50 yX6_streak, Cond.instanceMethod yX6_streak, Cond.selects RX6 yX6_streak yX6_streak, Cond.code yX6_streak cX6_streak 1 (some .int), Cond.fieldLink RX6 32 "SimonSays$Round" "streak" "I", Cond.methodLink RX0 66 yX7_length, Cond.instanceMethod yX7_length, Cond.selects RX7 yX7_length yX7_length, Cond.code yX7_length cX7_length 1 (some .int), Cond.methodLink RX0 71 yX7_orderAt, Cond.instanceMethod yX7_orderAt, Cond.selects RX7 yX7_orderAt yX7_orderAt, Cond.code yX7_orderAt cX7_orderAt 2 (some .int), Cond.methodLink RX0 53 yX1_errsOf, Cond.instanceMethod yX1_errsOf]
def wsX9_stays_r4 : List Cond := [Cond.selects RX1 yX1_errsOf yX1_errsOf, Cond.code yX1_errsOf cX1_errsOf 4 (some .int), Cond.methodLink RX1 53 Lib.Math.min.name, Cond.static Lib.Math.min.name, Cond.initialized "java/lang/Math", Cond.code Lib.Math.min.name Lib.Math.min.code 2 (some .int), Cond.methodLink RX1 31 yX1_slipOf, Cond.instanceMethod yX1_slipOf, Cond.selects RX1 yX1_slipOf yX1_slipOf, Cond.code yX1_slipOf cX1_slipOf 2 (some .int), Cond.fieldLink RX1 9 "SimonSays$Children" "slips" "[I", Cond.methodLink RX1 35 yX1_lateOf, Cond.instanceMethod yX1_lateOf, Cond.selects RX1 yX1_lateOf yX1_lateOf, Cond.code yX1_lateOf cX1_lateOf 2 (some .int), Cond.fieldLink RX1 15 "SimonSays$Children" "lates" "[I", Cond.static yX9_streakBehind, Cond.code yX9_streakBehind cX9_streakBehind 2 (some .int), Cond.methodLink RX9 265 Lib.Math.min.name, Cond.methodLink RX9 215 yX7_length, Cond.methodLink RX9 216 yX9_powerOfTen, Cond.static yX9_powerOfTen, Cond.code yX9_powerOfTen cX9_powerOfTen 4 (some .long), Cond.constantLong RX9 270 (10)]
def wsX9_stays : List Cond := .code yX9_stays cX9_stays 4 (some .long) :: ((wsX9_stays_r1 ++ (wsX9_stays_r2 ++ (wsX9_stays_r3 ++ wsX9_stays_r4))) ++ wsX90 ++ wsX10 ++ wsX70 ++ wsX60 ++ wsX00)
def wsX9_left_r1 : List Cond := [Cond.fieldLink RX9 58 "SimonSays" "asked" "LSimonSays$Row;", Cond.constantLong RX9 191 (-1), Cond.fieldLink RX9 67 "SimonSays" "chances" "LSimonSays$Chances;", Cond.methodLink RX9 208 yX7_read, Cond.instanceMethod yX7_read, Cond.selects RX7 yX7_read yX7_read, Cond.initialized RX7, Cond.code yX7_read cX7_read 5 (some .boolean), Cond.fieldLink RX7 15 "SimonSays$Row" "length" "I", Cond.fieldLink RX7 9 "SimonSays$Row" "figures" "[I", Cond.static yX9_isOrder, Cond.initialized RX9, Cond.code yX9_isOrder cX9_isOrder 1 (some .boolean), Cond.methodLink RX9 188 yX9_isHalf, Cond.static yX9_isHalf, Cond.code yX9_isHalf cX9_isHalf 1 (some .boolean), Cond.methodLink RX9 219 yX0_justOneStays, Cond.instanceMethod yX0_justOneStays, Cond.selects RX0 yX0_justOneStays yX0_justOneStays, Cond.initialized RX0, Cond.code yX0_justOneStays cX0_justOneStays 13 (some .long), Cond.fieldLink RX0 19 "SimonSays$Chances" "row" "LSimonSays$Row;", Cond.fieldLink RX0 9 "SimonSays$Chances" "told" "LSimonSays$Children;", Cond.fieldLink RX0 15 "SimonSays$Chances" "round" "LSimonSays$Round;"]
def wsX9_left_r2 : List Cond := [Cond.methodLink RX0 66 yX7_length, Cond.instanceMethod yX7_length, Cond.selects RX7 yX7_length yX7_length, Cond.code yX7_length cX7_length 1 (some .int), Cond.static yX9_powerOfTen, Cond.code yX9_powerOfTen cX9_powerOfTen 4 (some .long), Cond.constantLong RX9 270 (10), Cond.methodLink RX0 27 yX1_size, Cond.instanceMethod yX1_size, Cond.selects RX1 yX1_size yX1_size, Cond.initialized RX1, Cond.code yX1_size cX1_size 1 (some .int), Cond.fieldLink RX1 21 "SimonSays$Children" "size" "I", Cond.methodLink RX0 33 yX6_isLeader, Cond.instanceMethod yX6_isLeader, Cond.selects RX6 yX6_isLeader yX6_isLeader, Cond.initialized RX6, Cond.code yX6_isLeader cX6_isLeader 2 (some .boolean), Cond.methodLink RX6 48 yX6_isIn, Cond.instanceMethod yX6_isIn, Cond.selects RX6 yX6_isIn yX6_isIn, Cond.code yX6_isIn cX6_isIn 2 (some .boolean), Cond.fieldLink RX6 9 "SimonSays$Round" "told" "LSimonSays$Children;", Cond.fieldLink RX6 29 "SimonSays$Round" "in" "I"]
def wsX9_left_r3 : List Cond := [Cond.methodLink RX6 41 yX1_has, Cond.instanceMethod yX1_has, Cond.selects RX1 yX1_has yX1_has, Cond.code yX1_has cX1_has 2 (some .boolean), Cond.methodLink RX6 51 yX6_leaderOf, Cond.instanceMethod yX6_leaderOf, Cond.selects RX6 yX6_leaderOf yX6_leaderOf, Cond.code yX6_leaderOf cX6_leaderOf 5 (some .int), Cond.methodLink RX6 45 yX1_copiedBy, Cond.instanceMethod yX1_copiedBy, Cond.selects RX1 yX1_copiedBy yX1_copiedBy, Cond.code yX1_copiedBy cX1_copiedBy 2 (some .int), Cond.fieldLink RX1 18 "SimonSays$Children" "copied" "[I", Cond.methodLink RX1 49 yX1_has, Cond.methodLink RX0 78 yX0_leaderStays, Cond.instanceMethod yX0_leaderStays, Cond.selects RX0 yX0_leaderStays yX0_leaderStays, Cond.code yX0_leaderStays cX0_leaderStays 7 (some .long), Cond.methodLink RX0 50 yX6_streak, Cond.instanceMethod yX6_streak, Cond.selects RX6 yX6_streak yX6_streak, Cond.code yX6_streak cX6_streak 1 (some .int), Cond.fieldLink RX6 32 "SimonSays$Round" "streak" "I", Cond.methodLink RX0 71 yX7_orderAt]
def wsX9_left_r4 : List Cond := [Cond.instanceMethod yX7_orderAt, Cond.selects RX7 yX7_orderAt yX7_orderAt, Cond.code yX7_orderAt cX7_orderAt 2 (some .int), Cond.methodLink RX0 53 yX1_errsOf, Cond.instanceMethod yX1_errsOf, Cond.selects RX1 yX1_errsOf yX1_errsOf, Cond.code yX1_errsOf cX1_errsOf 4 (some .int), Cond.methodLink RX1 53 Lib.Math.min.name, Cond.static Lib.Math.min.name, Cond.initialized "java/lang/Math", Cond.code Lib.Math.min.name Lib.Math.min.code 2 (some .int), Cond.methodLink RX1 31 yX1_slipOf, Cond.instanceMethod yX1_slipOf, Cond.selects RX1 yX1_slipOf yX1_slipOf, Cond.code yX1_slipOf cX1_slipOf 2 (some .int), Cond.fieldLink RX1 9 "SimonSays$Children" "slips" "[I", Cond.methodLink RX1 35 yX1_lateOf, Cond.instanceMethod yX1_lateOf, Cond.selects RX1 yX1_lateOf yX1_lateOf, Cond.code yX1_lateOf cX1_lateOf 2 (some .int), Cond.fieldLink RX1 15 "SimonSays$Children" "lates" "[I", Cond.static yX9_streakBehind, Cond.code yX9_streakBehind cX9_streakBehind 2 (some .int), Cond.methodLink RX9 265 Lib.Math.min.name]
def wsX9_left_r5 : List Cond := [Cond.methodLink RX0 46 yX6_groupOf, Cond.instanceMethod yX6_groupOf, Cond.selects RX6 yX6_groupOf yX6_groupOf, Cond.code yX6_groupOf cX6_groupOf 4 (some .int), Cond.methodLink RX6 54 yX1_size, Cond.methodLink RX0 57 yJ6_bitCount_0f7a4, Cond.static yJ6_bitCount_0f7a4, Cond.initialized RJ6, Cond.code yJ6_bitCount_0f7a4 cJ6_bitCount_0f7a4 1 (some .int), Cond.constant RJ6 265 (1431655765), Cond.constant RJ6 266 (858993459), Cond.constant RJ6 267 (252645135), Cond.methodLink RX9 215 yX7_length, Cond.methodLink RX9 197 yX0_lower, Cond.instanceMethod yX0_lower, Cond.selects RX0 yX0_lower yX0_lower, Cond.code yX0_lower cX0_lower 4 (some .long), Cond.methodLink RX9 201 yX9_leastTerms, Cond.static yX9_leastTerms, Cond.code yX9_leastTerms cX9_leastTerms 9 (some .long), Cond.methodLink RX9 272 yX9_greatestDivisor, Cond.static yX9_greatestDivisor, Cond.code yX9_greatestDivisor cX9_greatestDivisor 11 (some .long)]
def wsX9_left : List Cond := .code yX9_left cX9_left 3 (some .long) :: ((wsX9_left_r1 ++ (wsX9_left_r2 ++ (wsX9_left_r3 ++ (wsX9_left_r4 ++ wsX9_left_r5)))) ++ wsX90 ++ wsX70 ++ wsX00 ++ wsX10 ++ wsX60)
def wsX9_best_r1 : List Cond := [Cond.fieldLink RX9 67 "SimonSays" "chances" "LSimonSays$Chances;", Cond.methodLink RX9 223 yX0_bestRow, Cond.instanceMethod yX0_bestRow, Cond.selects RX0 yX0_bestRow yX0_bestRow, Cond.initialized RX0, Cond.code yX0_bestRow cX0_bestRow 9 (some .int), Cond.constantLong RX0 81 (-1), Cond.fieldLink RX0 19 "SimonSays$Chances" "row" "LSimonSays$Row;", Cond.methodLink RX0 83 yX0_rowNumber, Cond.static yX0_rowNumber, Cond.code yX0_rowNumber cX0_rowNumber 4 (some .int), Cond.methodLink RX0 86 yX7_read, Cond.instanceMethod yX7_read, Cond.selects RX7 yX7_read yX7_read, Cond.initialized RX7, Cond.code yX7_read cX7_read 5 (some .boolean), Cond.fieldLink RX7 15 "SimonSays$Row" "length" "I", Cond.fieldLink RX7 9 "SimonSays$Row" "figures" "[I", Cond.static yX9_isOrder, Cond.initialized RX9, Cond.code yX9_isOrder cX9_isOrder 1 (some .boolean), Cond.methodLink RX0 90 yX0_justOneStays, Cond.instanceMethod yX0_justOneStays, Cond.selects RX0 yX0_justOneStays yX0_justOneStays]
def wsX9_best_r2 : List Cond := [Cond.code yX0_justOneStays cX0_justOneStays 13 (some .long), Cond.fieldLink RX0 9 "SimonSays$Chances" "told" "LSimonSays$Children;", Cond.fieldLink RX0 15 "SimonSays$Chances" "round" "LSimonSays$Round;", Cond.methodLink RX0 66 yX7_length, Cond.instanceMethod yX7_length, Cond.selects RX7 yX7_length yX7_length, Cond.code yX7_length cX7_length 1 (some .int), Cond.static yX9_powerOfTen, Cond.code yX9_powerOfTen cX9_powerOfTen 4 (some .long), Cond.constantLong RX9 270 (10), Cond.methodLink RX0 27 yX1_size, Cond.instanceMethod yX1_size, Cond.selects RX1 yX1_size yX1_size, Cond.initialized RX1, Cond.code yX1_size cX1_size 1 (some .int), Cond.fieldLink RX1 21 "SimonSays$Children" "size" "I", Cond.methodLink RX0 33 yX6_isLeader, Cond.instanceMethod yX6_isLeader, Cond.selects RX6 yX6_isLeader yX6_isLeader, Cond.initialized RX6, Cond.code yX6_isLeader cX6_isLeader 2 (some .boolean), Cond.methodLink RX6 48 yX6_isIn, Cond.instanceMethod yX6_isIn, Cond.selects RX6 yX6_isIn yX6_isIn]
def wsX9_best_r3 : List Cond := [Cond.code yX6_isIn cX6_isIn 2 (some .boolean), Cond.fieldLink RX6 9 "SimonSays$Round" "told" "LSimonSays$Children;", Cond.fieldLink RX6 29 "SimonSays$Round" "in" "I", Cond.methodLink RX6 41 yX1_has, Cond.instanceMethod yX1_has, Cond.selects RX1 yX1_has yX1_has, Cond.code yX1_has cX1_has 2 (some .boolean), Cond.methodLink RX6 51 yX6_leaderOf, Cond.instanceMethod yX6_leaderOf, Cond.selects RX6 yX6_leaderOf yX6_leaderOf, Cond.code yX6_leaderOf cX6_leaderOf 5 (some .int), Cond.methodLink RX6 45 yX1_copiedBy, Cond.instanceMethod yX1_copiedBy, Cond.selects RX1 yX1_copiedBy yX1_copiedBy, Cond.code yX1_copiedBy cX1_copiedBy 2 (some .int), Cond.fieldLink RX1 18 "SimonSays$Children" "copied" "[I", Cond.methodLink RX1 49 yX1_has, Cond.methodLink RX0 78 yX0_leaderStays, Cond.instanceMethod yX0_leaderStays, Cond.selects RX0 yX0_leaderStays yX0_leaderStays, Cond.code yX0_leaderStays cX0_leaderStays 7 (some .long), Cond.methodLink RX0 50 yX6_streak, Cond.instanceMethod yX6_streak, Cond.selects RX6 yX6_streak yX6_streak]
def wsX9_best_r4 : List Cond := [Cond.code yX6_streak cX6_streak 1 (some .int), Cond.fieldLink RX6 32 "SimonSays$Round" "streak" "I", Cond.methodLink RX0 71 yX7_orderAt, Cond.instanceMethod yX7_orderAt, Cond.selects RX7 yX7_orderAt yX7_orderAt, Cond.code yX7_orderAt cX7_orderAt 2 (some .int), Cond.methodLink RX0 53 yX1_errsOf, Cond.instanceMethod yX1_errsOf, Cond.selects RX1 yX1_errsOf yX1_errsOf, Cond.code yX1_errsOf cX1_errsOf 4 (some .int), Cond.methodLink RX1 53 Lib.Math.min.name, Cond.static Lib.Math.min.name, Cond.initialized "java/lang/Math", Cond.code Lib.Math.min.name Lib.Math.min.code 2 (some .int), Cond.methodLink RX1 31 yX1_slipOf, Cond.instanceMethod yX1_slipOf, Cond.selects RX1 yX1_slipOf yX1_slipOf, Cond.code yX1_slipOf cX1_slipOf 2 (some .int), Cond.fieldLink RX1 9 "SimonSays$Children" "slips" "[I", Cond.methodLink RX1 35 yX1_lateOf, Cond.instanceMethod yX1_lateOf, Cond.selects RX1 yX1_lateOf yX1_lateOf, Cond.code yX1_lateOf cX1_lateOf 2 (some .int), Cond.fieldLink RX1 15 "SimonSays$Children" "lates" "[I"]
def wsX9_best_r5 : List Cond := [Cond.static yX9_streakBehind, Cond.code yX9_streakBehind cX9_streakBehind 2 (some .int), Cond.methodLink RX9 265 Lib.Math.min.name, Cond.methodLink RX0 46 yX6_groupOf, Cond.instanceMethod yX6_groupOf, Cond.selects RX6 yX6_groupOf yX6_groupOf, Cond.code yX6_groupOf cX6_groupOf 4 (some .int), Cond.methodLink RX6 54 yX1_size, Cond.methodLink RX0 57 yJ6_bitCount_0f7a4, Cond.static yJ6_bitCount_0f7a4, Cond.initialized RJ6, Cond.code yJ6_bitCount_0f7a4 cJ6_bitCount_0f7a4 1 (some .int), Cond.constant RJ6 265 (1431655765), Cond.constant RJ6 266 (858993459), Cond.constant RJ6 267 (252645135)]
def wsX9_best : List Cond := .code yX9_best cX9_best 2 (some .int) :: ((wsX9_best_r1 ++ (wsX9_best_r2 ++ (wsX9_best_r3 ++ (wsX9_best_r4 ++ wsX9_best_r5)))) ++ wsX90 ++ wsX00 ++ wsX70 ++ wsX10 ++ wsX60)
def wsX9_lure_r1 : List Cond := [Cond.fieldLink RX9 28 "SimonSays" "told" "LSimonSays$Children;", Cond.fieldLink RX9 37 "SimonSays" "round" "LSimonSays$Round;", Cond.methodLink RX9 111 yX1_has, Cond.instanceMethod yX1_has, Cond.selects RX1 yX1_has yX1_has, Cond.initialized RX1, Cond.code yX1_has cX1_has 2 (some .boolean), Cond.fieldLink RX1 21 "SimonSays$Children" "size" "I", Cond.methodLink RX9 128 yX6_isIn, Cond.instanceMethod yX6_isIn, Cond.selects RX6 yX6_isIn yX6_isIn, Cond.initialized RX6, Cond.code yX6_isIn cX6_isIn 2 (some .boolean), Cond.fieldLink RX6 9 "SimonSays$Round" "told" "LSimonSays$Children;", Cond.fieldLink RX6 29 "SimonSays$Round" "in" "I", Cond.methodLink RX6 41 yX1_has, Cond.methodLink RX9 226 yX6_fewestSaidAhead, Cond.instanceMethod yX6_fewestSaidAhead, Cond.selects RX6 yX6_fewestSaidAhead yX6_fewestSaidAhead, Cond.code yX6_fewestSaidAhead cX6_fewestSaidAhead 6 (some .int), Cond.fieldLink RX6 32 "SimonSays$Round" "streak" "I", Cond.methodLink RX6 51 yX6_leaderOf, Cond.instanceMethod yX6_leaderOf, Cond.selects RX6 yX6_leaderOf yX6_leaderOf]
def wsX9_lure_r2 : List Cond := [Cond.code yX6_leaderOf cX6_leaderOf 5 (some .int), Cond.methodLink RX6 45 yX1_copiedBy, Cond.instanceMethod yX1_copiedBy, Cond.selects RX1 yX1_copiedBy yX1_copiedBy, Cond.code yX1_copiedBy cX1_copiedBy 2 (some .int), Cond.fieldLink RX1 18 "SimonSays$Children" "copied" "[I", Cond.methodLink RX1 49 yX1_has, Cond.methodLink RX6 48 yX6_isIn, Cond.methodLink RX6 63 yX1_errsOf, Cond.instanceMethod yX1_errsOf, Cond.selects RX1 yX1_errsOf yX1_errsOf, Cond.code yX1_errsOf cX1_errsOf 4 (some .int), Cond.methodLink RX1 53 Lib.Math.min.name, Cond.static Lib.Math.min.name, Cond.initialized "java/lang/Math", Cond.code Lib.Math.min.name Lib.Math.min.code 2 (some .int), Cond.methodLink RX1 31 yX1_slipOf, Cond.instanceMethod yX1_slipOf, Cond.selects RX1 yX1_slipOf yX1_slipOf, Cond.code yX1_slipOf cX1_slipOf 2 (some .int), Cond.fieldLink RX1 9 "SimonSays$Children" "slips" "[I", Cond.methodLink RX1 35 yX1_lateOf, Cond.instanceMethod yX1_lateOf, Cond.selects RX1 yX1_lateOf yX1_lateOf]
def wsX9_lure_r3 : List Cond := [Cond.code yX1_lateOf cX1_lateOf 2 (some .int), Cond.fieldLink RX1 15 "SimonSays$Children" "lates" "[I", Cond.static yX9_streakBehind, Cond.initialized RX9, Cond.code yX9_streakBehind cX9_streakBehind 2 (some .int), Cond.methodLink RX9 265 Lib.Math.min.name]
def wsX9_lure : List Cond := .code yX9_lure cX9_lure 3 (some .int) :: ((wsX9_lure_r1 ++ (wsX9_lure_r2 ++ wsX9_lure_r3)) ++ wsX90 ++ wsX10 ++ wsX60)
def wsX9_could_r1 : List Cond := [Cond.fieldLink RX9 28 "SimonSays" "told" "LSimonSays$Children;", Cond.fieldLink RX9 67 "SimonSays" "chances" "LSimonSays$Chances;", Cond.methodLink RX9 185 yX1_isSet, Cond.instanceMethod yX1_isSet, Cond.selects RX1 yX1_isSet yX1_isSet, Cond.initialized RX1, Cond.code yX1_isSet cX1_isSet 2 (some .boolean), Cond.methodLink RX1 45 yX1_everyone, Cond.instanceMethod yX1_everyone, Cond.selects RX1 yX1_everyone yX1_everyone, Cond.code yX1_everyone cX1_everyone 1 (some .int), Cond.fieldLink RX1 21 "SimonSays$Children" "size" "I", Cond.methodLink RX9 230 yX0_ordersThatCould, Cond.instanceMethod yX0_ordersThatCould, Cond.selects RX0 yX0_ordersThatCould yX0_ordersThatCould, Cond.initialized RX0, Cond.code yX0_ordersThatCould cX0_ordersThatCould 4 (some .int), Cond.methodLink RX0 94 yX0_setFalls, Cond.instanceMethod yX0_setFalls, Cond.selects RX0 yX0_setFalls yX0_setFalls, Cond.code yX0_setFalls cX0_setFalls 8 (some .long), Cond.fieldLink RX0 15 "SimonSays$Chances" "round" "LSimonSays$Round;", Cond.fieldLink RX0 9 "SimonSays$Chances" "told" "LSimonSays$Children;", Cond.methodLink RX0 43 yX6_whoIsIn]
def wsX9_could_r2 : List Cond := [Cond.instanceMethod yX6_whoIsIn, Cond.selects RX6 yX6_whoIsIn yX6_whoIsIn, Cond.initialized RX6, Cond.code yX6_whoIsIn cX6_whoIsIn 1 (some .int), Cond.fieldLink RX6 29 "SimonSays$Round" "in" "I", Cond.methodLink RX0 27 yX1_size, Cond.instanceMethod yX1_size, Cond.selects RX1 yX1_size yX1_size, Cond.code yX1_size cX1_size 1 (some .int), Cond.methodLink RX0 33 yX6_isLeader, Cond.instanceMethod yX6_isLeader, Cond.selects RX6 yX6_isLeader yX6_isLeader, Cond.code yX6_isLeader cX6_isLeader 2 (some .boolean), Cond.methodLink RX6 48 yX6_isIn, Cond.instanceMethod yX6_isIn, Cond.selects RX6 yX6_isIn yX6_isIn, Cond.code yX6_isIn cX6_isIn 2 (some .boolean), Cond.fieldLink RX6 9 "SimonSays$Round" "told" "LSimonSays$Children;", Cond.methodLink RX6 41 yX1_has, Cond.instanceMethod yX1_has, Cond.selects RX1 yX1_has yX1_has, Cond.code yX1_has cX1_has 2 (some .boolean), Cond.methodLink RX6 51 yX6_leaderOf, Cond.instanceMethod yX6_leaderOf]
def wsX9_could_r3 : List Cond := [Cond.selects RX6 yX6_leaderOf yX6_leaderOf, Cond.code yX6_leaderOf cX6_leaderOf 5 (some .int), Cond.methodLink RX6 45 yX1_copiedBy, Cond.instanceMethod yX1_copiedBy, Cond.selects RX1 yX1_copiedBy yX1_copiedBy, Cond.code yX1_copiedBy cX1_copiedBy 2 (some .int), Cond.fieldLink RX1 18 "SimonSays$Children" "copied" "[I", Cond.methodLink RX1 49 yX1_has, Cond.methodLink RX0 46 yX6_groupOf, Cond.instanceMethod yX6_groupOf, Cond.selects RX6 yX6_groupOf yX6_groupOf, Cond.code yX6_groupOf cX6_groupOf 4 (some .int), Cond.methodLink RX6 54 yX1_size, Cond.methodLink RX0 50 yX6_streak, Cond.instanceMethod yX6_streak, Cond.selects RX6 yX6_streak yX6_streak, Cond.code yX6_streak cX6_streak 1 (some .int), Cond.fieldLink RX6 32 "SimonSays$Round" "streak" "I", Cond.methodLink RX0 53 yX1_errsOf, Cond.instanceMethod yX1_errsOf, Cond.selects RX1 yX1_errsOf yX1_errsOf, Cond.code yX1_errsOf cX1_errsOf 4 (some .int), Cond.methodLink RX1 53 Lib.Math.min.name, Cond.static Lib.Math.min.name]
def wsX9_could_r4 : List Cond := [Cond.initialized "java/lang/Math", Cond.code Lib.Math.min.name Lib.Math.min.code 2 (some .int), Cond.methodLink RX1 31 yX1_slipOf, Cond.instanceMethod yX1_slipOf, Cond.selects RX1 yX1_slipOf yX1_slipOf, Cond.code yX1_slipOf cX1_slipOf 2 (some .int), Cond.fieldLink RX1 9 "SimonSays$Children" "slips" "[I", Cond.methodLink RX1 35 yX1_lateOf, Cond.instanceMethod yX1_lateOf, Cond.selects RX1 yX1_lateOf yX1_lateOf, Cond.code yX1_lateOf cX1_lateOf 2 (some .int), Cond.fieldLink RX1 15 "SimonSays$Children" "lates" "[I"]
def wsX9_could : List Cond := .code yX9_could cX9_could 2 (some .int) :: ((wsX9_could_r1 ++ (wsX9_could_r2 ++ (wsX9_could_r3 ++ wsX9_could_r4))) ++ wsX90 ++ wsX10 ++ wsX00 ++ wsX60)
def wsX9_likeliest_r1 : List Cond := [Cond.fieldLink RX9 28 "SimonSays" "told" "LSimonSays$Children;", Cond.fieldLink RX9 67 "SimonSays" "chances" "LSimonSays$Chances;", Cond.methodLink RX9 185 yX1_isSet, Cond.instanceMethod yX1_isSet, Cond.selects RX1 yX1_isSet yX1_isSet, Cond.initialized RX1, Cond.code yX1_isSet cX1_isSet 2 (some .boolean), Cond.methodLink RX1 45 yX1_everyone, Cond.instanceMethod yX1_everyone, Cond.selects RX1 yX1_everyone yX1_everyone, Cond.code yX1_everyone cX1_everyone 1 (some .int), Cond.fieldLink RX1 21 "SimonSays$Children" "size" "I", Cond.methodLink RX9 233 yX0_likeliestOrder, Cond.instanceMethod yX0_likeliestOrder, Cond.selects RX0 yX0_likeliestOrder yX0_likeliestOrder, Cond.initialized RX0, Cond.code yX0_likeliestOrder cX0_likeliestOrder 8 (some .int), Cond.methodLink RX0 94 yX0_setFalls, Cond.instanceMethod yX0_setFalls, Cond.selects RX0 yX0_setFalls yX0_setFalls, Cond.code yX0_setFalls cX0_setFalls 8 (some .long), Cond.fieldLink RX0 15 "SimonSays$Chances" "round" "LSimonSays$Round;", Cond.fieldLink RX0 9 "SimonSays$Chances" "told" "LSimonSays$Children;", Cond.methodLink RX0 43 yX6_whoIsIn]
def wsX9_likeliest_r2 : List Cond := [Cond.instanceMethod yX6_whoIsIn, Cond.selects RX6 yX6_whoIsIn yX6_whoIsIn, Cond.initialized RX6, Cond.code yX6_whoIsIn cX6_whoIsIn 1 (some .int), Cond.fieldLink RX6 29 "SimonSays$Round" "in" "I", Cond.methodLink RX0 27 yX1_size, Cond.instanceMethod yX1_size, Cond.selects RX1 yX1_size yX1_size, Cond.code yX1_size cX1_size 1 (some .int), Cond.methodLink RX0 33 yX6_isLeader, Cond.instanceMethod yX6_isLeader, Cond.selects RX6 yX6_isLeader yX6_isLeader, Cond.code yX6_isLeader cX6_isLeader 2 (some .boolean), Cond.methodLink RX6 48 yX6_isIn, Cond.instanceMethod yX6_isIn, Cond.selects RX6 yX6_isIn yX6_isIn, Cond.code yX6_isIn cX6_isIn 2 (some .boolean), Cond.fieldLink RX6 9 "SimonSays$Round" "told" "LSimonSays$Children;", Cond.methodLink RX6 41 yX1_has, Cond.instanceMethod yX1_has, Cond.selects RX1 yX1_has yX1_has, Cond.code yX1_has cX1_has 2 (some .boolean), Cond.methodLink RX6 51 yX6_leaderOf, Cond.instanceMethod yX6_leaderOf]
def wsX9_likeliest_r3 : List Cond := [Cond.selects RX6 yX6_leaderOf yX6_leaderOf, Cond.code yX6_leaderOf cX6_leaderOf 5 (some .int), Cond.methodLink RX6 45 yX1_copiedBy, Cond.instanceMethod yX1_copiedBy, Cond.selects RX1 yX1_copiedBy yX1_copiedBy, Cond.code yX1_copiedBy cX1_copiedBy 2 (some .int), Cond.fieldLink RX1 18 "SimonSays$Children" "copied" "[I", Cond.methodLink RX1 49 yX1_has, Cond.methodLink RX0 46 yX6_groupOf, Cond.instanceMethod yX6_groupOf, Cond.selects RX6 yX6_groupOf yX6_groupOf, Cond.code yX6_groupOf cX6_groupOf 4 (some .int), Cond.methodLink RX6 54 yX1_size, Cond.methodLink RX0 50 yX6_streak, Cond.instanceMethod yX6_streak, Cond.selects RX6 yX6_streak yX6_streak, Cond.code yX6_streak cX6_streak 1 (some .int), Cond.fieldLink RX6 32 "SimonSays$Round" "streak" "I", Cond.methodLink RX0 53 yX1_errsOf, Cond.instanceMethod yX1_errsOf, Cond.selects RX1 yX1_errsOf yX1_errsOf, Cond.code yX1_errsOf cX1_errsOf 4 (some .int), Cond.methodLink RX1 53 Lib.Math.min.name, Cond.static Lib.Math.min.name]
def wsX9_likeliest_r4 : List Cond := [Cond.initialized "java/lang/Math", Cond.code Lib.Math.min.name Lib.Math.min.code 2 (some .int), Cond.methodLink RX1 31 yX1_slipOf, Cond.instanceMethod yX1_slipOf, Cond.selects RX1 yX1_slipOf yX1_slipOf, Cond.code yX1_slipOf cX1_slipOf 2 (some .int), Cond.fieldLink RX1 9 "SimonSays$Children" "slips" "[I", Cond.methodLink RX1 35 yX1_lateOf, Cond.instanceMethod yX1_lateOf, Cond.selects RX1 yX1_lateOf yX1_lateOf, Cond.code yX1_lateOf cX1_lateOf 2 (some .int), Cond.fieldLink RX1 15 "SimonSays$Children" "lates" "[I"]
def wsX9_likeliest : List Cond := .code yX9_likeliest cX9_likeliest 2 (some .int) :: ((wsX9_likeliest_r1 ++ (wsX9_likeliest_r2 ++ (wsX9_likeliest_r3 ++ wsX9_likeliest_r4))) ++ wsX90 ++ wsX10 ++ wsX00 ++ wsX60)
def wsX9_rate_r1 : List Cond := [Cond.fieldLink RX9 28 "SimonSays" "told" "LSimonSays$Children;", Cond.fieldLink RX9 76 "SimonSays" "kinds" "LSimonSays$Kinds;", Cond.constant RX9 239 (-1000000), Cond.methodLink RX9 111 yX1_has, Cond.instanceMethod yX1_has, Cond.selects RX1 yX1_has yX1_has, Cond.initialized RX1, Cond.code yX1_has cX1_has 2 (some .boolean), Cond.fieldLink RX1 21 "SimonSays$Children" "size" "I", Cond.methodLink RX9 236 yX4_rateAs, Cond.instanceMethod yX4_rateAs, Cond.selects RX4 yX4_rateAs yX4_rateAs, Cond.initialized RX4, Cond.code yX4_rateAs cX4_rateAs 3 (some .int), Cond.constant RX4 42 (-1000000), Cond.methodLink RX4 23 yX4_asChild, Cond.instanceMethod yX4_asChild, Cond.selects RX4 yX4_asChild yX4_asChild, Cond.code yX4_asChild cX4_asChild 2 (some .int), Cond.fieldLink RX4 19 "SimonSays$Kinds" "trace" "J", Cond.fieldLink RX4 9 "SimonSays$Kinds" "told" "LSimonSays$Children;", Cond.methodLink RX4 43 yX1_slipOf, Cond.instanceMethod yX1_slipOf, Cond.selects RX1 yX1_slipOf yX1_slipOf]
def wsX9_rate_r2 : List Cond := [Cond.code yX1_slipOf cX1_slipOf 2 (some .int), Cond.fieldLink RX1 9 "SimonSays$Children" "slips" "[I", Cond.methodLink RX1 49 yX1_has, Cond.methodLink RX4 27 yX4_asDreamer, Cond.instanceMethod yX4_asDreamer, Cond.selects RX4 yX4_asDreamer yX4_asDreamer, Cond.code yX4_asDreamer cX4_asDreamer 2 (some .int), Cond.constantLong RX4 48 (10), Cond.fieldLink RX4 15 "SimonSays$Kinds" "round" "LSimonSays$Round;", Cond.methodLink RX4 50 yX6_streak, Cond.instanceMethod yX6_streak, Cond.selects RX6 yX6_streak yX6_streak, Cond.initialized RX6, Cond.code yX6_streak cX6_streak 1 (some .int), Cond.fieldLink RX6 32 "SimonSays$Round" "streak" "I", Cond.methodLink RX4 30 yX4_asWatcher, Cond.instanceMethod yX4_asWatcher, Cond.selects RX4 yX4_asWatcher yX4_asWatcher, Cond.code yX4_asWatcher cX4_asWatcher 2 (some .int), Cond.constantLong RX4 56 (100), Cond.methodLink RX4 58 yX1_lateOf, Cond.instanceMethod yX1_lateOf, Cond.selects RX1 yX1_lateOf yX1_lateOf, Cond.code yX1_lateOf cX1_lateOf 2 (some .int)]
def wsX9_rate_r3 : List Cond := [Cond.fieldLink RX1 15 "SimonSays$Children" "lates" "[I", Cond.methodLink RX4 33 yX4_asRunner, Cond.instanceMethod yX4_asRunner, Cond.selects RX4 yX4_asRunner yX4_asRunner, Cond.code yX4_asRunner cX4_asRunner 2 (some .int), Cond.constantLong RX4 61 (1000), Cond.methodLink RX4 36 yX4_asCopier, Cond.instanceMethod yX4_asCopier, Cond.selects RX4 yX4_asCopier yX4_asCopier, Cond.code yX4_asCopier cX4_asCopier 2 (some .int), Cond.constantLong RX4 63 (10000), Cond.methodLink RX4 65 yX1_howManyCopy, Cond.instanceMethod yX1_howManyCopy, Cond.selects RX1 yX1_howManyCopy yX1_howManyCopy, Cond.code yX1_howManyCopy cX1_howManyCopy 4 (some .int), Cond.methodLink RX1 38 yX1_copiedBy, Cond.instanceMethod yX1_copiedBy, Cond.selects RX1 yX1_copiedBy yX1_copiedBy, Cond.code yX1_copiedBy cX1_copiedBy 2 (some .int), Cond.fieldLink RX1 18 "SimonSays$Children" "copied" "[I", Cond.methodLink RX4 39 yX4_asListener, Cond.instanceMethod yX4_asListener, Cond.selects RX4 yX4_asListener yX4_asListener, Cond.code yX4_asListener cX4_asListener 2 (some .int)]
def wsX9_rate_r4 : List Cond := [Cond.constantLong RX4 68 (100000), Cond.methodLink RX4 70 yX6_howManyIn, Cond.instanceMethod yX6_howManyIn, Cond.selects RX6 yX6_howManyIn yX6_howManyIn, Cond.code yX6_howManyIn cX6_howManyIn 1 (some .int), Cond.fieldLink RX6 29 "SimonSays$Round" "in" "I", Cond.methodLink RX6 35 yJ6_bitCount_0f7a4, Cond.static yJ6_bitCount_0f7a4, Cond.initialized RJ6, Cond.code yJ6_bitCount_0f7a4 cJ6_bitCount_0f7a4 1 (some .int), Cond.constant RJ6 265 (1431655765), Cond.constant RJ6 266 (858993459), Cond.constant RJ6 267 (252645135)]
def wsX9_rate : List Cond := .code yX9_rate cX9_rate 3 (some .int) :: ((wsX9_rate_r1 ++ (wsX9_rate_r2 ++ (wsX9_rate_r3 ++ wsX9_rate_r4))) ++ wsX90 ++ wsX10 ++ wsX40 ++ wsX60)
def wsX9_isImage : List Cond := .code yX9_isImage cX9_isImage 1 (some .boolean) :: ([])
def wsX9_keep_r1 : List Cond := [Cond.fieldLink RX9 50 "SimonSays" "images" "[LSimonSays$Image;", Cond.fieldLink RX9 37 "SimonSays" "round" "LSimonSays$Round;", Cond.methodLink RX9 240 yX9_isImage, Cond.static yX9_isImage, Cond.initialized RX9, Cond.code yX9_isImage cX9_isImage 1 (some .boolean), Cond.methodLink RX9 243 yX3_take, Cond.instanceMethod yX3_take, Cond.selects RX3 yX3_take yX3_take, Cond.initialized RX3, Cond.code yX3_take cX3_take 2 none, Cond.fieldLink RX3 7 "SimonSays$Image" "kept" "Z", Cond.fieldLink RX3 19 "SimonSays$Image" "in" "I", Cond.fieldLink RX3 26 "SimonSays$Image" "streak" "I", Cond.fieldLink RX3 31 "SimonSays$Image" "lot" "I", Cond.methodLink RX3 13 yX6_whoIsIn, Cond.instanceMethod yX6_whoIsIn, Cond.selects RX6 yX6_whoIsIn yX6_whoIsIn, Cond.initialized RX6, Cond.code yX6_whoIsIn cX6_whoIsIn 1 (some .int), Cond.fieldLink RX6 29 "SimonSays$Round" "in" "I", Cond.methodLink RX3 23 yX6_streak, Cond.instanceMethod yX6_streak, Cond.selects RX6 yX6_streak yX6_streak]
def wsX9_keep_r2 : List Cond := [Cond.code yX6_streak cX6_streak 1 (some .int), Cond.fieldLink RX6 32 "SimonSays$Round" "streak" "I", Cond.methodLink RX3 28 yX6_theLot, Cond.instanceMethod yX6_theLot, Cond.selects RX6 yX6_theLot yX6_theLot, Cond.code yX6_theLot cX6_theLot 1 (some .int), Cond.fieldLink RX6 15 "SimonSays$Round" "lot" "I", Cond.methodLink RX9 164 yX6_howManyIn, Cond.instanceMethod yX6_howManyIn, Cond.selects RX6 yX6_howManyIn yX6_howManyIn, Cond.code yX6_howManyIn cX6_howManyIn 1 (some .int), Cond.methodLink RX6 35 yJ6_bitCount_0f7a4, Cond.static yJ6_bitCount_0f7a4, Cond.initialized RJ6, Cond.code yJ6_bitCount_0f7a4 cJ6_bitCount_0f7a4 1 (some .int), Cond.constant RJ6 265 (1431655765), Cond.constant RJ6 266 (858993459), Cond.constant RJ6 267 (252645135)]
def wsX9_keep : List Cond := .code yX9_keep cX9_keep 2 (some .int) :: ((wsX9_keep_r1 ++ wsX9_keep_r2) ++ wsX90 ++ wsX30 ++ wsX60)
def wsX9_back_r1 : List Cond := [Cond.fieldLink RX9 50 "SimonSays" "images" "[LSimonSays$Image;", Cond.fieldLink RX9 37 "SimonSays" "round" "LSimonSays$Round;", Cond.fieldLink RX9 44 "SimonSays" "history" "LSimonSays$History;", Cond.methodLink RX9 240 yX9_isImage, Cond.static yX9_isImage, Cond.initialized RX9, Cond.code yX9_isImage cX9_isImage 1 (some .boolean), Cond.methodLink RX9 247 yX3_isKept, Cond.instanceMethod yX3_isKept, Cond.selects RX3 yX3_isKept yX3_isKept, Cond.initialized RX3, Cond.code yX3_isKept cX3_isKept 1 (some .boolean), Cond.fieldLink RX3 7 "SimonSays$Image" "kept" "Z", Cond.methodLink RX9 250 yX3_giveTo, Cond.instanceMethod yX3_giveTo, Cond.selects RX3 yX3_giveTo yX3_giveTo, Cond.code yX3_giveTo cX3_giveTo 2 none, Cond.fieldLink RX3 19 "SimonSays$Image" "in" "I", Cond.fieldLink RX3 26 "SimonSays$Image" "streak" "I", Cond.fieldLink RX3 31 "SimonSays$Image" "lot" "I", Cond.methodLink RX3 34 yX6_become, Cond.instanceMethod yX6_become, Cond.selects RX6 yX6_become yX6_become, Cond.initialized RX6]
def wsX9_back_r2 : List Cond := [Cond.code yX6_become cX6_become 3 none, Cond.fieldLink RX6 29 "SimonSays$Round" "in" "I", Cond.fieldLink RX6 32 "SimonSays$Round" "streak" "I", Cond.methodLink RX3 38 yX6_setLot, Cond.instanceMethod yX6_setLot, Cond.selects RX6 yX6_setLot yX6_setLot, Cond.code yX6_setLot cX6_setLot 2 none, Cond.fieldLink RX6 15 "SimonSays$Round" "lot" "I", Cond.methodLink RX9 107 yX2_forget, Cond.instanceMethod yX2_forget, Cond.selects RX2 yX2_forget yX2_forget, Cond.initialized RX2, Cond.code yX2_forget cX2_forget 1 none, Cond.fieldLink RX2 18 "SimonSays$History" "size" "I", Cond.methodLink RX9 164 yX6_howManyIn, Cond.instanceMethod yX6_howManyIn, Cond.selects RX6 yX6_howManyIn yX6_howManyIn, Cond.code yX6_howManyIn cX6_howManyIn 1 (some .int), Cond.methodLink RX6 35 yJ6_bitCount_0f7a4, Cond.static yJ6_bitCount_0f7a4, Cond.initialized RJ6, Cond.code yJ6_bitCount_0f7a4 cJ6_bitCount_0f7a4 1 (some .int), Cond.constant RJ6 265 (1431655765), Cond.constant RJ6 266 (858993459)]
def wsX9_back_r3 : List Cond := [Cond.constant RJ6 267 (252645135)]
def wsX9_back : List Cond := .code yX9_back cX9_back 2 (some .int) :: ((wsX9_back_r1 ++ (wsX9_back_r2 ++ wsX9_back_r3)) ++ wsX90 ++ wsX30 ++ wsX60 ++ wsX20)
def wsX9_count_r1 : List Cond := [Cond.fieldLink RX9 28 "SimonSays" "told" "LSimonSays$Children;", Cond.fieldLink RX9 37 "SimonSays" "round" "LSimonSays$Round;", Cond.fieldLink RX9 10 "SimonSays" "text" "LSimonSays$Text;", Cond.methodLink RX9 253 yX1_size, Cond.instanceMethod yX1_size, Cond.selects RX1 yX1_size yX1_size, Cond.initialized RX1, Cond.code yX1_size cX1_size 1 (some .int), Cond.fieldLink RX1 21 "SimonSays$Children" "size" "I", Cond.methodLink RX9 254 yX1_littleOnes, Cond.instanceMethod yX1_littleOnes, Cond.selects RX1 yX1_littleOnes yX1_littleOnes, Cond.code yX1_littleOnes cX1_littleOnes 1 (some .int), Cond.fieldLink RX1 25 "SimonSays$Children" "littleOnes" "I", Cond.methodLink RX9 257 yJ6_bitCount_0f7a4, Cond.static yJ6_bitCount_0f7a4, Cond.initialized RJ6, Cond.code yJ6_bitCount_0f7a4 cJ6_bitCount_0f7a4 1 (some .int), Cond.constant RJ6 265 (1431655765), Cond.constant RJ6 266 (858993459), Cond.constant RJ6 267 (252645135), Cond.methodLink RX9 164 yX6_howManyIn, Cond.instanceMethod yX6_howManyIn, Cond.selects RX6 yX6_howManyIn yX6_howManyIn]
def wsX9_count_r2 : List Cond := [Cond.initialized RX6, Cond.code yX6_howManyIn cX6_howManyIn 1 (some .int), Cond.fieldLink RX6 29 "SimonSays$Round" "in" "I", Cond.methodLink RX6 35 yJ6_bitCount_0f7a4, Cond.methodLink RX9 80 yX8_length, Cond.instanceMethod yX8_length, Cond.selects RX8 yX8_length yX8_length, Cond.initialized RX8, Cond.code yX8_length cX8_length 1 (some .int), Cond.fieldLink RX8 15 "SimonSays$Text" "length" "I"]
def wsX9_count : List Cond := .code yX9_count cX9_count 2 (some .int) :: ((wsX9_count_r1 ++ wsX9_count_r2) ++ wsX90 ++ wsX10 ++ wsX60 ++ wsX80)
def wsX9_trace : List Cond := .code yX9_trace cX9_trace 1 (some .long) :: ([.fieldLink RX9 76 "SimonSays" "kinds" "LSimonSays$Kinds;", .methodLink RX9 262 yX4_theTrace, .instanceMethod yX4_theTrace, .selects RX4 yX4_theTrace yX4_theTrace, .initialized RX4, .code yX4_theTrace cX4_theTrace 1 (some .long), .fieldLink RX4 19 "SimonSays$Kinds" "trace" "J"] ++ wsX90 ++ wsX40)
def wsX10_init : List Cond := .code yX10_init cX10_init 1 none :: ([.methodLink RX10 1 objectInit, .instanceMethod objectInit, .code objectInit ⟨#[0xb1]⟩ 1 none, .arrayClass .int, .fieldLink RX10 7 "SimonSaysModel" "text" "[I", .fieldLink RX10 13 "SimonSaysModel" "slips" "[I", .fieldLink RX10 16 "SimonSaysModel" "lates" "[I", .fieldLink RX10 19 "SimonSaysModel" "copies" "[I", .fieldLink RX10 22 "SimonSaysModel" "lot" "I", .fieldLink RX10 26 "SimonSaysModel" "before" "[I", .fieldLink RX10 29 "SimonSaysModel" "images" "[I", .arrayClass .boolean, .fieldLink RX10 32 "SimonSaysModel" "kept" "[Z", .fieldLink RX10 36 "SimonSaysModel" "read" "[I"] ++ wsX100)
def wsX10_within : List Cond := .code yX10_within cX10_within 6 (some .boolean) :: ([])
def wsX10_has : List Cond := .code yX10_has cX10_has 2 (some .boolean) :: ([])
def wsX10_bits : List Cond := .code yX10_bits cX10_bits 3 (some .int) :: ([])
def wsX10_isChild : List Cond := .code yX10_isChild cX10_isChild 2 (some .boolean) :: ([.fieldLink RX10 39 "SimonSaysModel" "many" "I", .methodLink RX10 42 yX10_within, .static yX10_within, .initialized RX10, .code yX10_within cX10_within 6 (some .boolean)] ++ wsX100)
def wsX10_isOrder : List Cond := .code yX10_isOrder cX10_isOrder 1 (some .boolean) :: ([.constantLong RX10 46 (4), .methodLink RX10 42 yX10_within, .static yX10_within, .initialized RX10, .code yX10_within cX10_within 6 (some .boolean)])
def wsX10_isSet : List Cond := .code yX10_isSet cX10_isSet 2 (some .boolean) :: ([.fieldLink RX10 39 "SimonSaysModel" "many" "I", .methodLink RX10 42 yX10_within, .static yX10_within, .initialized RX10, .code yX10_within cX10_within 6 (some .boolean)] ++ wsX100)
def wsX10_type : List Cond := .code yX10_type cX10_type 5 (some .int) :: ([.constantLong RX10 48 (8), .fieldLink RX10 50 "SimonSaysModel" "size" "I", .fieldLink RX10 7 "SimonSaysModel" "text" "[I", .constantLong RX10 53 (255), .methodLink RX10 42 yX10_within, .static yX10_within, .initialized RX10, .code yX10_within cX10_within 6 (some .boolean)] ++ wsX100)
def wsX10_clear : List Cond := .code yX10_clear cX10_clear 2 (some .int) :: ([.fieldLink RX10 50 "SimonSaysModel" "size" "I"] ++ wsX100)
def wsX10_isLetter : List Cond := .code yX10_isLetter cX10_isLetter 1 (some .boolean) :: ([])
def wsX10_isFigure : List Cond := .code yX10_isFigure cX10_isFigure 1 (some .boolean) :: ([])
def wsX10_next : List Cond := .code yX10_next cX10_next 2 none :: ([.fieldLink RX10 55 "SimonSaysModel" "at" "I", .fieldLink RX10 50 "SimonSaysModel" "size" "I", .fieldLink RX10 7 "SimonSaysModel" "text" "[I", .fieldLink RX10 58 "SimonSaysModel" "begin" "I", .fieldLink RX10 61 "SimonSaysModel" "value" "J", .fieldLink RX10 72 "SimonSaysModel" "kind" "I", .constantLong RX10 75 (32), .constantLong RX10 77 (96), .constantLong RX10 79 (-1), .constantLong RX10 81 (10), .constantLong RX10 83 (48), .constantLong RX10 85 (1000), .methodLink RX10 65 yX10_isLetter, .static yX10_isLetter, .initialized RX10, .code yX10_isLetter cX10_isLetter 1 (some .boolean), .methodLink RX10 69 yX10_isFigure, .static yX10_isFigure, .code yX10_isFigure cX10_isFigure 1 (some .boolean)] ++ wsX100)
def wsX10_takes_r1 : List Cond := [Cond.fieldLink RX10 72 "SimonSaysModel" "kind" "I", Cond.fieldLink RX10 61 "SimonSaysModel" "value" "J", Cond.methodLink RX10 87 yX10_next, Cond.instanceMethod yX10_next, Cond.selects RX10 yX10_next yX10_next, Cond.initialized RX10, Cond.code yX10_next cX10_next 2 none, Cond.fieldLink RX10 55 "SimonSaysModel" "at" "I", Cond.fieldLink RX10 50 "SimonSaysModel" "size" "I", Cond.fieldLink RX10 7 "SimonSaysModel" "text" "[I", Cond.fieldLink RX10 58 "SimonSaysModel" "begin" "I", Cond.constantLong RX10 75 (32), Cond.constantLong RX10 77 (96), Cond.constantLong RX10 79 (-1), Cond.constantLong RX10 81 (10), Cond.constantLong RX10 83 (48), Cond.constantLong RX10 85 (1000), Cond.methodLink RX10 65 yX10_isLetter, Cond.static yX10_isLetter, Cond.code yX10_isLetter cX10_isLetter 1 (some .boolean), Cond.methodLink RX10 69 yX10_isFigure, Cond.static yX10_isFigure, Cond.code yX10_isFigure cX10_isFigure 1 (some .boolean), Cond.methodLink RX10 42 yX10_within]
def wsX10_takes_r2 : List Cond := [Cond.static yX10_within, Cond.code yX10_within cX10_within 6 (some .boolean)]
def wsX10_takes : List Cond := .code yX10_takes cX10_takes 3 (some .boolean) :: ((wsX10_takes_r1 ++ wsX10_takes_r2) ++ wsX100)
def wsX10_stops : List Cond := .code yX10_stops cX10_stops 1 (some .boolean) :: ([.fieldLink RX10 72 "SimonSaysModel" "kind" "I", .methodLink RX10 87 yX10_next, .instanceMethod yX10_next, .selects RX10 yX10_next yX10_next, .initialized RX10, .code yX10_next cX10_next 2 none, .fieldLink RX10 55 "SimonSaysModel" "at" "I", .fieldLink RX10 50 "SimonSaysModel" "size" "I", .fieldLink RX10 7 "SimonSaysModel" "text" "[I", .fieldLink RX10 58 "SimonSaysModel" "begin" "I", .fieldLink RX10 61 "SimonSaysModel" "value" "J", .constantLong RX10 75 (32), .constantLong RX10 77 (96), .constantLong RX10 79 (-1), .constantLong RX10 81 (10), .constantLong RX10 83 (48), .constantLong RX10 85 (1000), .methodLink RX10 65 yX10_isLetter, .static yX10_isLetter, .code yX10_isLetter cX10_isLetter 1 (some .boolean), .methodLink RX10 69 yX10_isFigure, .static yX10_isFigure, .code yX10_isFigure cX10_isFigure 1 (some .boolean)] ++ wsX100)
def wsX10_takesChild_r1 : List Cond := [Cond.fieldLink RX10 90 "SimonSaysModel" "readMany" "I", Cond.fieldLink RX10 61 "SimonSaysModel" "value" "J", Cond.constantLong RX10 97 (9), Cond.fieldLink RX10 36 "SimonSaysModel" "read" "[I", Cond.methodLink RX10 93 yX10_takes, Cond.instanceMethod yX10_takes, Cond.selects RX10 yX10_takes yX10_takes, Cond.initialized RX10, Cond.code yX10_takes cX10_takes 3 (some .boolean), Cond.fieldLink RX10 72 "SimonSaysModel" "kind" "I", Cond.methodLink RX10 87 yX10_next, Cond.instanceMethod yX10_next, Cond.selects RX10 yX10_next yX10_next, Cond.code yX10_next cX10_next 2 none, Cond.fieldLink RX10 55 "SimonSaysModel" "at" "I", Cond.fieldLink RX10 50 "SimonSaysModel" "size" "I", Cond.fieldLink RX10 7 "SimonSaysModel" "text" "[I", Cond.fieldLink RX10 58 "SimonSaysModel" "begin" "I", Cond.constantLong RX10 75 (32), Cond.constantLong RX10 77 (96), Cond.constantLong RX10 79 (-1), Cond.constantLong RX10 81 (10), Cond.constantLong RX10 83 (48), Cond.constantLong RX10 85 (1000)]
def wsX10_takesChild_r2 : List Cond := [Cond.methodLink RX10 65 yX10_isLetter, Cond.static yX10_isLetter, Cond.code yX10_isLetter cX10_isLetter 1 (some .boolean), Cond.methodLink RX10 69 yX10_isFigure, Cond.static yX10_isFigure, Cond.code yX10_isFigure cX10_isFigure 1 (some .boolean), Cond.methodLink RX10 42 yX10_within, Cond.static yX10_within, Cond.code yX10_within cX10_within 6 (some .boolean), Cond.methodLink RX10 99 yX10_stops, Cond.instanceMethod yX10_stops, Cond.selects RX10 yX10_stops yX10_stops, Cond.code yX10_stops cX10_stops 1 (some .boolean)]
def wsX10_takesChild : List Cond := .code yX10_takesChild cX10_takesChild 2 (some .boolean) :: ((wsX10_takesChild_r1 ++ wsX10_takesChild_r2) ++ wsX100)
def wsX10_takesLittle_r1 : List Cond := [Cond.fieldLink RX10 90 "SimonSaysModel" "readMany" "I", Cond.fieldLink RX10 103 "SimonSaysModel" "readLittle" "I", Cond.fieldLink RX10 61 "SimonSaysModel" "value" "J", Cond.methodLink RX10 93 yX10_takes, Cond.instanceMethod yX10_takes, Cond.selects RX10 yX10_takes yX10_takes, Cond.initialized RX10, Cond.code yX10_takes cX10_takes 3 (some .boolean), Cond.fieldLink RX10 72 "SimonSaysModel" "kind" "I", Cond.methodLink RX10 87 yX10_next, Cond.instanceMethod yX10_next, Cond.selects RX10 yX10_next yX10_next, Cond.code yX10_next cX10_next 2 none, Cond.fieldLink RX10 55 "SimonSaysModel" "at" "I", Cond.fieldLink RX10 50 "SimonSaysModel" "size" "I", Cond.fieldLink RX10 7 "SimonSaysModel" "text" "[I", Cond.fieldLink RX10 58 "SimonSaysModel" "begin" "I", Cond.constantLong RX10 75 (32), Cond.constantLong RX10 77 (96), Cond.constantLong RX10 79 (-1), Cond.constantLong RX10 81 (10), Cond.constantLong RX10 83 (48), Cond.constantLong RX10 85 (1000), Cond.methodLink RX10 65 yX10_isLetter]
def wsX10_takesLittle_r2 : List Cond := [Cond.static yX10_isLetter, Cond.code yX10_isLetter cX10_isLetter 1 (some .boolean), Cond.methodLink RX10 69 yX10_isFigure, Cond.static yX10_isFigure, Cond.code yX10_isFigure cX10_isFigure 1 (some .boolean), Cond.methodLink RX10 42 yX10_within, Cond.static yX10_within, Cond.code yX10_within cX10_within 6 (some .boolean), Cond.methodLink RX10 99 yX10_stops, Cond.instanceMethod yX10_stops, Cond.selects RX10 yX10_stops yX10_stops, Cond.code yX10_stops cX10_stops 1 (some .boolean)]
def wsX10_takesLittle : List Cond := .code yX10_takesLittle cX10_takesLittle 1 (some .boolean) :: ((wsX10_takesLittle_r1 ++ wsX10_takesLittle_r2) ++ wsX100)
def wsX10_children_r1 : List Cond := [Cond.fieldLink RX10 55 "SimonSaysModel" "at" "I", Cond.fieldLink RX10 90 "SimonSaysModel" "readMany" "I", Cond.fieldLink RX10 103 "SimonSaysModel" "readLittle" "I", Cond.fieldLink RX10 72 "SimonSaysModel" "kind" "I", Cond.fieldLink RX10 61 "SimonSaysModel" "value" "J", Cond.constantLong RX10 106 (3417476), Cond.constantLong RX10 111 (412766597), Cond.fieldLink RX10 58 "SimonSaysModel" "begin" "I", Cond.fieldLink RX10 39 "SimonSaysModel" "many" "I", Cond.fieldLink RX10 13 "SimonSaysModel" "slips" "[I", Cond.fieldLink RX10 36 "SimonSaysModel" "read" "[I", Cond.fieldLink RX10 16 "SimonSaysModel" "lates" "[I", Cond.fieldLink RX10 19 "SimonSaysModel" "copies" "[I", Cond.fieldLink RX10 116 "SimonSaysModel" "little" "I", Cond.fieldLink RX10 119 "SimonSaysModel" "in" "I", Cond.fieldLink RX10 122 "SimonSaysModel" "streak" "I", Cond.fieldLink RX10 125 "SimonSaysModel" "undos" "I", Cond.fieldLink RX10 32 "SimonSaysModel" "kept" "[Z", Cond.fieldLink RX10 50 "SimonSaysModel" "size" "I", Cond.methodLink RX10 87 yX10_next, Cond.instanceMethod yX10_next, Cond.selects RX10 yX10_next yX10_next, Cond.initialized RX10, Cond.code yX10_next cX10_next 2 none]
def wsX10_children_r2 : List Cond := [Cond.fieldLink RX10 7 "SimonSaysModel" "text" "[I", Cond.constantLong RX10 75 (32), Cond.constantLong RX10 77 (96), Cond.constantLong RX10 79 (-1), Cond.constantLong RX10 81 (10), Cond.constantLong RX10 83 (48), Cond.constantLong RX10 85 (1000), Cond.methodLink RX10 65 yX10_isLetter, Cond.static yX10_isLetter, Cond.code yX10_isLetter cX10_isLetter 1 (some .boolean), Cond.methodLink RX10 69 yX10_isFigure, Cond.static yX10_isFigure, Cond.code yX10_isFigure cX10_isFigure 1 (some .boolean), Cond.methodLink RX10 108 yX10_takesChild, Cond.instanceMethod yX10_takesChild, Cond.selects RX10 yX10_takesChild yX10_takesChild, Cond.code yX10_takesChild cX10_takesChild 2 (some .boolean), Cond.constantLong RX10 97 (9), Cond.methodLink RX10 93 yX10_takes, Cond.instanceMethod yX10_takes, Cond.selects RX10 yX10_takes yX10_takes, Cond.code yX10_takes cX10_takes 3 (some .boolean), Cond.methodLink RX10 42 yX10_within, Cond.static yX10_within]
def wsX10_children_r3 : List Cond := [Cond.code yX10_within cX10_within 6 (some .boolean), Cond.methodLink RX10 99 yX10_stops, Cond.instanceMethod yX10_stops, Cond.selects RX10 yX10_stops yX10_stops, Cond.code yX10_stops cX10_stops 1 (some .boolean), Cond.methodLink RX10 113 yX10_takesLittle, Cond.instanceMethod yX10_takesLittle, Cond.selects RX10 yX10_takesLittle yX10_takesLittle, Cond.code yX10_takesLittle cX10_takesLittle 1 (some .boolean)]
def wsX10_children : List Cond := .code yX10_children cX10_children 3 (some .int) :: ((wsX10_children_r1 ++ (wsX10_children_r2 ++ wsX10_children_r3)) ++ wsX100)
def wsX10_leaderOf : List Cond := .code yX10_leaderOf cX10_leaderOf 3 (some .int) :: ([.fieldLink RX10 19 "SimonSaysModel" "copies" "[I", .fieldLink RX10 119 "SimonSaysModel" "in" "I", .methodLink RX10 128 yX10_has, .static yX10_has, .initialized RX10, .code yX10_has cX10_has 2 (some .boolean)] ++ wsX100)
def wsX10_ledBy : List Cond := .code yX10_ledBy cX10_ledBy 4 (some .int) :: ([.fieldLink RX10 39 "SimonSaysModel" "many" "I", .fieldLink RX10 119 "SimonSaysModel" "in" "I", .methodLink RX10 128 yX10_has, .static yX10_has, .initialized RX10, .code yX10_has cX10_has 2 (some .boolean), .methodLink RX10 131 yX10_leaderOf, .instanceMethod yX10_leaderOf, .selects RX10 yX10_leaderOf yX10_leaderOf, .code yX10_leaderOf cX10_leaderOf 3 (some .int), .fieldLink RX10 19 "SimonSaysModel" "copies" "[I"] ++ wsX100)
def wsX10_errsOf : List Cond := .code yX10_errsOf cX10_errsOf 5 (some .int) :: ([.fieldLink RX10 13 "SimonSaysModel" "slips" "[I", .fieldLink RX10 16 "SimonSaysModel" "lates" "[I"] ++ wsX100)
def wsX10_streakBehind : List Cond := .code yX10_streakBehind cX10_streakBehind 2 (some .int) :: ([])
def wsX10_fair : List Cond := .code yX10_fair cX10_fair 2 (some .int) :: ([.fieldLink RX10 39 "SimonSaysModel" "many" "I", .fieldLink RX10 116 "SimonSaysModel" "little" "I", .fieldLink RX10 119 "SimonSaysModel" "in" "I"] ++ wsX100)
def wsX10_child : List Cond := .code yX10_child cX10_child 3 (some .int) :: ([.constantLong RX10 138 (5), .fieldLink RX10 13 "SimonSaysModel" "slips" "[I", .fieldLink RX10 16 "SimonSaysModel" "lates" "[I", .fieldLink RX10 19 "SimonSaysModel" "copies" "[I", .fieldLink RX10 116 "SimonSaysModel" "little" "I", .fieldLink RX10 119 "SimonSaysModel" "in" "I", .methodLink RX10 135 yX10_isChild, .instanceMethod yX10_isChild, .selects RX10 yX10_isChild yX10_isChild, .initialized RX10, .code yX10_isChild cX10_isChild 2 (some .boolean), .fieldLink RX10 39 "SimonSaysModel" "many" "I", .methodLink RX10 42 yX10_within, .static yX10_within, .code yX10_within cX10_within 6 (some .boolean), .methodLink RX10 128 yX10_has, .static yX10_has, .code yX10_has cX10_has 2 (some .boolean), .methodLink RX10 131 yX10_leaderOf, .instanceMethod yX10_leaderOf, .selects RX10 yX10_leaderOf yX10_leaderOf, .code yX10_leaderOf cX10_leaderOf 3 (some .int)] ++ wsX100)
def wsX10_now : List Cond := .code yX10_now cX10_now 2 (some .int) :: ([.fieldLink RX10 119 "SimonSaysModel" "in" "I", .fieldLink RX10 122 "SimonSaysModel" "streak" "I", .fieldLink RX10 125 "SimonSaysModel" "undos" "I", .methodLink RX10 140 yX10_fair, .instanceMethod yX10_fair, .selects RX10 yX10_fair yX10_fair, .initialized RX10, .code yX10_fair cX10_fair 2 (some .int), .fieldLink RX10 39 "SimonSaysModel" "many" "I", .fieldLink RX10 116 "SimonSaysModel" "little" "I"] ++ wsX100)
def wsX10_errs : List Cond := .code yX10_errs cX10_errs 3 (some .int) :: ([.fieldLink RX10 119 "SimonSaysModel" "in" "I", .fieldLink RX10 122 "SimonSaysModel" "streak" "I", .methodLink RX10 135 yX10_isChild, .instanceMethod yX10_isChild, .selects RX10 yX10_isChild yX10_isChild, .initialized RX10, .code yX10_isChild cX10_isChild 2 (some .boolean), .fieldLink RX10 39 "SimonSaysModel" "many" "I", .methodLink RX10 42 yX10_within, .static yX10_within, .code yX10_within cX10_within 6 (some .boolean), .methodLink RX10 144 yX10_isOrder, .static yX10_isOrder, .code yX10_isOrder cX10_isOrder 1 (some .boolean), .constantLong RX10 46 (4), .methodLink RX10 128 yX10_has, .static yX10_has, .code yX10_has cX10_has 2 (some .boolean), .methodLink RX10 147 yX10_errsOf, .instanceMethod yX10_errsOf, .selects RX10 yX10_errsOf yX10_errsOf, .code yX10_errsOf cX10_errsOf 5 (some .int), .fieldLink RX10 13 "SimonSaysModel" "slips" "[I", .fieldLink RX10 16 "SimonSaysModel" "lates" "[I"] ++ wsX100)
def wsX10_remember : List Cond := .code yX10_remember cX10_remember 2 none :: ([.fieldLink RX10 125 "SimonSaysModel" "undos" "I", .fieldLink RX10 26 "SimonSaysModel" "before" "[I", .fieldLink RX10 119 "SimonSaysModel" "in" "I", .fieldLink RX10 122 "SimonSaysModel" "streak" "I"] ++ wsX100)
def wsX10_call_r1 : List Cond := [Cond.fieldLink RX10 119 "SimonSaysModel" "in" "I", Cond.fieldLink RX10 39 "SimonSaysModel" "many" "I", Cond.fieldLink RX10 22 "SimonSaysModel" "lot" "I", Cond.constant RX10 151 (1103515245), Cond.fieldLink RX10 122 "SimonSaysModel" "streak" "I", Cond.methodLink RX10 144 yX10_isOrder, Cond.static yX10_isOrder, Cond.initialized RX10, Cond.code yX10_isOrder cX10_isOrder 1 (some .boolean), Cond.constantLong RX10 46 (4), Cond.methodLink RX10 42 yX10_within, Cond.static yX10_within, Cond.code yX10_within cX10_within 6 (some .boolean), Cond.methodLink RX10 128 yX10_has, Cond.static yX10_has, Cond.code yX10_has cX10_has 2 (some .boolean), Cond.methodLink RX10 131 yX10_leaderOf, Cond.instanceMethod yX10_leaderOf, Cond.selects RX10 yX10_leaderOf yX10_leaderOf, Cond.code yX10_leaderOf cX10_leaderOf 3 (some .int), Cond.fieldLink RX10 19 "SimonSaysModel" "copies" "[I", Cond.methodLink RX10 147 yX10_errsOf, Cond.instanceMethod yX10_errsOf, Cond.selects RX10 yX10_errsOf yX10_errsOf]
def wsX10_call_r2 : List Cond := [Cond.code yX10_errsOf cX10_errsOf 5 (some .int), Cond.fieldLink RX10 13 "SimonSaysModel" "slips" "[I", Cond.fieldLink RX10 16 "SimonSaysModel" "lates" "[I", Cond.methodLink RX10 152 yX10_ledBy, Cond.instanceMethod yX10_ledBy, Cond.selects RX10 yX10_ledBy yX10_ledBy, Cond.code yX10_ledBy cX10_ledBy 4 (some .int), Cond.methodLink RX10 155 yX10_remember, Cond.instanceMethod yX10_remember, Cond.selects RX10 yX10_remember yX10_remember, Cond.code yX10_remember cX10_remember 2 none, Cond.fieldLink RX10 125 "SimonSaysModel" "undos" "I", Cond.fieldLink RX10 26 "SimonSaysModel" "before" "[I", Cond.methodLink RX10 158 yX10_streakBehind, Cond.static yX10_streakBehind, Cond.code yX10_streakBehind cX10_streakBehind 2 (some .int)]
def wsX10_call : List Cond := .code yX10_call cX10_call 4 (some .int) :: ((wsX10_call_r1 ++ wsX10_call_r2) ++ wsX100)
def wsX10_comesBack : List Cond := .code yX10_comesBack cX10_comesBack 2 (some .int) :: ([.fieldLink RX10 119 "SimonSaysModel" "in" "I", .methodLink RX10 135 yX10_isChild, .instanceMethod yX10_isChild, .selects RX10 yX10_isChild yX10_isChild, .initialized RX10, .code yX10_isChild cX10_isChild 2 (some .boolean), .fieldLink RX10 39 "SimonSaysModel" "many" "I", .methodLink RX10 42 yX10_within, .static yX10_within, .code yX10_within cX10_within 6 (some .boolean), .methodLink RX10 128 yX10_has, .static yX10_has, .code yX10_has cX10_has 2 (some .boolean), .methodLink RX10 155 yX10_remember, .instanceMethod yX10_remember, .selects RX10 yX10_remember yX10_remember, .code yX10_remember cX10_remember 2 none, .fieldLink RX10 125 "SimonSaysModel" "undos" "I", .fieldLink RX10 26 "SimonSaysModel" "before" "[I", .fieldLink RX10 122 "SimonSaysModel" "streak" "I", .methodLink RX10 162 yX10_bits, .static yX10_bits, .code yX10_bits cX10_bits 3 (some .int)] ++ wsX100)
def wsX10_undo : List Cond := .code yX10_undo cX10_undo 1 (some .int) :: ([.fieldLink RX10 125 "SimonSaysModel" "undos" "I", .fieldLink RX10 26 "SimonSaysModel" "before" "[I", .fieldLink RX10 119 "SimonSaysModel" "in" "I", .fieldLink RX10 122 "SimonSaysModel" "streak" "I"] ++ wsX100)
def wsX10_lot : List Cond := .code yX10_lot cX10_lot 3 (some .int) :: ([.fieldLink RX10 22 "SimonSaysModel" "lot" "I"] ++ wsX100)
def wsX10_part : List Cond := .code yX10_part cX10_part 11 (some .long) :: ([])
def wsX10_waysOf : List Cond := .code yX10_waysOf cX10_waysOf 8 (some .long) :: ([.fieldLink RX10 119 "SimonSaysModel" "in" "I", .fieldLink RX10 165 "SimonSaysModel" "below" "J", .fieldLink RX10 39 "SimonSaysModel" "many" "I", .fieldLink RX10 122 "SimonSaysModel" "streak" "I", .constantLong RX10 81 (10), .methodLink RX10 128 yX10_has, .static yX10_has, .initialized RX10, .code yX10_has cX10_has 2 (some .boolean), .methodLink RX10 131 yX10_leaderOf, .instanceMethod yX10_leaderOf, .selects RX10 yX10_leaderOf yX10_leaderOf, .code yX10_leaderOf cX10_leaderOf 3 (some .int), .fieldLink RX10 19 "SimonSaysModel" "copies" "[I", .methodLink RX10 152 yX10_ledBy, .instanceMethod yX10_ledBy, .selects RX10 yX10_ledBy yX10_ledBy, .code yX10_ledBy cX10_ledBy 4 (some .int), .methodLink RX10 147 yX10_errsOf, .instanceMethod yX10_errsOf, .selects RX10 yX10_errsOf yX10_errsOf, .code yX10_errsOf cX10_errsOf 5 (some .int), .fieldLink RX10 13 "SimonSaysModel" "slips" "[I", .fieldLink RX10 16 "SimonSaysModel" "lates" "[I"] ++ wsX100)
def wsX10_isPart : List Cond := .code yX10_isPart cX10_isPart 1 (some .boolean) :: ([.methodLink RX10 42 yX10_within, .static yX10_within, .initialized RX10, .code yX10_within cX10_within 6 (some .boolean)])
def wsX10_falls_r1 : List Cond := [Cond.constantLong RX10 79 (-1), Cond.fieldLink RX10 165 "SimonSaysModel" "below" "J", Cond.methodLink RX10 144 yX10_isOrder, Cond.static yX10_isOrder, Cond.initialized RX10, Cond.code yX10_isOrder cX10_isOrder 1 (some .boolean), Cond.constantLong RX10 46 (4), Cond.methodLink RX10 42 yX10_within, Cond.static yX10_within, Cond.code yX10_within cX10_within 6 (some .boolean), Cond.methodLink RX10 168 yX10_isSet, Cond.instanceMethod yX10_isSet, Cond.selects RX10 yX10_isSet yX10_isSet, Cond.code yX10_isSet cX10_isSet 2 (some .boolean), Cond.fieldLink RX10 39 "SimonSaysModel" "many" "I", Cond.methodLink RX10 171 yX10_isPart, Cond.static yX10_isPart, Cond.code yX10_isPart cX10_isPart 1 (some .boolean), Cond.methodLink RX10 174 yX10_waysOf, Cond.instanceMethod yX10_waysOf, Cond.selects RX10 yX10_waysOf yX10_waysOf, Cond.code yX10_waysOf cX10_waysOf 8 (some .long), Cond.fieldLink RX10 119 "SimonSaysModel" "in" "I", Cond.fieldLink RX10 122 "SimonSaysModel" "streak" "I"]
def wsX10_falls_r2 : List Cond := [Cond.constantLong RX10 81 (10), Cond.methodLink RX10 128 yX10_has, Cond.static yX10_has, Cond.code yX10_has cX10_has 2 (some .boolean), Cond.methodLink RX10 131 yX10_leaderOf, Cond.instanceMethod yX10_leaderOf, Cond.selects RX10 yX10_leaderOf yX10_leaderOf, Cond.code yX10_leaderOf cX10_leaderOf 3 (some .int), Cond.fieldLink RX10 19 "SimonSaysModel" "copies" "[I", Cond.methodLink RX10 152 yX10_ledBy, Cond.instanceMethod yX10_ledBy, Cond.selects RX10 yX10_ledBy yX10_ledBy, Cond.code yX10_ledBy cX10_ledBy 4 (some .int), Cond.methodLink RX10 147 yX10_errsOf, Cond.instanceMethod yX10_errsOf, Cond.selects RX10 yX10_errsOf yX10_errsOf, Cond.code yX10_errsOf cX10_errsOf 5 (some .int), Cond.fieldLink RX10 13 "SimonSaysModel" "slips" "[I", Cond.fieldLink RX10 16 "SimonSaysModel" "lates" "[I", Cond.methodLink RX10 178 yX10_part, Cond.static yX10_part, Cond.code yX10_part cX10_part 11 (some .long)]
def wsX10_falls : List Cond := .code yX10_falls cX10_falls 6 (some .long) :: ((wsX10_falls_r1 ++ wsX10_falls_r2) ++ wsX100)
def wsX10_many_r1 : List Cond := [Cond.constantLong RX10 182 (6), Cond.constantLong RX10 79 (-1), Cond.fieldLink RX10 39 "SimonSaysModel" "many" "I", Cond.fieldLink RX10 165 "SimonSaysModel" "below" "J", Cond.methodLink RX10 144 yX10_isOrder, Cond.static yX10_isOrder, Cond.initialized RX10, Cond.code yX10_isOrder cX10_isOrder 1 (some .boolean), Cond.constantLong RX10 46 (4), Cond.methodLink RX10 42 yX10_within, Cond.static yX10_within, Cond.code yX10_within cX10_within 6 (some .boolean), Cond.methodLink RX10 171 yX10_isPart, Cond.static yX10_isPart, Cond.code yX10_isPart cX10_isPart 1 (some .boolean), Cond.methodLink RX10 162 yX10_bits, Cond.static yX10_bits, Cond.code yX10_bits cX10_bits 3 (some .int), Cond.methodLink RX10 174 yX10_waysOf, Cond.instanceMethod yX10_waysOf, Cond.selects RX10 yX10_waysOf yX10_waysOf, Cond.code yX10_waysOf cX10_waysOf 8 (some .long), Cond.fieldLink RX10 119 "SimonSaysModel" "in" "I", Cond.fieldLink RX10 122 "SimonSaysModel" "streak" "I"]
def wsX10_many_r2 : List Cond := [Cond.constantLong RX10 81 (10), Cond.methodLink RX10 128 yX10_has, Cond.static yX10_has, Cond.code yX10_has cX10_has 2 (some .boolean), Cond.methodLink RX10 131 yX10_leaderOf, Cond.instanceMethod yX10_leaderOf, Cond.selects RX10 yX10_leaderOf yX10_leaderOf, Cond.code yX10_leaderOf cX10_leaderOf 3 (some .int), Cond.fieldLink RX10 19 "SimonSaysModel" "copies" "[I", Cond.methodLink RX10 152 yX10_ledBy, Cond.instanceMethod yX10_ledBy, Cond.selects RX10 yX10_ledBy yX10_ledBy, Cond.code yX10_ledBy cX10_ledBy 4 (some .int), Cond.methodLink RX10 147 yX10_errsOf, Cond.instanceMethod yX10_errsOf, Cond.selects RX10 yX10_errsOf yX10_errsOf, Cond.code yX10_errsOf cX10_errsOf 5 (some .int), Cond.fieldLink RX10 13 "SimonSaysModel" "slips" "[I", Cond.fieldLink RX10 16 "SimonSaysModel" "lates" "[I", Cond.methodLink RX10 178 yX10_part, Cond.static yX10_part, Cond.code yX10_part cX10_part 11 (some .long)]
def wsX10_many : List Cond := .code yX10_many cX10_many 8 (some .long) :: ((wsX10_many_r1 ++ wsX10_many_r2) ++ wsX100)
def wsX10_ordersIn : List Cond := .code yX10_ordersIn cX10_ordersIn 4 (some .int) :: ([.methodLink RX10 144 yX10_isOrder, .static yX10_isOrder, .initialized RX10, .code yX10_isOrder cX10_isOrder 1 (some .boolean), .constantLong RX10 46 (4), .methodLink RX10 42 yX10_within, .static yX10_within, .code yX10_within cX10_within 6 (some .boolean)])
def wsX10_orderAt : List Cond := .code yX10_orderAt cX10_orderAt 5 (some .int) :: ([])
def wsX10_staysOf : List Cond := .code yX10_staysOf cX10_staysOf 9 (some .long) :: ([.fieldLink RX10 122 "SimonSaysModel" "streak" "I", .methodLink RX10 184 yX10_orderAt, .static yX10_orderAt, .initialized RX10, .code yX10_orderAt cX10_orderAt 5 (some .int), .methodLink RX10 147 yX10_errsOf, .instanceMethod yX10_errsOf, .selects RX10 yX10_errsOf yX10_errsOf, .code yX10_errsOf cX10_errsOf 5 (some .int), .fieldLink RX10 13 "SimonSaysModel" "slips" "[I", .fieldLink RX10 16 "SimonSaysModel" "lates" "[I", .methodLink RX10 158 yX10_streakBehind, .static yX10_streakBehind, .code yX10_streakBehind cX10_streakBehind 2 (some .int)] ++ wsX100)
def wsX10_tens : List Cond := .code yX10_tens cX10_tens 4 (some .long) :: ([.constantLong RX10 81 (10)])
def wsX10_stays_r1 : List Cond := [Cond.constantLong RX10 97 (9), Cond.constantLong RX10 79 (-1), Cond.fieldLink RX10 119 "SimonSaysModel" "in" "I", Cond.methodLink RX10 187 yX10_ordersIn, Cond.static yX10_ordersIn, Cond.initialized RX10, Cond.code yX10_ordersIn cX10_ordersIn 4 (some .int), Cond.methodLink RX10 144 yX10_isOrder, Cond.static yX10_isOrder, Cond.code yX10_isOrder cX10_isOrder 1 (some .boolean), Cond.constantLong RX10 46 (4), Cond.methodLink RX10 42 yX10_within, Cond.static yX10_within, Cond.code yX10_within cX10_within 6 (some .boolean), Cond.methodLink RX10 135 yX10_isChild, Cond.instanceMethod yX10_isChild, Cond.selects RX10 yX10_isChild yX10_isChild, Cond.code yX10_isChild cX10_isChild 2 (some .boolean), Cond.fieldLink RX10 39 "SimonSaysModel" "many" "I", Cond.methodLink RX10 171 yX10_isPart, Cond.static yX10_isPart, Cond.code yX10_isPart cX10_isPart 1 (some .boolean), Cond.methodLink RX10 128 yX10_has, Cond.static yX10_has]
def wsX10_stays_r2 : List Cond := [Cond.code yX10_has cX10_has 2 (some .boolean), Cond.methodLink RX10 131 yX10_leaderOf, Cond.instanceMethod yX10_leaderOf, Cond.selects RX10 yX10_leaderOf yX10_leaderOf, Cond.code yX10_leaderOf cX10_leaderOf 3 (some .int), Cond.fieldLink RX10 19 "SimonSaysModel" "copies" "[I", Cond.methodLink RX10 190 yX10_staysOf, Cond.instanceMethod yX10_staysOf, Cond.selects RX10 yX10_staysOf yX10_staysOf, Cond.code yX10_staysOf cX10_staysOf 9 (some .long), Cond.fieldLink RX10 122 "SimonSaysModel" "streak" "I", Cond.methodLink RX10 184 yX10_orderAt, Cond.static yX10_orderAt, Cond.code yX10_orderAt cX10_orderAt 5 (some .int), Cond.methodLink RX10 147 yX10_errsOf, Cond.instanceMethod yX10_errsOf, Cond.selects RX10 yX10_errsOf yX10_errsOf, Cond.code yX10_errsOf cX10_errsOf 5 (some .int), Cond.fieldLink RX10 13 "SimonSaysModel" "slips" "[I", Cond.fieldLink RX10 16 "SimonSaysModel" "lates" "[I", Cond.methodLink RX10 158 yX10_streakBehind, Cond.static yX10_streakBehind, Cond.code yX10_streakBehind cX10_streakBehind 2 (some .int), Cond.methodLink RX10 194 yX10_tens]
def wsX10_stays_r3 : List Cond := [Cond.static yX10_tens, Cond.code yX10_tens cX10_tens 4 (some .long), Cond.constantLong RX10 81 (10), Cond.methodLink RX10 178 yX10_part, Cond.static yX10_part, Cond.code yX10_part cX10_part 11 (some .long)]
def wsX10_stays : List Cond := .code yX10_stays cX10_stays 5 (some .long) :: ((wsX10_stays_r1 ++ (wsX10_stays_r2 ++ wsX10_stays_r3)) ++ wsX100)
def wsX10_leftOf_r1 : List Cond := [Cond.fieldLink RX10 39 "SimonSaysModel" "many" "I", Cond.fieldLink RX10 119 "SimonSaysModel" "in" "I", Cond.fieldLink RX10 165 "SimonSaysModel" "below" "J", Cond.methodLink RX10 128 yX10_has, Cond.static yX10_has, Cond.initialized RX10, Cond.code yX10_has cX10_has 2 (some .boolean), Cond.methodLink RX10 131 yX10_leaderOf, Cond.instanceMethod yX10_leaderOf, Cond.selects RX10 yX10_leaderOf yX10_leaderOf, Cond.code yX10_leaderOf cX10_leaderOf 3 (some .int), Cond.fieldLink RX10 19 "SimonSaysModel" "copies" "[I", Cond.methodLink RX10 152 yX10_ledBy, Cond.instanceMethod yX10_ledBy, Cond.selects RX10 yX10_ledBy yX10_ledBy, Cond.code yX10_ledBy cX10_ledBy 4 (some .int), Cond.methodLink RX10 162 yX10_bits, Cond.static yX10_bits, Cond.code yX10_bits cX10_bits 3 (some .int), Cond.methodLink RX10 190 yX10_staysOf, Cond.instanceMethod yX10_staysOf, Cond.selects RX10 yX10_staysOf yX10_staysOf, Cond.code yX10_staysOf cX10_staysOf 9 (some .long), Cond.fieldLink RX10 122 "SimonSaysModel" "streak" "I"]
def wsX10_leftOf_r2 : List Cond := [Cond.methodLink RX10 184 yX10_orderAt, Cond.static yX10_orderAt, Cond.code yX10_orderAt cX10_orderAt 5 (some .int), Cond.methodLink RX10 147 yX10_errsOf, Cond.instanceMethod yX10_errsOf, Cond.selects RX10 yX10_errsOf yX10_errsOf, Cond.code yX10_errsOf cX10_errsOf 5 (some .int), Cond.fieldLink RX10 13 "SimonSaysModel" "slips" "[I", Cond.fieldLink RX10 16 "SimonSaysModel" "lates" "[I", Cond.methodLink RX10 158 yX10_streakBehind, Cond.static yX10_streakBehind, Cond.code yX10_streakBehind cX10_streakBehind 2 (some .int), Cond.methodLink RX10 194 yX10_tens, Cond.static yX10_tens, Cond.code yX10_tens cX10_tens 4 (some .long), Cond.constantLong RX10 81 (10)]
def wsX10_leftOf : List Cond := .code yX10_leftOf cX10_leftOf 13 (some .long) :: ((wsX10_leftOf_r1 ++ wsX10_leftOf_r2) ++ wsX100)
def wsX10_left_r1 : List Cond := [Cond.constantLong RX10 198 (3), Cond.constantLong RX10 79 (-1), Cond.fieldLink RX10 165 "SimonSaysModel" "below" "J", Cond.methodLink RX10 187 yX10_ordersIn, Cond.static yX10_ordersIn, Cond.initialized RX10, Cond.code yX10_ordersIn cX10_ordersIn 4 (some .int), Cond.methodLink RX10 144 yX10_isOrder, Cond.static yX10_isOrder, Cond.code yX10_isOrder cX10_isOrder 1 (some .boolean), Cond.constantLong RX10 46 (4), Cond.methodLink RX10 42 yX10_within, Cond.static yX10_within, Cond.code yX10_within cX10_within 6 (some .boolean), Cond.methodLink RX10 171 yX10_isPart, Cond.static yX10_isPart, Cond.code yX10_isPart cX10_isPart 1 (some .boolean), Cond.methodLink RX10 200 yX10_leftOf, Cond.instanceMethod yX10_leftOf, Cond.selects RX10 yX10_leftOf yX10_leftOf, Cond.code yX10_leftOf cX10_leftOf 13 (some .long), Cond.fieldLink RX10 39 "SimonSaysModel" "many" "I", Cond.fieldLink RX10 119 "SimonSaysModel" "in" "I", Cond.methodLink RX10 128 yX10_has]
def wsX10_left_r2 : List Cond := [Cond.static yX10_has, Cond.code yX10_has cX10_has 2 (some .boolean), Cond.methodLink RX10 131 yX10_leaderOf, Cond.instanceMethod yX10_leaderOf, Cond.selects RX10 yX10_leaderOf yX10_leaderOf, Cond.code yX10_leaderOf cX10_leaderOf 3 (some .int), Cond.fieldLink RX10 19 "SimonSaysModel" "copies" "[I", Cond.methodLink RX10 152 yX10_ledBy, Cond.instanceMethod yX10_ledBy, Cond.selects RX10 yX10_ledBy yX10_ledBy, Cond.code yX10_ledBy cX10_ledBy 4 (some .int), Cond.methodLink RX10 162 yX10_bits, Cond.static yX10_bits, Cond.code yX10_bits cX10_bits 3 (some .int), Cond.methodLink RX10 190 yX10_staysOf, Cond.instanceMethod yX10_staysOf, Cond.selects RX10 yX10_staysOf yX10_staysOf, Cond.code yX10_staysOf cX10_staysOf 9 (some .long), Cond.fieldLink RX10 122 "SimonSaysModel" "streak" "I", Cond.methodLink RX10 184 yX10_orderAt, Cond.static yX10_orderAt, Cond.code yX10_orderAt cX10_orderAt 5 (some .int), Cond.methodLink RX10 147 yX10_errsOf, Cond.instanceMethod yX10_errsOf]
def wsX10_left_r3 : List Cond := [Cond.selects RX10 yX10_errsOf yX10_errsOf, Cond.code yX10_errsOf cX10_errsOf 5 (some .int), Cond.fieldLink RX10 13 "SimonSaysModel" "slips" "[I", Cond.fieldLink RX10 16 "SimonSaysModel" "lates" "[I", Cond.methodLink RX10 158 yX10_streakBehind, Cond.static yX10_streakBehind, Cond.code yX10_streakBehind cX10_streakBehind 2 (some .int), Cond.methodLink RX10 194 yX10_tens, Cond.static yX10_tens, Cond.code yX10_tens cX10_tens 4 (some .long), Cond.constantLong RX10 81 (10), Cond.methodLink RX10 178 yX10_part, Cond.static yX10_part, Cond.code yX10_part cX10_part 11 (some .long)]
def wsX10_left : List Cond := .code yX10_left cX10_left 6 (some .long) :: ((wsX10_left_r1 ++ (wsX10_left_r2 ++ wsX10_left_r3)) ++ wsX100)
def wsX10_best_r1 : List Cond := [Cond.constantLong RX10 198 (3), Cond.constantLong RX10 79 (-1), Cond.methodLink RX10 42 yX10_within, Cond.static yX10_within, Cond.initialized RX10, Cond.code yX10_within cX10_within 6 (some .boolean), Cond.methodLink RX10 187 yX10_ordersIn, Cond.static yX10_ordersIn, Cond.code yX10_ordersIn cX10_ordersIn 4 (some .int), Cond.methodLink RX10 144 yX10_isOrder, Cond.static yX10_isOrder, Cond.code yX10_isOrder cX10_isOrder 1 (some .boolean), Cond.constantLong RX10 46 (4), Cond.methodLink RX10 200 yX10_leftOf, Cond.instanceMethod yX10_leftOf, Cond.selects RX10 yX10_leftOf yX10_leftOf, Cond.code yX10_leftOf cX10_leftOf 13 (some .long), Cond.fieldLink RX10 39 "SimonSaysModel" "many" "I", Cond.fieldLink RX10 119 "SimonSaysModel" "in" "I", Cond.fieldLink RX10 165 "SimonSaysModel" "below" "J", Cond.methodLink RX10 128 yX10_has, Cond.static yX10_has, Cond.code yX10_has cX10_has 2 (some .boolean), Cond.methodLink RX10 131 yX10_leaderOf]
def wsX10_best_r2 : List Cond := [Cond.instanceMethod yX10_leaderOf, Cond.selects RX10 yX10_leaderOf yX10_leaderOf, Cond.code yX10_leaderOf cX10_leaderOf 3 (some .int), Cond.fieldLink RX10 19 "SimonSaysModel" "copies" "[I", Cond.methodLink RX10 152 yX10_ledBy, Cond.instanceMethod yX10_ledBy, Cond.selects RX10 yX10_ledBy yX10_ledBy, Cond.code yX10_ledBy cX10_ledBy 4 (some .int), Cond.methodLink RX10 162 yX10_bits, Cond.static yX10_bits, Cond.code yX10_bits cX10_bits 3 (some .int), Cond.methodLink RX10 190 yX10_staysOf, Cond.instanceMethod yX10_staysOf, Cond.selects RX10 yX10_staysOf yX10_staysOf, Cond.code yX10_staysOf cX10_staysOf 9 (some .long), Cond.fieldLink RX10 122 "SimonSaysModel" "streak" "I", Cond.methodLink RX10 184 yX10_orderAt, Cond.static yX10_orderAt, Cond.code yX10_orderAt cX10_orderAt 5 (some .int), Cond.methodLink RX10 147 yX10_errsOf, Cond.instanceMethod yX10_errsOf, Cond.selects RX10 yX10_errsOf yX10_errsOf, Cond.code yX10_errsOf cX10_errsOf 5 (some .int), Cond.fieldLink RX10 13 "SimonSaysModel" "slips" "[I"]
def wsX10_best_r3 : List Cond := [Cond.fieldLink RX10 16 "SimonSaysModel" "lates" "[I", Cond.methodLink RX10 158 yX10_streakBehind, Cond.static yX10_streakBehind, Cond.code yX10_streakBehind cX10_streakBehind 2 (some .int), Cond.methodLink RX10 194 yX10_tens, Cond.static yX10_tens, Cond.code yX10_tens cX10_tens 4 (some .long), Cond.constantLong RX10 81 (10)]
def wsX10_best : List Cond := .code yX10_best cX10_best 8 (some .int) :: ((wsX10_best_r1 ++ (wsX10_best_r2 ++ wsX10_best_r3)) ++ wsX100)
def wsX10_lure_r1 : List Cond := [Cond.constantLong RX10 81 (10), Cond.fieldLink RX10 119 "SimonSaysModel" "in" "I", Cond.fieldLink RX10 122 "SimonSaysModel" "streak" "I", Cond.methodLink RX10 135 yX10_isChild, Cond.instanceMethod yX10_isChild, Cond.selects RX10 yX10_isChild yX10_isChild, Cond.initialized RX10, Cond.code yX10_isChild cX10_isChild 2 (some .boolean), Cond.fieldLink RX10 39 "SimonSaysModel" "many" "I", Cond.methodLink RX10 42 yX10_within, Cond.static yX10_within, Cond.code yX10_within cX10_within 6 (some .boolean), Cond.methodLink RX10 128 yX10_has, Cond.static yX10_has, Cond.code yX10_has cX10_has 2 (some .boolean), Cond.methodLink RX10 131 yX10_leaderOf, Cond.instanceMethod yX10_leaderOf, Cond.selects RX10 yX10_leaderOf yX10_leaderOf, Cond.code yX10_leaderOf cX10_leaderOf 3 (some .int), Cond.fieldLink RX10 19 "SimonSaysModel" "copies" "[I", Cond.methodLink RX10 147 yX10_errsOf, Cond.instanceMethod yX10_errsOf, Cond.selects RX10 yX10_errsOf yX10_errsOf, Cond.code yX10_errsOf cX10_errsOf 5 (some .int)]
def wsX10_lure_r2 : List Cond := [Cond.fieldLink RX10 13 "SimonSaysModel" "slips" "[I", Cond.fieldLink RX10 16 "SimonSaysModel" "lates" "[I", Cond.methodLink RX10 158 yX10_streakBehind, Cond.static yX10_streakBehind, Cond.code yX10_streakBehind cX10_streakBehind 2 (some .int)]
def wsX10_lure : List Cond := .code yX10_lure cX10_lure 5 (some .int) :: ((wsX10_lure_r1 ++ wsX10_lure_r2) ++ wsX100)
def wsX10_could_r1 : List Cond := [Cond.methodLink RX10 168 yX10_isSet, Cond.instanceMethod yX10_isSet, Cond.selects RX10 yX10_isSet yX10_isSet, Cond.initialized RX10, Cond.code yX10_isSet cX10_isSet 2 (some .boolean), Cond.fieldLink RX10 39 "SimonSaysModel" "many" "I", Cond.methodLink RX10 42 yX10_within, Cond.static yX10_within, Cond.code yX10_within cX10_within 6 (some .boolean), Cond.methodLink RX10 174 yX10_waysOf, Cond.instanceMethod yX10_waysOf, Cond.selects RX10 yX10_waysOf yX10_waysOf, Cond.code yX10_waysOf cX10_waysOf 8 (some .long), Cond.fieldLink RX10 119 "SimonSaysModel" "in" "I", Cond.fieldLink RX10 165 "SimonSaysModel" "below" "J", Cond.fieldLink RX10 122 "SimonSaysModel" "streak" "I", Cond.constantLong RX10 81 (10), Cond.methodLink RX10 128 yX10_has, Cond.static yX10_has, Cond.code yX10_has cX10_has 2 (some .boolean), Cond.methodLink RX10 131 yX10_leaderOf, Cond.instanceMethod yX10_leaderOf, Cond.selects RX10 yX10_leaderOf yX10_leaderOf, Cond.code yX10_leaderOf cX10_leaderOf 3 (some .int)]
def wsX10_could_r2 : List Cond := [Cond.fieldLink RX10 19 "SimonSaysModel" "copies" "[I", Cond.methodLink RX10 152 yX10_ledBy, Cond.instanceMethod yX10_ledBy, Cond.selects RX10 yX10_ledBy yX10_ledBy, Cond.code yX10_ledBy cX10_ledBy 4 (some .int), Cond.methodLink RX10 147 yX10_errsOf, Cond.instanceMethod yX10_errsOf, Cond.selects RX10 yX10_errsOf yX10_errsOf, Cond.code yX10_errsOf cX10_errsOf 5 (some .int), Cond.fieldLink RX10 13 "SimonSaysModel" "slips" "[I", Cond.fieldLink RX10 16 "SimonSaysModel" "lates" "[I"]
def wsX10_could : List Cond := .code yX10_could cX10_could 4 (some .int) :: ((wsX10_could_r1 ++ wsX10_could_r2) ++ wsX100)
def wsX10_likeliest_r1 : List Cond := [Cond.methodLink RX10 168 yX10_isSet, Cond.instanceMethod yX10_isSet, Cond.selects RX10 yX10_isSet yX10_isSet, Cond.initialized RX10, Cond.code yX10_isSet cX10_isSet 2 (some .boolean), Cond.fieldLink RX10 39 "SimonSaysModel" "many" "I", Cond.methodLink RX10 42 yX10_within, Cond.static yX10_within, Cond.code yX10_within cX10_within 6 (some .boolean), Cond.methodLink RX10 174 yX10_waysOf, Cond.instanceMethod yX10_waysOf, Cond.selects RX10 yX10_waysOf yX10_waysOf, Cond.code yX10_waysOf cX10_waysOf 8 (some .long), Cond.fieldLink RX10 119 "SimonSaysModel" "in" "I", Cond.fieldLink RX10 165 "SimonSaysModel" "below" "J", Cond.fieldLink RX10 122 "SimonSaysModel" "streak" "I", Cond.constantLong RX10 81 (10), Cond.methodLink RX10 128 yX10_has, Cond.static yX10_has, Cond.code yX10_has cX10_has 2 (some .boolean), Cond.methodLink RX10 131 yX10_leaderOf, Cond.instanceMethod yX10_leaderOf, Cond.selects RX10 yX10_leaderOf yX10_leaderOf, Cond.code yX10_leaderOf cX10_leaderOf 3 (some .int)]
def wsX10_likeliest_r2 : List Cond := [Cond.fieldLink RX10 19 "SimonSaysModel" "copies" "[I", Cond.methodLink RX10 152 yX10_ledBy, Cond.instanceMethod yX10_ledBy, Cond.selects RX10 yX10_ledBy yX10_ledBy, Cond.code yX10_ledBy cX10_ledBy 4 (some .int), Cond.methodLink RX10 147 yX10_errsOf, Cond.instanceMethod yX10_errsOf, Cond.selects RX10 yX10_errsOf yX10_errsOf, Cond.code yX10_errsOf cX10_errsOf 5 (some .int), Cond.fieldLink RX10 13 "SimonSaysModel" "slips" "[I", Cond.fieldLink RX10 16 "SimonSaysModel" "lates" "[I"]
def wsX10_likeliest : List Cond := .code yX10_likeliest cX10_likeliest 8 (some .int) :: ((wsX10_likeliest_r1 ++ wsX10_likeliest_r2) ++ wsX100)
def wsX10_rate_r1 : List Cond := [Cond.constantLong RX10 138 (5), Cond.constant RX10 203 (-1000000), Cond.fieldLink RX10 204 "SimonSaysModel" "trace" "J", Cond.constantLong RX10 207 (11), Cond.constantLong RX10 209 (101), Cond.constantLong RX10 211 (1011), Cond.constantLong RX10 213 (10101), Cond.constantLong RX10 215 (100001), Cond.fieldLink RX10 39 "SimonSaysModel" "many" "I", Cond.fieldLink RX10 19 "SimonSaysModel" "copies" "[I", Cond.fieldLink RX10 13 "SimonSaysModel" "slips" "[I", Cond.fieldLink RX10 122 "SimonSaysModel" "streak" "I", Cond.fieldLink RX10 16 "SimonSaysModel" "lates" "[I", Cond.fieldLink RX10 119 "SimonSaysModel" "in" "I", Cond.methodLink RX10 42 yX10_within, Cond.static yX10_within, Cond.initialized RX10, Cond.code yX10_within cX10_within 6 (some .boolean), Cond.methodLink RX10 135 yX10_isChild, Cond.instanceMethod yX10_isChild, Cond.selects RX10 yX10_isChild yX10_isChild, Cond.code yX10_isChild cX10_isChild 2 (some .boolean), Cond.methodLink RX10 162 yX10_bits, Cond.static yX10_bits]
def wsX10_rate_r2 : List Cond := [Cond.code yX10_bits cX10_bits 3 (some .int)]
def wsX10_rate : List Cond := .code yX10_rate cX10_rate 6 (some .int) :: ((wsX10_rate_r1 ++ wsX10_rate_r2) ++ wsX100)
def wsX10_keep : List Cond := .code yX10_keep cX10_keep 2 (some .int) :: ([.fieldLink RX10 29 "SimonSaysModel" "images" "[I", .fieldLink RX10 119 "SimonSaysModel" "in" "I", .fieldLink RX10 122 "SimonSaysModel" "streak" "I", .fieldLink RX10 22 "SimonSaysModel" "lot" "I", .fieldLink RX10 32 "SimonSaysModel" "kept" "[Z", .methodLink RX10 42 yX10_within, .static yX10_within, .initialized RX10, .code yX10_within cX10_within 6 (some .boolean), .methodLink RX10 162 yX10_bits, .static yX10_bits, .code yX10_bits cX10_bits 3 (some .int)] ++ wsX100)
def wsX10_back : List Cond := .code yX10_back cX10_back 2 (some .int) :: ([.fieldLink RX10 32 "SimonSaysModel" "kept" "[Z", .fieldLink RX10 29 "SimonSaysModel" "images" "[I", .fieldLink RX10 119 "SimonSaysModel" "in" "I", .fieldLink RX10 122 "SimonSaysModel" "streak" "I", .fieldLink RX10 22 "SimonSaysModel" "lot" "I", .fieldLink RX10 125 "SimonSaysModel" "undos" "I", .methodLink RX10 42 yX10_within, .static yX10_within, .initialized RX10, .code yX10_within cX10_within 6 (some .boolean), .methodLink RX10 162 yX10_bits, .static yX10_bits, .code yX10_bits cX10_bits 3 (some .int)] ++ wsX100)
def wsX10_count : List Cond := .code yX10_count cX10_count 2 (some .int) :: ([.fieldLink RX10 39 "SimonSaysModel" "many" "I", .fieldLink RX10 116 "SimonSaysModel" "little" "I", .fieldLink RX10 119 "SimonSaysModel" "in" "I", .fieldLink RX10 50 "SimonSaysModel" "size" "I", .methodLink RX10 162 yX10_bits, .static yX10_bits, .initialized RX10, .code yX10_bits cX10_bits 3 (some .int)] ++ wsX100)
def wsX10_trace : List Cond := .code yX10_trace cX10_trace 1 (some .long) :: ([.fieldLink RX10 204 "SimonSaysModel" "trace" "J"] ++ wsX100)
def wsJ9_min_7cf53 : List Cond := .code yJ9_min_7cf53 cJ9_min_7cf53 2 (some .int) :: ([])
def wsL_law_r1 : List Cond := [Cond.classLink RL 7 RX9, Cond.instantiable RX9 9, Cond.initialized RX9, Cond.classLink RL 10 RX10, Cond.instantiable RX10 23, Cond.initialized RX10, Cond.constantLong RL 13 (4294967295), Cond.methodLink RL 9 yX9_init, Cond.instanceMethod yX9_init, Cond.code yX9_init cX9_init 2 none, Cond.methodLink RX9 1 objectInit, Cond.instanceMethod objectInit, Cond.code objectInit ⟨#[0xb1]⟩ 1 none, Cond.classLink RX9 7 RX8, Cond.instantiable RX8 2, Cond.initialized RX8, Cond.fieldLink RX9 10 "SimonSays" "text" "LSimonSays$Text;", Cond.classLink RX9 16 RX5, Cond.instantiable RX5 6, Cond.initialized RX5, Cond.fieldLink RX9 21 "SimonSays" "reader" "LSimonSays$Reader;", Cond.classLink RX9 25 RX1, Cond.instantiable RX1 5, Cond.initialized RX1]
def wsL_law_r2 : List Cond := [Cond.fieldLink RX9 28 "SimonSays" "told" "LSimonSays$Children;", Cond.classLink RX9 32 RX6, Cond.instantiable RX6 4, Cond.initialized RX6, Cond.fieldLink RX9 37 "SimonSays" "round" "LSimonSays$Round;", Cond.classLink RX9 41 RX2, Cond.instantiable RX2 3, Cond.initialized RX2, Cond.fieldLink RX9 44 "SimonSays" "history" "LSimonSays$History;", Cond.classLink RX9 48 RX3, Cond.fieldLink RX9 50 "SimonSays" "images" "[LSimonSays$Image;", Cond.instantiable RX3 4, Cond.initialized RX3, Cond.classLink RX9 55 RX7, Cond.instantiable RX7 2, Cond.initialized RX7, Cond.fieldLink RX9 58 "SimonSays" "asked" "LSimonSays$Row;", Cond.classLink RX9 62 RX0, Cond.instantiable RX0 4, Cond.initialized RX0, Cond.fieldLink RX9 67 "SimonSays" "chances" "LSimonSays$Chances;", Cond.classLink RX9 71 RX4, Cond.instantiable RX4 3, Cond.initialized RX4]
def wsL_law_r3 : List Cond := [Cond.fieldLink RX9 76 "SimonSays" "kinds" "LSimonSays$Kinds;", Cond.methodLink RX9 9 yX8_init, Cond.instanceMethod yX8_init, Cond.code yX8_init cX8_init 1 none, Cond.methodLink RX8 3 objectInit, Cond.arrayClass .int, Cond.fieldLink RX8 9 "SimonSays$Text" "bytes" "[I", Cond.methodLink RX9 18 yX5_init, Cond.instanceMethod yX5_init, Cond.code yX5_init cX5_init 2 none, Cond.methodLink RX5 3 objectInit, Cond.fieldLink RX5 9 "SimonSays$Reader" "text" "LSimonSays$Text;", Cond.classLink RX5 15 RX1, Cond.fieldLink RX5 18 "SimonSays$Reader" "found" "LSimonSays$Children;", Cond.methodLink RX5 17 yX1_init, Cond.instanceMethod yX1_init, Cond.code yX1_init cX1_init 1 none, Cond.methodLink RX1 3 objectInit, Cond.fieldLink RX1 9 "SimonSays$Children" "slips" "[I", Cond.fieldLink RX1 15 "SimonSays$Children" "lates" "[I", Cond.fieldLink RX1 18 "SimonSays$Children" "copied" "[I", Cond.methodLink RX9 27 yX1_init, Cond.methodLink RX9 34 yX6_init, Cond.instanceMethod yX6_init]
def wsL_law_r4 : List Cond := [Cond.code yX6_init cX6_init 2 none, Cond.methodLink RX6 3 objectInit, Cond.fieldLink RX6 9 "SimonSays$Round" "told" "LSimonSays$Children;", Cond.fieldLink RX6 15 "SimonSays$Round" "lot" "I", Cond.methodLink RX9 43 yX2_init, Cond.instanceMethod yX2_init, Cond.code yX2_init cX2_init 1 none, Cond.methodLink RX2 3 objectInit, Cond.fieldLink RX2 9 "SimonSays$History" "ins" "[I", Cond.fieldLink RX2 15 "SimonSays$History" "streaks" "[I", Cond.methodLink RX9 54 yX3_init, Cond.instanceMethod yX3_init, Cond.code yX3_init cX3_init 1 none, Cond.methodLink RX3 1 objectInit, Cond.fieldLink RX3 7 "SimonSays$Image" "kept" "Z", Cond.methodLink RX9 57 yX7_init, Cond.instanceMethod yX7_init, Cond.code yX7_init cX7_init 1 none, Cond.methodLink RX7 3 objectInit, Cond.fieldLink RX7 9 "SimonSays$Row" "figures" "[I", Cond.methodLink RX9 64 yX0_init, Cond.instanceMethod yX0_init, Cond.code yX0_init cX0_init 4 none, Cond.methodLink RX0 3 objectInit]
def wsL_law_r5 : List Cond := [Cond.fieldLink RX0 9 "SimonSays$Chances" "told" "LSimonSays$Children;", Cond.fieldLink RX0 15 "SimonSays$Chances" "round" "LSimonSays$Round;", Cond.fieldLink RX0 19 "SimonSays$Chances" "row" "LSimonSays$Row;", Cond.arrayClass .long, Cond.fieldLink RX0 23 "SimonSays$Chances" "byNumber" "[J", Cond.methodLink RX9 73 yX4_init, Cond.instanceMethod yX4_init, Cond.code yX4_init cX4_init 3 none, Cond.methodLink RX4 3 objectInit, Cond.fieldLink RX4 9 "SimonSays$Kinds" "told" "LSimonSays$Children;", Cond.fieldLink RX4 15 "SimonSays$Kinds" "round" "LSimonSays$Round;", Cond.methodLink RL 12 yX10_init, Cond.instanceMethod yX10_init, Cond.code yX10_init cX10_init 1 none, Cond.methodLink RX10 1 objectInit, Cond.fieldLink RX10 7 "SimonSaysModel" "text" "[I", Cond.fieldLink RX10 13 "SimonSaysModel" "slips" "[I", Cond.fieldLink RX10 16 "SimonSaysModel" "lates" "[I", Cond.fieldLink RX10 19 "SimonSaysModel" "copies" "[I", Cond.fieldLink RX10 22 "SimonSaysModel" "lot" "I", Cond.fieldLink RX10 26 "SimonSaysModel" "before" "[I", Cond.fieldLink RX10 29 "SimonSaysModel" "images" "[I", Cond.arrayClass .boolean, Cond.fieldLink RX10 32 "SimonSaysModel" "kept" "[Z"]
def wsL_law_r6 : List Cond := [Cond.fieldLink RX10 36 "SimonSaysModel" "read" "[I", Cond.methodLink RL 15 yX9_type, Cond.instanceMethod yX9_type, Cond.selects RX9 yX9_type yX9_type, Cond.code yX9_type cX9_type 5 (some .int), Cond.methodLink RX9 80 yX8_length, Cond.instanceMethod yX8_length, Cond.selects RX8 yX8_length yX8_length, Cond.code yX8_length cX8_length 1 (some .int), Cond.fieldLink RX8 15 "SimonSays$Text" "length" "I", Cond.methodLink RX9 84 yX8_append, Cond.instanceMethod yX8_append, Cond.selects RX8 yX8_append yX8_append, Cond.code yX8_append cX8_append 2 none, Cond.methodLink RL 19 yX10_type, Cond.instanceMethod yX10_type, Cond.selects RX10 yX10_type yX10_type, Cond.code yX10_type cX10_type 5 (some .int), Cond.constantLong RX10 48 (8), Cond.fieldLink RX10 50 "SimonSaysModel" "size" "I", Cond.constantLong RX10 53 (255), Cond.methodLink RX10 42 yX10_within, Cond.static yX10_within, Cond.code yX10_within cX10_within 6 (some .boolean)]
def wsL_law_r7 : List Cond := [Cond.methodLink RL 20 yX9_clear, Cond.instanceMethod yX9_clear, Cond.selects RX9 yX9_clear yX9_clear, Cond.code yX9_clear cX9_clear 2 (some .int), Cond.methodLink RX9 88 yX8_drop, Cond.instanceMethod yX8_drop, Cond.selects RX8 yX8_drop yX8_drop, Cond.code yX8_drop cX8_drop 1 none, Cond.methodLink RL 24 yX10_clear, Cond.instanceMethod yX10_clear, Cond.selects RX10 yX10_clear yX10_clear, Cond.code yX10_clear cX10_clear 2 (some .int), Cond.methodLink RL 25 yX9_children, Cond.instanceMethod yX9_children, Cond.selects RX9 yX9_children yX9_children, Cond.code yX9_children cX9_children 3 (some .int), Cond.methodLink RX9 91 yX5_readItems, Cond.instanceMethod yX5_readItems, Cond.selects RX5 yX5_readItems yX5_readItems, Cond.code yX5_readItems cX5_readItems 2 (some .int), Cond.fieldLink RX5 25 "SimonSays$Reader" "end" "I", Cond.fieldLink RX5 32 "SimonSays$Reader" "token" "I", Cond.methodLink RX5 22 yX1_forget, Cond.instanceMethod yX1_forget]
def wsL_law_r8 : List Cond := [Cond.selects RX1 yX1_forget yX1_forget, Cond.code yX1_forget cX1_forget 1 none, Cond.fieldLink RX1 21 "SimonSays$Children" "size" "I", Cond.fieldLink RX1 25 "SimonSays$Children" "littleOnes" "I", Cond.methodLink RX5 29 yX5_advance, Cond.instanceMethod yX5_advance, Cond.selects RX5 yX5_advance yX5_advance, Cond.code yX5_advance cX5_advance 2 none, Cond.fieldLink RX5 39 "SimonSays$Reader" "start" "I", Cond.methodLink RX5 70 yX8_length, Cond.methodLink RX5 75 yX8_byteAt, Cond.instanceMethod yX8_byteAt, Cond.selects RX8 yX8_byteAt yX8_byteAt, Cond.code yX8_byteAt cX8_byteAt 2 (some .int), Cond.methodLink RX5 79 yX5_isLetter, Cond.static yX5_isLetter, Cond.code yX5_isLetter cX5_isLetter 1 (some .boolean), Cond.methodLink RX5 82 yX5_advanceOverWord, Cond.instanceMethod yX5_advanceOverWord, Cond.selects RX5 yX5_advanceOverWord yX5_advanceOverWord, Cond.code yX5_advanceOverWord cX5_advanceOverWord 1 none, Cond.methodLink RX5 93 yX5_spells, Cond.instanceMethod yX5_spells, Cond.selects RX5 yX5_spells yX5_spells]
def wsL_law_r9 : List Cond := [Cond.code yX5_spells cX5_spells 3 (some .boolean), Cond.methodLink RX5 105 yJ0_length_8abf5, Cond.instanceMethod yJ0_length_8abf5, Cond.selects RJ0 yJ0_length_8abf5 yJ0_length_8abf5, Cond.initialized RJ0, Cond.code yJ0_length_8abf5 cJ0_length_8abf5 1 (some .int), Cond.fieldLink RJ0 9 "java/lang/String" "value" "[B", Cond.methodLink RJ0 335 yJ0_coder_7d493, Cond.instanceMethod yJ0_coder_7d493, Cond.selects RJ0 yJ0_coder_7d493 yJ0_coder_7d493, Cond.code yJ0_coder_7d493 cJ0_coder_7d493 1 (some .byte), Cond.fieldLink RJ0 38 "java/lang/String" "COMPACT_STRINGS" "Z", Cond.fieldLink RJ0 15 "java/lang/String" "coder" "B", Cond.methodLink RX5 108 yJ0_charAt_5068e, Cond.instanceMethod yJ0_charAt_5068e, Cond.selects RJ0 yJ0_charAt_5068e yJ0_charAt_5068e, Cond.code yJ0_charAt_5068e cJ0_charAt_5068e 2 (some .char), Cond.methodLink RJ0 492 yJ0_isLatin1_aae02, Cond.instanceMethod yJ0_isLatin1_aae02, Cond.selects RJ0 yJ0_isLatin1_aae02 yJ0_isLatin1_aae02, Cond.code yJ0_isLatin1_aae02 cJ0_isLatin1_aae02 1 (some .boolean), Cond.methodLink RJ0 495 yJ1_charAt_3b067, Cond.static yJ1_charAt_3b067, Cond.initialized RJ1]
def wsL_law_r10 : List Cond := [Cond.code yJ1_charAt_3b067 cJ1_charAt_3b067 2 (some .char), Cond.methodLink RJ1 9 yJ0_checkIndex_df160, Cond.static yJ0_checkIndex_df160, Cond.code yJ0_checkIndex_df160 cJ0_checkIndex_df160 2 none, Cond.fieldLink RJ0 1053 "jdk/internal/util/Preconditions" "SIOOBE_FORMATTER" "Ljava/util/function/BiFunction;", Cond.methodLink RJ0 1059 yJ3_checkIndex_8e157, Cond.static yJ3_checkIndex_8e157, Cond.initialized RJ3, Cond.code yJ3_checkIndex_8e157 cJ3_checkIndex_8e157 3 (some .int), Cond.methodLink RJ0 498 yJ2_charAt_3b067, Cond.static yJ2_charAt_3b067, Cond.initialized RJ2, Cond.code yJ2_charAt_3b067 cJ2_charAt_3b067 2 (some .char), Cond.methodLink RJ2 67 yJ2_checkIndex_2214a, Cond.static yJ2_checkIndex_2214a, Cond.code yJ2_checkIndex_2214a cJ2_checkIndex_2214a 2 none, Cond.methodLink RJ2 48 yJ2_length_9d52b, Cond.static yJ2_length_9d52b, Cond.code yJ2_length_9d52b cJ2_length_9d52b 1 (some .int), Cond.methodLink RJ2 414 yJ0_checkIndex_df160, Cond.methodLink RJ2 71 yJ2_getChar_3b067, Cond.static yJ2_getChar_3b067, Cond.code yJ2_getChar_3b067 cJ2_getChar_3b067 2 (some .char), Cond.fieldLink RJ2 44 "java/lang/StringUTF16" "$assertionsDisabled" "Z"]
def wsL_law_r11 : List Cond := [Cond.fieldLink RJ2 59 "java/lang/StringUTF16" "HI_BYTE_SHIFT" "I", Cond.fieldLink RJ2 63 "java/lang/StringUTF16" "LO_BYTE_SHIFT" "I", Cond.methodLink RX5 85 yX5_isDigit, Cond.static yX5_isDigit, Cond.code yX5_isDigit cX5_isDigit 1 (some .boolean), Cond.methodLink RX5 88 yX5_advanceOverNumber, Cond.instanceMethod yX5_advanceOverNumber, Cond.selects RX5 yX5_advanceOverNumber yX5_advanceOverNumber, Cond.code yX5_advanceOverNumber cX5_advanceOverNumber 3 none, Cond.fieldLink RX5 56 "SimonSays$Reader" "value" "I", Cond.methodLink RX5 99 Lib.Math.min.name, Cond.static Lib.Math.min.name, Cond.initialized "java/lang/Math", Cond.code Lib.Math.min.name Lib.Math.min.code 2 (some .int), Cond.methodLink RX5 35 yX5_readItem, Cond.instanceMethod yX5_readItem, Cond.selects RX5 yX5_readItem yX5_readItem, Cond.code yX5_readItem cX5_readItem 1 (some .boolean), Cond.methodLink RX5 42 yX5_readChild, Cond.instanceMethod yX5_readChild, Cond.selects RX5 yX5_readChild yX5_readChild, Cond.code yX5_readChild cX5_readChild 4 (some .boolean), Cond.methodLink RX5 48 yX1_size, Cond.instanceMethod yX1_size]
def wsL_law_r12 : List Cond := [Cond.selects RX1 yX1_size yX1_size, Cond.code yX1_size cX1_size 1 (some .int), Cond.methodLink RX5 52 yX5_isNumberUpTo, Cond.instanceMethod yX5_isNumberUpTo, Cond.selects RX5 yX5_isNumberUpTo yX5_isNumberUpTo, Cond.code yX5_isNumberUpTo cX5_isNumberUpTo 2 (some .boolean), Cond.methodLink RX5 59 yX1_has, Cond.instanceMethod yX1_has, Cond.selects RX1 yX1_has yX1_has, Cond.code yX1_has cX1_has 2 (some .boolean), Cond.methodLink RX5 62 yX1_add, Cond.instanceMethod yX1_add, Cond.selects RX1 yX1_add yX1_add, Cond.code yX1_add cX1_add 4 none, Cond.methodLink RX5 45 yX5_readLittle, Cond.instanceMethod yX5_readLittle, Cond.selects RX5 yX5_readLittle yX5_readLittle, Cond.code yX5_readLittle cX5_readLittle 2 (some .boolean), Cond.methodLink RX5 66 yX1_makeLittle, Cond.instanceMethod yX1_makeLittle, Cond.selects RX1 yX1_makeLittle yX1_makeLittle, Cond.code yX1_makeLittle cX1_makeLittle 2 none, Cond.methodLink RX9 94 yX5_fault, Cond.instanceMethod yX5_fault]
def wsL_law_r13 : List Cond := [Cond.selects RX5 yX5_fault yX5_fault, Cond.code yX5_fault cX5_fault 1 (some .int), Cond.methodLink RX9 97 yX5_found, Cond.instanceMethod yX5_found, Cond.selects RX5 yX5_found yX5_found, Cond.code yX5_found cX5_found 1 (some (.object "SimonSays$Children")), Cond.methodLink RX9 101 yX1_takeOver, Cond.instanceMethod yX1_takeOver, Cond.selects RX1 yX1_takeOver yX1_takeOver, Cond.code yX1_takeOver cX1_takeOver 3 none, Cond.methodLink RX1 28 yX1_forget, Cond.methodLink RX1 31 yX1_slipOf, Cond.instanceMethod yX1_slipOf, Cond.selects RX1 yX1_slipOf yX1_slipOf, Cond.code yX1_slipOf cX1_slipOf 2 (some .int), Cond.methodLink RX1 49 yX1_has, Cond.methodLink RX1 35 yX1_lateOf, Cond.instanceMethod yX1_lateOf, Cond.selects RX1 yX1_lateOf yX1_lateOf, Cond.code yX1_lateOf cX1_lateOf 2 (some .int), Cond.methodLink RX1 38 yX1_copiedBy, Cond.instanceMethod yX1_copiedBy, Cond.selects RX1 yX1_copiedBy yX1_copiedBy, Cond.code yX1_copiedBy cX1_copiedBy 2 (some .int)]
def wsL_law_r14 : List Cond := [Cond.methodLink RX1 41 yX1_add, Cond.methodLink RX9 104 yX6_startAnew, Cond.instanceMethod yX6_startAnew, Cond.selects RX6 yX6_startAnew yX6_startAnew, Cond.code yX6_startAnew cX6_startAnew 1 none, Cond.methodLink RX6 19 yX1_everyone, Cond.instanceMethod yX1_everyone, Cond.selects RX1 yX1_everyone yX1_everyone, Cond.code yX1_everyone cX1_everyone 1 (some .int), Cond.methodLink RX6 25 yX6_become, Cond.instanceMethod yX6_become, Cond.selects RX6 yX6_become yX6_become, Cond.code yX6_become cX6_become 3 none, Cond.fieldLink RX6 29 "SimonSays$Round" "in" "I", Cond.fieldLink RX6 32 "SimonSays$Round" "streak" "I", Cond.methodLink RX9 107 yX2_forget, Cond.instanceMethod yX2_forget, Cond.selects RX2 yX2_forget yX2_forget, Cond.code yX2_forget cX2_forget 1 none, Cond.fieldLink RX2 18 "SimonSays$History" "size" "I", Cond.methodLink RX9 110 yX3_forget, Cond.instanceMethod yX3_forget, Cond.selects RX3 yX3_forget yX3_forget, Cond.code yX3_forget cX3_forget 1 none]
def wsL_law_r15 : List Cond := [Cond.methodLink RL 28 yX10_children, Cond.instanceMethod yX10_children, Cond.selects RX10 yX10_children yX10_children, Cond.code yX10_children cX10_children 3 (some .int), Cond.fieldLink RX10 55 "SimonSaysModel" "at" "I", Cond.fieldLink RX10 90 "SimonSaysModel" "readMany" "I", Cond.fieldLink RX10 103 "SimonSaysModel" "readLittle" "I", Cond.fieldLink RX10 72 "SimonSaysModel" "kind" "I", Cond.fieldLink RX10 61 "SimonSaysModel" "value" "J", Cond.constantLong RX10 106 (3417476), Cond.constantLong RX10 111 (412766597), Cond.fieldLink RX10 58 "SimonSaysModel" "begin" "I", Cond.fieldLink RX10 39 "SimonSaysModel" "many" "I", Cond.fieldLink RX10 116 "SimonSaysModel" "little" "I", Cond.fieldLink RX10 119 "SimonSaysModel" "in" "I", Cond.fieldLink RX10 122 "SimonSaysModel" "streak" "I", Cond.fieldLink RX10 125 "SimonSaysModel" "undos" "I", Cond.methodLink RX10 87 yX10_next, Cond.instanceMethod yX10_next, Cond.selects RX10 yX10_next yX10_next, Cond.code yX10_next cX10_next 2 none, Cond.constantLong RX10 75 (32), Cond.constantLong RX10 77 (96), Cond.constantLong RX10 79 (-1)]
def wsL_law_r16 : List Cond := [Cond.constantLong RX10 81 (10), Cond.constantLong RX10 83 (48), Cond.constantLong RX10 85 (1000), Cond.methodLink RX10 65 yX10_isLetter, Cond.static yX10_isLetter, Cond.code yX10_isLetter cX10_isLetter 1 (some .boolean), Cond.methodLink RX10 69 yX10_isFigure, Cond.static yX10_isFigure, Cond.code yX10_isFigure cX10_isFigure 1 (some .boolean), Cond.methodLink RX10 108 yX10_takesChild, Cond.instanceMethod yX10_takesChild, Cond.selects RX10 yX10_takesChild yX10_takesChild, Cond.code yX10_takesChild cX10_takesChild 2 (some .boolean), Cond.constantLong RX10 97 (9), Cond.methodLink RX10 93 yX10_takes, Cond.instanceMethod yX10_takes, Cond.selects RX10 yX10_takes yX10_takes, Cond.code yX10_takes cX10_takes 3 (some .boolean), Cond.methodLink RX10 99 yX10_stops, Cond.instanceMethod yX10_stops, Cond.selects RX10 yX10_stops yX10_stops, Cond.code yX10_stops cX10_stops 1 (some .boolean), Cond.methodLink RX10 113 yX10_takesLittle, Cond.instanceMethod yX10_takesLittle]
def wsL_law_r17 : List Cond := [Cond.selects RX10 yX10_takesLittle yX10_takesLittle, Cond.code yX10_takesLittle cX10_takesLittle 1 (some .boolean), Cond.methodLink RL 29 yX9_child, Cond.instanceMethod yX9_child, Cond.selects RX9 yX9_child yX9_child, Cond.code yX9_child cX9_child 3 (some .int), Cond.methodLink RX9 111 yX1_has, Cond.methodLink RX9 115 yX1_slipOf, Cond.methodLink RX9 119 yX1_lateOf, Cond.methodLink RX9 122 yX1_copiedBy, Cond.methodLink RX9 125 yX1_isLittle, Cond.instanceMethod yX1_isLittle, Cond.selects RX1 yX1_isLittle yX1_isLittle, Cond.code yX1_isLittle cX1_isLittle 2 (some .boolean), Cond.methodLink RX9 128 yX6_isIn, Cond.instanceMethod yX6_isIn, Cond.selects RX6 yX6_isIn yX6_isIn, Cond.code yX6_isIn cX6_isIn 2 (some .boolean), Cond.methodLink RX6 41 yX1_has, Cond.methodLink RX9 131 yX6_leaderOf, Cond.instanceMethod yX6_leaderOf, Cond.selects RX6 yX6_leaderOf yX6_leaderOf, Cond.code yX6_leaderOf cX6_leaderOf 5 (some .int), Cond.methodLink RX6 45 yX1_copiedBy]
def wsL_law_r18 : List Cond := [Cond.methodLink RX6 48 yX6_isIn, Cond.methodLink RL 33 yX10_child, Cond.instanceMethod yX10_child, Cond.selects RX10 yX10_child yX10_child, Cond.code yX10_child cX10_child 3 (some .int), Cond.constantLong RX10 138 (5), Cond.methodLink RX10 135 yX10_isChild, Cond.instanceMethod yX10_isChild, Cond.selects RX10 yX10_isChild yX10_isChild, Cond.code yX10_isChild cX10_isChild 2 (some .boolean), Cond.methodLink RX10 128 yX10_has, Cond.static yX10_has, Cond.code yX10_has cX10_has 2 (some .boolean), Cond.methodLink RX10 131 yX10_leaderOf, Cond.instanceMethod yX10_leaderOf, Cond.selects RX10 yX10_leaderOf yX10_leaderOf, Cond.code yX10_leaderOf cX10_leaderOf 3 (some .int), Cond.methodLink RL 34 yX9_now, Cond.instanceMethod yX9_now, Cond.selects RX9 yX9_now yX9_now, Cond.code yX9_now cX9_now 2 (some .int), Cond.methodLink RX9 134 yX6_whoIsIn, Cond.instanceMethod yX6_whoIsIn, Cond.selects RX6 yX6_whoIsIn yX6_whoIsIn]
def wsL_law_r19 : List Cond := [Cond.code yX6_whoIsIn cX6_whoIsIn 1 (some .int), Cond.methodLink RX9 137 yX6_streak, Cond.instanceMethod yX6_streak, Cond.selects RX6 yX6_streak yX6_streak, Cond.code yX6_streak cX6_streak 1 (some .int), Cond.methodLink RX9 140 yX6_isFair, Cond.instanceMethod yX6_isFair, Cond.selects RX6 yX6_isFair yX6_isFair, Cond.code yX6_isFair cX6_isFair 3 (some .boolean), Cond.methodLink RX6 75 yX1_littleOnes, Cond.instanceMethod yX1_littleOnes, Cond.selects RX1 yX1_littleOnes yX1_littleOnes, Cond.code yX1_littleOnes cX1_littleOnes 1 (some .int), Cond.methodLink RX9 144 yX2_size, Cond.instanceMethod yX2_size, Cond.selects RX2 yX2_size yX2_size, Cond.code yX2_size cX2_size 1 (some .int), Cond.methodLink RL 38 yX10_now, Cond.instanceMethod yX10_now, Cond.selects RX10 yX10_now yX10_now, Cond.code yX10_now cX10_now 2 (some .int), Cond.methodLink RX10 140 yX10_fair, Cond.instanceMethod yX10_fair, Cond.selects RX10 yX10_fair yX10_fair]
def wsL_law_r20 : List Cond := [Cond.code yX10_fair cX10_fair 2 (some .int), Cond.methodLink RL 39 yX9_errs, Cond.instanceMethod yX9_errs, Cond.selects RX9 yX9_errs yX9_errs, Cond.code yX9_errs cX9_errs 3 (some .int), Cond.methodLink RX9 147 yX9_isOrder, Cond.static yX9_isOrder, Cond.code yX9_isOrder cX9_isOrder 1 (some .boolean), Cond.methodLink RX9 150 yX1_errsOf, Cond.instanceMethod yX1_errsOf, Cond.selects RX1 yX1_errsOf yX1_errsOf, Cond.code yX1_errsOf cX1_errsOf 4 (some .int), Cond.methodLink RX1 53 Lib.Math.min.name, Cond.methodLink RL 42 yX10_errs, Cond.instanceMethod yX10_errs, Cond.selects RX10 yX10_errs yX10_errs, Cond.code yX10_errs cX10_errs 3 (some .int), Cond.methodLink RX10 144 yX10_isOrder, Cond.static yX10_isOrder, Cond.code yX10_isOrder cX10_isOrder 1 (some .boolean), Cond.constantLong RX10 46 (4), Cond.methodLink RX10 147 yX10_errsOf, Cond.instanceMethod yX10_errsOf, Cond.selects RX10 yX10_errsOf yX10_errsOf]
def wsL_law_r21 : List Cond := [Cond.code yX10_errsOf cX10_errsOf 5 (some .int), Cond.methodLink RL 43 yX9_call, Cond.instanceMethod yX9_call, Cond.selects RX9 yX9_call yX9_call, Cond.code yX9_call cX9_call 2 (some .int), Cond.methodLink RX9 154 yX2_add, Cond.instanceMethod yX2_add, Cond.selects RX2 yX2_add yX2_add, Cond.code yX2_add cX2_add 3 none, Cond.methodLink RX2 22 yX2_loseOldest, Cond.instanceMethod yX2_loseOldest, Cond.selects RX2 yX2_loseOldest yX2_loseOldest, Cond.code yX2_loseOldest cX2_loseOldest 1 none, Cond.methodLink RX2 25 arraycopyName, Cond.native arraycopyName, Cond.static arraycopyName, Cond.initialized "java/lang/System", Cond.methodLink RX9 158 yX6_obey, Cond.instanceMethod yX6_obey, Cond.selects RX6 yX6_obey yX6_obey, Cond.code yX6_obey cX6_obey 4 (some .int), Cond.methodLink RX6 54 yX1_size, Cond.methodLink RX6 57 yX6_isLeader, Cond.instanceMethod yX6_isLeader]
def wsL_law_r22 : List Cond := [Cond.selects RX6 yX6_isLeader yX6_isLeader, Cond.code yX6_isLeader cX6_isLeader 2 (some .boolean), Cond.methodLink RX6 51 yX6_leaderOf, Cond.methodLink RX6 60 yX6_draw, Cond.instanceMethod yX6_draw, Cond.selects RX6 yX6_draw yX6_draw, Cond.code yX6_draw cX6_draw 1 (some .int), Cond.constant RX6 74 (1103515245), Cond.methodLink RX6 63 yX1_errsOf, Cond.methodLink RX6 67 yX6_groupOf, Cond.instanceMethod yX6_groupOf, Cond.selects RX6 yX6_groupOf yX6_groupOf, Cond.code yX6_groupOf cX6_groupOf 4 (some .int), Cond.static yX9_streakBehind, Cond.code yX9_streakBehind cX9_streakBehind 2 (some .int), Cond.methodLink RX9 265 Lib.Math.min.name, Cond.methodLink RL 46 yX10_call, Cond.instanceMethod yX10_call, Cond.selects RX10 yX10_call yX10_call, Cond.code yX10_call cX10_call 4 (some .int), Cond.constant RX10 151 (1103515245), Cond.methodLink RX10 152 yX10_ledBy, Cond.instanceMethod yX10_ledBy, Cond.selects RX10 yX10_ledBy yX10_ledBy]
def wsL_law_r23 : List Cond := [Cond.code yX10_ledBy cX10_ledBy 4 (some .int), Cond.methodLink RX10 155 yX10_remember, Cond.instanceMethod yX10_remember, Cond.selects RX10 yX10_remember yX10_remember, Cond.code yX10_remember cX10_remember 2 none, Cond.methodLink RX10 158 yX10_streakBehind, Cond.static yX10_streakBehind, Cond.code yX10_streakBehind cX10_streakBehind 2 (some .int), Cond.methodLink RL 47 yX9_comesBack, Cond.instanceMethod yX9_comesBack, Cond.selects RX9 yX9_comesBack yX9_comesBack, Cond.code yX9_comesBack cX9_comesBack 2 (some .int), Cond.methodLink RX9 161 yX6_letIn, Cond.instanceMethod yX6_letIn, Cond.selects RX6 yX6_letIn yX6_letIn, Cond.code yX6_letIn cX6_letIn 2 none, Cond.methodLink RX9 164 yX6_howManyIn, Cond.instanceMethod yX6_howManyIn, Cond.selects RX6 yX6_howManyIn yX6_howManyIn, Cond.code yX6_howManyIn cX6_howManyIn 1 (some .int), Cond.methodLink RX6 35 yJ6_bitCount_0f7a4, Cond.static yJ6_bitCount_0f7a4, Cond.initialized RJ6, Cond.code yJ6_bitCount_0f7a4 cJ6_bitCount_0f7a4 1 (some .int)]
def wsL_law_r24 : List Cond := [Cond.constant RJ6 265 (1431655765), Cond.constant RJ6 266 (858993459), Cond.constant RJ6 267 (252645135), Cond.methodLink RL 50 yX10_comesBack, Cond.instanceMethod yX10_comesBack, Cond.selects RX10 yX10_comesBack yX10_comesBack, Cond.code yX10_comesBack cX10_comesBack 2 (some .int), Cond.methodLink RX10 162 yX10_bits, Cond.static yX10_bits, Cond.code yX10_bits cX10_bits 3 (some .int), Cond.methodLink RL 51 yX9_undo, Cond.instanceMethod yX9_undo, Cond.selects RX9 yX9_undo yX9_undo, Cond.code yX9_undo cX9_undo 1 (some .int), Cond.methodLink RX9 167 yX2_dropLatest, Cond.instanceMethod yX2_dropLatest, Cond.selects RX2 yX2_dropLatest yX2_dropLatest, Cond.code yX2_dropLatest cX2_dropLatest 1 none, Cond.methodLink RX9 170 yX2_droppedIn, Cond.instanceMethod yX2_droppedIn, Cond.selects RX2 yX2_droppedIn yX2_droppedIn, Cond.code yX2_droppedIn cX2_droppedIn 1 (some .int), Cond.methodLink RX9 173 yX2_droppedStreak, Cond.instanceMethod yX2_droppedStreak]
def wsL_law_r25 : List Cond := [Cond.selects RX2 yX2_droppedStreak yX2_droppedStreak, Cond.code yX2_droppedStreak cX2_droppedStreak 1 (some .int), Cond.methodLink RX9 176 yX6_become, Cond.methodLink RL 54 yX10_undo, Cond.instanceMethod yX10_undo, Cond.selects RX10 yX10_undo yX10_undo, Cond.code yX10_undo cX10_undo 1 (some .int), Cond.methodLink RL 55 yX9_lot, Cond.instanceMethod yX9_lot, Cond.selects RX9 yX9_lot yX9_lot, Cond.code yX9_lot cX9_lot 3 (some .int), Cond.methodLink RX9 179 yX6_theLot, Cond.instanceMethod yX6_theLot, Cond.selects RX6 yX6_theLot yX6_theLot, Cond.code yX6_theLot cX6_theLot 1 (some .int), Cond.methodLink RX9 182 yX6_setLot, Cond.instanceMethod yX6_setLot, Cond.selects RX6 yX6_setLot yX6_setLot, Cond.code yX6_setLot cX6_setLot 2 none, Cond.methodLink RL 58 yX10_lot, Cond.instanceMethod yX10_lot, Cond.selects RX10 yX10_lot yX10_lot, Cond.code yX10_lot cX10_lot 3 (some .int), Cond.methodLink RL 59 yX9_falls]
def wsL_law_r26 : List Cond := [Cond.instanceMethod yX9_falls, Cond.selects RX9 yX9_falls yX9_falls, Cond.code yX9_falls cX9_falls 4 (some .long), Cond.constantLong RX9 191 (-1), Cond.methodLink RX9 185 yX1_isSet, Cond.instanceMethod yX1_isSet, Cond.selects RX1 yX1_isSet yX1_isSet, Cond.code yX1_isSet cX1_isSet 2 (some .boolean), Cond.methodLink RX1 45 yX1_everyone, Cond.methodLink RX9 188 yX9_isHalf, Cond.static yX9_isHalf, Cond.code yX9_isHalf cX9_isHalf 1 (some .boolean), Cond.methodLink RX9 193 yX0_setFalls, Cond.instanceMethod yX0_setFalls, Cond.selects RX0 yX0_setFalls yX0_setFalls, Cond.code yX0_setFalls cX0_setFalls 8 (some .long), Cond.methodLink RX0 43 yX6_whoIsIn, Cond.methodLink RX0 27 yX1_size, Cond.methodLink RX0 33 yX6_isLeader, Cond.methodLink RX0 46 yX6_groupOf, Cond.methodLink RX0 50 yX6_streak, Cond.methodLink RX0 53 yX1_errsOf, Cond.methodLink RX9 197 yX0_lower, Cond.instanceMethod yX0_lower]
def wsL_law_r27 : List Cond := [Cond.selects RX0 yX0_lower yX0_lower, Cond.code yX0_lower cX0_lower 4 (some .long), Cond.static yX9_powerOfTen, Cond.code yX9_powerOfTen cX9_powerOfTen 4 (some .long), Cond.constantLong RX9 270 (10), Cond.methodLink RX9 201 yX9_leastTerms, Cond.static yX9_leastTerms, Cond.code yX9_leastTerms cX9_leastTerms 9 (some .long), Cond.methodLink RX9 272 yX9_greatestDivisor, Cond.static yX9_greatestDivisor, Cond.code yX9_greatestDivisor cX9_greatestDivisor 11 (some .long), Cond.methodLink RL 63 yX10_falls, Cond.instanceMethod yX10_falls, Cond.selects RX10 yX10_falls yX10_falls, Cond.code yX10_falls cX10_falls 6 (some .long), Cond.fieldLink RX10 165 "SimonSaysModel" "below" "J", Cond.methodLink RX10 168 yX10_isSet, Cond.instanceMethod yX10_isSet, Cond.selects RX10 yX10_isSet yX10_isSet, Cond.code yX10_isSet cX10_isSet 2 (some .boolean), Cond.methodLink RX10 171 yX10_isPart, Cond.static yX10_isPart, Cond.code yX10_isPart cX10_isPart 1 (some .boolean), Cond.methodLink RX10 174 yX10_waysOf]
def wsL_law_r28 : List Cond := [Cond.instanceMethod yX10_waysOf, Cond.selects RX10 yX10_waysOf yX10_waysOf, Cond.code yX10_waysOf cX10_waysOf 8 (some .long), Cond.methodLink RX10 178 yX10_part, Cond.static yX10_part, Cond.code yX10_part cX10_part 11 (some .long), Cond.methodLink RL 64 yX9_many, Cond.instanceMethod yX9_many, Cond.selects RX9 yX9_many yX9_many, Cond.code yX9_many cX9_many 4 (some .long), Cond.methodLink RX9 205 yX0_numberFalls, Cond.instanceMethod yX0_numberFalls, Cond.selects RX0 yX0_numberFalls yX0_numberFalls, Cond.code yX0_numberFalls cX0_numberFalls 4 (some .long), Cond.methodLink RX0 57 yJ6_bitCount_0f7a4, Cond.methodLink RX0 62 yX0_addGroup, Cond.instanceMethod yX0_addGroup, Cond.selects RX0 yX0_addGroup yX0_addGroup, Cond.code yX0_addGroup cX0_addGroup 6 none, Cond.methodLink RL 67 yX10_many, Cond.instanceMethod yX10_many, Cond.selects RX10 yX10_many yX10_many, Cond.code yX10_many cX10_many 8 (some .long), Cond.constantLong RX10 182 (6)]
def wsL_law_r29 : List Cond := [Cond.methodLink RL 68 yX9_stays, Cond.instanceMethod yX9_stays, Cond.selects RX9 yX9_stays yX9_stays, Cond.code yX9_stays cX9_stays 4 (some .long), Cond.methodLink RX9 208 yX7_read, Cond.instanceMethod yX7_read, Cond.selects RX7 yX7_read yX7_read, Cond.code yX7_read cX7_read 5 (some .boolean), Cond.fieldLink RX7 15 "SimonSays$Row" "length" "I", Cond.methodLink RX9 212 yX0_leaderStays, Cond.instanceMethod yX0_leaderStays, Cond.selects RX0 yX0_leaderStays yX0_leaderStays, Cond.code yX0_leaderStays cX0_leaderStays 7 (some .long), Cond.methodLink RX0 66 yX7_length, Cond.instanceMethod yX7_length, Cond.selects RX7 yX7_length yX7_length, Cond.code yX7_length cX7_length 1 (some .int), Cond.methodLink RX0 71 yX7_orderAt, Cond.instanceMethod yX7_orderAt, Cond.selects RX7 yX7_orderAt yX7_orderAt, Cond.code yX7_orderAt cX7_orderAt 2 (some .int), Cond.methodLink RX9 215 yX7_length, Cond.methodLink RX9 216 yX9_powerOfTen, Cond.methodLink RL 71 yX10_stays]
def wsL_law_r30 : List Cond := [Cond.instanceMethod yX10_stays, Cond.selects RX10 yX10_stays yX10_stays, Cond.code yX10_stays cX10_stays 5 (some .long), Cond.methodLink RX10 187 yX10_ordersIn, Cond.static yX10_ordersIn, Cond.code yX10_ordersIn cX10_ordersIn 4 (some .int), Cond.methodLink RX10 190 yX10_staysOf, Cond.instanceMethod yX10_staysOf, Cond.selects RX10 yX10_staysOf yX10_staysOf, Cond.code yX10_staysOf cX10_staysOf 9 (some .long), Cond.methodLink RX10 184 yX10_orderAt, Cond.static yX10_orderAt, Cond.code yX10_orderAt cX10_orderAt 5 (some .int), Cond.methodLink RX10 194 yX10_tens, Cond.static yX10_tens, Cond.code yX10_tens cX10_tens 4 (some .long), Cond.methodLink RL 72 yX9_left, Cond.instanceMethod yX9_left, Cond.selects RX9 yX9_left yX9_left, Cond.code yX9_left cX9_left 3 (some .long), Cond.methodLink RX9 219 yX0_justOneStays, Cond.instanceMethod yX0_justOneStays, Cond.selects RX0 yX0_justOneStays yX0_justOneStays, Cond.code yX0_justOneStays cX0_justOneStays 13 (some .long)]
def wsL_law_r31 : List Cond := [Cond.methodLink RX0 78 yX0_leaderStays, Cond.methodLink RL 76 yX10_left, Cond.instanceMethod yX10_left, Cond.selects RX10 yX10_left yX10_left, Cond.code yX10_left cX10_left 6 (some .long), Cond.constantLong RX10 198 (3), Cond.methodLink RX10 200 yX10_leftOf, Cond.instanceMethod yX10_leftOf, Cond.selects RX10 yX10_leftOf yX10_leftOf, Cond.code yX10_leftOf cX10_leftOf 13 (some .long), Cond.methodLink RL 77 yX9_best, Cond.instanceMethod yX9_best, Cond.selects RX9 yX9_best yX9_best, Cond.code yX9_best cX9_best 2 (some .int), Cond.methodLink RX9 223 yX0_bestRow, Cond.instanceMethod yX0_bestRow, Cond.selects RX0 yX0_bestRow yX0_bestRow, Cond.code yX0_bestRow cX0_bestRow 9 (some .int), Cond.constantLong RX0 81 (-1), Cond.methodLink RX0 83 yX0_rowNumber, Cond.static yX0_rowNumber, Cond.code yX0_rowNumber cX0_rowNumber 4 (some .int), Cond.methodLink RX0 86 yX7_read, Cond.methodLink RX0 90 yX0_justOneStays]
def wsL_law_r32 : List Cond := [Cond.methodLink RL 80 yX10_best, Cond.instanceMethod yX10_best, Cond.selects RX10 yX10_best yX10_best, Cond.code yX10_best cX10_best 8 (some .int), Cond.methodLink RL 81 yX9_lure, Cond.instanceMethod yX9_lure, Cond.selects RX9 yX9_lure yX9_lure, Cond.code yX9_lure cX9_lure 3 (some .int), Cond.methodLink RX9 226 yX6_fewestSaidAhead, Cond.instanceMethod yX6_fewestSaidAhead, Cond.selects RX6 yX6_fewestSaidAhead yX6_fewestSaidAhead, Cond.code yX6_fewestSaidAhead cX6_fewestSaidAhead 6 (some .int), Cond.methodLink RL 84 yX10_lure, Cond.instanceMethod yX10_lure, Cond.selects RX10 yX10_lure yX10_lure, Cond.code yX10_lure cX10_lure 5 (some .int), Cond.methodLink RL 85 yX9_could, Cond.instanceMethod yX9_could, Cond.selects RX9 yX9_could yX9_could, Cond.code yX9_could cX9_could 2 (some .int), Cond.methodLink RX9 230 yX0_ordersThatCould, Cond.instanceMethod yX0_ordersThatCould, Cond.selects RX0 yX0_ordersThatCould yX0_ordersThatCould, Cond.code yX0_ordersThatCould cX0_ordersThatCould 4 (some .int)]
def wsL_law_r33 : List Cond := [Cond.methodLink RX0 94 yX0_setFalls, Cond.methodLink RL 88 yX10_could, Cond.instanceMethod yX10_could, Cond.selects RX10 yX10_could yX10_could, Cond.code yX10_could cX10_could 4 (some .int), Cond.methodLink RL 89 yX9_likeliest, Cond.instanceMethod yX9_likeliest, Cond.selects RX9 yX9_likeliest yX9_likeliest, Cond.code yX9_likeliest cX9_likeliest 2 (some .int), Cond.methodLink RX9 233 yX0_likeliestOrder, Cond.instanceMethod yX0_likeliestOrder, Cond.selects RX0 yX0_likeliestOrder yX0_likeliestOrder, Cond.code yX0_likeliestOrder cX0_likeliestOrder 8 (some .int), Cond.methodLink RL 92 yX10_likeliest, Cond.instanceMethod yX10_likeliest, Cond.selects RX10 yX10_likeliest yX10_likeliest, Cond.code yX10_likeliest cX10_likeliest 8 (some .int), Cond.methodLink RL 93 yX9_rate, Cond.instanceMethod yX9_rate, Cond.selects RX9 yX9_rate yX9_rate, Cond.code yX9_rate cX9_rate 3 (some .int), Cond.constant RX9 239 (-1000000), Cond.methodLink RX9 236 yX4_rateAs, Cond.instanceMethod yX4_rateAs]
def wsL_law_r34 : List Cond := [Cond.selects RX4 yX4_rateAs yX4_rateAs, Cond.code yX4_rateAs cX4_rateAs 3 (some .int), Cond.constant RX4 42 (-1000000), Cond.methodLink RX4 23 yX4_asChild, Cond.instanceMethod yX4_asChild, Cond.selects RX4 yX4_asChild yX4_asChild, Cond.code yX4_asChild cX4_asChild 2 (some .int), Cond.fieldLink RX4 19 "SimonSays$Kinds" "trace" "J", Cond.methodLink RX4 43 yX1_slipOf, Cond.methodLink RX4 27 yX4_asDreamer, Cond.instanceMethod yX4_asDreamer, Cond.selects RX4 yX4_asDreamer yX4_asDreamer, Cond.code yX4_asDreamer cX4_asDreamer 2 (some .int), Cond.constantLong RX4 48 (10), Cond.methodLink RX4 50 yX6_streak, Cond.methodLink RX4 30 yX4_asWatcher, Cond.instanceMethod yX4_asWatcher, Cond.selects RX4 yX4_asWatcher yX4_asWatcher, Cond.code yX4_asWatcher cX4_asWatcher 2 (some .int), Cond.constantLong RX4 56 (100), Cond.methodLink RX4 58 yX1_lateOf, Cond.methodLink RX4 33 yX4_asRunner, Cond.instanceMethod yX4_asRunner, Cond.selects RX4 yX4_asRunner yX4_asRunner]
def wsL_law_r35 : List Cond := [Cond.code yX4_asRunner cX4_asRunner 2 (some .int), Cond.constantLong RX4 61 (1000), Cond.methodLink RX4 36 yX4_asCopier, Cond.instanceMethod yX4_asCopier, Cond.selects RX4 yX4_asCopier yX4_asCopier, Cond.code yX4_asCopier cX4_asCopier 2 (some .int), Cond.constantLong RX4 63 (10000), Cond.methodLink RX4 65 yX1_howManyCopy, Cond.instanceMethod yX1_howManyCopy, Cond.selects RX1 yX1_howManyCopy yX1_howManyCopy, Cond.code yX1_howManyCopy cX1_howManyCopy 4 (some .int), Cond.methodLink RX4 39 yX4_asListener, Cond.instanceMethod yX4_asListener, Cond.selects RX4 yX4_asListener yX4_asListener, Cond.code yX4_asListener cX4_asListener 2 (some .int), Cond.constantLong RX4 68 (100000), Cond.methodLink RX4 70 yX6_howManyIn, Cond.methodLink RL 96 yX10_rate, Cond.instanceMethod yX10_rate, Cond.selects RX10 yX10_rate yX10_rate, Cond.code yX10_rate cX10_rate 6 (some .int), Cond.constant RX10 203 (-1000000), Cond.fieldLink RX10 204 "SimonSaysModel" "trace" "J", Cond.constantLong RX10 207 (11)]
def wsL_law_r36 : List Cond := [Cond.constantLong RX10 209 (101), Cond.constantLong RX10 211 (1011), Cond.constantLong RX10 213 (10101), Cond.constantLong RX10 215 (100001), Cond.methodLink RL 97 yX9_keep, Cond.instanceMethod yX9_keep, Cond.selects RX9 yX9_keep yX9_keep, Cond.code yX9_keep cX9_keep 2 (some .int), Cond.methodLink RX9 240 yX9_isImage, Cond.static yX9_isImage, Cond.code yX9_isImage cX9_isImage 1 (some .boolean), Cond.methodLink RX9 243 yX3_take, Cond.instanceMethod yX3_take, Cond.selects RX3 yX3_take yX3_take, Cond.code yX3_take cX3_take 2 none, Cond.fieldLink RX3 19 "SimonSays$Image" "in" "I", Cond.fieldLink RX3 26 "SimonSays$Image" "streak" "I", Cond.fieldLink RX3 31 "SimonSays$Image" "lot" "I", Cond.methodLink RX3 13 yX6_whoIsIn, Cond.methodLink RX3 23 yX6_streak, Cond.methodLink RX3 28 yX6_theLot, Cond.methodLink RL 100 yX10_keep, Cond.instanceMethod yX10_keep, Cond.selects RX10 yX10_keep yX10_keep]
def wsL_law_r37 : List Cond := [Cond.code yX10_keep cX10_keep 2 (some .int), Cond.methodLink RL 101 yX9_back, Cond.instanceMethod yX9_back, Cond.selects RX9 yX9_back yX9_back, Cond.code yX9_back cX9_back 2 (some .int), Cond.methodLink RX9 247 yX3_isKept, Cond.instanceMethod yX3_isKept, Cond.selects RX3 yX3_isKept yX3_isKept, Cond.code yX3_isKept cX3_isKept 1 (some .boolean), Cond.methodLink RX9 250 yX3_giveTo, Cond.instanceMethod yX3_giveTo, Cond.selects RX3 yX3_giveTo yX3_giveTo, Cond.code yX3_giveTo cX3_giveTo 2 none, Cond.methodLink RX3 34 yX6_become, Cond.methodLink RX3 38 yX6_setLot, Cond.methodLink RL 104 yX10_back, Cond.instanceMethod yX10_back, Cond.selects RX10 yX10_back yX10_back, Cond.code yX10_back cX10_back 2 (some .int), Cond.methodLink RL 105 yX9_count, Cond.instanceMethod yX9_count, Cond.selects RX9 yX9_count yX9_count, Cond.code yX9_count cX9_count 2 (some .int), Cond.methodLink RX9 253 yX1_size]
def wsL_law_r38 : List Cond := [Cond.methodLink RX9 254 yX1_littleOnes, Cond.methodLink RX9 257 yJ6_bitCount_0f7a4, Cond.methodLink RL 108 yX10_count, Cond.instanceMethod yX10_count, Cond.selects RX10 yX10_count yX10_count, Cond.code yX10_count cX10_count 2 (some .int), Cond.methodLink RL 109 yX9_trace, Cond.instanceMethod yX9_trace, Cond.selects RX9 yX9_trace yX9_trace, Cond.code yX9_trace cX9_trace 1 (some .long), Cond.methodLink RX9 262 yX4_theTrace, Cond.instanceMethod yX4_theTrace, Cond.selects RX4 yX4_theTrace yX4_theTrace, Cond.code yX4_theTrace cX4_theTrace 1 (some .long), Cond.methodLink RL 113 yX10_trace, Cond.instanceMethod yX10_trace, Cond.selects RX10 yX10_trace yX10_trace, Cond.code yX10_trace cX10_trace 1 (some .long)]
def wsL_law : List Cond := (wsL_law_r1 ++ (wsL_law_r2 ++ (wsL_law_r3 ++ (wsL_law_r4 ++ (wsL_law_r5 ++ (wsL_law_r6 ++ (wsL_law_r7 ++ (wsL_law_r8 ++ (wsL_law_r9 ++ (wsL_law_r10 ++ (wsL_law_r11 ++ (wsL_law_r12 ++ (wsL_law_r13 ++ (wsL_law_r14 ++ (wsL_law_r15 ++ (wsL_law_r16 ++ (wsL_law_r17 ++ (wsL_law_r18 ++ (wsL_law_r19 ++ (wsL_law_r20 ++ (wsL_law_r21 ++ (wsL_law_r22 ++ (wsL_law_r23 ++ (wsL_law_r24 ++ (wsL_law_r25 ++ (wsL_law_r26 ++ (wsL_law_r27 ++ (wsL_law_r28 ++ (wsL_law_r29 ++ (wsL_law_r30 ++ (wsL_law_r31 ++ (wsL_law_r32 ++ (wsL_law_r33 ++ (wsL_law_r34 ++ (wsL_law_r35 ++ (wsL_law_r36 ++ (wsL_law_r37 ++ wsL_law_r38))))))))))))))))))))))))))))))))))))) ++ wsX90 ++ wsX100 ++ wsX80 ++ wsX50 ++ wsX10 ++ wsX60 ++ wsX20 ++ wsX30 ++ wsX70 ++ wsX00 ++ wsX40 ++ ([] : List Cond)
end
section
theorem dX1_init_0 : decode cX1_init 0 = .ok (.aload_n 0, 1) := by decide +kernel
theorem dX1_init_1 : decode cX1_init 1 = .ok (.invokespecial 3, 3) := by decide +kernel
theorem dX1_init_4 : decode cX1_init 4 = .ok (.aload_n 0, 1) := by decide +kernel
theorem dX1_init_5 : decode cX1_init 5 = .ok (.bipush 6, 2) := by decide +kernel
theorem dX1_init_7 : decode cX1_init 7 = .ok (.newarray .int, 2) := by decide +kernel
theorem dX1_init_9 : decode cX1_init 9 = .ok (.putfield 9, 3) := by decide +kernel
theorem dX1_init_12 : decode cX1_init 12 = .ok (.aload_n 0, 1) := by decide +kernel
theorem dX1_init_13 : decode cX1_init 13 = .ok (.bipush 6, 2) := by decide +kernel
theorem dX1_init_15 : decode cX1_init 15 = .ok (.newarray .int, 2) := by decide +kernel
theorem dX1_init_17 : decode cX1_init 17 = .ok (.putfield 15, 3) := by decide +kernel
theorem dX1_init_20 : decode cX1_init 20 = .ok (.aload_n 0, 1) := by decide +kernel
theorem dX1_init_21 : decode cX1_init 21 = .ok (.bipush 6, 2) := by decide +kernel
theorem dX1_init_23 : decode cX1_init 23 = .ok (.newarray .int, 2) := by decide +kernel
theorem dX1_init_25 : decode cX1_init 25 = .ok (.putfield 18, 3) := by decide +kernel
theorem dX1_init_28 : decode cX1_init 28 = .ok (.return_, 1) := by decide +kernel
theorem dX1_forget_0 : decode cX1_forget 0 = .ok (.aload_n 0, 1) := by decide +kernel
theorem dX1_forget_1 : decode cX1_forget 1 = .ok (.iconst 0, 1) := by decide +kernel
theorem dX1_forget_2 : decode cX1_forget 2 = .ok (.putfield 21, 3) := by decide +kernel
theorem dX1_forget_5 : decode cX1_forget 5 = .ok (.aload_n 0, 1) := by decide +kernel
theorem dX1_forget_6 : decode cX1_forget 6 = .ok (.iconst 0, 1) := by decide +kernel
theorem dX1_forget_7 : decode cX1_forget 7 = .ok (.putfield 25, 3) := by decide +kernel
theorem dX1_forget_10 : decode cX1_forget 10 = .ok (.return_, 1) := by decide +kernel
theorem dX1_add_0 : decode cX1_add 0 = .ok (.aload_n 0, 1) := by decide +kernel
theorem dX1_add_1 : decode cX1_add 1 = .ok (.getfield 21, 3) := by decide +kernel
theorem dX1_add_4 : decode cX1_add 4 = .ok (.bipush 6, 2) := by decide +kernel
theorem dX1_add_6 : decode cX1_add 6 = .ok (.if_icmp .ge 43, 3) := by decide +kernel
theorem dX1_add_9 : decode cX1_add 9 = .ok (.aload_n 0, 1) := by decide +kernel
theorem dX1_add_10 : decode cX1_add 10 = .ok (.getfield 9, 3) := by decide +kernel
theorem dX1_add_13 : decode cX1_add 13 = .ok (.aload_n 0, 1) := by decide +kernel
theorem dX1_add_14 : decode cX1_add 14 = .ok (.getfield 21, 3) := by decide +kernel
theorem dX1_add_17 : decode cX1_add 17 = .ok (.iload_n 1, 1) := by decide +kernel
theorem dX1_add_18 : decode cX1_add 18 = .ok (.iastore, 1) := by decide +kernel
theorem dX1_add_19 : decode cX1_add 19 = .ok (.aload_n 0, 1) := by decide +kernel
theorem dX1_add_20 : decode cX1_add 20 = .ok (.getfield 15, 3) := by decide +kernel
theorem dX1_add_23 : decode cX1_add 23 = .ok (.aload_n 0, 1) := by decide +kernel
theorem dX1_add_24 : decode cX1_add 24 = .ok (.getfield 21, 3) := by decide +kernel
theorem dX1_add_27 : decode cX1_add 27 = .ok (.iload_n 2, 1) := by decide +kernel
theorem dX1_add_28 : decode cX1_add 28 = .ok (.iastore, 1) := by decide +kernel
theorem dX1_add_29 : decode cX1_add 29 = .ok (.aload_n 0, 1) := by decide +kernel
theorem dX1_add_30 : decode cX1_add 30 = .ok (.getfield 18, 3) := by decide +kernel
theorem dX1_add_33 : decode cX1_add 33 = .ok (.aload_n 0, 1) := by decide +kernel
theorem dX1_add_34 : decode cX1_add 34 = .ok (.getfield 21, 3) := by decide +kernel
theorem dX1_add_37 : decode cX1_add 37 = .ok (.iload_n 3, 1) := by decide +kernel
theorem dX1_add_38 : decode cX1_add 38 = .ok (.iastore, 1) := by decide +kernel
theorem dX1_add_39 : decode cX1_add 39 = .ok (.aload_n 0, 1) := by decide +kernel
theorem dX1_add_40 : decode cX1_add 40 = .ok (.dup, 1) := by decide +kernel
theorem dX1_add_41 : decode cX1_add 41 = .ok (.getfield 21, 3) := by decide +kernel
theorem dX1_add_44 : decode cX1_add 44 = .ok (.iconst 1, 1) := by decide +kernel
theorem dX1_add_45 : decode cX1_add 45 = .ok (.iadd, 1) := by decide +kernel
theorem dX1_add_46 : decode cX1_add 46 = .ok (.putfield 21, 3) := by decide +kernel
theorem dX1_add_49 : decode cX1_add 49 = .ok (.return_, 1) := by decide +kernel
theorem dX1_makeLittle_0 : decode cX1_makeLittle 0 = .ok (.aload_n 0, 1) := by decide +kernel
theorem dX1_makeLittle_1 : decode cX1_makeLittle 1 = .ok (.dup, 1) := by decide +kernel
theorem dX1_makeLittle_2 : decode cX1_makeLittle 2 = .ok (.getfield 25, 3) := by decide +kernel
theorem dX1_makeLittle_5 : decode cX1_makeLittle 5 = .ok (.iconst 1, 1) := by decide +kernel
theorem dX1_makeLittle_6 : decode cX1_makeLittle 6 = .ok (.iload_n 1, 1) := by decide +kernel
theorem dX1_makeLittle_7 : decode cX1_makeLittle 7 = .ok (.ishl, 1) := by decide +kernel
theorem dX1_makeLittle_8 : decode cX1_makeLittle 8 = .ok (.ior, 1) := by decide +kernel
theorem dX1_makeLittle_9 : decode cX1_makeLittle 9 = .ok (.putfield 25, 3) := by decide +kernel
theorem dX1_makeLittle_12 : decode cX1_makeLittle 12 = .ok (.return_, 1) := by decide +kernel
set_option maxRecDepth 20000 in
theorem ggX1_takeOver_X1_forget : GoodIn wsX1_takeOver wsX1_forget := goodIn_r _ [7, 1, 2, 31, 32, 33, 34, 35] (by decide +kernel) (by decide +kernel)
set_option maxRecDepth 20000 in
theorem gX1_takeOver_X1_forget : GoodIn wsX1_takeOver (wsV RX1 28 RX1 yX1_forget wsX1_forget) := goodIn_app (goodIn_of _ (by decide +kernel)) ggX1_takeOver_X1_forget
set_option maxRecDepth 20000 in
theorem ggX1_takeOver_X1_slipOf : GoodIn wsX1_takeOver wsX1_slipOf := goodIn_r _ [11, 12, 13, 14, 15, 6, 16, 1, 31, 32, 33, 34, 35] (by decide +kernel) (by decide +kernel)
set_option maxRecDepth 20000 in
theorem gX1_takeOver_X1_slipOf : GoodIn wsX1_takeOver (wsV RX1 31 RX1 yX1_slipOf wsX1_slipOf) := goodIn_app (goodIn_of _ (by decide +kernel)) ggX1_takeOver_X1_slipOf
set_option maxRecDepth 20000 in
theorem ggX1_takeOver_X1_lateOf : GoodIn wsX1_takeOver wsX1_lateOf := goodIn_r _ [20, 21, 13, 14, 15, 6, 16, 1, 31, 32, 33, 34, 35] (by decide +kernel) (by decide +kernel)
set_option maxRecDepth 20000 in
theorem gX1_takeOver_X1_lateOf : GoodIn wsX1_takeOver (wsV RX1 35 RX1 yX1_lateOf wsX1_lateOf) := goodIn_app (goodIn_of _ (by decide +kernel)) ggX1_takeOver_X1_lateOf
set_option maxRecDepth 20000 in
theorem ggX1_takeOver_X1_copiedBy : GoodIn wsX1_takeOver wsX1_copiedBy := goodIn_r _ [25, 26, 13, 14, 15, 6, 16, 1, 31, 32, 33, 34, 35] (by decide +kernel) (by decide +kernel)
set_option maxRecDepth 20000 in
theorem gX1_takeOver_X1_copiedBy : GoodIn wsX1_takeOver (wsV RX1 38 RX1 yX1_copiedBy wsX1_copiedBy) := goodIn_app (goodIn_of _ (by decide +kernel)) ggX1_takeOver_X1_copiedBy
set_option maxRecDepth 20000 in
theorem ggX1_takeOver_X1_add : GoodIn wsX1_takeOver wsX1_add := goodIn_r _ [30, 1, 12, 21, 26, 31, 32, 33, 34, 35] (by decide +kernel) (by decide +kernel)
set_option maxRecDepth 20000 in
theorem gX1_takeOver_X1_add : GoodIn wsX1_takeOver (wsV RX1 41 RX1 yX1_add wsX1_add) := goodIn_app (goodIn_of _ (by decide +kernel)) ggX1_takeOver_X1_add
theorem dX1_takeOver_0 : decode cX1_takeOver 0 = .ok (.aload_n 0, 1) := by decide +kernel
theorem dX1_takeOver_1 : decode cX1_takeOver 1 = .ok (.invokevirtual 28, 3) := by decide +kernel
theorem dX1_takeOver_4 : decode cX1_takeOver 4 = .ok (.iconst 0, 1) := by decide +kernel
theorem dX1_takeOver_5 : decode cX1_takeOver 5 = .ok (.istore_n 2, 1) := by decide +kernel
theorem dX1_takeOver_6 : decode cX1_takeOver 6 = .ok (.iload_n 2, 1) := by decide +kernel
theorem dX1_takeOver_7 : decode cX1_takeOver 7 = .ok (.aload_n 1, 1) := by decide +kernel
theorem dX1_takeOver_8 : decode cX1_takeOver 8 = .ok (.getfield 21, 3) := by decide +kernel
theorem dX1_takeOver_11 : decode cX1_takeOver 11 = .ok (.if_icmp .ge 28, 3) := by decide +kernel
theorem dX1_takeOver_14 : decode cX1_takeOver 14 = .ok (.aload_n 0, 1) := by decide +kernel
theorem dX1_takeOver_15 : decode cX1_takeOver 15 = .ok (.aload_n 1, 1) := by decide +kernel
theorem dX1_takeOver_16 : decode cX1_takeOver 16 = .ok (.iload_n 2, 1) := by decide +kernel
theorem dX1_takeOver_17 : decode cX1_takeOver 17 = .ok (.invokevirtual 31, 3) := by decide +kernel
theorem dX1_takeOver_20 : decode cX1_takeOver 20 = .ok (.aload_n 1, 1) := by decide +kernel
theorem dX1_takeOver_21 : decode cX1_takeOver 21 = .ok (.iload_n 2, 1) := by decide +kernel
theorem dX1_takeOver_22 : decode cX1_takeOver 22 = .ok (.invokevirtual 35, 3) := by decide +kernel
theorem dX1_takeOver_25 : decode cX1_takeOver 25 = .ok (.aload_n 1, 1) := by decide +kernel
theorem dX1_takeOver_26 : decode cX1_takeOver 26 = .ok (.iload_n 2, 1) := by decide +kernel
theorem dX1_takeOver_27 : decode cX1_takeOver 27 = .ok (.invokevirtual 38, 3) := by decide +kernel
theorem dX1_takeOver_30 : decode cX1_takeOver 30 = .ok (.invokevirtual 41, 3) := by decide +kernel
theorem dX1_takeOver_33 : decode cX1_takeOver 33 = .ok (.iinc 2 1, 3) := by decide +kernel
theorem dX1_takeOver_36 : decode cX1_takeOver 36 = .ok (.goto (-30), 3) := by decide +kernel
theorem dX1_takeOver_39 : decode cX1_takeOver 39 = .ok (.aload_n 0, 1) := by decide +kernel
theorem dX1_takeOver_40 : decode cX1_takeOver 40 = .ok (.aload_n 1, 1) := by decide +kernel
theorem dX1_takeOver_41 : decode cX1_takeOver 41 = .ok (.getfield 25, 3) := by decide +kernel
theorem dX1_takeOver_44 : decode cX1_takeOver 44 = .ok (.putfield 25, 3) := by decide +kernel
theorem dX1_takeOver_47 : decode cX1_takeOver 47 = .ok (.return_, 1) := by decide +kernel
theorem dX1_size_0 : decode cX1_size 0 = .ok (.aload_n 0, 1) := by decide +kernel
theorem dX1_size_1 : decode cX1_size 1 = .ok (.getfield 21, 3) := by decide +kernel
theorem dX1_size_4 : decode cX1_size 4 = .ok (.ireturn, 1) := by decide +kernel
theorem dX1_littleOnes_0 : decode cX1_littleOnes 0 = .ok (.aload_n 0, 1) := by decide +kernel
theorem dX1_littleOnes_1 : decode cX1_littleOnes 1 = .ok (.getfield 25, 3) := by decide +kernel
theorem dX1_littleOnes_4 : decode cX1_littleOnes 4 = .ok (.ireturn, 1) := by decide +kernel
theorem dX1_has_0 : decode cX1_has 0 = .ok (.iload_n 1, 1) := by decide +kernel
theorem dX1_has_1 : decode cX1_has 1 = .ok (.ifCond .lt 15, 3) := by decide +kernel
theorem dX1_has_4 : decode cX1_has 4 = .ok (.iload_n 1, 1) := by decide +kernel
theorem dX1_has_5 : decode cX1_has 5 = .ok (.aload_n 0, 1) := by decide +kernel
theorem dX1_has_6 : decode cX1_has 6 = .ok (.getfield 21, 3) := by decide +kernel
theorem dX1_has_9 : decode cX1_has 9 = .ok (.if_icmp .ge 7, 3) := by decide +kernel
theorem dX1_has_12 : decode cX1_has 12 = .ok (.iconst 1, 1) := by decide +kernel
theorem dX1_has_13 : decode cX1_has 13 = .ok (.goto 4, 3) := by decide +kernel
theorem dX1_has_16 : decode cX1_has 16 = .ok (.iconst 0, 1) := by decide +kernel
theorem dX1_has_17 : decode cX1_has 17 = .ok (.ireturn, 1) := by decide +kernel
theorem dX1_everyone_0 : decode cX1_everyone 0 = .ok (.iconst 1, 1) := by decide +kernel
theorem dX1_everyone_1 : decode cX1_everyone 1 = .ok (.aload_n 0, 1) := by decide +kernel
theorem dX1_everyone_2 : decode cX1_everyone 2 = .ok (.getfield 21, 3) := by decide +kernel
theorem dX1_everyone_5 : decode cX1_everyone 5 = .ok (.ishl, 1) := by decide +kernel
theorem dX1_everyone_6 : decode cX1_everyone 6 = .ok (.iconst 1, 1) := by decide +kernel
theorem dX1_everyone_7 : decode cX1_everyone 7 = .ok (.isub, 1) := by decide +kernel
theorem dX1_everyone_8 : decode cX1_everyone 8 = .ok (.ireturn, 1) := by decide +kernel
set_option maxRecDepth 20000 in
theorem ggX1_isSet_X1_everyone : GoodIn wsX1_isSet wsX1_everyone := goodIn_r _ [5, 6, 7, 8, 9, 10, 11] (by decide +kernel) (by decide +kernel)
set_option maxRecDepth 20000 in
theorem gX1_isSet_X1_everyone : GoodIn wsX1_isSet (wsV RX1 45 RX1 yX1_everyone wsX1_everyone) := goodIn_app (goodIn_of _ (by decide +kernel)) ggX1_isSet_X1_everyone
theorem dX1_isSet_0 : decode cX1_isSet 0 = .ok (.iload_n 1, 1) := by decide +kernel
theorem dX1_isSet_1 : decode cX1_isSet 1 = .ok (.aload_n 0, 1) := by decide +kernel
theorem dX1_isSet_2 : decode cX1_isSet 2 = .ok (.invokevirtual 45, 3) := by decide +kernel
theorem dX1_isSet_5 : decode cX1_isSet 5 = .ok (.iconst (-1), 1) := by decide +kernel
theorem dX1_isSet_6 : decode cX1_isSet 6 = .ok (.ixor, 1) := by decide +kernel
theorem dX1_isSet_7 : decode cX1_isSet 7 = .ok (.iand, 1) := by decide +kernel
theorem dX1_isSet_8 : decode cX1_isSet 8 = .ok (.ifCond .ne 7, 3) := by decide +kernel
theorem dX1_isSet_11 : decode cX1_isSet 11 = .ok (.iconst 1, 1) := by decide +kernel
theorem dX1_isSet_12 : decode cX1_isSet 12 = .ok (.goto 4, 3) := by decide +kernel
theorem dX1_isSet_15 : decode cX1_isSet 15 = .ok (.iconst 0, 1) := by decide +kernel
theorem dX1_isSet_16 : decode cX1_isSet 16 = .ok (.ireturn, 1) := by decide +kernel
set_option maxRecDepth 20000 in
theorem ggX1_isLittle_X1_has : GoodIn wsX1_isLittle wsX1_has := goodIn_r _ [6, 7, 8, 9, 10, 11, 12] (by decide +kernel) (by decide +kernel)
set_option maxRecDepth 20000 in
theorem gX1_isLittle_X1_has : GoodIn wsX1_isLittle (wsV RX1 49 RX1 yX1_has wsX1_has) := goodIn_app (goodIn_of _ (by decide +kernel)) ggX1_isLittle_X1_has
theorem dX1_isLittle_0 : decode cX1_isLittle 0 = .ok (.aload_n 0, 1) := by decide +kernel
theorem dX1_isLittle_1 : decode cX1_isLittle 1 = .ok (.iload_n 1, 1) := by decide +kernel
theorem dX1_isLittle_2 : decode cX1_isLittle 2 = .ok (.invokevirtual 49, 3) := by decide +kernel
theorem dX1_isLittle_5 : decode cX1_isLittle 5 = .ok (.ifCond .eq 19, 3) := by decide +kernel
theorem dX1_isLittle_8 : decode cX1_isLittle 8 = .ok (.aload_n 0, 1) := by decide +kernel
theorem dX1_isLittle_9 : decode cX1_isLittle 9 = .ok (.getfield 25, 3) := by decide +kernel
theorem dX1_isLittle_12 : decode cX1_isLittle 12 = .ok (.iload_n 1, 1) := by decide +kernel
theorem dX1_isLittle_13 : decode cX1_isLittle 13 = .ok (.ishr, 1) := by decide +kernel
theorem dX1_isLittle_14 : decode cX1_isLittle 14 = .ok (.iconst 1, 1) := by decide +kernel
theorem dX1_isLittle_15 : decode cX1_isLittle 15 = .ok (.iand, 1) := by decide +kernel
theorem dX1_isLittle_16 : decode cX1_isLittle 16 = .ok (.iconst 1, 1) := by decide +kernel
theorem dX1_isLittle_17 : decode cX1_isLittle 17 = .ok (.if_icmp .ne 7, 3) := by decide +kernel
theorem dX1_isLittle_20 : decode cX1_isLittle 20 = .ok (.iconst 1, 1) := by decide +kernel
theorem dX1_isLittle_21 : decode cX1_isLittle 21 = .ok (.goto 4, 3) := by decide +kernel
theorem dX1_isLittle_24 : decode cX1_isLittle 24 = .ok (.iconst 0, 1) := by decide +kernel
theorem dX1_isLittle_25 : decode cX1_isLittle 25 = .ok (.ireturn, 1) := by decide +kernel
set_option maxRecDepth 20000 in
theorem ggX1_slipOf_X1_has : GoodIn wsX1_slipOf wsX1_has := goodIn_r _ [6, 7, 8, 9, 10, 11, 12] (by decide +kernel) (by decide +kernel)
set_option maxRecDepth 20000 in
theorem gX1_slipOf_X1_has : GoodIn wsX1_slipOf (wsV RX1 49 RX1 yX1_has wsX1_has) := goodIn_app (goodIn_of _ (by decide +kernel)) ggX1_slipOf_X1_has
theorem dX1_slipOf_0 : decode cX1_slipOf 0 = .ok (.aload_n 0, 1) := by decide +kernel
theorem dX1_slipOf_1 : decode cX1_slipOf 1 = .ok (.iload_n 1, 1) := by decide +kernel
theorem dX1_slipOf_2 : decode cX1_slipOf 2 = .ok (.invokevirtual 49, 3) := by decide +kernel
theorem dX1_slipOf_5 : decode cX1_slipOf 5 = .ok (.ifCond .eq 12, 3) := by decide +kernel
theorem dX1_slipOf_8 : decode cX1_slipOf 8 = .ok (.aload_n 0, 1) := by decide +kernel
theorem dX1_slipOf_9 : decode cX1_slipOf 9 = .ok (.getfield 9, 3) := by decide +kernel
theorem dX1_slipOf_12 : decode cX1_slipOf 12 = .ok (.iload_n 1, 1) := by decide +kernel
theorem dX1_slipOf_13 : decode cX1_slipOf 13 = .ok (.iaload, 1) := by decide +kernel
theorem dX1_slipOf_14 : decode cX1_slipOf 14 = .ok (.goto 4, 3) := by decide +kernel
theorem dX1_slipOf_17 : decode cX1_slipOf 17 = .ok (.iconst 0, 1) := by decide +kernel
theorem dX1_slipOf_18 : decode cX1_slipOf 18 = .ok (.ireturn, 1) := by decide +kernel
set_option maxRecDepth 20000 in
theorem ggX1_lateOf_X1_has : GoodIn wsX1_lateOf wsX1_has := goodIn_r _ [6, 7, 8, 9, 10, 11, 12] (by decide +kernel) (by decide +kernel)
set_option maxRecDepth 20000 in
theorem gX1_lateOf_X1_has : GoodIn wsX1_lateOf (wsV RX1 49 RX1 yX1_has wsX1_has) := goodIn_app (goodIn_of _ (by decide +kernel)) ggX1_lateOf_X1_has
theorem dX1_lateOf_0 : decode cX1_lateOf 0 = .ok (.aload_n 0, 1) := by decide +kernel
theorem dX1_lateOf_1 : decode cX1_lateOf 1 = .ok (.iload_n 1, 1) := by decide +kernel
theorem dX1_lateOf_2 : decode cX1_lateOf 2 = .ok (.invokevirtual 49, 3) := by decide +kernel
theorem dX1_lateOf_5 : decode cX1_lateOf 5 = .ok (.ifCond .eq 12, 3) := by decide +kernel
theorem dX1_lateOf_8 : decode cX1_lateOf 8 = .ok (.aload_n 0, 1) := by decide +kernel
theorem dX1_lateOf_9 : decode cX1_lateOf 9 = .ok (.getfield 15, 3) := by decide +kernel
theorem dX1_lateOf_12 : decode cX1_lateOf 12 = .ok (.iload_n 1, 1) := by decide +kernel
theorem dX1_lateOf_13 : decode cX1_lateOf 13 = .ok (.iaload, 1) := by decide +kernel
theorem dX1_lateOf_14 : decode cX1_lateOf 14 = .ok (.goto 4, 3) := by decide +kernel
theorem dX1_lateOf_17 : decode cX1_lateOf 17 = .ok (.iconst 0, 1) := by decide +kernel
theorem dX1_lateOf_18 : decode cX1_lateOf 18 = .ok (.ireturn, 1) := by decide +kernel
set_option maxRecDepth 20000 in
theorem ggX1_copiedBy_X1_has : GoodIn wsX1_copiedBy wsX1_has := goodIn_r _ [6, 7, 8, 9, 10, 11, 12] (by decide +kernel) (by decide +kernel)
set_option maxRecDepth 20000 in
theorem gX1_copiedBy_X1_has : GoodIn wsX1_copiedBy (wsV RX1 49 RX1 yX1_has wsX1_has) := goodIn_app (goodIn_of _ (by decide +kernel)) ggX1_copiedBy_X1_has
theorem dX1_copiedBy_0 : decode cX1_copiedBy 0 = .ok (.aload_n 0, 1) := by decide +kernel
theorem dX1_copiedBy_1 : decode cX1_copiedBy 1 = .ok (.iload_n 1, 1) := by decide +kernel
theorem dX1_copiedBy_2 : decode cX1_copiedBy 2 = .ok (.invokevirtual 49, 3) := by decide +kernel
theorem dX1_copiedBy_5 : decode cX1_copiedBy 5 = .ok (.ifCond .eq 12, 3) := by decide +kernel
theorem dX1_copiedBy_8 : decode cX1_copiedBy 8 = .ok (.aload_n 0, 1) := by decide +kernel
theorem dX1_copiedBy_9 : decode cX1_copiedBy 9 = .ok (.getfield 18, 3) := by decide +kernel
theorem dX1_copiedBy_12 : decode cX1_copiedBy 12 = .ok (.iload_n 1, 1) := by decide +kernel
theorem dX1_copiedBy_13 : decode cX1_copiedBy 13 = .ok (.iaload, 1) := by decide +kernel
theorem dX1_copiedBy_14 : decode cX1_copiedBy 14 = .ok (.goto 5, 3) := by decide +kernel
theorem dX1_copiedBy_17 : decode cX1_copiedBy 17 = .ok (.bipush 9, 2) := by decide +kernel
theorem dX1_copiedBy_19 : decode cX1_copiedBy 19 = .ok (.ireturn, 1) := by decide +kernel
set_option maxRecDepth 20000 in
theorem ggX1_howManyCopy_X1_copiedBy : GoodIn wsX1_howManyCopy wsX1_copiedBy := goodIn_r _ [6, 7, 8, 9, 10, 5, 11, 1, 12, 13, 14, 15, 16] (by decide +kernel) (by decide +kernel)
set_option maxRecDepth 20000 in
theorem gX1_howManyCopy_X1_copiedBy : GoodIn wsX1_howManyCopy (wsV RX1 38 RX1 yX1_copiedBy wsX1_copiedBy) := goodIn_app (goodIn_of _ (by decide +kernel)) ggX1_howManyCopy_X1_copiedBy
theorem dX1_howManyCopy_0 : decode cX1_howManyCopy 0 = .ok (.iconst 0, 1) := by decide +kernel
theorem dX1_howManyCopy_1 : decode cX1_howManyCopy 1 = .ok (.istore_n 2, 1) := by decide +kernel
theorem dX1_howManyCopy_2 : decode cX1_howManyCopy 2 = .ok (.iconst 0, 1) := by decide +kernel
theorem dX1_howManyCopy_3 : decode cX1_howManyCopy 3 = .ok (.istore_n 3, 1) := by decide +kernel
theorem dX1_howManyCopy_4 : decode cX1_howManyCopy 4 = .ok (.iload_n 3, 1) := by decide +kernel
theorem dX1_howManyCopy_5 : decode cX1_howManyCopy 5 = .ok (.aload_n 0, 1) := by decide +kernel
theorem dX1_howManyCopy_6 : decode cX1_howManyCopy 6 = .ok (.getfield 21, 3) := by decide +kernel
theorem dX1_howManyCopy_9 : decode cX1_howManyCopy 9 = .ok (.if_icmp .ge 21, 3) := by decide +kernel
theorem dX1_howManyCopy_12 : decode cX1_howManyCopy 12 = .ok (.aload_n 0, 1) := by decide +kernel
theorem dX1_howManyCopy_13 : decode cX1_howManyCopy 13 = .ok (.iload_n 3, 1) := by decide +kernel
theorem dX1_howManyCopy_14 : decode cX1_howManyCopy 14 = .ok (.invokevirtual 38, 3) := by decide +kernel
theorem dX1_howManyCopy_17 : decode cX1_howManyCopy 17 = .ok (.iload_n 1, 1) := by decide +kernel
theorem dX1_howManyCopy_18 : decode cX1_howManyCopy 18 = .ok (.if_icmp .ne 6, 3) := by decide +kernel
theorem dX1_howManyCopy_21 : decode cX1_howManyCopy 21 = .ok (.iinc 2 1, 3) := by decide +kernel
theorem dX1_howManyCopy_24 : decode cX1_howManyCopy 24 = .ok (.iinc 3 1, 3) := by decide +kernel
theorem dX1_howManyCopy_27 : decode cX1_howManyCopy 27 = .ok (.goto (-23), 3) := by decide +kernel
theorem dX1_howManyCopy_30 : decode cX1_howManyCopy 30 = .ok (.iload_n 2, 1) := by decide +kernel
theorem dX1_howManyCopy_31 : decode cX1_howManyCopy 31 = .ok (.ireturn, 1) := by decide +kernel
set_option maxRecDepth 20000 in
theorem ggX1_errsOf_X1_slipOf : GoodIn wsX1_errsOf wsX1_slipOf := goodIn_r _ [9, 10, 11, 12, 13, 8, 14, 15, 21, 22, 23, 24, 25] (by decide +kernel) (by decide +kernel)
set_option maxRecDepth 20000 in
theorem gX1_errsOf_X1_slipOf : GoodIn wsX1_errsOf (wsV RX1 31 RX1 yX1_slipOf wsX1_slipOf) := goodIn_app (goodIn_of _ (by decide +kernel)) ggX1_errsOf_X1_slipOf
set_option maxRecDepth 20000 in
theorem ggX1_errsOf_X1_lateOf : GoodIn wsX1_errsOf wsX1_lateOf := goodIn_r _ [19, 20, 11, 12, 13, 8, 14, 15, 21, 22, 23, 24, 25] (by decide +kernel) (by decide +kernel)
set_option maxRecDepth 20000 in
theorem gX1_errsOf_X1_lateOf : GoodIn wsX1_errsOf (wsV RX1 35 RX1 yX1_lateOf wsX1_lateOf) := goodIn_app (goodIn_of _ (by decide +kernel)) ggX1_errsOf_X1_lateOf
theorem dX1_errsOf_0 : decode cX1_errsOf 0 = .ok (.iload_n 2, 1) := by decide +kernel
theorem dX1_errsOf_1 : decode cX1_errsOf 1 = .ok (.tableswitch 66 2 4 #[27, 40, 55], 27) := by decide +kernel
theorem dX1_errsOf_28 : decode cX1_errsOf 28 = .ok (.bipush 10, 2) := by decide +kernel
theorem dX1_errsOf_30 : decode cX1_errsOf 30 = .ok (.aload_n 0, 1) := by decide +kernel
theorem dX1_errsOf_31 : decode cX1_errsOf 31 = .ok (.iload_n 1, 1) := by decide +kernel
theorem dX1_errsOf_32 : decode cX1_errsOf 32 = .ok (.invokevirtual 31, 3) := by decide +kernel
theorem dX1_errsOf_35 : decode cX1_errsOf 35 = .ok (.iload_n 3, 1) := by decide +kernel
theorem dX1_errsOf_36 : decode cX1_errsOf 36 = .ok (.iadd, 1) := by decide +kernel
theorem dX1_errsOf_37 : decode cX1_errsOf 37 = .ok (.invokestatic 53, 3) := by decide +kernel
theorem dX1_errsOf_40 : decode cX1_errsOf 40 = .ok (.ireturn, 1) := by decide +kernel
theorem dX1_errsOf_41 : decode cX1_errsOf 41 = .ok (.bipush 10, 2) := by decide +kernel
theorem dX1_errsOf_43 : decode cX1_errsOf 43 = .ok (.aload_n 0, 1) := by decide +kernel
theorem dX1_errsOf_44 : decode cX1_errsOf 44 = .ok (.iload_n 1, 1) := by decide +kernel
theorem dX1_errsOf_45 : decode cX1_errsOf 45 = .ok (.invokevirtual 31, 3) := by decide +kernel
theorem dX1_errsOf_48 : decode cX1_errsOf 48 = .ok (.iload_n 3, 1) := by decide +kernel
theorem dX1_errsOf_49 : decode cX1_errsOf 49 = .ok (.iadd, 1) := by decide +kernel
theorem dX1_errsOf_50 : decode cX1_errsOf 50 = .ok (.iconst 2, 1) := by decide +kernel
theorem dX1_errsOf_51 : decode cX1_errsOf 51 = .ok (.iadd, 1) := by decide +kernel
theorem dX1_errsOf_52 : decode cX1_errsOf 52 = .ok (.invokestatic 53, 3) := by decide +kernel
theorem dX1_errsOf_55 : decode cX1_errsOf 55 = .ok (.ireturn, 1) := by decide +kernel
theorem dX1_errsOf_56 : decode cX1_errsOf 56 = .ok (.bipush 10, 2) := by decide +kernel
theorem dX1_errsOf_58 : decode cX1_errsOf 58 = .ok (.aload_n 0, 1) := by decide +kernel
theorem dX1_errsOf_59 : decode cX1_errsOf 59 = .ok (.iload_n 1, 1) := by decide +kernel
theorem dX1_errsOf_60 : decode cX1_errsOf 60 = .ok (.invokevirtual 35, 3) := by decide +kernel
theorem dX1_errsOf_63 : decode cX1_errsOf 63 = .ok (.invokestatic 53, 3) := by decide +kernel
theorem dX1_errsOf_66 : decode cX1_errsOf 66 = .ok (.ireturn, 1) := by decide +kernel
theorem dX1_errsOf_67 : decode cX1_errsOf 67 = .ok (.iconst 0, 1) := by decide +kernel
theorem dX1_errsOf_68 : decode cX1_errsOf 68 = .ok (.ireturn, 1) := by decide +kernel
end
section
/-! helper rows for the walks: the world's words, guards, ends -/
abbrev vwCl : List vw_C := [(RX0, TX0, 4), (RX1, TX1, 5), (RX2, TX2, 3), (RX3, TX3, 4), (RX4, TX4, 3), (RX5, TX5, 6), (RX6, TX6, 4), (RX7, TX7, 2), (RX8, TX8, 2), (RX9, TX9, 9), (RX10, TX10, 23)]
abbrev TYS (cI cJ cZ cO : ClassId) : List (ClassId × FieldType) := [(cI, .int), (cJ, .long), (cZ, .boolean), (cO, .object "SimonSays$Image")]
def gN (U : State) : Prop := va_Nw (.methodLinkNest RX0 39 yX9_powerOfTen "SimonSays") U ∧ va_Nw (.methodLinkNest RX0 74 yX9_streakBehind "SimonSays") U ∧ va_Nw (.methodLinkNest RX6 70 yX9_streakBehind "SimonSays") U ∧ va_Nw (.methodLinkNest RX7 19 yX9_isOrder "SimonSays") U
theorem gN.warm {s U : State} (hW : s.WarmedH U.vm) (h : gN s) : gN U := ⟨va_Nw.warmM hW h.1, va_Nw.warmM hW h.2.1, va_Nw.warmM hW h.2.2.1, va_Nw.warmM hW h.2.2.2⟩
theorem gN.same {u U : State} (hv : u.vm = U.vm) (h : gN u) : gN U := ⟨va_Nw.same rfl hv h.1, va_Nw.same rfl hv h.2.1, va_Nw.same rfl hv h.2.2.1, va_Nw.same rfl hv h.2.2.2⟩
theorem gN_X0_39 {U : State} (h : gN U) : va_Nw (.methodLinkNest RX0 39 yX9_powerOfTen "SimonSays") U := h.1
theorem gN_X0_74 {U : State} (h : gN U) : va_Nw (.methodLinkNest RX0 74 yX9_streakBehind "SimonSays") U := h.2.1
theorem gN_X6_70 {U : State} (h : gN U) : va_Nw (.methodLinkNest RX6 70 yX9_streakBehind "SimonSays") U := h.2.2.1
theorem gN_X7_19 {U : State} (h : gN U) : va_Nw (.methodLinkNest RX7 19 yX9_isOrder "SimonSays") U := h.2.2.2
def KK (D : va_G) (cI cJ cZ cO : ClassId) (U : State) : Prop := va_K D vwCl (TYS cI cJ cZ cO) U ∧ gN U
theorem KK.warm {D : va_G} {cI cJ cZ cO : ClassId} {s U : State} (hW : s.WarmedH U.vm) (h : KK D cI cJ cZ cO s) : KK D cI cJ cZ cO U := ⟨va_K.moved hW.alike h.1, gN.warm hW h.2⟩
theorem KK.call {D : va_G} {cI cJ cZ cO : ClassId} {U : State} {g : JFrame} {mk : MethodId} {a : Array Value} (h : KK D cI cJ cZ cO U) : KK D cI cJ cZ cO (U.calling g mk a) := ⟨va_K.moved (u := U) (U := U.calling g mk a) (Vm.Alike.refl U.vm) h.1, gN.same (u := U) (U := U.calling g mk a) rfl h.2⟩
theorem fb_p {D : va_G} {cI cJ cZ cO : ClassId} {av : List Value} {ws : va_W} : FrameBlind (va_Pc av (fun U => va_P D vwCl ws U.heap ∧ KK D cI cJ cZ cO U)) := fun a U g mk q => by
  obtain ⟨q0, qP, qK⟩ := q
  exact ⟨q0, qP, qK.call⟩
theorem fb_i {D : va_G} {cI cJ cZ cO : ClassId} {av : List Value} {ws ws2 : va_W} {sz : Nat} {B : Nat → Prop} : FrameBlind (va_Pc av (fun U => U.heap.size = sz ∧ va_P D vwCl ws U.heap ∧ KK D cI cJ cZ cO U ∧ va_D B ws2)) := fun a U g mk q => by
  obtain ⟨q0, q1, qP, qK, qD⟩ := q
  exact ⟨q0, q1, qP, qK.call, qD⟩
def gIn (i : Int32) (n : Nat) : Bool := decide (0 ≤ i.toInt) && decide (i.toInt < (n : Int))
theorem gIn_iff {i : Int32} {n : Nat} : gIn i n = true ↔ vp_in i n := by
  rw [vp_in_iff, gIn, Bool.and_eq_true, decide_eq_true_eq, decide_eq_true_eq]
theorem gd_in {α : Type} {i : Int32} {n : Nat} {k : Option α} {v : α} (h : (if gIn i n = true then k else none) = some v) : vp_in i n ∧ k = some v := by
  by_cases hc : gIn i n = true
  · rw [if_pos hc] at h; exact ⟨gIn_iff.mp hc, h⟩
  · rw [if_neg hc] at h; cases h
theorem gd_nz {α : Type} {y : Int32} {k : Option α} {v : α} (h : (if y = 0 then none else k) = some v) : ¬ y = 0 ∧ k = some v := by
  by_cases hc : y = 0
  · rw [if_pos hc] at h; cases h
  · rw [if_neg hc] at h; exact ⟨hc, h⟩
theorem gd_nzl {α : Type} {y : Int64} {k : Option α} {v : α} (h : (if y = 0 then none else k) = some v) : ¬ y = 0 ∧ k = some v := by
  by_cases hc : y = 0
  · rw [if_pos hc] at h; cases h
  · rw [if_neg hc] at h; exact ⟨hc, h⟩
def gCp (sp dp n : Int32) (n0 n1 : Nat) : Bool := decide (¬ sp < 0 ∧ ¬ dp < 0 ∧ ¬ n < 0 ∧ sp.toNatClampNeg + n.toNatClampNeg ≤ n0 ∧ dp.toNatClampNeg + n.toNatClampNeg ≤ n1)
theorem gd_cp {α : Type} {sp dp n : Int32} {n0 n1 : Nat} {k : Option α} {v : α} (h : (if gCp sp dp n n0 n1 = true then k else none) = some v) : (¬ sp < 0 ∧ ¬ dp < 0 ∧ ¬ n < 0 ∧ sp.toNatClampNeg + n.toNatClampNeg ≤ n0 ∧ dp.toNatClampNeg + n.toNatClampNeg ≤ n1) ∧ k = some v := by
  by_cases hc : gCp sp dp n n0 n1 = true
  · rw [if_pos hc] at h; exact ⟨of_decide_eq_true hc, h⟩
  · rw [if_neg hc] at h; cases h
theorem if_p {α : Type} {c : Prop} [Decidable c] {a b v : α} (hc : c) (h : (if c then a else b) = v) : a = v := by rw [if_pos hc] at h; exact h
theorem if_n {α : Type} {c : Prop} [Decidable c] {a b v : α} (hc : ¬ c) (h : (if c then a else b) = v) : b = v := by rw [if_neg hc] at h; exact h
theorem ns {α : Type} {v : α} (h : (none : Option α) = some v) : False := by cases h
theorem ob_some {α β : Type} {o : Option α} {k : α → Option β} {v : β} (h : Option.bind o k = some v) : ∃ y, o = some y ∧ k y = some v := by
  cases o with
  | none => cases h
  | some y => exact ⟨y, rfl, h⟩
abbrev zo (r : Int32) : Prop := r = 0 ∨ r = 1
theorem zo_nar {v : Int32} (h : zo v) : narrow .boolean (.int v) = .int v := by rcases h with rfl | rfl <;> rfl
theorem i32_nek {x : Int32} (k : Int) (y : Int32) (hk : y.toInt = k) (h : ¬ x = y) : x.toInt ≠ k := fun q => h (Int32.toInt_inj.mp (q.trans hk.symm))
def gIm (a b : Nat) : Nat → Option Nat := fun j => if j = 0 then some a else if j = 1 then some b else none
section PR
variable {p : Program} {l : Launch} {e : Env} {R : Room} {s : State} {m : MethodId} {args : Array Value} {below : List Frame} {meth : Method} {c : Code} {cc : ByteArray} {pc : Nat} {ls : Array Slot}
theorem pr_i {x v : Int32} (hx : p.tables.exec = Jvm.exec) (hb : c.code = cc) (hr : meth.sig.returnType = some .int) (hlocks : meth.locks = false) (hdg : decode cc pc = .ok (.ireturn, 1)) (h : x = v) : W p l e R s m args below meth c s.heap [] 0 0 (MQ below (vp_Si (fun r => r = v)) args s 0 0 (fun _ => False)) (F0 m pc ls [.int x]) := by
  subst h
  exact W.iret (v := x) hx hb hr (fun t ht hW => ⟨x, rfl, rfl, ht⟩) (fun q hq => by cases hq) hdg hlocks
theorem pr_z {x v : Int32} (hx : p.tables.exec = Jvm.exec) (hb : c.code = cc) (hr : meth.sig.returnType = some .boolean) (hlocks : meth.locks = false) (hdg : decode cc pc = .ok (.ireturn, 1)) (h : x = v) (hz : zo x) : W p l e R s m args below meth c s.heap [] 0 0 (MQ below (vp_Si (fun r => r = v ∧ zo r)) args s 0 0 (fun _ => False)) (F0 m pc ls [.int x]) := by
  subst h
  exact W.zret (v := x) hx hb hr (zo_nar hz) (fun t ht hW => ⟨x, rfl, ⟨rfl, hz⟩, ht⟩) (fun q hq => by cases hq) hdg hlocks
theorem pr_l {x v : Int64} (hx : p.tables.exec = Jvm.exec) (hb : c.code = cc) (hr : meth.sig.returnType = some .long) (hlocks : meth.locks = false) (hdg : decode cc pc = .ok (.lreturn, 1)) (h : x = v) : W p l e R s m args below meth c s.heap [] 0 0 (MQ below (vp_Sl (fun r => r = v)) args s 0 0 (fun _ => False)) (F0 m pc ls [.long x]) := by
  subst h
  exact W.lret (v := x) hx hb hr (fun t ht hW => ⟨x, rfl, rfl, ht⟩) (fun q hq => by cases hq) hdg hlocks
theorem pr_v (hx : p.tables.exec = Jvm.exec) (hb : c.code = cc) (hr : meth.sig.returnType = none) (hlocks : meth.locks = false) (hdg : decode cc pc = .ok (.return_, 1)) : W p l e R s m args below meth c s.heap [] 0 0 (MQ below (va_Sv (fun _ => True)) args s 0 0 (fun _ => False)) (F0 m pc ls []) :=
  W.vret hx hb hr (fun t ht hW => ⟨rfl, trivial, ht⟩) (fun q hq => by cases hq) hdg hlocks
theorem pr_r {a : Nat} {C : String} (hx : p.tables.exec = Jvm.exec) (hb : c.code = cc) (hr : meth.sig.returnType = some (.object C)) (hlocks : meth.locks = false) (hdg : decode cc pc = .ok (.areturn, 1)) : W p l e R s m args below meth c s.heap [] 0 0 (MQ below (va_Sr (fun _ => True) (fun _ => .ref a)) args s 0 0 (fun _ => False)) (F0 m pc ls [.ref a]) :=
  W.aret (v := .ref a) hx hb hr (Or.inl ⟨_, rfl⟩) (Or.inr ⟨_, rfl⟩) (fun t ht hW => ⟨0, rfl, trivial, ht⟩) (fun q hq => by cases hq) hdg hlocks
end PR
end
section
def f_X1_forget (T_size : Int32) (T_littleOnes : Int32) : Option (Int32 × Int32) := some ((0 : Int32), (0 : Int32))
set_option maxHeartbeats 8000000 in
set_option maxRecDepth 100000 in
theorem c_X1_forget (l : Launch) (D : va_G) (cI cJ cZ cO : ClassId) (aT : Nat) (aT_slips : Nat) (aT_lates : Nat) (aT_copied : Nat) (T_size : Int32) (T_littleOnes : Int32) (sz : Nat)  (y0 : Int32 × Int32) (h : f_X1_forget T_size T_littleOnes = some y0) : Met l yX1_forget wsX1_forget ({ frames := 0, cells := 0, slots := 0, locals := 0 } : Room) (va_Pc [.ref aT] (fun U => U.heap.size = sz ∧ va_P D vwCl [(aT, .inr (1, [.ref aT_slips, .ref aT_lates, .ref aT_copied, .int T_size, .int T_littleOnes]))] U.heap ∧ KK D cI cJ cZ cO U ∧ va_D (fun _ => True) [(aT, .inr (1, [.ref aT_slips, .ref aT_lates, .ref aT_copied, .int T_size, .int T_littleOnes]))])) (va_Qv (fun (_ : Unit) => True) (fun (_ : Unit) t => va_P D vwCl [(aT, .inr (1, [.ref aT_slips, .ref aT_lates, .ref aT_copied, .int y0.1, .int y0.2]))] t.heap ∧ va_D (va_A [(aT, .inr (1, [.ref aT_slips, .ref aT_lates, .ref aT_copied, .int T_size, .int T_littleOnes]))] sz) [(aT, .inr (1, [.ref aT_slips, .ref aT_lates, .ref aT_copied, .int y0.1, .int y0.2]))]) (va_A [(aT, .inr (1, [.ref aT_slips, .ref aT_lates, .ref aT_copied, .int T_size, .int T_littleOnes]))] sz)) 0 0 (va_A [(aT, .inr (1, [.ref aT_slips, .ref aT_lates, .ref aT_copied, .int T_size, .int T_littleOnes]))] sz) := by
  refine Met.ofW (cc := cX1_forget) (maxL := 1) (ret := none) (by decide) rfl ?_
  intro p e s m args below meth c s₁ B hml hv
  obtain ⟨rfl, hsz, hP, hKK, hD0⟩ := hv
  have hx := B.exec
  have hb := B.bytes
  have hr := B.returns
  have hts := atoms_spec (ws := wsX1_forget) B.pre
  have hown : s.vm.findClass RX1 = some m.cls := findClass_of_methodNamed B.named
  have hlocks := B.notSynchronized
  have hK := hKK.1
  have fl_21 := hts (.fieldLink RX1 21 "SimonSays$Children" "size" "I") (by decide +kernel)
  have fl_25 := hts (.fieldLink RX1 25 "SimonSays$Children" "littleOnes" "I") (by decide +kernel)
  have inX1 : ∀ w ∈ wsX10, w ∈ wsX1_forget := by decide +kernel
  subst hsz
  have hD := hD0.self (sz := s.heap.size)
  generalize hAe : va_A [(aT, .inr (1, [.ref aT_slips, .ref aT_lates, .ref aT_copied, .int T_size, .int T_littleOnes]))] s.heap.size = A at hD ⊢
  have hA : ∀ q : Nat, s.heap.size ≤ q → A q := fun q h => by rw [← hAe]; exact Or.inr h
  have hS : va_S A s.heap s.heap [] := va_S.rf
  have hl := lv_entry ([.ref aT]) (n := 1) (Nat.le_of_ble_eq_true rfl)
  rw [lg_entry_eq]
  generalize (lg_sl ([.ref aT]) ++ List.replicate (1 - (lg_sl ([.ref aT])).length) Slot.unset).toArray = ls at hl ⊢
  have hl : lv_has ls 1 [(0, .ref aT)] := hl
  unfold f_X1_forget at h
  refine lv_aload_n hx hb dX1_forget_0 rfl (lv_at hl 0 rfl) ?_
  refine lv_iconst (v := (0 : Int32)) hx hb dX1_forget_1 (by decide) ?_
  refine va_put (D := D) (ci := 1) (v := .int (0 : Int32)) (ty := .int) (C := RX1) (T := TX1) (N := 5) hx hb hts inX1 tyX1 tyX1_ok nmX1 hown hK hP hD hS 0 rfl rfl 3 (by decide) fl_21 (fun _ h9 => h9) rfl (by decide +kernel) rfl rfl (Nat.le_of_ble_eq_true rfl) dX1_forget_2 (fun H locs hP hD hS => ?_)
  have hP : va_P D vwCl [(aT, .inr (1, [.ref aT_slips, .ref aT_lates, .ref aT_copied, .int (0 : Int32), .int T_littleOnes]))] H := hP
  have hD : va_D A [(aT, .inr (1, [.ref aT_slips, .ref aT_lates, .ref aT_copied, .int (0 : Int32), .int T_littleOnes]))] := hD
  refine lv_aload_n hx hb dX1_forget_5 rfl (lv_at hl 0 rfl) ?_
  refine lv_iconst (v := (0 : Int32)) hx hb dX1_forget_6 (by decide) ?_
  refine va_put (D := D) (ci := 1) (v := .int (0 : Int32)) (ty := .int) (C := RX1) (T := TX1) (N := 5) hx hb hts inX1 tyX1 tyX1_ok nmX1 hown hK hP hD hS 0 rfl rfl 4 (by decide) fl_25 (fun _ h9 => h9) rfl (by decide +kernel) rfl rfl (Nat.le_of_ble_eq_true rfl) dX1_forget_7 (fun H locs hP hD hS => ?_)
  have hP : va_P D vwCl [(aT, .inr (1, [.ref aT_slips, .ref aT_lates, .ref aT_copied, .int (0 : Int32), .int (0 : Int32)]))] H := hP
  have hD : va_D A [(aT, .inr (1, [.ref aT_slips, .ref aT_lates, .ref aT_copied, .int (0 : Int32), .int (0 : Int32)]))] := hD
  have hy := Option.some.inj h
  subst hy
  exact W.vret hx hb hr (fun t ht hW => ⟨⟨(), rfl, trivial, by rw [ht]; exact hP, hD⟩, hS.F ht⟩) hS.2.2 dX1_forget_10

def f_X1_size (T_size : Int32) : Int32 := T_size
set_option maxHeartbeats 8000000 in
set_option maxRecDepth 100000 in
theorem c_X1_size (l : Launch) (D : va_G) (cI cJ cZ cO : ClassId) (aT : Nat) (aT_slips : Nat) (aT_lates : Nat) (aT_copied : Nat) (T_size : Int32) (T_littleOnes : Int32)   (y0 : Int32) (h : f_X1_size T_size = y0) : Met l yX1_size wsX1_size ({ frames := 0, cells := 0, slots := 0, locals := 0 } : Room) (va_Pc [.ref aT] (fun U => va_P D vwCl [(aT, .inr (1, [.ref aT_slips, .ref aT_lates, .ref aT_copied, .int T_size, .int T_littleOnes]))] U.heap ∧ KK D cI cJ cZ cO U)) (vp_Si (fun r => r = y0)) 0 0 (fun _ => False) := by
  refine Met.ofW (cc := cX1_size) (maxL := 1) (ret := (some .int)) (by decide) rfl ?_
  intro p e s m args below meth c s₁ B hml hv
  obtain ⟨rfl, hP, hKK⟩ := hv
  have hx := B.exec
  have hb := B.bytes
  have hr := B.returns
  have hts := atoms_spec (ws := wsX1_size) B.pre
  have hown : s.vm.findClass RX1 = some m.cls := findClass_of_methodNamed B.named
  have hlocks := B.notSynchronized
  have hK := hKK.1
  have fl_21 := hts (.fieldLink RX1 21 "SimonSays$Children" "size" "I") (by decide +kernel)
  have inX1 : ∀ w ∈ wsX10, w ∈ wsX1_size := by decide +kernel
  have hl := lv_entry ([.ref aT]) (n := 1) (Nat.le_of_ble_eq_true rfl)
  rw [lg_entry_eq]
  generalize (lg_sl ([.ref aT]) ++ List.replicate (1 - (lg_sl ([.ref aT])).length) Slot.unset).toArray = ls at hl ⊢
  have hl : lv_has ls 1 [(0, .ref aT)] := hl
  unfold f_X1_size at h
  refine lv_aload_n hx hb dX1_size_0 rfl (lv_at hl 0 rfl) ?_
  refine va_get (D := D) (ci := 1) (v := .int T_size) (C := RX1) (T := TX1) (N := 5) hx hb hts inX1 hown hK hP 0 rfl rfl 3 (by decide) fl_21 (fun _ h9 => h9) rfl dX1_size_1 ?_
  exact pr_i hx hb hr hlocks dX1_size_4 h

def f_X1_littleOnes (T_littleOnes : Int32) : Int32 := T_littleOnes
set_option maxHeartbeats 8000000 in
set_option maxRecDepth 100000 in
theorem c_X1_littleOnes (l : Launch) (D : va_G) (cI cJ cZ cO : ClassId) (aT : Nat) (aT_slips : Nat) (aT_lates : Nat) (aT_copied : Nat) (T_size : Int32) (T_littleOnes : Int32)   (y0 : Int32) (h : f_X1_littleOnes T_littleOnes = y0) : Met l yX1_littleOnes wsX1_littleOnes ({ frames := 0, cells := 0, slots := 0, locals := 0 } : Room) (va_Pc [.ref aT] (fun U => va_P D vwCl [(aT, .inr (1, [.ref aT_slips, .ref aT_lates, .ref aT_copied, .int T_size, .int T_littleOnes]))] U.heap ∧ KK D cI cJ cZ cO U)) (vp_Si (fun r => r = y0)) 0 0 (fun _ => False) := by
  refine Met.ofW (cc := cX1_littleOnes) (maxL := 1) (ret := (some .int)) (by decide) rfl ?_
  intro p e s m args below meth c s₁ B hml hv
  obtain ⟨rfl, hP, hKK⟩ := hv
  have hx := B.exec
  have hb := B.bytes
  have hr := B.returns
  have hts := atoms_spec (ws := wsX1_littleOnes) B.pre
  have hown : s.vm.findClass RX1 = some m.cls := findClass_of_methodNamed B.named
  have hlocks := B.notSynchronized
  have hK := hKK.1
  have fl_25 := hts (.fieldLink RX1 25 "SimonSays$Children" "littleOnes" "I") (by decide +kernel)
  have inX1 : ∀ w ∈ wsX10, w ∈ wsX1_littleOnes := by decide +kernel
  have hl := lv_entry ([.ref aT]) (n := 1) (Nat.le_of_ble_eq_true rfl)
  rw [lg_entry_eq]
  generalize (lg_sl ([.ref aT]) ++ List.replicate (1 - (lg_sl ([.ref aT])).length) Slot.unset).toArray = ls at hl ⊢
  have hl : lv_has ls 1 [(0, .ref aT)] := hl
  unfold f_X1_littleOnes at h
  refine lv_aload_n hx hb dX1_littleOnes_0 rfl (lv_at hl 0 rfl) ?_
  refine va_get (D := D) (ci := 1) (v := .int T_littleOnes) (C := RX1) (T := TX1) (N := 5) hx hb hts inX1 hown hK hP 0 rfl rfl 4 (by decide) fl_25 (fun _ h9 => h9) rfl dX1_littleOnes_1 ?_
  exact pr_i hx hb hr hlocks dX1_littleOnes_4 h

def f_X1_everyone (T_size : Int32) : Int32 := (((1 : Int32) <<< (T_size &&& 31)) - (1 : Int32))
set_option maxHeartbeats 8000000 in
set_option maxRecDepth 100000 in
theorem c_X1_everyone (l : Launch) (D : va_G) (cI cJ cZ cO : ClassId) (aT : Nat) (aT_slips : Nat) (aT_lates : Nat) (aT_copied : Nat) (T_size : Int32) (T_littleOnes : Int32)   (y0 : Int32) (h : f_X1_everyone T_size = y0) : Met l yX1_everyone wsX1_everyone ({ frames := 0, cells := 0, slots := 0, locals := 0 } : Room) (va_Pc [.ref aT] (fun U => va_P D vwCl [(aT, .inr (1, [.ref aT_slips, .ref aT_lates, .ref aT_copied, .int T_size, .int T_littleOnes]))] U.heap ∧ KK D cI cJ cZ cO U)) (vp_Si (fun r => r = y0)) 0 0 (fun _ => False) := by
  refine Met.ofW (cc := cX1_everyone) (maxL := 1) (ret := (some .int)) (by decide) rfl ?_
  intro p e s m args below meth c s₁ B hml hv
  obtain ⟨rfl, hP, hKK⟩ := hv
  have hx := B.exec
  have hb := B.bytes
  have hr := B.returns
  have hts := atoms_spec (ws := wsX1_everyone) B.pre
  have hown : s.vm.findClass RX1 = some m.cls := findClass_of_methodNamed B.named
  have hlocks := B.notSynchronized
  have hK := hKK.1
  have fl_21 := hts (.fieldLink RX1 21 "SimonSays$Children" "size" "I") (by decide +kernel)
  have inX1 : ∀ w ∈ wsX10, w ∈ wsX1_everyone := by decide +kernel
  have hl := lv_entry ([.ref aT]) (n := 1) (Nat.le_of_ble_eq_true rfl)
  rw [lg_entry_eq]
  generalize (lg_sl ([.ref aT]) ++ List.replicate (1 - (lg_sl ([.ref aT])).length) Slot.unset).toArray = ls at hl ⊢
  have hl : lv_has ls 1 [(0, .ref aT)] := hl
  unfold f_X1_everyone at h
  refine lv_iconst (v := (1 : Int32)) hx hb dX1_everyone_0 (by decide) ?_
  refine lv_aload_n hx hb dX1_everyone_1 rfl (lv_at hl 0 rfl) ?_
  refine va_get (D := D) (ci := 1) (v := .int T_size) (C := RX1) (T := TX1) (N := 5) hx hb hts inX1 hown hK hP 0 rfl rfl 3 (by decide) fl_21 (fun _ h9 => h9) rfl dX1_everyone_2 ?_
  refine lv_ishl hx hb dX1_everyone_5 ?_
  refine lv_iconst (v := (1 : Int32)) hx hb dX1_everyone_6 (by decide) ?_
  refine lv_isub hx hb dX1_everyone_7 ?_
  exact pr_i hx hb hr hlocks dX1_everyone_8 h

def f_X1_isSet (T_size : Int32) (p1 : Int32) : Int32 := (if (p1 &&& ((f_X1_everyone T_size) ^^^ (-1 : Int32))) = 0 then (1 : Int32) else (0 : Int32))
set_option maxHeartbeats 8000000 in
set_option maxRecDepth 100000 in
theorem c_X1_isSet (l : Launch) (D : va_G) (cI cJ cZ cO : ClassId) (aT : Nat) (aT_slips : Nat) (aT_lates : Nat) (aT_copied : Nat) (T_size : Int32) (T_littleOnes : Int32)  (p1 : Int32) (y0 : Int32) (h : f_X1_isSet T_size p1 = y0) : Met l yX1_isSet wsX1_isSet ({ frames := 1, cells := 0, slots := 0, locals := 20 } : Room) (va_Pc [.ref aT, .int p1] (fun U => va_P D vwCl [(aT, .inr (1, [.ref aT_slips, .ref aT_lates, .ref aT_copied, .int T_size, .int T_littleOnes]))] U.heap ∧ KK D cI cJ cZ cO U)) (vp_Si (fun r => r = y0 ∧ zo r)) 0 0 (fun _ => False) := by
  refine Met.ofW (cc := cX1_isSet) (maxL := 2) (ret := (some .boolean)) (by decide) rfl ?_
  intro p e s m args below meth c s₁ B hml hv
  obtain ⟨rfl, hP, hKK⟩ := hv
  have hx := B.exec
  have hb := B.bytes
  have hr := B.returns
  have hts := atoms_spec (ws := wsX1_isSet) B.pre
  have hown : s.vm.findClass RX1 = some m.cls := findClass_of_methodNamed B.named
  have hlocks := B.notSynchronized
  have hK := hKK.1
  have hl := lv_entry ([.ref aT, .int p1]) (n := 2) (Nat.le_of_ble_eq_true rfl)
  rw [lg_entry_eq]
  generalize (lg_sl ([.ref aT, .int p1]) ++ List.replicate (2 - (lg_sl ([.ref aT, .int p1])).length) Slot.unset).toArray = ls at hl ⊢
  have hl : lv_has ls 2 [(0, .ref aT), (1, .int p1)] := hl
  unfold f_X1_isSet at h
  refine lv_iload_n hx hb dX1_isSet_0 rfl (lv_at hl 1 rfl) ?_
  refine lv_aload_n hx hb dX1_isSet_1 rfl (lv_at hl 0 rfl) ?_
  have hPc : va_P D vwCl [(aT, .inr (1, [.ref aT_slips, .ref aT_lates, .ref aT_copied, .int T_size, .int T_littleOnes]))] s.heap := hP.sub [0] rfl
  refine vp_callSi (va_Run.run (va_runV (As := []) (rest := [.int p1]) ⟨hx, hb, hml, hown, hts⟩ (c_X1_everyone l D cI cJ cZ cO aT aT_slips aT_lates aT_copied T_size T_littleOnes _ rfl) (cwV 0 hts gX1_isSet_X1_everyone rfl rfl rfl (by decide +kernel) ⟨Nat.le_of_ble_eq_true rfl, Nat.le_of_ble_eq_true rfl⟩) ⟨fb_p, va_recv hK hP (ci := 1) (q0 := 0) rfl rfl, fun U hU hW => ⟨rfl, by rw [hU]; exact hPc, KK.warm hW hKK⟩⟩ rfl rfl hl.1 rfl (lv_room (Nat.le_of_ble_eq_true rfl)) dX1_isSet_2 ⟨Nat.le_of_ble_eq_true rfl, Nat.le_of_ble_eq_true rfl⟩)) (fun r hr => ?_)
  replace hr := hr.symm
  subst hr
  refine lv_iconst (v := (-1 : Int32)) hx hb dX1_isSet_5 (by decide) ?_
  refine lv_ixor hx hb dX1_isSet_6 ?_
  refine lv_iand hx hb dX1_isSet_7 ?_
  refine lv_if_ne (tgt := 15) hx hb dX1_isSet_8 (by decide) (fun c_1 => ?_) (fun c_1 => ?_)
  · replace h := if_n c_1 h
    refine lv_iconst (v := (0 : Int32)) hx hb dX1_isSet_15 (by decide) ?_
    exact pr_z hx hb hr hlocks dX1_isSet_16 h (by decide)
  · replace h := if_p c_1 h
    refine lv_iconst (v := (1 : Int32)) hx hb dX1_isSet_11 (by decide) ?_
    refine lv_goto (tgt := 16) hx hb dX1_isSet_12 (by decide) ?_
    exact pr_z hx hb hr hlocks dX1_isSet_16 h (by decide)

def f_X1_has (T_size : Int32) (p1 : Int32) : Int32 := (if p1 < 0 then (0 : Int32) else (if T_size ≤ p1 then (0 : Int32) else (1 : Int32)))
set_option maxHeartbeats 8000000 in
set_option maxRecDepth 100000 in
theorem c_X1_has (l : Launch) (D : va_G) (cI cJ cZ cO : ClassId) (aT : Nat) (aT_slips : Nat) (aT_lates : Nat) (aT_copied : Nat) (T_size : Int32) (T_littleOnes : Int32)  (p1 : Int32) (y0 : Int32) (h : f_X1_has T_size p1 = y0) : Met l yX1_has wsX1_has ({ frames := 0, cells := 0, slots := 0, locals := 0 } : Room) (va_Pc [.ref aT, .int p1] (fun U => va_P D vwCl [(aT, .inr (1, [.ref aT_slips, .ref aT_lates, .ref aT_copied, .int T_size, .int T_littleOnes]))] U.heap ∧ KK D cI cJ cZ cO U)) (vp_Si (fun r => r = y0 ∧ zo r)) 0 0 (fun _ => False) := by
  refine Met.ofW (cc := cX1_has) (maxL := 2) (ret := (some .boolean)) (by decide) rfl ?_
  intro p e s m args below meth c s₁ B hml hv
  obtain ⟨rfl, hP, hKK⟩ := hv
  have hx := B.exec
  have hb := B.bytes
  have hr := B.returns
  have hts := atoms_spec (ws := wsX1_has) B.pre
  have hown : s.vm.findClass RX1 = some m.cls := findClass_of_methodNamed B.named
  have hlocks := B.notSynchronized
  have hK := hKK.1
  have fl_21 := hts (.fieldLink RX1 21 "SimonSays$Children" "size" "I") (by decide +kernel)
  have inX1 : ∀ w ∈ wsX10, w ∈ wsX1_has := by decide +kernel
  have hl := lv_entry ([.ref aT, .int p1]) (n := 2) (Nat.le_of_ble_eq_true rfl)
  rw [lg_entry_eq]
  generalize (lg_sl ([.ref aT, .int p1]) ++ List.replicate (2 - (lg_sl ([.ref aT, .int p1])).length) Slot.unset).toArray = ls at hl ⊢
  have hl : lv_has ls 2 [(0, .ref aT), (1, .int p1)] := hl
  unfold f_X1_has at h
  refine lv_iload_n hx hb dX1_has_0 rfl (lv_at hl 1 rfl) ?_
  refine lv_if_lt (tgt := 16) hx hb dX1_has_1 (by decide) (fun c_1 => ?_) (fun c_1 => ?_)
  · replace h := if_p c_1 h
    refine lv_iconst (v := (0 : Int32)) hx hb dX1_has_16 (by decide) ?_
    exact pr_z hx hb hr hlocks dX1_has_17 h (by decide)
  · replace h := if_n c_1 h
    refine lv_iload_n hx hb dX1_has_4 rfl (lv_at hl 1 rfl) ?_
    refine lv_aload_n hx hb dX1_has_5 rfl (lv_at hl 0 rfl) ?_
    refine va_get (D := D) (ci := 1) (v := .int T_size) (C := RX1) (T := TX1) (N := 5) hx hb hts inX1 hown hK hP 0 rfl rfl 3 (by decide) fl_21 (fun _ h9 => h9) rfl dX1_has_6 ?_
    refine lv_icmp_ge (tgt := 16) hx hb dX1_has_9 (by decide) (fun c_2 => ?_) (fun c_2 => ?_)
    · replace h := if_p c_2 h
      refine lv_iconst (v := (0 : Int32)) hx hb dX1_has_16 (by decide) ?_
      exact pr_z hx hb hr hlocks dX1_has_17 h (by decide)
    · replace h := if_n c_2 h
      refine lv_iconst (v := (1 : Int32)) hx hb dX1_has_12 (by decide) ?_
      refine lv_goto (tgt := 17) hx hb dX1_has_13 (by decide) ?_
      exact pr_z hx hb hr hlocks dX1_has_17 h (by decide)

def f_X1_isLittle (T_size : Int32) (T_littleOnes : Int32) (p1 : Int32) : Int32 := (if (f_X1_has T_size p1) = 0 then (0 : Int32) else (if ((T_littleOnes >>> (p1 &&& 31)) &&& (1 : Int32)) = (1 : Int32) then (1 : Int32) else (0 : Int32)))
set_option maxHeartbeats 8000000 in
set_option maxRecDepth 100000 in
theorem c_X1_isLittle (l : Launch) (D : va_G) (cI cJ cZ cO : ClassId) (aT : Nat) (aT_slips : Nat) (aT_lates : Nat) (aT_copied : Nat) (T_size : Int32) (T_littleOnes : Int32)  (p1 : Int32) (y0 : Int32) (h : f_X1_isLittle T_size T_littleOnes p1 = y0) : Met l yX1_isLittle wsX1_isLittle ({ frames := 1, cells := 0, slots := 0, locals := 21 } : Room) (va_Pc [.ref aT, .int p1] (fun U => va_P D vwCl [(aT, .inr (1, [.ref aT_slips, .ref aT_lates, .ref aT_copied, .int T_size, .int T_littleOnes]))] U.heap ∧ KK D cI cJ cZ cO U)) (vp_Si (fun r => r = y0 ∧ zo r)) 0 0 (fun _ => False) := by
  refine Met.ofW (cc := cX1_isLittle) (maxL := 2) (ret := (some .boolean)) (by decide) rfl ?_
  intro p e s m args below meth c s₁ B hml hv
  obtain ⟨rfl, hP, hKK⟩ := hv
  have hx := B.exec
  have hb := B.bytes
  have hr := B.returns
  have hts := atoms_spec (ws := wsX1_isLittle) B.pre
  have hown : s.vm.findClass RX1 = some m.cls := findClass_of_methodNamed B.named
  have hlocks := B.notSynchronized
  have hK := hKK.1
  have fl_25 := hts (.fieldLink RX1 25 "SimonSays$Children" "littleOnes" "I") (by decide +kernel)
  have inX1 : ∀ w ∈ wsX10, w ∈ wsX1_isLittle := by decide +kernel
  have hl := lv_entry ([.ref aT, .int p1]) (n := 2) (Nat.le_of_ble_eq_true rfl)
  rw [lg_entry_eq]
  generalize (lg_sl ([.ref aT, .int p1]) ++ List.replicate (2 - (lg_sl ([.ref aT, .int p1])).length) Slot.unset).toArray = ls at hl ⊢
  have hl : lv_has ls 2 [(0, .ref aT), (1, .int p1)] := hl
  unfold f_X1_isLittle at h
  refine lv_aload_n hx hb dX1_isLittle_0 rfl (lv_at hl 0 rfl) ?_
  refine lv_iload_n hx hb dX1_isLittle_1 rfl (lv_at hl 1 rfl) ?_
  have hPc : va_P D vwCl [(aT, .inr (1, [.ref aT_slips, .ref aT_lates, .ref aT_copied, .int T_size, .int T_littleOnes]))] s.heap := hP.sub [0] rfl
  refine vp_callSi (va_Run.run (va_runV (As := [.int p1]) (rest := []) ⟨hx, hb, hml, hown, hts⟩ (c_X1_has l D cI cJ cZ cO aT aT_slips aT_lates aT_copied T_size T_littleOnes p1 _ rfl) (cwV 1 hts gX1_isLittle_X1_has rfl rfl rfl (by decide +kernel) ⟨Nat.le_of_ble_eq_true rfl, Nat.le_of_ble_eq_true rfl⟩) ⟨fb_p, va_recv hK hP (ci := 1) (q0 := 0) rfl rfl, fun U hU hW => ⟨rfl, by rw [hU]; exact hPc, KK.warm hW hKK⟩⟩ rfl rfl hl.1 rfl (lv_room (Nat.le_of_ble_eq_true rfl)) dX1_isLittle_2 ⟨Nat.le_of_ble_eq_true rfl, Nat.le_of_ble_eq_true rfl⟩)) (fun r hr => ?_)
  obtain ⟨hr, hz1⟩ := hr
  replace hr := hr.symm
  subst hr
  refine lv_if_eq (tgt := 24) hx hb dX1_isLittle_5 (by decide) (fun c_2 => ?_) (fun c_2 => ?_)
  · replace h := if_p c_2 h
    refine lv_iconst (v := (0 : Int32)) hx hb dX1_isLittle_24 (by decide) ?_
    exact pr_z hx hb hr hlocks dX1_isLittle_25 h (by decide)
  · replace h := if_n c_2 h
    refine lv_aload_n hx hb dX1_isLittle_8 rfl (lv_at hl 0 rfl) ?_
    refine va_get (D := D) (ci := 1) (v := .int T_littleOnes) (C := RX1) (T := TX1) (N := 5) hx hb hts inX1 hown hK hP 0 rfl rfl 4 (by decide) fl_25 (fun _ h9 => h9) rfl dX1_isLittle_9 ?_
    refine lv_iload_n hx hb dX1_isLittle_12 rfl (lv_at hl 1 rfl) ?_
    refine lv_ishr hx hb dX1_isLittle_13 ?_
    refine lv_iconst (v := (1 : Int32)) hx hb dX1_isLittle_14 (by decide) ?_
    refine lv_iand hx hb dX1_isLittle_15 ?_
    refine lv_iconst (v := (1 : Int32)) hx hb dX1_isLittle_16 (by decide) ?_
    refine lv_icmp_ne (tgt := 24) hx hb dX1_isLittle_17 (by decide) (fun c_3 => ?_) (fun c_3 => ?_)
    · replace h := if_n c_3 h
      refine lv_iconst (v := (0 : Int32)) hx hb dX1_isLittle_24 (by decide) ?_
      exact pr_z hx hb hr hlocks dX1_isLittle_25 h (by decide)
    · replace h := if_p c_3 h
      refine lv_iconst (v := (1 : Int32)) hx hb dX1_isLittle_20 (by decide) ?_
      refine lv_goto (tgt := 25) hx hb dX1_isLittle_21 (by decide) ?_
      exact pr_z hx hb hr hlocks dX1_isLittle_25 h (by decide)

def f_X1_slipOf (T_size : Int32) (T_slips : Nat → Int32) (p1 : Int32) : Option (Int32) := (if (f_X1_has T_size p1) = 0 then some (0 : Int32) else (if gIn p1 6 = true then some (T_slips p1.toNatClampNeg) else none))
set_option maxHeartbeats 8000000 in
set_option maxRecDepth 100000 in
theorem c_X1_slipOf (l : Launch) (D : va_G) (cI cJ cZ cO : ClassId) (aT : Nat) (aT_slips : Nat) (aT_lates : Nat) (aT_copied : Nat) (T_size : Int32) (T_littleOnes : Int32) (T_slips : Nat → Int32)  (p1 : Int32) (y0 : Int32) (h : f_X1_slipOf T_size T_slips p1 = some y0) : Met l yX1_slipOf wsX1_slipOf ({ frames := 1, cells := 0, slots := 0, locals := 21 } : Room) (va_Pc [.ref aT, .int p1] (fun U => va_P D vwCl [(aT, .inr (1, [.ref aT_slips, .ref aT_lates, .ref aT_copied, .int T_size, .int T_littleOnes])), (aT_slips, .inl (cI, 6, .inl T_slips))] U.heap ∧ KK D cI cJ cZ cO U)) (vp_Si (fun r => r = y0)) 0 0 (fun _ => False) := by
  refine Met.ofW (cc := cX1_slipOf) (maxL := 2) (ret := (some .int)) (by decide) rfl ?_
  intro p e s m args below meth c s₁ B hml hv
  obtain ⟨rfl, hP, hKK⟩ := hv
  have hx := B.exec
  have hb := B.bytes
  have hr := B.returns
  have hts := atoms_spec (ws := wsX1_slipOf) B.pre
  have hown : s.vm.findClass RX1 = some m.cls := findClass_of_methodNamed B.named
  have hlocks := B.notSynchronized
  have hK := hKK.1
  have fl_9 := hts (.fieldLink RX1 9 "SimonSays$Children" "slips" "[I") (by decide +kernel)
  have inX1 : ∀ w ∈ wsX10, w ∈ wsX1_slipOf := by decide +kernel
  have hl := lv_entry ([.ref aT, .int p1]) (n := 2) (Nat.le_of_ble_eq_true rfl)
  rw [lg_entry_eq]
  generalize (lg_sl ([.ref aT, .int p1]) ++ List.replicate (2 - (lg_sl ([.ref aT, .int p1])).length) Slot.unset).toArray = ls at hl ⊢
  have hl : lv_has ls 2 [(0, .ref aT), (1, .int p1)] := hl
  unfold f_X1_slipOf at h
  refine lv_aload_n hx hb dX1_slipOf_0 rfl (lv_at hl 0 rfl) ?_
  refine lv_iload_n hx hb dX1_slipOf_1 rfl (lv_at hl 1 rfl) ?_
  have hPc : va_P D vwCl [(aT, .inr (1, [.ref aT_slips, .ref aT_lates, .ref aT_copied, .int T_size, .int T_littleOnes]))] s.heap := hP.sub [0] rfl
  refine vp_callSi (va_Run.run (va_runV (As := [.int p1]) (rest := []) ⟨hx, hb, hml, hown, hts⟩ (c_X1_has l D cI cJ cZ cO aT aT_slips aT_lates aT_copied T_size T_littleOnes p1 _ rfl) (cwV 1 hts gX1_slipOf_X1_has rfl rfl rfl (by decide +kernel) ⟨Nat.le_of_ble_eq_true rfl, Nat.le_of_ble_eq_true rfl⟩) ⟨fb_p, va_recv hK hP (ci := 1) (q0 := 0) rfl rfl, fun U hU hW => ⟨rfl, by rw [hU]; exact hPc, KK.warm hW hKK⟩⟩ rfl rfl hl.1 rfl (lv_room (Nat.le_of_ble_eq_true rfl)) dX1_slipOf_2 ⟨Nat.le_of_ble_eq_true rfl, Nat.le_of_ble_eq_true rfl⟩)) (fun r hr => ?_)
  obtain ⟨hr, hz1⟩ := hr
  replace hr := hr.symm
  subst hr
  refine lv_if_eq (tgt := 17) hx hb dX1_slipOf_5 (by decide) (fun c_2 => ?_) (fun c_2 => ?_)
  · replace h := if_p c_2 h
    refine lv_iconst (v := (0 : Int32)) hx hb dX1_slipOf_17 (by decide) ?_
    exact pr_i hx hb hr hlocks dX1_slipOf_18 (Option.some.inj h)
  · replace h := if_n c_2 h
    refine lv_aload_n hx hb dX1_slipOf_8 rfl (lv_at hl 0 rfl) ?_
    refine va_get (D := D) (ci := 1) (v := .ref aT_slips) (C := RX1) (T := TX1) (N := 5) hx hb hts inX1 hown hK hP 0 rfl rfl 0 (by decide) fl_9 (fun _ h9 => h9) rfl dX1_slipOf_9 ?_
    refine lv_iload_n hx hb dX1_slipOf_12 rfl (lv_at hl 1 rfl) ?_
    obtain ⟨hi3, h⟩ := gd_in h
    refine va_iald hx hb hK hP 1 0 rfl rfl hi3 dX1_slipOf_13 ?_
    refine lv_goto (tgt := 18) hx hb dX1_slipOf_14 (by decide) ?_
    exact pr_i hx hb hr hlocks dX1_slipOf_18 (Option.some.inj h)

def f_X1_lateOf (T_size : Int32) (T_lates : Nat → Int32) (p1 : Int32) : Option (Int32) := (if (f_X1_has T_size p1) = 0 then some (0 : Int32) else (if gIn p1 6 = true then some (T_lates p1.toNatClampNeg) else none))
set_option maxHeartbeats 8000000 in
set_option maxRecDepth 100000 in
theorem c_X1_lateOf (l : Launch) (D : va_G) (cI cJ cZ cO : ClassId) (aT : Nat) (aT_lates : Nat) (aT_slips : Nat) (aT_copied : Nat) (T_size : Int32) (T_littleOnes : Int32) (T_lates : Nat → Int32)  (p1 : Int32) (y0 : Int32) (h : f_X1_lateOf T_size T_lates p1 = some y0) : Met l yX1_lateOf wsX1_lateOf ({ frames := 1, cells := 0, slots := 0, locals := 21 } : Room) (va_Pc [.ref aT, .int p1] (fun U => va_P D vwCl [(aT, .inr (1, [.ref aT_slips, .ref aT_lates, .ref aT_copied, .int T_size, .int T_littleOnes])), (aT_lates, .inl (cI, 6, .inl T_lates))] U.heap ∧ KK D cI cJ cZ cO U)) (vp_Si (fun r => r = y0)) 0 0 (fun _ => False) := by
  refine Met.ofW (cc := cX1_lateOf) (maxL := 2) (ret := (some .int)) (by decide) rfl ?_
  intro p e s m args below meth c s₁ B hml hv
  obtain ⟨rfl, hP, hKK⟩ := hv
  have hx := B.exec
  have hb := B.bytes
  have hr := B.returns
  have hts := atoms_spec (ws := wsX1_lateOf) B.pre
  have hown : s.vm.findClass RX1 = some m.cls := findClass_of_methodNamed B.named
  have hlocks := B.notSynchronized
  have hK := hKK.1
  have fl_15 := hts (.fieldLink RX1 15 "SimonSays$Children" "lates" "[I") (by decide +kernel)
  have inX1 : ∀ w ∈ wsX10, w ∈ wsX1_lateOf := by decide +kernel
  have hl := lv_entry ([.ref aT, .int p1]) (n := 2) (Nat.le_of_ble_eq_true rfl)
  rw [lg_entry_eq]
  generalize (lg_sl ([.ref aT, .int p1]) ++ List.replicate (2 - (lg_sl ([.ref aT, .int p1])).length) Slot.unset).toArray = ls at hl ⊢
  have hl : lv_has ls 2 [(0, .ref aT), (1, .int p1)] := hl
  unfold f_X1_lateOf at h
  refine lv_aload_n hx hb dX1_lateOf_0 rfl (lv_at hl 0 rfl) ?_
  refine lv_iload_n hx hb dX1_lateOf_1 rfl (lv_at hl 1 rfl) ?_
  have hPc : va_P D vwCl [(aT, .inr (1, [.ref aT_slips, .ref aT_lates, .ref aT_copied, .int T_size, .int T_littleOnes]))] s.heap := hP.sub [0] rfl
  refine vp_callSi (va_Run.run (va_runV (As := [.int p1]) (rest := []) ⟨hx, hb, hml, hown, hts⟩ (c_X1_has l D cI cJ cZ cO aT aT_slips aT_lates aT_copied T_size T_littleOnes p1 _ rfl) (cwV 1 hts gX1_lateOf_X1_has rfl rfl rfl (by decide +kernel) ⟨Nat.le_of_ble_eq_true rfl, Nat.le_of_ble_eq_true rfl⟩) ⟨fb_p, va_recv hK hP (ci := 1) (q0 := 0) rfl rfl, fun U hU hW => ⟨rfl, by rw [hU]; exact hPc, KK.warm hW hKK⟩⟩ rfl rfl hl.1 rfl (lv_room (Nat.le_of_ble_eq_true rfl)) dX1_lateOf_2 ⟨Nat.le_of_ble_eq_true rfl, Nat.le_of_ble_eq_true rfl⟩)) (fun r hr => ?_)
  obtain ⟨hr, hz1⟩ := hr
  replace hr := hr.symm
  subst hr
  refine lv_if_eq (tgt := 17) hx hb dX1_lateOf_5 (by decide) (fun c_2 => ?_) (fun c_2 => ?_)
  · replace h := if_p c_2 h
    refine lv_iconst (v := (0 : Int32)) hx hb dX1_lateOf_17 (by decide) ?_
    exact pr_i hx hb hr hlocks dX1_lateOf_18 (Option.some.inj h)
  · replace h := if_n c_2 h
    refine lv_aload_n hx hb dX1_lateOf_8 rfl (lv_at hl 0 rfl) ?_
    refine va_get (D := D) (ci := 1) (v := .ref aT_lates) (C := RX1) (T := TX1) (N := 5) hx hb hts inX1 hown hK hP 0 rfl rfl 1 (by decide) fl_15 (fun _ h9 => h9) rfl dX1_lateOf_9 ?_
    refine lv_iload_n hx hb dX1_lateOf_12 rfl (lv_at hl 1 rfl) ?_
    obtain ⟨hi3, h⟩ := gd_in h
    refine va_iald hx hb hK hP 1 0 rfl rfl hi3 dX1_lateOf_13 ?_
    refine lv_goto (tgt := 18) hx hb dX1_lateOf_14 (by decide) ?_
    exact pr_i hx hb hr hlocks dX1_lateOf_18 (Option.some.inj h)

def f_X1_copiedBy (T_size : Int32) (T_copied : Nat → Int32) (p1 : Int32) : Option (Int32) := (if (f_X1_has T_size p1) = 0 then some (9 : Int32) else (if gIn p1 6 = true then some (T_copied p1.toNatClampNeg) else none))
set_option maxHeartbeats 8000000 in
set_option maxRecDepth 100000 in
theorem c_X1_copiedBy (l : Launch) (D : va_G) (cI cJ cZ cO : ClassId) (aT : Nat) (aT_copied : Nat) (aT_slips : Nat) (aT_lates : Nat) (T_size : Int32) (T_littleOnes : Int32) (T_copied : Nat → Int32)  (p1 : Int32) (y0 : Int32) (h : f_X1_copiedBy T_size T_copied p1 = some y0) : Met l yX1_copiedBy wsX1_copiedBy ({ frames := 1, cells := 0, slots := 0, locals := 21 } : Room) (va_Pc [.ref aT, .int p1] (fun U => va_P D vwCl [(aT, .inr (1, [.ref aT_slips, .ref aT_lates, .ref aT_copied, .int T_size, .int T_littleOnes])), (aT_copied, .inl (cI, 6, .inl T_copied))] U.heap ∧ KK D cI cJ cZ cO U)) (vp_Si (fun r => r = y0)) 0 0 (fun _ => False) := by
  refine Met.ofW (cc := cX1_copiedBy) (maxL := 2) (ret := (some .int)) (by decide) rfl ?_
  intro p e s m args below meth c s₁ B hml hv
  obtain ⟨rfl, hP, hKK⟩ := hv
  have hx := B.exec
  have hb := B.bytes
  have hr := B.returns
  have hts := atoms_spec (ws := wsX1_copiedBy) B.pre
  have hown : s.vm.findClass RX1 = some m.cls := findClass_of_methodNamed B.named
  have hlocks := B.notSynchronized
  have hK := hKK.1
  have fl_18 := hts (.fieldLink RX1 18 "SimonSays$Children" "copied" "[I") (by decide +kernel)
  have inX1 : ∀ w ∈ wsX10, w ∈ wsX1_copiedBy := by decide +kernel
  have hl := lv_entry ([.ref aT, .int p1]) (n := 2) (Nat.le_of_ble_eq_true rfl)
  rw [lg_entry_eq]
  generalize (lg_sl ([.ref aT, .int p1]) ++ List.replicate (2 - (lg_sl ([.ref aT, .int p1])).length) Slot.unset).toArray = ls at hl ⊢
  have hl : lv_has ls 2 [(0, .ref aT), (1, .int p1)] := hl
  unfold f_X1_copiedBy at h
  refine lv_aload_n hx hb dX1_copiedBy_0 rfl (lv_at hl 0 rfl) ?_
  refine lv_iload_n hx hb dX1_copiedBy_1 rfl (lv_at hl 1 rfl) ?_
  have hPc : va_P D vwCl [(aT, .inr (1, [.ref aT_slips, .ref aT_lates, .ref aT_copied, .int T_size, .int T_littleOnes]))] s.heap := hP.sub [0] rfl
  refine vp_callSi (va_Run.run (va_runV (As := [.int p1]) (rest := []) ⟨hx, hb, hml, hown, hts⟩ (c_X1_has l D cI cJ cZ cO aT aT_slips aT_lates aT_copied T_size T_littleOnes p1 _ rfl) (cwV 1 hts gX1_copiedBy_X1_has rfl rfl rfl (by decide +kernel) ⟨Nat.le_of_ble_eq_true rfl, Nat.le_of_ble_eq_true rfl⟩) ⟨fb_p, va_recv hK hP (ci := 1) (q0 := 0) rfl rfl, fun U hU hW => ⟨rfl, by rw [hU]; exact hPc, KK.warm hW hKK⟩⟩ rfl rfl hl.1 rfl (lv_room (Nat.le_of_ble_eq_true rfl)) dX1_copiedBy_2 ⟨Nat.le_of_ble_eq_true rfl, Nat.le_of_ble_eq_true rfl⟩)) (fun r hr => ?_)
  obtain ⟨hr, hz1⟩ := hr
  replace hr := hr.symm
  subst hr
  refine lv_if_eq (tgt := 17) hx hb dX1_copiedBy_5 (by decide) (fun c_2 => ?_) (fun c_2 => ?_)
  · replace h := if_p c_2 h
    refine lv_bipush (v := (9 : Int32)) hx hb dX1_copiedBy_17 (by decide) ?_
    exact pr_i hx hb hr hlocks dX1_copiedBy_19 (Option.some.inj h)
  · replace h := if_n c_2 h
    refine lv_aload_n hx hb dX1_copiedBy_8 rfl (lv_at hl 0 rfl) ?_
    refine va_get (D := D) (ci := 1) (v := .ref aT_copied) (C := RX1) (T := TX1) (N := 5) hx hb hts inX1 hown hK hP 0 rfl rfl 2 (by decide) fl_18 (fun _ h9 => h9) rfl dX1_copiedBy_9 ?_
    refine lv_iload_n hx hb dX1_copiedBy_12 rfl (lv_at hl 1 rfl) ?_
    obtain ⟨hi3, h⟩ := gd_in h
    refine va_iald hx hb hK hP 1 0 rfl rfl hi3 dX1_copiedBy_13 ?_
    refine lv_goto (tgt := 19) hx hb dX1_copiedBy_14 (by decide) ?_
    exact pr_i hx hb hr hlocks dX1_copiedBy_19 (Option.some.inj h)

def f_X1_howManyCopy_L4 (T_size : Int32) (T_copied : Nat → Int32) : Nat → Int32 → Int32 → Int32 → Option (Int32)
  | 0, _, _, _ => none
  | n + 1, x1, x2, x3 => (if T_size ≤ x3 then some x2 else (Option.bind (f_X1_copiedBy T_size T_copied x3) (fun y2 => (if y2 = x1 then f_X1_howManyCopy_L4 T_size T_copied n x1 (x2 + (1 : Int32)) (x3 + (1 : Int32)) else f_X1_howManyCopy_L4 T_size T_copied n x1 x2 (x3 + (1 : Int32))))))
def f_X1_howManyCopy (T_size : Int32) (T_copied : Nat → Int32) (p1 : Int32) : Option (Int32) := f_X1_howManyCopy_L4 T_size T_copied 300 p1 (0 : Int32) (0 : Int32)
set_option maxHeartbeats 8000000 in
set_option maxRecDepth 100000 in
theorem c_X1_howManyCopy (l : Launch) (D : va_G) (cI cJ cZ cO : ClassId) (aT : Nat) (aT_copied : Nat) (aT_slips : Nat) (aT_lates : Nat) (T_size : Int32) (T_littleOnes : Int32) (T_copied : Nat → Int32)  (p1 : Int32) (y0 : Int32) (h : f_X1_howManyCopy T_size T_copied p1 = some y0) : Met l yX1_howManyCopy wsX1_howManyCopy ({ frames := 2, cells := 0, slots := 0, locals := 42 } : Room) (va_Pc [.ref aT, .int p1] (fun U => va_P D vwCl [(aT, .inr (1, [.ref aT_slips, .ref aT_lates, .ref aT_copied, .int T_size, .int T_littleOnes])), (aT_copied, .inl (cI, 6, .inl T_copied))] U.heap ∧ KK D cI cJ cZ cO U)) (vp_Si (fun r => r = y0)) 0 0 (fun _ => False) := by
  refine Met.ofW (cc := cX1_howManyCopy) (maxL := 4) (ret := (some .int)) (by decide) rfl ?_
  intro p e s m args below meth c s₁ B hml hv
  obtain ⟨rfl, hP, hKK⟩ := hv
  have hx := B.exec
  have hb := B.bytes
  have hr := B.returns
  have hts := atoms_spec (ws := wsX1_howManyCopy) B.pre
  have hown : s.vm.findClass RX1 = some m.cls := findClass_of_methodNamed B.named
  have hlocks := B.notSynchronized
  have hK := hKK.1
  have fl_21 := hts (.fieldLink RX1 21 "SimonSays$Children" "size" "I") (by decide +kernel)
  have inX1 : ∀ w ∈ wsX10, w ∈ wsX1_howManyCopy := by decide +kernel
  have hl := lv_entry ([.ref aT, .int p1]) (n := 4) (Nat.le_of_ble_eq_true rfl)
  rw [lg_entry_eq]
  generalize (lg_sl ([.ref aT, .int p1]) ++ List.replicate (4 - (lg_sl ([.ref aT, .int p1])).length) Slot.unset).toArray = ls at hl ⊢
  have hl : lv_has ls 4 [(0, .ref aT), (1, .int p1)] := hl
  have L4 : ∀ (n : Nat), ∀ (x1 : Int32) (x2 : Int32) (x3 : Int32), ∀ (ls : Array Slot), lv_has ls 4 [(0, .ref aT), (1, .int x1), (2, .int x2), (3, .int x3)] → f_X1_howManyCopy_L4 T_size T_copied n x1 x2 x3 = some y0 → W p l e (headSpec wsX1_howManyCopy ({ frames := 2, cells := 0, slots := 0, locals := 42 } : Room)).room s m ([.ref aT, .int p1] : List Value).toArray below meth c s.heap [] 0 0 (MQ below (vp_Si (fun r => r = y0)) ([.ref aT, .int p1] : List Value).toArray s 0 0 (fun _ => False)) (F0 m 4 ls []) := by
    intro n
    induction n with
    | zero =>
      intro x1 x2 x3 ls hl h
      exact (ns h).elim
    | succ n ih =>
      intro x1 x2 x3 ls hl h
      unfold f_X1_howManyCopy_L4 at h
      refine lv_iload_n hx hb dX1_howManyCopy_4 rfl (lv_at hl 3 rfl) ?_
      refine lv_aload_n hx hb dX1_howManyCopy_5 rfl (lv_at hl 0 rfl) ?_
      refine va_get (D := D) (ci := 1) (v := .int T_size) (C := RX1) (T := TX1) (N := 5) hx hb hts inX1 hown hK hP 0 rfl rfl 3 (by decide) fl_21 (fun _ h9 => h9) rfl dX1_howManyCopy_6 ?_
      refine lv_icmp_ge (tgt := 30) hx hb dX1_howManyCopy_9 (by decide) (fun c_1 => ?_) (fun c_1 => ?_)
      · replace h := if_p c_1 h
        refine lv_iload_n hx hb dX1_howManyCopy_30 rfl (lv_at hl 2 rfl) ?_
        exact pr_i hx hb hr hlocks dX1_howManyCopy_31 (Option.some.inj h)
      · replace h := if_n c_1 h
        refine lv_aload_n hx hb dX1_howManyCopy_12 rfl (lv_at hl 0 rfl) ?_
        refine lv_iload_n hx hb dX1_howManyCopy_13 rfl (lv_at hl 3 rfl) ?_
        obtain ⟨y2, qy2, h⟩ := ob_some h
        have hPc : va_P D vwCl [(aT, .inr (1, [.ref aT_slips, .ref aT_lates, .ref aT_copied, .int T_size, .int T_littleOnes])), (aT_copied, .inl (cI, 6, .inl T_copied))] s.heap := hP.sub [0, 1] rfl
        refine vp_callSi (va_Run.run (va_runV (As := [.int x3]) (rest := []) ⟨hx, hb, hml, hown, hts⟩ (c_X1_copiedBy l D cI cJ cZ cO aT aT_copied aT_slips aT_lates T_size T_littleOnes T_copied x3 y2 qy2) (cwV 1 hts gX1_howManyCopy_X1_copiedBy rfl rfl rfl (by decide +kernel) ⟨Nat.le_of_ble_eq_true rfl, Nat.le_of_ble_eq_true rfl⟩) ⟨fb_p, va_recv hK hP (ci := 1) (q0 := 0) rfl rfl, fun U hU hW => ⟨rfl, by rw [hU]; exact hPc, KK.warm hW hKK⟩⟩ rfl rfl hl.1 rfl (lv_room (Nat.le_of_ble_eq_true rfl)) dX1_howManyCopy_14 ⟨Nat.le_of_ble_eq_true rfl, Nat.le_of_ble_eq_true rfl⟩)) (fun r hr => ?_)
        replace hr := hr.symm
        subst hr
        refine lv_iload_n hx hb dX1_howManyCopy_17 rfl (lv_at hl 1 rfl) ?_
        refine lv_icmp_ne (tgt := 24) hx hb dX1_howManyCopy_18 (by decide) (fun c_3 => ?_) (fun c_3 => ?_)
        · replace h := if_n c_3 h
          refine lv_iinc (v := (x3 + (1 : Int32))) (lv' := [(3, .int (x3 + (1 : Int32))), (0, .ref aT), (1, .int x1), (2, .int x2)]) hx hb dX1_howManyCopy_24 hl (k := 3) rfl rfl (by decide) rfl (fun ls hl => ?_)
          refine lv_goto (tgt := 4) hx hb dX1_howManyCopy_27 (by decide) ?_
          exact ih x1 x2 (x3 + (1 : Int32)) ls (lv_sub hl [1, 2, 3, 0] rfl) h
        · replace h := if_p c_3 h
          refine lv_iinc (v := (x2 + (1 : Int32))) (lv' := [(2, .int (x2 + (1 : Int32))), (0, .ref aT), (1, .int x1), (3, .int x3)]) hx hb dX1_howManyCopy_21 hl (k := 2) rfl rfl (by decide) rfl (fun ls hl => ?_)
          refine lv_iinc (v := (x3 + (1 : Int32))) (lv' := [(3, .int (x3 + (1 : Int32))), (2, .int (x2 + (1 : Int32))), (0, .ref aT), (1, .int x1)]) hx hb dX1_howManyCopy_24 hl (k := 3) rfl rfl (by decide) rfl (fun ls hl => ?_)
          refine lv_goto (tgt := 4) hx hb dX1_howManyCopy_27 (by decide) ?_
          exact ih x1 (x2 + (1 : Int32)) (x3 + (1 : Int32)) ls (lv_sub hl [2, 3, 1, 0] rfl) h
  unfold f_X1_howManyCopy at h
  refine lv_iconst (v := (0 : Int32)) hx hb dX1_howManyCopy_0 (by decide) ?_
  refine lv_istore_n (lv' := [(2, .int (0 : Int32)), (0, .ref aT), (1, .int p1)]) hx hb dX1_howManyCopy_1 rfl hl (by decide) rfl (fun ls hl => ?_)
  refine lv_iconst (v := (0 : Int32)) hx hb dX1_howManyCopy_2 (by decide) ?_
  refine lv_istore_n (lv' := [(3, .int (0 : Int32)), (2, .int (0 : Int32)), (0, .ref aT), (1, .int p1)]) hx hb dX1_howManyCopy_3 rfl hl (by decide) rfl (fun ls hl => ?_)
  exact L4 300 p1 (0 : Int32) (0 : Int32) ls (lv_sub hl [2, 3, 1, 0] rfl) h

def f_X1_add (T_size : Int32) (T_slips : Nat → Int32) (T_lates : Nat → Int32) (T_copied : Nat → Int32) (p1 : Int32) (p2 : Int32) (p3 : Int32) : Option (Int32 × (Nat → Int32) × (Nat → Int32) × (Nat → Int32)) := (if (6 : Int32) ≤ T_size then some (T_size, T_slips, T_lates, T_copied) else (if gIn T_size 6 = true then (if gIn T_size 6 = true then (if gIn T_size 6 = true then some ((T_size + (1 : Int32)), (upd T_slips T_size.toNatClampNeg p1), (upd T_lates T_size.toNatClampNeg p2), (upd T_copied T_size.toNatClampNeg p3)) else none) else none) else none))
set_option maxHeartbeats 8000000 in
set_option maxRecDepth 100000 in
theorem c_X1_add (l : Launch) (D : va_G) (cI cJ cZ cO : ClassId) (aT : Nat) (aT_slips : Nat) (aT_lates : Nat) (aT_copied : Nat) (T_size : Int32) (T_littleOnes : Int32) (T_slips : Nat → Int32) (T_lates : Nat → Int32) (T_copied : Nat → Int32) (sz : Nat) (p1 : Int32) (p2 : Int32) (p3 : Int32) (y0 : Int32 × (Nat → Int32) × (Nat → Int32) × (Nat → Int32)) (h : f_X1_add T_size T_slips T_lates T_copied p1 p2 p3 = some y0) : Met l yX1_add wsX1_add ({ frames := 0, cells := 0, slots := 0, locals := 0 } : Room) (va_Pc [.ref aT, .int p1, .int p2, .int p3] (fun U => U.heap.size = sz ∧ va_P D vwCl [(aT, .inr (1, [.ref aT_slips, .ref aT_lates, .ref aT_copied, .int T_size, .int T_littleOnes])), (aT_slips, .inl (cI, 6, .inl T_slips)), (aT_lates, .inl (cI, 6, .inl T_lates)), (aT_copied, .inl (cI, 6, .inl T_copied))] U.heap ∧ KK D cI cJ cZ cO U ∧ va_D (fun _ => True) [(aT, .inr (1, [.ref aT_slips, .ref aT_lates, .ref aT_copied, .int T_size, .int T_littleOnes])), (aT_slips, .inl (cI, 6, .inl T_slips)), (aT_lates, .inl (cI, 6, .inl T_lates)), (aT_copied, .inl (cI, 6, .inl T_copied))])) (va_Qv (fun (_ : Unit) => True) (fun (_ : Unit) t => va_P D vwCl [(aT, .inr (1, [.ref aT_slips, .ref aT_lates, .ref aT_copied, .int y0.1, .int T_littleOnes])), (aT_slips, .inl (cI, 6, .inl y0.2.1)), (aT_lates, .inl (cI, 6, .inl y0.2.2.1)), (aT_copied, .inl (cI, 6, .inl y0.2.2.2))] t.heap ∧ va_D (va_A [(aT, .inr (1, [.ref aT_slips, .ref aT_lates, .ref aT_copied, .int T_size, .int T_littleOnes])), (aT_slips, .inl (cI, 6, .inl T_slips)), (aT_lates, .inl (cI, 6, .inl T_lates)), (aT_copied, .inl (cI, 6, .inl T_copied))] sz) [(aT, .inr (1, [.ref aT_slips, .ref aT_lates, .ref aT_copied, .int y0.1, .int T_littleOnes])), (aT_slips, .inl (cI, 6, .inl y0.2.1)), (aT_lates, .inl (cI, 6, .inl y0.2.2.1)), (aT_copied, .inl (cI, 6, .inl y0.2.2.2))]) (va_A [(aT, .inr (1, [.ref aT_slips, .ref aT_lates, .ref aT_copied, .int T_size, .int T_littleOnes])), (aT_slips, .inl (cI, 6, .inl T_slips)), (aT_lates, .inl (cI, 6, .inl T_lates)), (aT_copied, .inl (cI, 6, .inl T_copied))] sz)) 0 0 (va_A [(aT, .inr (1, [.ref aT_slips, .ref aT_lates, .ref aT_copied, .int T_size, .int T_littleOnes])), (aT_slips, .inl (cI, 6, .inl T_slips)), (aT_lates, .inl (cI, 6, .inl T_lates)), (aT_copied, .inl (cI, 6, .inl T_copied))] sz) := by
  refine Met.ofW (cc := cX1_add) (maxL := 4) (ret := none) (by decide) rfl ?_
  intro p e s m args below meth c s₁ B hml hv
  obtain ⟨rfl, hsz, hP, hKK, hD0⟩ := hv
  have hx := B.exec
  have hb := B.bytes
  have hr := B.returns
  have hts := atoms_spec (ws := wsX1_add) B.pre
  have hown : s.vm.findClass RX1 = some m.cls := findClass_of_methodNamed B.named
  have hlocks := B.notSynchronized
  have hK := hKK.1
  have fl_9 := hts (.fieldLink RX1 9 "SimonSays$Children" "slips" "[I") (by decide +kernel)
  have fl_15 := hts (.fieldLink RX1 15 "SimonSays$Children" "lates" "[I") (by decide +kernel)
  have fl_18 := hts (.fieldLink RX1 18 "SimonSays$Children" "copied" "[I") (by decide +kernel)
  have fl_21 := hts (.fieldLink RX1 21 "SimonSays$Children" "size" "I") (by decide +kernel)
  have inX1 : ∀ w ∈ wsX10, w ∈ wsX1_add := by decide +kernel
  subst hsz
  have hD := hD0.self (sz := s.heap.size)
  generalize hAe : va_A [(aT, .inr (1, [.ref aT_slips, .ref aT_lates, .ref aT_copied, .int T_size, .int T_littleOnes])), (aT_slips, .inl (cI, 6, .inl T_slips)), (aT_lates, .inl (cI, 6, .inl T_lates)), (aT_copied, .inl (cI, 6, .inl T_copied))] s.heap.size = A at hD ⊢
  have hA : ∀ q : Nat, s.heap.size ≤ q → A q := fun q h => by rw [← hAe]; exact Or.inr h
  have hS : va_S A s.heap s.heap [] := va_S.rf
  have hl := lv_entry ([.ref aT, .int p1, .int p2, .int p3]) (n := 4) (Nat.le_of_ble_eq_true rfl)
  rw [lg_entry_eq]
  generalize (lg_sl ([.ref aT, .int p1, .int p2, .int p3]) ++ List.replicate (4 - (lg_sl ([.ref aT, .int p1, .int p2, .int p3])).length) Slot.unset).toArray = ls at hl ⊢
  have hl : lv_has ls 4 [(0, .ref aT), (1, .int p1), (2, .int p2), (3, .int p3)] := hl
  unfold f_X1_add at h
  refine lv_aload_n hx hb dX1_add_0 rfl (lv_at hl 0 rfl) ?_
  refine va_get (D := D) (ci := 1) (v := .int T_size) (C := RX1) (T := TX1) (N := 5) hx hb hts inX1 hown hK hP 0 rfl rfl 3 (by decide) fl_21 (fun _ h9 => h9) rfl dX1_add_1 ?_
  refine lv_bipush (v := (6 : Int32)) hx hb dX1_add_4 (by decide) ?_
  refine lv_icmp_ge (tgt := 49) hx hb dX1_add_6 (by decide) (fun c_1 => ?_) (fun c_1 => ?_)
  · replace h := if_p c_1 h
    have hy := Option.some.inj h
    subst hy
    exact W.vret hx hb hr (fun t ht hW => ⟨⟨(), rfl, trivial, by rw [ht]; exact hP, hD⟩, hS.F ht⟩) hS.2.2 dX1_add_49
  · replace h := if_n c_1 h
    refine lv_aload_n hx hb dX1_add_9 rfl (lv_at hl 0 rfl) ?_
    refine va_get (D := D) (ci := 1) (v := .ref aT_slips) (C := RX1) (T := TX1) (N := 5) hx hb hts inX1 hown hK hP 0 rfl rfl 0 (by decide) fl_9 (fun _ h9 => h9) rfl dX1_add_10 ?_
    refine lv_aload_n hx hb dX1_add_13 rfl (lv_at hl 0 rfl) ?_
    refine va_get (D := D) (ci := 1) (v := .int T_size) (C := RX1) (T := TX1) (N := 5) hx hb hts inX1 hown hK hP 0 rfl rfl 3 (by decide) fl_21 (fun _ h9 => h9) rfl dX1_add_14 ?_
    refine lv_iload_n hx hb dX1_add_17 rfl (lv_at hl 1 rfl) ?_
    obtain ⟨hi2, h⟩ := gd_in h
    refine va_iast hx hb hK hP hD hS 1 0 rfl rfl hi2 dX1_add_18 (fun H locs hP hD hS => ?_)
    have hP : va_P D vwCl [(aT, .inr (1, [.ref aT_slips, .ref aT_lates, .ref aT_copied, .int T_size, .int T_littleOnes])), (aT_slips, .inl (cI, 6, .inl (upd T_slips T_size.toNatClampNeg p1))), (aT_lates, .inl (cI, 6, .inl T_lates)), (aT_copied, .inl (cI, 6, .inl T_copied))] H := hP
    have hD : va_D A [(aT, .inr (1, [.ref aT_slips, .ref aT_lates, .ref aT_copied, .int T_size, .int T_littleOnes])), (aT_slips, .inl (cI, 6, .inl (upd T_slips T_size.toNatClampNeg p1))), (aT_lates, .inl (cI, 6, .inl T_lates)), (aT_copied, .inl (cI, 6, .inl T_copied))] := hD
    refine lv_aload_n hx hb dX1_add_19 rfl (lv_at hl 0 rfl) ?_
    refine va_get (D := D) (ci := 1) (v := .ref aT_lates) (C := RX1) (T := TX1) (N := 5) hx hb hts inX1 hown hK hP 0 rfl rfl 1 (by decide) fl_15 (fun _ h9 => h9) rfl dX1_add_20 ?_
    refine lv_aload_n hx hb dX1_add_23 rfl (lv_at hl 0 rfl) ?_
    refine va_get (D := D) (ci := 1) (v := .int T_size) (C := RX1) (T := TX1) (N := 5) hx hb hts inX1 hown hK hP 0 rfl rfl 3 (by decide) fl_21 (fun _ h9 => h9) rfl dX1_add_24 ?_
    refine lv_iload_n hx hb dX1_add_27 rfl (lv_at hl 2 rfl) ?_
    obtain ⟨hi3, h⟩ := gd_in h
    refine va_iast hx hb hK hP hD hS 2 0 rfl rfl hi3 dX1_add_28 (fun H locs hP hD hS => ?_)
    have hP : va_P D vwCl [(aT, .inr (1, [.ref aT_slips, .ref aT_lates, .ref aT_copied, .int T_size, .int T_littleOnes])), (aT_slips, .inl (cI, 6, .inl (upd T_slips T_size.toNatClampNeg p1))), (aT_lates, .inl (cI, 6, .inl (upd T_lates T_size.toNatClampNeg p2))), (aT_copied, .inl (cI, 6, .inl T_copied))] H := hP
    have hD : va_D A [(aT, .inr (1, [.ref aT_slips, .ref aT_lates, .ref aT_copied, .int T_size, .int T_littleOnes])), (aT_slips, .inl (cI, 6, .inl (upd T_slips T_size.toNatClampNeg p1))), (aT_lates, .inl (cI, 6, .inl (upd T_lates T_size.toNatClampNeg p2))), (aT_copied, .inl (cI, 6, .inl T_copied))] := hD
    refine lv_aload_n hx hb dX1_add_29 rfl (lv_at hl 0 rfl) ?_
    refine va_get (D := D) (ci := 1) (v := .ref aT_copied) (C := RX1) (T := TX1) (N := 5) hx hb hts inX1 hown hK hP 0 rfl rfl 2 (by decide) fl_18 (fun _ h9 => h9) rfl dX1_add_30 ?_
    refine lv_aload_n hx hb dX1_add_33 rfl (lv_at hl 0 rfl) ?_
    refine va_get (D := D) (ci := 1) (v := .int T_size) (C := RX1) (T := TX1) (N := 5) hx hb hts inX1 hown hK hP 0 rfl rfl 3 (by decide) fl_21 (fun _ h9 => h9) rfl dX1_add_34 ?_
    refine lv_iload_n hx hb dX1_add_37 rfl (lv_at hl 3 rfl) ?_
    obtain ⟨hi4, h⟩ := gd_in h
    refine va_iast hx hb hK hP hD hS 3 0 rfl rfl hi4 dX1_add_38 (fun H locs hP hD hS => ?_)
    have hP : va_P D vwCl [(aT, .inr (1, [.ref aT_slips, .ref aT_lates, .ref aT_copied, .int T_size, .int T_littleOnes])), (aT_slips, .inl (cI, 6, .inl (upd T_slips T_size.toNatClampNeg p1))), (aT_lates, .inl (cI, 6, .inl (upd T_lates T_size.toNatClampNeg p2))), (aT_copied, .inl (cI, 6, .inl (upd T_copied T_size.toNatClampNeg p3)))] H := hP
    have hD : va_D A [(aT, .inr (1, [.ref aT_slips, .ref aT_lates, .ref aT_copied, .int T_size, .int T_littleOnes])), (aT_slips, .inl (cI, 6, .inl (upd T_slips T_size.toNatClampNeg p1))), (aT_lates, .inl (cI, 6, .inl (upd T_lates T_size.toNatClampNeg p2))), (aT_copied, .inl (cI, 6, .inl (upd T_copied T_size.toNatClampNeg p3)))] := hD
    refine lv_aload_n hx hb dX1_add_39 rfl (lv_at hl 0 rfl) ?_
    refine lv_dup hx hb dX1_add_40 rfl ?_
    refine va_get (D := D) (ci := 1) (v := .int T_size) (C := RX1) (T := TX1) (N := 5) hx hb hts inX1 hown hK hP 0 rfl rfl 3 (by decide) fl_21 (fun _ h9 => h9) rfl dX1_add_41 ?_
    refine lv_iconst (v := (1 : Int32)) hx hb dX1_add_44 (by decide) ?_
    refine lv_iadd hx hb dX1_add_45 ?_
    refine va_put (D := D) (ci := 1) (v := .int (T_size + (1 : Int32))) (ty := .int) (C := RX1) (T := TX1) (N := 5) hx hb hts inX1 tyX1 tyX1_ok nmX1 hown hK hP hD hS 0 rfl rfl 3 (by decide) fl_21 (fun _ h9 => h9) rfl (by decide +kernel) rfl rfl (Nat.le_of_ble_eq_true rfl) dX1_add_46 (fun H locs hP hD hS => ?_)
    have hP : va_P D vwCl [(aT, .inr (1, [.ref aT_slips, .ref aT_lates, .ref aT_copied, .int (T_size + (1 : Int32)), .int T_littleOnes])), (aT_slips, .inl (cI, 6, .inl (upd T_slips T_size.toNatClampNeg p1))), (aT_lates, .inl (cI, 6, .inl (upd T_lates T_size.toNatClampNeg p2))), (aT_copied, .inl (cI, 6, .inl (upd T_copied T_size.toNatClampNeg p3)))] H := hP
    have hD : va_D A [(aT, .inr (1, [.ref aT_slips, .ref aT_lates, .ref aT_copied, .int (T_size + (1 : Int32)), .int T_littleOnes])), (aT_slips, .inl (cI, 6, .inl (upd T_slips T_size.toNatClampNeg p1))), (aT_lates, .inl (cI, 6, .inl (upd T_lates T_size.toNatClampNeg p2))), (aT_copied, .inl (cI, 6, .inl (upd T_copied T_size.toNatClampNeg p3)))] := hD
    have hy := Option.some.inj h
    subst hy
    exact W.vret hx hb hr (fun t ht hW => ⟨⟨(), rfl, trivial, by rw [ht]; exact hP, hD⟩, hS.F ht⟩) hS.2.2 dX1_add_49

def f_X1_makeLittle (T_littleOnes : Int32) (p1 : Int32) : Option (Int32) := some (T_littleOnes ||| ((1 : Int32) <<< (p1 &&& 31)))
set_option maxHeartbeats 8000000 in
set_option maxRecDepth 100000 in
theorem c_X1_makeLittle (l : Launch) (D : va_G) (cI cJ cZ cO : ClassId) (aT : Nat) (aT_slips : Nat) (aT_lates : Nat) (aT_copied : Nat) (T_size : Int32) (T_littleOnes : Int32) (sz : Nat) (p1 : Int32) (y0 : Int32) (h : f_X1_makeLittle T_littleOnes p1 = some y0) : Met l yX1_makeLittle wsX1_makeLittle ({ frames := 0, cells := 0, slots := 0, locals := 0 } : Room) (va_Pc [.ref aT, .int p1] (fun U => U.heap.size = sz ∧ va_P D vwCl [(aT, .inr (1, [.ref aT_slips, .ref aT_lates, .ref aT_copied, .int T_size, .int T_littleOnes]))] U.heap ∧ KK D cI cJ cZ cO U ∧ va_D (fun _ => True) [(aT, .inr (1, [.ref aT_slips, .ref aT_lates, .ref aT_copied, .int T_size, .int T_littleOnes]))])) (va_Qv (fun (_ : Unit) => True) (fun (_ : Unit) t => va_P D vwCl [(aT, .inr (1, [.ref aT_slips, .ref aT_lates, .ref aT_copied, .int T_size, .int y0]))] t.heap ∧ va_D (va_A [(aT, .inr (1, [.ref aT_slips, .ref aT_lates, .ref aT_copied, .int T_size, .int T_littleOnes]))] sz) [(aT, .inr (1, [.ref aT_slips, .ref aT_lates, .ref aT_copied, .int T_size, .int y0]))]) (va_A [(aT, .inr (1, [.ref aT_slips, .ref aT_lates, .ref aT_copied, .int T_size, .int T_littleOnes]))] sz)) 0 0 (va_A [(aT, .inr (1, [.ref aT_slips, .ref aT_lates, .ref aT_copied, .int T_size, .int T_littleOnes]))] sz) := by
  refine Met.ofW (cc := cX1_makeLittle) (maxL := 2) (ret := none) (by decide) rfl ?_
  intro p e s m args below meth c s₁ B hml hv
  obtain ⟨rfl, hsz, hP, hKK, hD0⟩ := hv
  have hx := B.exec
  have hb := B.bytes
  have hr := B.returns
  have hts := atoms_spec (ws := wsX1_makeLittle) B.pre
  have hown : s.vm.findClass RX1 = some m.cls := findClass_of_methodNamed B.named
  have hlocks := B.notSynchronized
  have hK := hKK.1
  have fl_25 := hts (.fieldLink RX1 25 "SimonSays$Children" "littleOnes" "I") (by decide +kernel)
  have inX1 : ∀ w ∈ wsX10, w ∈ wsX1_makeLittle := by decide +kernel
  subst hsz
  have hD := hD0.self (sz := s.heap.size)
  generalize hAe : va_A [(aT, .inr (1, [.ref aT_slips, .ref aT_lates, .ref aT_copied, .int T_size, .int T_littleOnes]))] s.heap.size = A at hD ⊢
  have hA : ∀ q : Nat, s.heap.size ≤ q → A q := fun q h => by rw [← hAe]; exact Or.inr h
  have hS : va_S A s.heap s.heap [] := va_S.rf
  have hl := lv_entry ([.ref aT, .int p1]) (n := 2) (Nat.le_of_ble_eq_true rfl)
  rw [lg_entry_eq]
  generalize (lg_sl ([.ref aT, .int p1]) ++ List.replicate (2 - (lg_sl ([.ref aT, .int p1])).length) Slot.unset).toArray = ls at hl ⊢
  have hl : lv_has ls 2 [(0, .ref aT), (1, .int p1)] := hl
  unfold f_X1_makeLittle at h
  refine lv_aload_n hx hb dX1_makeLittle_0 rfl (lv_at hl 0 rfl) ?_
  refine lv_dup hx hb dX1_makeLittle_1 rfl ?_
  refine va_get (D := D) (ci := 1) (v := .int T_littleOnes) (C := RX1) (T := TX1) (N := 5) hx hb hts inX1 hown hK hP 0 rfl rfl 4 (by decide) fl_25 (fun _ h9 => h9) rfl dX1_makeLittle_2 ?_
  refine lv_iconst (v := (1 : Int32)) hx hb dX1_makeLittle_5 (by decide) ?_
  refine lv_iload_n hx hb dX1_makeLittle_6 rfl (lv_at hl 1 rfl) ?_
  refine lv_ishl hx hb dX1_makeLittle_7 ?_
  refine lv_ior hx hb dX1_makeLittle_8 ?_
  refine va_put (D := D) (ci := 1) (v := .int (T_littleOnes ||| ((1 : Int32) <<< (p1 &&& 31)))) (ty := .int) (C := RX1) (T := TX1) (N := 5) hx hb hts inX1 tyX1 tyX1_ok nmX1 hown hK hP hD hS 0 rfl rfl 4 (by decide) fl_25 (fun _ h9 => h9) rfl (by decide +kernel) rfl rfl (Nat.le_of_ble_eq_true rfl) dX1_makeLittle_9 (fun H locs hP hD hS => ?_)
  have hP : va_P D vwCl [(aT, .inr (1, [.ref aT_slips, .ref aT_lates, .ref aT_copied, .int T_size, .int (T_littleOnes ||| ((1 : Int32) <<< (p1 &&& 31)))]))] H := hP
  have hD : va_D A [(aT, .inr (1, [.ref aT_slips, .ref aT_lates, .ref aT_copied, .int T_size, .int (T_littleOnes ||| ((1 : Int32) <<< (p1 &&& 31)))]))] := hD
  have hy := Option.some.inj h
  subst hy
  exact W.vret hx hb hr (fun t ht hW => ⟨⟨(), rfl, trivial, by rw [ht]; exact hP, hD⟩, hS.F ht⟩) hS.2.2 dX1_makeLittle_12

def f_X1_errsOf (T_size : Int32) (T_slips : Nat → Int32) (T_lates : Nat → Int32) (p1 : Int32) (p2 : Int32) (p3 : Int32) : Option (Int32) := (if p2 = (2 : Int32) then (Option.bind (f_X1_slipOf T_size T_slips p1) (fun y1 => some (if (y1 + p3) < (10 : Int32) then (y1 + p3) else (10 : Int32)))) else (if p2 = (3 : Int32) then (Option.bind (f_X1_slipOf T_size T_slips p1) (fun y3 => some (if ((y3 + p3) + (2 : Int32)) < (10 : Int32) then ((y3 + p3) + (2 : Int32)) else (10 : Int32)))) else (if p2 = (4 : Int32) then (Option.bind (f_X1_lateOf T_size T_lates p1) (fun y5 => some (if y5 < (10 : Int32) then y5 else (10 : Int32)))) else some (0 : Int32))))
set_option maxHeartbeats 8000000 in
set_option maxRecDepth 100000 in
theorem c_X1_errsOf (l : Launch) (D : va_G) (cI cJ cZ cO : ClassId) (aT : Nat) (aT_slips : Nat) (aT_lates : Nat) (aT_copied : Nat) (T_size : Int32) (T_littleOnes : Int32) (T_slips : Nat → Int32) (T_lates : Nat → Int32)  (p1 : Int32) (p2 : Int32) (p3 : Int32) (y0 : Int32) (h : f_X1_errsOf T_size T_slips T_lates p1 p2 p3 = some y0) : Met l yX1_errsOf wsX1_errsOf ({ frames := 2, cells := 0, slots := 0, locals := 42 } : Room) (va_Pc [.ref aT, .int p1, .int p2, .int p3] (fun U => va_P D vwCl [(aT, .inr (1, [.ref aT_slips, .ref aT_lates, .ref aT_copied, .int T_size, .int T_littleOnes])), (aT_slips, .inl (cI, 6, .inl T_slips)), (aT_lates, .inl (cI, 6, .inl T_lates))] U.heap ∧ KK D cI cJ cZ cO U)) (vp_Si (fun r => r = y0)) 0 0 (fun _ => False) := by
  refine Met.ofW (cc := cX1_errsOf) (maxL := 4) (ret := (some .int)) (by decide) rfl ?_
  intro p e s m args below meth c s₁ B hml hv
  obtain ⟨rfl, hP, hKK⟩ := hv
  have hx := B.exec
  have hb := B.bytes
  have hr := B.returns
  have hts := atoms_spec (ws := wsX1_errsOf) B.pre
  have hown : s.vm.findClass RX1 = some m.cls := findClass_of_methodNamed B.named
  have hlocks := B.notSynchronized
  have hK := hKK.1
  have comin := hts (.code Lib.Math.min.name Lib.Math.min.code 2 (some .int)) (by decide +kernel)
  have inmin := hts (.initialized "java/lang/Math") (by decide +kernel)
  have mlmin53 := hts (.methodLink RX1 53 Lib.Math.min.name) (by decide +kernel)
  have stmin := hts (.static Lib.Math.min.name) (by decide +kernel)
  have hl := lv_entry ([.ref aT, .int p1, .int p2, .int p3]) (n := 4) (Nat.le_of_ble_eq_true rfl)
  rw [lg_entry_eq]
  generalize (lg_sl ([.ref aT, .int p1, .int p2, .int p3]) ++ List.replicate (4 - (lg_sl ([.ref aT, .int p1, .int p2, .int p3])).length) Slot.unset).toArray = ls at hl ⊢
  have hl : lv_has ls 4 [(0, .ref aT), (1, .int p1), (2, .int p2), (3, .int p3)] := hl
  unfold f_X1_errsOf at h
  refine lv_iload_n hx hb dX1_errsOf_0 rfl (lv_at hl 2 rfl) ?_
  by_cases s_2 : p2 = (2 : Int32)
  · replace h := if_p s_2 h
    refine lv_tableIn (off := 27) (tgt := 28) hx hb dX1_errsOf_1 (by rw [s_2]; decide) (by rw [s_2]; decide) (by rw [s_2]; decide) (by decide) ?_
    refine lv_bipush (v := (10 : Int32)) hx hb dX1_errsOf_28 (by decide) ?_
    refine lv_aload_n hx hb dX1_errsOf_30 rfl (lv_at hl 0 rfl) ?_
    refine lv_iload_n hx hb dX1_errsOf_31 rfl (lv_at hl 1 rfl) ?_
    obtain ⟨y1, qy1, h⟩ := ob_some h
    have hPc : va_P D vwCl [(aT, .inr (1, [.ref aT_slips, .ref aT_lates, .ref aT_copied, .int T_size, .int T_littleOnes])), (aT_slips, .inl (cI, 6, .inl T_slips))] s.heap := hP.sub [0, 1] rfl
    refine vp_callSi (va_Run.run (va_runV (As := [.int p1]) (rest := [.int (10 : Int32)]) ⟨hx, hb, hml, hown, hts⟩ (c_X1_slipOf l D cI cJ cZ cO aT aT_slips aT_lates aT_copied T_size T_littleOnes T_slips p1 y1 qy1) (cwV 1 hts gX1_errsOf_X1_slipOf rfl rfl rfl (by decide +kernel) ⟨Nat.le_of_ble_eq_true rfl, Nat.le_of_ble_eq_true rfl⟩) ⟨fb_p, va_recv hK hP (ci := 1) (q0 := 0) rfl rfl, fun U hU hW => ⟨rfl, by rw [hU]; exact hPc, KK.warm hW hKK⟩⟩ rfl rfl hl.1 rfl (lv_room (Nat.le_of_ble_eq_true rfl)) dX1_errsOf_32 ⟨Nat.le_of_ble_eq_true rfl, Nat.le_of_ble_eq_true rfl⟩)) (fun r hr => ?_)
    replace hr := hr.symm
    subst hr
    refine lv_iload_n hx hb dX1_errsOf_35 rfl (lv_at hl 3 rfl) ?_
    refine lv_iadd hx hb dX1_errsOf_36 ?_
    refine va_mmin hx hb (hml.trans hl.1.symm) hown mlmin53 stmin inmin comin (Nat.le_of_ble_eq_true rfl) (Nat.le_of_ble_eq_true rfl) (Nat.le_of_ble_eq_true rfl) (Nat.le_of_ble_eq_true rfl) dX1_errsOf_37 ?_
    exact pr_i hx hb hr hlocks dX1_errsOf_40 (Option.some.inj h)
  replace h := if_n s_2 h
  by_cases s_4 : p2 = (3 : Int32)
  · replace h := if_p s_4 h
    refine lv_tableIn (off := 40) (tgt := 41) hx hb dX1_errsOf_1 (by rw [s_4]; decide) (by rw [s_4]; decide) (by rw [s_4]; decide) (by decide) ?_
    refine lv_bipush (v := (10 : Int32)) hx hb dX1_errsOf_41 (by decide) ?_
    refine lv_aload_n hx hb dX1_errsOf_43 rfl (lv_at hl 0 rfl) ?_
    refine lv_iload_n hx hb dX1_errsOf_44 rfl (lv_at hl 1 rfl) ?_
    obtain ⟨y3, qy3, h⟩ := ob_some h
    have hPc : va_P D vwCl [(aT, .inr (1, [.ref aT_slips, .ref aT_lates, .ref aT_copied, .int T_size, .int T_littleOnes])), (aT_slips, .inl (cI, 6, .inl T_slips))] s.heap := hP.sub [0, 1] rfl
    refine vp_callSi (va_Run.run (va_runV (As := [.int p1]) (rest := [.int (10 : Int32)]) ⟨hx, hb, hml, hown, hts⟩ (c_X1_slipOf l D cI cJ cZ cO aT aT_slips aT_lates aT_copied T_size T_littleOnes T_slips p1 y3 qy3) (cwV 1 hts gX1_errsOf_X1_slipOf rfl rfl rfl (by decide +kernel) ⟨Nat.le_of_ble_eq_true rfl, Nat.le_of_ble_eq_true rfl⟩) ⟨fb_p, va_recv hK hP (ci := 1) (q0 := 0) rfl rfl, fun U hU hW => ⟨rfl, by rw [hU]; exact hPc, KK.warm hW hKK⟩⟩ rfl rfl hl.1 rfl (lv_room (Nat.le_of_ble_eq_true rfl)) dX1_errsOf_45 ⟨Nat.le_of_ble_eq_true rfl, Nat.le_of_ble_eq_true rfl⟩)) (fun r hr => ?_)
    replace hr := hr.symm
    subst hr
    refine lv_iload_n hx hb dX1_errsOf_48 rfl (lv_at hl 3 rfl) ?_
    refine lv_iadd hx hb dX1_errsOf_49 ?_
    refine lv_iconst (v := (2 : Int32)) hx hb dX1_errsOf_50 (by decide) ?_
    refine lv_iadd hx hb dX1_errsOf_51 ?_
    refine va_mmin hx hb (hml.trans hl.1.symm) hown mlmin53 stmin inmin comin (Nat.le_of_ble_eq_true rfl) (Nat.le_of_ble_eq_true rfl) (Nat.le_of_ble_eq_true rfl) (Nat.le_of_ble_eq_true rfl) dX1_errsOf_52 ?_
    exact pr_i hx hb hr hlocks dX1_errsOf_55 (Option.some.inj h)
  replace h := if_n s_4 h
  by_cases s_6 : p2 = (4 : Int32)
  · replace h := if_p s_6 h
    refine lv_tableIn (off := 55) (tgt := 56) hx hb dX1_errsOf_1 (by rw [s_6]; decide) (by rw [s_6]; decide) (by rw [s_6]; decide) (by decide) ?_
    refine lv_bipush (v := (10 : Int32)) hx hb dX1_errsOf_56 (by decide) ?_
    refine lv_aload_n hx hb dX1_errsOf_58 rfl (lv_at hl 0 rfl) ?_
    refine lv_iload_n hx hb dX1_errsOf_59 rfl (lv_at hl 1 rfl) ?_
    obtain ⟨y5, qy5, h⟩ := ob_some h
    have hPc : va_P D vwCl [(aT, .inr (1, [.ref aT_slips, .ref aT_lates, .ref aT_copied, .int T_size, .int T_littleOnes])), (aT_lates, .inl (cI, 6, .inl T_lates))] s.heap := hP.sub [0, 2] rfl
    refine vp_callSi (va_Run.run (va_runV (As := [.int p1]) (rest := [.int (10 : Int32)]) ⟨hx, hb, hml, hown, hts⟩ (c_X1_lateOf l D cI cJ cZ cO aT aT_lates aT_slips aT_copied T_size T_littleOnes T_lates p1 y5 qy5) (cwV 1 hts gX1_errsOf_X1_lateOf rfl rfl rfl (by decide +kernel) ⟨Nat.le_of_ble_eq_true rfl, Nat.le_of_ble_eq_true rfl⟩) ⟨fb_p, va_recv hK hP (ci := 1) (q0 := 0) rfl rfl, fun U hU hW => ⟨rfl, by rw [hU]; exact hPc, KK.warm hW hKK⟩⟩ rfl rfl hl.1 rfl (lv_room (Nat.le_of_ble_eq_true rfl)) dX1_errsOf_60 ⟨Nat.le_of_ble_eq_true rfl, Nat.le_of_ble_eq_true rfl⟩)) (fun r hr => ?_)
    replace hr := hr.symm
    subst hr
    refine va_mmin hx hb (hml.trans hl.1.symm) hown mlmin53 stmin inmin comin (Nat.le_of_ble_eq_true rfl) (Nat.le_of_ble_eq_true rfl) (Nat.le_of_ble_eq_true rfl) (Nat.le_of_ble_eq_true rfl) dX1_errsOf_63 ?_
    exact pr_i hx hb hr hlocks dX1_errsOf_66 (Option.some.inj h)
  replace h := if_n s_6 h
  refine lv_tableOut (tgt := 67) hx hb dX1_errsOf_1 (by have e2 := i32_nek (2) (2 : Int32) (by decide) s_2; have e3 := i32_nek (3) (3 : Int32) (by decide) s_4; have e4 := i32_nek (4) (4 : Int32) (by decide) s_6; omega) (by decide) ?_
  refine lv_iconst (v := (0 : Int32)) hx hb dX1_errsOf_67 (by decide) ?_
  exact pr_i hx hb hr hlocks dX1_errsOf_68 (Option.some.inj h)

def f_X1_takeOver_L6 (F_size : Int32) (F_littleOnes : Int32) (F_slips : Nat → Int32) (F_lates : Nat → Int32) (F_copied : Nat → Int32) : Nat → Int32 → Int32 → (Nat → Int32) → (Nat → Int32) → (Nat → Int32) → Int32 → Option (Int32 × Int32 × (Nat → Int32) × (Nat → Int32) × (Nat → Int32))
  | 0, _, _, _, _, _, _ => none
  | n + 1, T_size, T_littleOnes, T_slips, T_lates, T_copied, x2 => (if F_size ≤ x2 then some (T_size, F_littleOnes, T_slips, T_lates, T_copied) else (Option.bind (f_X1_slipOf F_size F_slips x2) (fun y3 => (Option.bind (f_X1_lateOf F_size F_lates x2) (fun y4 => (Option.bind (f_X1_copiedBy F_size F_copied x2) (fun y5 => (Option.bind (f_X1_add T_size T_slips T_lates T_copied y3 y4 y5) (fun y6 => f_X1_takeOver_L6 F_size F_littleOnes F_slips F_lates F_copied n y6.1 T_littleOnes y6.2.1 y6.2.2.1 y6.2.2.2 (x2 + (1 : Int32)))))))))))
def f_X1_takeOver (F_size : Int32) (F_littleOnes : Int32) (F_slips : Nat → Int32) (F_lates : Nat → Int32) (F_copied : Nat → Int32) (T_size : Int32) (T_littleOnes : Int32) (T_slips : Nat → Int32) (T_lates : Nat → Int32) (T_copied : Nat → Int32) : Option (Int32 × Int32 × (Nat → Int32) × (Nat → Int32) × (Nat → Int32)) := (Option.bind (f_X1_forget T_size T_littleOnes) (fun y1 => f_X1_takeOver_L6 F_size F_littleOnes F_slips F_lates F_copied 300 y1.1 y1.2 T_slips T_lates T_copied (0 : Int32)))
set_option maxHeartbeats 8000000 in
set_option maxRecDepth 100000 in
theorem c_X1_takeOver (l : Launch) (D : va_G) (cI cJ cZ cO : ClassId) (aF : Nat) (aF_slips : Nat) (aF_lates : Nat) (aF_copied : Nat) (aT : Nat) (aT_slips : Nat) (aT_lates : Nat) (aT_copied : Nat) (F_size : Int32) (F_littleOnes : Int32) (F_slips : Nat → Int32) (F_lates : Nat → Int32) (F_copied : Nat → Int32) (T_size : Int32) (T_littleOnes : Int32) (T_slips : Nat → Int32) (T_lates : Nat → Int32) (T_copied : Nat → Int32) (sz : Nat)  (y0 : Int32 × Int32 × (Nat → Int32) × (Nat → Int32) × (Nat → Int32)) (h : f_X1_takeOver F_size F_littleOnes F_slips F_lates F_copied T_size T_littleOnes T_slips T_lates T_copied = some y0) : Met l yX1_takeOver wsX1_takeOver ({ frames := 2, cells := 0, slots := 0, locals := 42 } : Room) (va_Pc [.ref aT, .ref aF] (fun U => U.heap.size = sz ∧ va_P D vwCl [(aF, .inr (1, [.ref aF_slips, .ref aF_lates, .ref aF_copied, .int F_size, .int F_littleOnes])), (aF_slips, .inl (cI, 6, .inl F_slips)), (aF_lates, .inl (cI, 6, .inl F_lates)), (aF_copied, .inl (cI, 6, .inl F_copied)), (aT, .inr (1, [.ref aT_slips, .ref aT_lates, .ref aT_copied, .int T_size, .int T_littleOnes])), (aT_slips, .inl (cI, 6, .inl T_slips)), (aT_lates, .inl (cI, 6, .inl T_lates)), (aT_copied, .inl (cI, 6, .inl T_copied))] U.heap ∧ KK D cI cJ cZ cO U ∧ va_D (fun _ => True) [(aF, .inr (1, [.ref aF_slips, .ref aF_lates, .ref aF_copied, .int F_size, .int F_littleOnes])), (aF_slips, .inl (cI, 6, .inl F_slips)), (aF_lates, .inl (cI, 6, .inl F_lates)), (aF_copied, .inl (cI, 6, .inl F_copied)), (aT, .inr (1, [.ref aT_slips, .ref aT_lates, .ref aT_copied, .int T_size, .int T_littleOnes])), (aT_slips, .inl (cI, 6, .inl T_slips)), (aT_lates, .inl (cI, 6, .inl T_lates)), (aT_copied, .inl (cI, 6, .inl T_copied))])) (va_Qv (fun (_ : Unit) => True) (fun (_ : Unit) t => va_P D vwCl [(aF, .inr (1, [.ref aF_slips, .ref aF_lates, .ref aF_copied, .int F_size, .int F_littleOnes])), (aF_slips, .inl (cI, 6, .inl F_slips)), (aF_lates, .inl (cI, 6, .inl F_lates)), (aF_copied, .inl (cI, 6, .inl F_copied)), (aT, .inr (1, [.ref aT_slips, .ref aT_lates, .ref aT_copied, .int y0.1, .int y0.2.1])), (aT_slips, .inl (cI, 6, .inl y0.2.2.1)), (aT_lates, .inl (cI, 6, .inl y0.2.2.2.1)), (aT_copied, .inl (cI, 6, .inl y0.2.2.2.2))] t.heap ∧ va_D (va_A [(aF, .inr (1, [.ref aF_slips, .ref aF_lates, .ref aF_copied, .int F_size, .int F_littleOnes])), (aF_slips, .inl (cI, 6, .inl F_slips)), (aF_lates, .inl (cI, 6, .inl F_lates)), (aF_copied, .inl (cI, 6, .inl F_copied)), (aT, .inr (1, [.ref aT_slips, .ref aT_lates, .ref aT_copied, .int T_size, .int T_littleOnes])), (aT_slips, .inl (cI, 6, .inl T_slips)), (aT_lates, .inl (cI, 6, .inl T_lates)), (aT_copied, .inl (cI, 6, .inl T_copied))] sz) [(aF, .inr (1, [.ref aF_slips, .ref aF_lates, .ref aF_copied, .int F_size, .int F_littleOnes])), (aF_slips, .inl (cI, 6, .inl F_slips)), (aF_lates, .inl (cI, 6, .inl F_lates)), (aF_copied, .inl (cI, 6, .inl F_copied)), (aT, .inr (1, [.ref aT_slips, .ref aT_lates, .ref aT_copied, .int y0.1, .int y0.2.1])), (aT_slips, .inl (cI, 6, .inl y0.2.2.1)), (aT_lates, .inl (cI, 6, .inl y0.2.2.2.1)), (aT_copied, .inl (cI, 6, .inl y0.2.2.2.2))]) (va_A [(aF, .inr (1, [.ref aF_slips, .ref aF_lates, .ref aF_copied, .int F_size, .int F_littleOnes])), (aF_slips, .inl (cI, 6, .inl F_slips)), (aF_lates, .inl (cI, 6, .inl F_lates)), (aF_copied, .inl (cI, 6, .inl F_copied)), (aT, .inr (1, [.ref aT_slips, .ref aT_lates, .ref aT_copied, .int T_size, .int T_littleOnes])), (aT_slips, .inl (cI, 6, .inl T_slips)), (aT_lates, .inl (cI, 6, .inl T_lates)), (aT_copied, .inl (cI, 6, .inl T_copied))] sz)) 0 0 (va_A [(aF, .inr (1, [.ref aF_slips, .ref aF_lates, .ref aF_copied, .int F_size, .int F_littleOnes])), (aF_slips, .inl (cI, 6, .inl F_slips)), (aF_lates, .inl (cI, 6, .inl F_lates)), (aF_copied, .inl (cI, 6, .inl F_copied)), (aT, .inr (1, [.ref aT_slips, .ref aT_lates, .ref aT_copied, .int T_size, .int T_littleOnes])), (aT_slips, .inl (cI, 6, .inl T_slips)), (aT_lates, .inl (cI, 6, .inl T_lates)), (aT_copied, .inl (cI, 6, .inl T_copied))] sz) := by
  refine Met.ofW (cc := cX1_takeOver) (maxL := 3) (ret := none) (by decide) rfl ?_
  intro p e s m args below meth c s₁ B hml hv
  obtain ⟨rfl, hsz, hP, hKK, hD0⟩ := hv
  have hx := B.exec
  have hb := B.bytes
  have hr := B.returns
  have hts := atoms_spec (ws := wsX1_takeOver) B.pre
  have hown : s.vm.findClass RX1 = some m.cls := findClass_of_methodNamed B.named
  have hlocks := B.notSynchronized
  have hK := hKK.1
  have fl_21 := hts (.fieldLink RX1 21 "SimonSays$Children" "size" "I") (by decide +kernel)
  have fl_25 := hts (.fieldLink RX1 25 "SimonSays$Children" "littleOnes" "I") (by decide +kernel)
  have inX1 : ∀ w ∈ wsX10, w ∈ wsX1_takeOver := by decide +kernel
  subst hsz
  have hD := hD0.self (sz := s.heap.size)
  generalize hAe : va_A [(aF, .inr (1, [.ref aF_slips, .ref aF_lates, .ref aF_copied, .int F_size, .int F_littleOnes])), (aF_slips, .inl (cI, 6, .inl F_slips)), (aF_lates, .inl (cI, 6, .inl F_lates)), (aF_copied, .inl (cI, 6, .inl F_copied)), (aT, .inr (1, [.ref aT_slips, .ref aT_lates, .ref aT_copied, .int T_size, .int T_littleOnes])), (aT_slips, .inl (cI, 6, .inl T_slips)), (aT_lates, .inl (cI, 6, .inl T_lates)), (aT_copied, .inl (cI, 6, .inl T_copied))] s.heap.size = A at hD ⊢
  have hA : ∀ q : Nat, s.heap.size ≤ q → A q := fun q h => by rw [← hAe]; exact Or.inr h
  have hS : va_S A s.heap s.heap [] := va_S.rf
  have hl := lv_entry ([.ref aT, .ref aF]) (n := 3) (Nat.le_of_ble_eq_true rfl)
  rw [lg_entry_eq]
  generalize (lg_sl ([.ref aT, .ref aF]) ++ List.replicate (3 - (lg_sl ([.ref aT, .ref aF])).length) Slot.unset).toArray = ls at hl ⊢
  have hl : lv_has ls 3 [(0, .ref aT), (1, .ref aF)] := hl
  have L6 : ∀ (n : Nat), ∀ (T_size : Int32) (T_littleOnes : Int32) (T_slips : Nat → Int32) (T_lates : Nat → Int32) (T_copied : Nat → Int32) (x2 : Int32), ∀ (H : Heap) (locs : List Loc), va_P D vwCl [(aF, .inr (1, [.ref aF_slips, .ref aF_lates, .ref aF_copied, .int F_size, .int F_littleOnes])), (aF_slips, .inl (cI, 6, .inl F_slips)), (aF_lates, .inl (cI, 6, .inl F_lates)), (aF_copied, .inl (cI, 6, .inl F_copied)), (aT, .inr (1, [.ref aT_slips, .ref aT_lates, .ref aT_copied, .int T_size, .int T_littleOnes])), (aT_slips, .inl (cI, 6, .inl T_slips)), (aT_lates, .inl (cI, 6, .inl T_lates)), (aT_copied, .inl (cI, 6, .inl T_copied))] H → va_D A [(aF, .inr (1, [.ref aF_slips, .ref aF_lates, .ref aF_copied, .int F_size, .int F_littleOnes])), (aF_slips, .inl (cI, 6, .inl F_slips)), (aF_lates, .inl (cI, 6, .inl F_lates)), (aF_copied, .inl (cI, 6, .inl F_copied)), (aT, .inr (1, [.ref aT_slips, .ref aT_lates, .ref aT_copied, .int T_size, .int T_littleOnes])), (aT_slips, .inl (cI, 6, .inl T_slips)), (aT_lates, .inl (cI, 6, .inl T_lates)), (aT_copied, .inl (cI, 6, .inl T_copied))] → va_S A s.heap H locs → ∀ (ls : Array Slot), lv_has ls 3 [(0, .ref aT), (1, .ref aF), (2, .int x2)] → f_X1_takeOver_L6 F_size F_littleOnes F_slips F_lates F_copied n T_size T_littleOnes T_slips T_lates T_copied x2 = some y0 → W p l e (headSpec wsX1_takeOver ({ frames := 2, cells := 0, slots := 0, locals := 42 } : Room)).room s m ([.ref aT, .ref aF] : List Value).toArray below meth c H locs 0 0 (MQ below (va_Qv (fun (_ : Unit) => True) (fun (_ : Unit) t => va_P D vwCl [(aF, .inr (1, [.ref aF_slips, .ref aF_lates, .ref aF_copied, .int F_size, .int F_littleOnes])), (aF_slips, .inl (cI, 6, .inl F_slips)), (aF_lates, .inl (cI, 6, .inl F_lates)), (aF_copied, .inl (cI, 6, .inl F_copied)), (aT, .inr (1, [.ref aT_slips, .ref aT_lates, .ref aT_copied, .int y0.1, .int y0.2.1])), (aT_slips, .inl (cI, 6, .inl y0.2.2.1)), (aT_lates, .inl (cI, 6, .inl y0.2.2.2.1)), (aT_copied, .inl (cI, 6, .inl y0.2.2.2.2))] t.heap ∧ va_D A [(aF, .inr (1, [.ref aF_slips, .ref aF_lates, .ref aF_copied, .int F_size, .int F_littleOnes])), (aF_slips, .inl (cI, 6, .inl F_slips)), (aF_lates, .inl (cI, 6, .inl F_lates)), (aF_copied, .inl (cI, 6, .inl F_copied)), (aT, .inr (1, [.ref aT_slips, .ref aT_lates, .ref aT_copied, .int y0.1, .int y0.2.1])), (aT_slips, .inl (cI, 6, .inl y0.2.2.1)), (aT_lates, .inl (cI, 6, .inl y0.2.2.2.1)), (aT_copied, .inl (cI, 6, .inl y0.2.2.2.2))]) A) ([.ref aT, .ref aF] : List Value).toArray s 0 0 A) (F0 m 6 ls []) := by
    intro n
    induction n with
    | zero =>
      intro T_size T_littleOnes T_slips T_lates T_copied x2 H locs hP hD hS ls hl h
      exact (ns h).elim
    | succ n ih =>
      intro T_size T_littleOnes T_slips T_lates T_copied x2 H locs hP hD hS ls hl h
      unfold f_X1_takeOver_L6 at h
      refine lv_iload_n hx hb dX1_takeOver_6 rfl (lv_at hl 2 rfl) ?_
      refine lv_aload_n hx hb dX1_takeOver_7 rfl (lv_at hl 1 rfl) ?_
      refine va_get (D := D) (ci := 1) (v := .int F_size) (C := RX1) (T := TX1) (N := 5) hx hb hts inX1 hown hK hP 0 rfl rfl 3 (by decide) fl_21 (fun _ h9 => h9) rfl dX1_takeOver_8 ?_
      refine lv_icmp_ge (tgt := 39) hx hb dX1_takeOver_11 (by decide) (fun c_2 => ?_) (fun c_2 => ?_)
      · replace h := if_p c_2 h
        refine lv_aload_n hx hb dX1_takeOver_39 rfl (lv_at hl 0 rfl) ?_
        refine lv_aload_n hx hb dX1_takeOver_40 rfl (lv_at hl 1 rfl) ?_
        refine va_get (D := D) (ci := 1) (v := .int F_littleOnes) (C := RX1) (T := TX1) (N := 5) hx hb hts inX1 hown hK hP 0 rfl rfl 4 (by decide) fl_25 (fun _ h9 => h9) rfl dX1_takeOver_41 ?_
        refine va_put (D := D) (ci := 1) (v := .int F_littleOnes) (ty := .int) (C := RX1) (T := TX1) (N := 5) hx hb hts inX1 tyX1 tyX1_ok nmX1 hown hK hP hD hS 4 rfl rfl 4 (by decide) fl_25 (fun _ h9 => h9) rfl (by decide +kernel) rfl rfl (Nat.le_of_ble_eq_true rfl) dX1_takeOver_44 (fun H locs hP hD hS => ?_)
        have hP : va_P D vwCl [(aF, .inr (1, [.ref aF_slips, .ref aF_lates, .ref aF_copied, .int F_size, .int F_littleOnes])), (aF_slips, .inl (cI, 6, .inl F_slips)), (aF_lates, .inl (cI, 6, .inl F_lates)), (aF_copied, .inl (cI, 6, .inl F_copied)), (aT, .inr (1, [.ref aT_slips, .ref aT_lates, .ref aT_copied, .int T_size, .int F_littleOnes])), (aT_slips, .inl (cI, 6, .inl T_slips)), (aT_lates, .inl (cI, 6, .inl T_lates)), (aT_copied, .inl (cI, 6, .inl T_copied))] H := hP
        have hD : va_D A [(aF, .inr (1, [.ref aF_slips, .ref aF_lates, .ref aF_copied, .int F_size, .int F_littleOnes])), (aF_slips, .inl (cI, 6, .inl F_slips)), (aF_lates, .inl (cI, 6, .inl F_lates)), (aF_copied, .inl (cI, 6, .inl F_copied)), (aT, .inr (1, [.ref aT_slips, .ref aT_lates, .ref aT_copied, .int T_size, .int F_littleOnes])), (aT_slips, .inl (cI, 6, .inl T_slips)), (aT_lates, .inl (cI, 6, .inl T_lates)), (aT_copied, .inl (cI, 6, .inl T_copied))] := hD
        have hy := Option.some.inj h
        subst hy
        exact W.vret hx hb hr (fun t ht hW => ⟨⟨(), rfl, trivial, by rw [ht]; exact hP, hD⟩, hS.F ht⟩) hS.2.2 dX1_takeOver_47
      · replace h := if_n c_2 h
        refine lv_aload_n hx hb dX1_takeOver_14 rfl (lv_at hl 0 rfl) ?_
        refine lv_aload_n hx hb dX1_takeOver_15 rfl (lv_at hl 1 rfl) ?_
        refine lv_iload_n hx hb dX1_takeOver_16 rfl (lv_at hl 2 rfl) ?_
        obtain ⟨y3, qy3, h⟩ := ob_some h
        have hPc : va_P D vwCl [(aF, .inr (1, [.ref aF_slips, .ref aF_lates, .ref aF_copied, .int F_size, .int F_littleOnes])), (aF_slips, .inl (cI, 6, .inl F_slips))] H := hP.sub [0, 1] rfl
        refine vp_callSi (va_Run.run (va_runV (As := [.int x2]) (rest := [.ref aT]) ⟨hx, hb, hml, hown, hts⟩ (c_X1_slipOf l D cI cJ cZ cO aF aF_slips aF_lates aF_copied F_size F_littleOnes F_slips x2 y3 qy3) (cwV 1 hts gX1_takeOver_X1_slipOf rfl rfl rfl (by decide +kernel) ⟨Nat.le_of_ble_eq_true rfl, Nat.le_of_ble_eq_true rfl⟩) ⟨fb_p, va_recv hK hP (ci := 1) (q0 := 0) rfl rfl, fun U hU hW => ⟨rfl, by rw [hU]; exact hPc, KK.warm hW hKK⟩⟩ rfl rfl hl.1 rfl (lv_room (Nat.le_of_ble_eq_true rfl)) dX1_takeOver_17 ⟨Nat.le_of_ble_eq_true rfl, Nat.le_of_ble_eq_true rfl⟩)) (fun r hr => ?_)
        replace hr := hr.symm
        subst hr
        refine lv_aload_n hx hb dX1_takeOver_20 rfl (lv_at hl 1 rfl) ?_
        refine lv_iload_n hx hb dX1_takeOver_21 rfl (lv_at hl 2 rfl) ?_
        obtain ⟨y4, qy4, h⟩ := ob_some h
        have hPc : va_P D vwCl [(aF, .inr (1, [.ref aF_slips, .ref aF_lates, .ref aF_copied, .int F_size, .int F_littleOnes])), (aF_lates, .inl (cI, 6, .inl F_lates))] H := hP.sub [0, 2] rfl
        refine vp_callSi (va_Run.run (va_runV (As := [.int x2]) (rest := [.int y3, .ref aT]) ⟨hx, hb, hml, hown, hts⟩ (c_X1_lateOf l D cI cJ cZ cO aF aF_lates aF_slips aF_copied F_size F_littleOnes F_lates x2 y4 qy4) (cwV 1 hts gX1_takeOver_X1_lateOf rfl rfl rfl (by decide +kernel) ⟨Nat.le_of_ble_eq_true rfl, Nat.le_of_ble_eq_true rfl⟩) ⟨fb_p, va_recv hK hP (ci := 1) (q0 := 0) rfl rfl, fun U hU hW => ⟨rfl, by rw [hU]; exact hPc, KK.warm hW hKK⟩⟩ rfl rfl hl.1 rfl (lv_room (Nat.le_of_ble_eq_true rfl)) dX1_takeOver_22 ⟨Nat.le_of_ble_eq_true rfl, Nat.le_of_ble_eq_true rfl⟩)) (fun r hr => ?_)
        replace hr := hr.symm
        subst hr
        refine lv_aload_n hx hb dX1_takeOver_25 rfl (lv_at hl 1 rfl) ?_
        refine lv_iload_n hx hb dX1_takeOver_26 rfl (lv_at hl 2 rfl) ?_
        obtain ⟨y5, qy5, h⟩ := ob_some h
        have hPc : va_P D vwCl [(aF, .inr (1, [.ref aF_slips, .ref aF_lates, .ref aF_copied, .int F_size, .int F_littleOnes])), (aF_copied, .inl (cI, 6, .inl F_copied))] H := hP.sub [0, 3] rfl
        refine vp_callSi (va_Run.run (va_runV (As := [.int x2]) (rest := [.int y4, .int y3, .ref aT]) ⟨hx, hb, hml, hown, hts⟩ (c_X1_copiedBy l D cI cJ cZ cO aF aF_copied aF_slips aF_lates F_size F_littleOnes F_copied x2 y5 qy5) (cwV 1 hts gX1_takeOver_X1_copiedBy rfl rfl rfl (by decide +kernel) ⟨Nat.le_of_ble_eq_true rfl, Nat.le_of_ble_eq_true rfl⟩) ⟨fb_p, va_recv hK hP (ci := 1) (q0 := 0) rfl rfl, fun U hU hW => ⟨rfl, by rw [hU]; exact hPc, KK.warm hW hKK⟩⟩ rfl rfl hl.1 rfl (lv_room (Nat.le_of_ble_eq_true rfl)) dX1_takeOver_27 ⟨Nat.le_of_ble_eq_true rfl, Nat.le_of_ble_eq_true rfl⟩)) (fun r hr => ?_)
        replace hr := hr.symm
        subst hr
        obtain ⟨y6, qy6, h⟩ := ob_some h
        have hPc : va_P D vwCl [(aT, .inr (1, [.ref aT_slips, .ref aT_lates, .ref aT_copied, .int T_size, .int T_littleOnes])), (aT_slips, .inl (cI, 6, .inl T_slips)), (aT_lates, .inl (cI, 6, .inl T_lates)), (aT_copied, .inl (cI, 6, .inl T_copied))] H := hP.sub [4, 5, 6, 7] rfl
        have hDc : va_D A [(aT, .inr (1, [.ref aT_slips, .ref aT_lates, .ref aT_copied, .int T_size, .int T_littleOnes])), (aT_slips, .inl (cI, 6, .inl T_slips)), (aT_lates, .inl (cI, 6, .inl T_lates)), (aT_copied, .inl (cI, 6, .inl T_copied))] := hD.sub [4, 5, 6, 7] (by decide) rfl
        have hFc := va_free (wc := [(aT, .inr (1, [.ref aT_slips, .ref aT_lates, .ref aT_copied, .int T_size, .int T_littleOnes])), (aT_slips, .inl (cI, 6, .inl T_slips)), (aT_lates, .inl (cI, 6, .inl T_lates)), (aT_copied, .inl (cI, 6, .inl T_copied))]) hD hS hA [4, 5, 6, 7] rfl
        refine va_callv (va_runV (As := [.int y3, .int y4, .int y5]) (rest := []) ⟨hx, hb, hml, hown, hts⟩ (c_X1_add l D cI cJ cZ cO aT aT_slips aT_lates aT_copied T_size T_littleOnes T_slips T_lates T_copied H.size y3 y4 y5 y6 qy6) (cwV 3 hts gX1_takeOver_X1_add rfl rfl rfl (by decide +kernel) ⟨Nat.le_of_ble_eq_true rfl, Nat.le_of_ble_eq_true rfl⟩) ⟨fb_i, va_recv hK hP (ci := 1) (q0 := 4) rfl rfl, fun U hU hW => ⟨rfl, by rw [hU], by rw [hU]; exact hPc, KK.warm hW hKK, hDc.weaken (fun _ _ _ _ => trivial)⟩⟩ rfl rfl hl.1 rfl (lv_room (Nat.le_of_ble_eq_true rfl)) dX1_takeOver_30 ⟨Nat.le_of_ble_eq_true rfl, Nat.le_of_ble_eq_true rfl⟩) hS (fun q _ h => hFc q h) hFc (fun u t H1 locs ht hvm hw hB hz1 hk1 hS => ?_)
        obtain ⟨hP1, hD1⟩ := hB
        rw [ht] at hP1
        obtain ⟨hP, hD⟩ := va_join (wr := [(aF, .inr (1, [.ref aF_slips, .ref aF_lates, .ref aF_copied, .int F_size, .int F_littleOnes])), (aF_slips, .inl (cI, 6, .inl F_slips)), (aF_lates, .inl (cI, 6, .inl F_lates)), (aF_copied, .inl (cI, 6, .inl F_copied))]) (w1 := [(aT, .inr (1, [.ref aT_slips, .ref aT_lates, .ref aT_copied, .int y6.1, .int T_littleOnes])), (aT_slips, .inl (cI, 6, .inl y6.2.1)), (aT_lates, .inl (cI, 6, .inl y6.2.2.1)), (aT_copied, .inl (cI, 6, .inl y6.2.2.2))]) hP hD [4, 5, 6, 7] [0, 1, 2, 3] rfl rfl (by decide) (by decide) hk1 hFc hP1 hD1
        generalize H1 = H at hP hS ⊢
        have hP : va_P D vwCl [(aF, .inr (1, [.ref aF_slips, .ref aF_lates, .ref aF_copied, .int F_size, .int F_littleOnes])), (aF_slips, .inl (cI, 6, .inl F_slips)), (aF_lates, .inl (cI, 6, .inl F_lates)), (aF_copied, .inl (cI, 6, .inl F_copied)), (aT, .inr (1, [.ref aT_slips, .ref aT_lates, .ref aT_copied, .int y6.1, .int T_littleOnes])), (aT_slips, .inl (cI, 6, .inl y6.2.1)), (aT_lates, .inl (cI, 6, .inl y6.2.2.1)), (aT_copied, .inl (cI, 6, .inl y6.2.2.2))] H := hP.sub [0, 1, 2, 3, 4, 5, 6, 7] rfl
        have hD : va_D A [(aF, .inr (1, [.ref aF_slips, .ref aF_lates, .ref aF_copied, .int F_size, .int F_littleOnes])), (aF_slips, .inl (cI, 6, .inl F_slips)), (aF_lates, .inl (cI, 6, .inl F_lates)), (aF_copied, .inl (cI, 6, .inl F_copied)), (aT, .inr (1, [.ref aT_slips, .ref aT_lates, .ref aT_copied, .int y6.1, .int T_littleOnes])), (aT_slips, .inl (cI, 6, .inl y6.2.1)), (aT_lates, .inl (cI, 6, .inl y6.2.2.1)), (aT_copied, .inl (cI, 6, .inl y6.2.2.2))] := hD.sub [0, 1, 2, 3, 4, 5, 6, 7] (by decide) rfl
        refine lv_iinc (v := (x2 + (1 : Int32))) (lv' := [(2, .int (x2 + (1 : Int32))), (0, .ref aT), (1, .ref aF)]) hx hb dX1_takeOver_33 hl (k := 2) rfl rfl (by decide) rfl (fun ls hl => ?_)
        refine lv_goto (tgt := 6) hx hb dX1_takeOver_36 (by decide) ?_
        exact ih y6.1 T_littleOnes y6.2.1 y6.2.2.1 y6.2.2.2 (x2 + (1 : Int32)) _ _ hP hD hS ls (lv_sub hl [1, 2, 0] rfl) h
  unfold f_X1_takeOver at h
  refine lv_aload_n hx hb dX1_takeOver_0 rfl (lv_at hl 0 rfl) ?_
  obtain ⟨y1, qy1, h⟩ := ob_some h
  have hPc : va_P D vwCl [(aT, .inr (1, [.ref aT_slips, .ref aT_lates, .ref aT_copied, .int T_size, .int T_littleOnes]))] s.heap := hP.sub [4] rfl
  have hDc : va_D A [(aT, .inr (1, [.ref aT_slips, .ref aT_lates, .ref aT_copied, .int T_size, .int T_littleOnes]))] := hD.sub [4] (by decide) rfl
  have hFc := va_free (wc := [(aT, .inr (1, [.ref aT_slips, .ref aT_lates, .ref aT_copied, .int T_size, .int T_littleOnes]))]) hD hS hA [4] rfl
  refine va_callv (va_runV (As := []) (rest := []) ⟨hx, hb, hml, hown, hts⟩ (c_X1_forget l D cI cJ cZ cO aT aT_slips aT_lates aT_copied T_size T_littleOnes s.heap.size y1 qy1) (cwV 0 hts gX1_takeOver_X1_forget rfl rfl rfl (by decide +kernel) ⟨Nat.le_of_ble_eq_true rfl, Nat.le_of_ble_eq_true rfl⟩) ⟨fb_i, va_recv hK hP (ci := 1) (q0 := 4) rfl rfl, fun U hU hW => ⟨rfl, by rw [hU], by rw [hU]; exact hPc, KK.warm hW hKK, hDc.weaken (fun _ _ _ _ => trivial)⟩⟩ rfl rfl hl.1 rfl (lv_room (Nat.le_of_ble_eq_true rfl)) dX1_takeOver_1 ⟨Nat.le_of_ble_eq_true rfl, Nat.le_of_ble_eq_true rfl⟩) hS (fun q _ h => hFc q h) hFc (fun u t H1 locs ht hvm hw hB hz1 hk1 hS => ?_)
  obtain ⟨hP1, hD1⟩ := hB
  rw [ht] at hP1
  obtain ⟨hP, hD⟩ := va_join (wr := [(aF, .inr (1, [.ref aF_slips, .ref aF_lates, .ref aF_copied, .int F_size, .int F_littleOnes])), (aF_slips, .inl (cI, 6, .inl F_slips)), (aF_lates, .inl (cI, 6, .inl F_lates)), (aF_copied, .inl (cI, 6, .inl F_copied)), (aT_slips, .inl (cI, 6, .inl T_slips)), (aT_lates, .inl (cI, 6, .inl T_lates)), (aT_copied, .inl (cI, 6, .inl T_copied))]) (w1 := [(aT, .inr (1, [.ref aT_slips, .ref aT_lates, .ref aT_copied, .int y1.1, .int y1.2]))]) hP hD [4] [0, 1, 2, 3, 5, 6, 7] rfl rfl (by decide) (by decide) hk1 hFc hP1 hD1
  generalize H1 = H at hP hS ⊢
  have hP : va_P D vwCl [(aF, .inr (1, [.ref aF_slips, .ref aF_lates, .ref aF_copied, .int F_size, .int F_littleOnes])), (aF_slips, .inl (cI, 6, .inl F_slips)), (aF_lates, .inl (cI, 6, .inl F_lates)), (aF_copied, .inl (cI, 6, .inl F_copied)), (aT, .inr (1, [.ref aT_slips, .ref aT_lates, .ref aT_copied, .int y1.1, .int y1.2])), (aT_slips, .inl (cI, 6, .inl T_slips)), (aT_lates, .inl (cI, 6, .inl T_lates)), (aT_copied, .inl (cI, 6, .inl T_copied))] H := hP.sub [0, 1, 2, 3, 7, 4, 5, 6] rfl
  have hD : va_D A [(aF, .inr (1, [.ref aF_slips, .ref aF_lates, .ref aF_copied, .int F_size, .int F_littleOnes])), (aF_slips, .inl (cI, 6, .inl F_slips)), (aF_lates, .inl (cI, 6, .inl F_lates)), (aF_copied, .inl (cI, 6, .inl F_copied)), (aT, .inr (1, [.ref aT_slips, .ref aT_lates, .ref aT_copied, .int y1.1, .int y1.2])), (aT_slips, .inl (cI, 6, .inl T_slips)), (aT_lates, .inl (cI, 6, .inl T_lates)), (aT_copied, .inl (cI, 6, .inl T_copied))] := hD.sub [0, 1, 2, 3, 7, 4, 5, 6] (by decide) rfl
  refine lv_iconst (v := (0 : Int32)) hx hb dX1_takeOver_4 (by decide) ?_
  refine lv_istore_n (lv' := [(2, .int (0 : Int32)), (0, .ref aT), (1, .ref aF)]) hx hb dX1_takeOver_5 rfl hl (by decide) rfl (fun ls hl => ?_)
  exact L6 300 y1.1 y1.2 T_slips T_lates T_copied (0 : Int32) _ _ hP hD hS ls (lv_sub hl [1, 2, 0] rfl) h
end
section
theorem zz_last : True := trivial
end
