section
-- ===== PART A: goes FIRST, ahead of the names: the tables' words, and 'selects' of the private methods out of them =====
/-- a private method of a class that the tables say can be made, by its rows of tables_1 -/
def lw_okq (q : MethodName × Nat) : Prop := (q.1.cls ≠ "java/lang/invoke/MethodHandle" ∧ q.1.cls ≠ "java/lang/invoke/VarHandle") ∧ Cond.instantiable q.1.cls q.2 ∈ tables_1 ∧ Cond.privateMethod q.1 ∈ tables_1 ∧ Cond.instanceMethod q.1 ∈ tables_1
theorem lw_p0 : lw_okq (⟨"SimonSays$Reader", "advance", "()V"⟩, 6) := ⟨⟨by decide +kernel, by decide +kernel⟩, List.mem_of_getElem? (i := 42) (by decide +kernel), List.mem_of_getElem? (i := 255) (by decide +kernel), List.mem_of_getElem? (i := 256) (by decide +kernel)⟩
theorem lw_p1 : lw_okq (⟨"SimonSays$Reader", "advanceOverWord", "()V"⟩, 6) := ⟨⟨by decide +kernel, by decide +kernel⟩, List.mem_of_getElem? (i := 42) (by decide +kernel), List.mem_of_getElem? (i := 267) (by decide +kernel), List.mem_of_getElem? (i := 268) (by decide +kernel)⟩
theorem lw_p2 : lw_okq (⟨"SimonSays$Reader", "spells", "(Ljava/lang/String;)Z"⟩, 6) := ⟨⟨by decide +kernel, by decide +kernel⟩, List.mem_of_getElem? (i := 42) (by decide +kernel), List.mem_of_getElem? (i := 272) (by decide +kernel), List.mem_of_getElem? (i := 273) (by decide +kernel)⟩
theorem lw_p3 : lw_okq (⟨"SimonSays$Reader", "advanceOverNumber", "()V"⟩, 6) := ⟨⟨by decide +kernel, by decide +kernel⟩, List.mem_of_getElem? (i := 42) (by decide +kernel), List.mem_of_getElem? (i := 328) (by decide +kernel), List.mem_of_getElem? (i := 329) (by decide +kernel)⟩
theorem lw_p4 : lw_okq (⟨"SimonSays$Reader", "readItem", "()Z"⟩, 6) := ⟨⟨by decide +kernel, by decide +kernel⟩, List.mem_of_getElem? (i := 42) (by decide +kernel), List.mem_of_getElem? (i := 335) (by decide +kernel), List.mem_of_getElem? (i := 336) (by decide +kernel)⟩
theorem lw_p5 : lw_okq (⟨"SimonSays$Reader", "readChild", "()Z"⟩, 6) := ⟨⟨by decide +kernel, by decide +kernel⟩, List.mem_of_getElem? (i := 42) (by decide +kernel), List.mem_of_getElem? (i := 339) (by decide +kernel), List.mem_of_getElem? (i := 340) (by decide +kernel)⟩
theorem lw_p6 : lw_okq (⟨"SimonSays$Reader", "isNumberUpTo", "(I)Z"⟩, 6) := ⟨⟨by decide +kernel, by decide +kernel⟩, List.mem_of_getElem? (i := 42) (by decide +kernel), List.mem_of_getElem? (i := 347) (by decide +kernel), List.mem_of_getElem? (i := 348) (by decide +kernel)⟩
theorem lw_p7 : lw_okq (⟨"SimonSays$Reader", "readLittle", "()Z"⟩, 6) := ⟨⟨by decide +kernel, by decide +kernel⟩, List.mem_of_getElem? (i := 42) (by decide +kernel), List.mem_of_getElem? (i := 359) (by decide +kernel), List.mem_of_getElem? (i := 360) (by decide +kernel)⟩
theorem lw_p8 : lw_okq (⟨"SimonSays$History", "loseOldest", "()V"⟩, 3) := ⟨⟨by decide +kernel, by decide +kernel⟩, List.mem_of_getElem? (i := 110) (by decide +kernel), List.mem_of_getElem? (i := 482) (by decide +kernel), List.mem_of_getElem? (i := 483) (by decide +kernel)⟩
theorem lw_p9 : lw_okq (⟨"SimonSays$Round", "draw", "()I"⟩, 4) := ⟨⟨by decide +kernel, by decide +kernel⟩, List.mem_of_getElem? (i := 91) (by decide +kernel), List.mem_of_getElem? (i := 499) (by decide +kernel), List.mem_of_getElem? (i := 500) (by decide +kernel)⟩
theorem lw_p10 : lw_okq (⟨"SimonSays$Chances", "addGroup", "(II)V"⟩, 4) := ⟨⟨by decide +kernel, by decide +kernel⟩, List.mem_of_getElem? (i := 159) (by decide +kernel), List.mem_of_getElem? (i := 606) (by decide +kernel), List.mem_of_getElem? (i := 607) (by decide +kernel)⟩
theorem lw_p11 : lw_okq (⟨"SimonSays$Kinds", "asChild", "(I)I"⟩, 3) := ⟨⟨by decide +kernel, by decide +kernel⟩, List.mem_of_getElem? (i := 179) (by decide +kernel), List.mem_of_getElem? (i := 690) (by decide +kernel), List.mem_of_getElem? (i := 691) (by decide +kernel)⟩
theorem lw_p12 : lw_okq (⟨"SimonSays$Kinds", "asDreamer", "(I)I"⟩, 3) := ⟨⟨by decide +kernel, by decide +kernel⟩, List.mem_of_getElem? (i := 179) (by decide +kernel), List.mem_of_getElem? (i := 695) (by decide +kernel), List.mem_of_getElem? (i := 696) (by decide +kernel)⟩
theorem lw_p13 : lw_okq (⟨"SimonSays$Kinds", "asWatcher", "(I)I"⟩, 3) := ⟨⟨by decide +kernel, by decide +kernel⟩, List.mem_of_getElem? (i := 179) (by decide +kernel), List.mem_of_getElem? (i := 701) (by decide +kernel), List.mem_of_getElem? (i := 702) (by decide +kernel)⟩
theorem lw_p14 : lw_okq (⟨"SimonSays$Kinds", "asRunner", "(I)I"⟩, 3) := ⟨⟨by decide +kernel, by decide +kernel⟩, List.mem_of_getElem? (i := 179) (by decide +kernel), List.mem_of_getElem? (i := 707) (by decide +kernel), List.mem_of_getElem? (i := 708) (by decide +kernel)⟩
theorem lw_p15 : lw_okq (⟨"SimonSays$Kinds", "asCopier", "(I)I"⟩, 3) := ⟨⟨by decide +kernel, by decide +kernel⟩, List.mem_of_getElem? (i := 179) (by decide +kernel), List.mem_of_getElem? (i := 712) (by decide +kernel), List.mem_of_getElem? (i := 713) (by decide +kernel)⟩
def lw_privs_1 : List (MethodName × Nat) := [(⟨"SimonSays$Reader", "advance", "()V"⟩, 6), (⟨"SimonSays$Reader", "advanceOverWord", "()V"⟩, 6), (⟨"SimonSays$Reader", "spells", "(Ljava/lang/String;)Z"⟩, 6), (⟨"SimonSays$Reader", "advanceOverNumber", "()V"⟩, 6), (⟨"SimonSays$Reader", "readItem", "()Z"⟩, 6), (⟨"SimonSays$Reader", "readChild", "()Z"⟩, 6), (⟨"SimonSays$Reader", "isNumberUpTo", "(I)Z"⟩, 6), (⟨"SimonSays$Reader", "readLittle", "()Z"⟩, 6), (⟨"SimonSays$History", "loseOldest", "()V"⟩, 3), (⟨"SimonSays$Round", "draw", "()I"⟩, 4), (⟨"SimonSays$Chances", "addGroup", "(II)V"⟩, 4), (⟨"SimonSays$Kinds", "asChild", "(I)I"⟩, 3), (⟨"SimonSays$Kinds", "asDreamer", "(I)I"⟩, 3), (⟨"SimonSays$Kinds", "asWatcher", "(I)I"⟩, 3), (⟨"SimonSays$Kinds", "asRunner", "(I)I"⟩, 3), (⟨"SimonSays$Kinds", "asCopier", "(I)I"⟩, 3)]
theorem lw_r1 : ∀ q ∈ lw_privs_1, lw_okq q := List.forall_mem_cons.mpr ⟨lw_p0, List.forall_mem_cons.mpr ⟨lw_p1, List.forall_mem_cons.mpr ⟨lw_p2, List.forall_mem_cons.mpr ⟨lw_p3, List.forall_mem_cons.mpr ⟨lw_p4, List.forall_mem_cons.mpr ⟨lw_p5, List.forall_mem_cons.mpr ⟨lw_p6, List.forall_mem_cons.mpr ⟨lw_p7, List.forall_mem_cons.mpr ⟨lw_p8, List.forall_mem_cons.mpr ⟨lw_p9, List.forall_mem_cons.mpr ⟨lw_p10, List.forall_mem_cons.mpr ⟨lw_p11, List.forall_mem_cons.mpr ⟨lw_p12, List.forall_mem_cons.mpr ⟨lw_p13, List.forall_mem_cons.mpr ⟨lw_p14, List.forall_mem_cons.mpr ⟨lw_p15, fun _ h => absurd h List.not_mem_nil⟩⟩⟩⟩⟩⟩⟩⟩⟩⟩⟩⟩⟩⟩⟩⟩
theorem lw_p16 : lw_okq (⟨"SimonSays$Kinds", "asListener", "(I)I"⟩, 3) := ⟨⟨by decide +kernel, by decide +kernel⟩, List.mem_of_getElem? (i := 179) (by decide +kernel), List.mem_of_getElem? (i := 721) (by decide +kernel), List.mem_of_getElem? (i := 722) (by decide +kernel)⟩
theorem lw_p17 : lw_okq (⟨"SimonSaysModel", "next", "()V"⟩, 23) := ⟨⟨by decide +kernel, by decide +kernel⟩, List.mem_of_getElem? (i := 772) (by decide +kernel), List.mem_of_getElem? (i := 866) (by decide +kernel), List.mem_of_getElem? (i := 867) (by decide +kernel)⟩
theorem lw_p18 : lw_okq (⟨"SimonSaysModel", "takesChild", "()Z"⟩, 23) := ⟨⟨by decide +kernel, by decide +kernel⟩, List.mem_of_getElem? (i := 772) (by decide +kernel), List.mem_of_getElem? (i := 883) (by decide +kernel), List.mem_of_getElem? (i := 884) (by decide +kernel)⟩
theorem lw_p19 : lw_okq (⟨"SimonSaysModel", "takes", "(II)Z"⟩, 23) := ⟨⟨by decide +kernel, by decide +kernel⟩, List.mem_of_getElem? (i := 772) (by decide +kernel), List.mem_of_getElem? (i := 887) (by decide +kernel), List.mem_of_getElem? (i := 888) (by decide +kernel)⟩
theorem lw_p20 : lw_okq (⟨"SimonSaysModel", "stops", "()Z"⟩, 23) := ⟨⟨by decide +kernel, by decide +kernel⟩, List.mem_of_getElem? (i := 772) (by decide +kernel), List.mem_of_getElem? (i := 892) (by decide +kernel), List.mem_of_getElem? (i := 893) (by decide +kernel)⟩
theorem lw_p21 : lw_okq (⟨"SimonSaysModel", "takesLittle", "()Z"⟩, 23) := ⟨⟨by decide +kernel, by decide +kernel⟩, List.mem_of_getElem? (i := 772) (by decide +kernel), List.mem_of_getElem? (i := 897) (by decide +kernel), List.mem_of_getElem? (i := 898) (by decide +kernel)⟩
theorem lw_p22 : lw_okq (⟨"SimonSaysModel", "isChild", "(I)Z"⟩, 23) := ⟨⟨by decide +kernel, by decide +kernel⟩, List.mem_of_getElem? (i := 772) (by decide +kernel), List.mem_of_getElem? (i := 905) (by decide +kernel), List.mem_of_getElem? (i := 906) (by decide +kernel)⟩
theorem lw_p23 : lw_okq (⟨"SimonSaysModel", "leaderOf", "(I)I"⟩, 23) := ⟨⟨by decide +kernel, by decide +kernel⟩, List.mem_of_getElem? (i := 772) (by decide +kernel), List.mem_of_getElem? (i := 913) (by decide +kernel), List.mem_of_getElem? (i := 914) (by decide +kernel)⟩
theorem lw_p24 : lw_okq (⟨"SimonSaysModel", "fair", "()I"⟩, 23) := ⟨⟨by decide +kernel, by decide +kernel⟩, List.mem_of_getElem? (i := 772) (by decide +kernel), List.mem_of_getElem? (i := 921) (by decide +kernel), List.mem_of_getElem? (i := 922) (by decide +kernel)⟩
theorem lw_p25 : lw_okq (⟨"SimonSaysModel", "errsOf", "(III)I"⟩, 23) := ⟨⟨by decide +kernel, by decide +kernel⟩, List.mem_of_getElem? (i := 772) (by decide +kernel), List.mem_of_getElem? (i := 933) (by decide +kernel), List.mem_of_getElem? (i := 934) (by decide +kernel)⟩
theorem lw_p26 : lw_okq (⟨"SimonSaysModel", "ledBy", "(I)I"⟩, 23) := ⟨⟨by decide +kernel, by decide +kernel⟩, List.mem_of_getElem? (i := 772) (by decide +kernel), List.mem_of_getElem? (i := 942) (by decide +kernel), List.mem_of_getElem? (i := 943) (by decide +kernel)⟩
theorem lw_p27 : lw_okq (⟨"SimonSaysModel", "remember", "()V"⟩, 23) := ⟨⟨by decide +kernel, by decide +kernel⟩, List.mem_of_getElem? (i := 772) (by decide +kernel), List.mem_of_getElem? (i := 946) (by decide +kernel), List.mem_of_getElem? (i := 947) (by decide +kernel)⟩
theorem lw_p28 : lw_okq (⟨"SimonSaysModel", "isSet", "(I)Z"⟩, 23) := ⟨⟨by decide +kernel, by decide +kernel⟩, List.mem_of_getElem? (i := 772) (by decide +kernel), List.mem_of_getElem? (i := 972) (by decide +kernel), List.mem_of_getElem? (i := 973) (by decide +kernel)⟩
theorem lw_p29 : lw_okq (⟨"SimonSaysModel", "waysOf", "(II)J"⟩, 23) := ⟨⟨by decide +kernel, by decide +kernel⟩, List.mem_of_getElem? (i := 772) (by decide +kernel), List.mem_of_getElem? (i := 979) (by decide +kernel), List.mem_of_getElem? (i := 980) (by decide +kernel)⟩
theorem lw_p30 : lw_okq (⟨"SimonSaysModel", "staysOf", "(III)J"⟩, 23) := ⟨⟨by decide +kernel, by decide +kernel⟩, List.mem_of_getElem? (i := 772) (by decide +kernel), List.mem_of_getElem? (i := 998) (by decide +kernel), List.mem_of_getElem? (i := 999) (by decide +kernel)⟩
theorem lw_p31 : lw_okq (⟨"SimonSaysModel", "leftOf", "(II)J"⟩, 23) := ⟨⟨by decide +kernel, by decide +kernel⟩, List.mem_of_getElem? (i := 772) (by decide +kernel), List.mem_of_getElem? (i := 1013) (by decide +kernel), List.mem_of_getElem? (i := 1014) (by decide +kernel)⟩
def lw_privs_2 : List (MethodName × Nat) := [(⟨"SimonSays$Kinds", "asListener", "(I)I"⟩, 3), (⟨"SimonSaysModel", "next", "()V"⟩, 23), (⟨"SimonSaysModel", "takesChild", "()Z"⟩, 23), (⟨"SimonSaysModel", "takes", "(II)Z"⟩, 23), (⟨"SimonSaysModel", "stops", "()Z"⟩, 23), (⟨"SimonSaysModel", "takesLittle", "()Z"⟩, 23), (⟨"SimonSaysModel", "isChild", "(I)Z"⟩, 23), (⟨"SimonSaysModel", "leaderOf", "(I)I"⟩, 23), (⟨"SimonSaysModel", "fair", "()I"⟩, 23), (⟨"SimonSaysModel", "errsOf", "(III)I"⟩, 23), (⟨"SimonSaysModel", "ledBy", "(I)I"⟩, 23), (⟨"SimonSaysModel", "remember", "()V"⟩, 23), (⟨"SimonSaysModel", "isSet", "(I)Z"⟩, 23), (⟨"SimonSaysModel", "waysOf", "(II)J"⟩, 23), (⟨"SimonSaysModel", "staysOf", "(III)J"⟩, 23), (⟨"SimonSaysModel", "leftOf", "(II)J"⟩, 23)]
theorem lw_r2 : ∀ q ∈ lw_privs_2, lw_okq q := List.forall_mem_cons.mpr ⟨lw_p16, List.forall_mem_cons.mpr ⟨lw_p17, List.forall_mem_cons.mpr ⟨lw_p18, List.forall_mem_cons.mpr ⟨lw_p19, List.forall_mem_cons.mpr ⟨lw_p20, List.forall_mem_cons.mpr ⟨lw_p21, List.forall_mem_cons.mpr ⟨lw_p22, List.forall_mem_cons.mpr ⟨lw_p23, List.forall_mem_cons.mpr ⟨lw_p24, List.forall_mem_cons.mpr ⟨lw_p25, List.forall_mem_cons.mpr ⟨lw_p26, List.forall_mem_cons.mpr ⟨lw_p27, List.forall_mem_cons.mpr ⟨lw_p28, List.forall_mem_cons.mpr ⟨lw_p29, List.forall_mem_cons.mpr ⟨lw_p30, List.forall_mem_cons.mpr ⟨lw_p31, fun _ h => absurd h List.not_mem_nil⟩⟩⟩⟩⟩⟩⟩⟩⟩⟩⟩⟩⟩⟩⟩⟩
def lw_privs : List (MethodName × Nat) := lw_privs_1 ++ (lw_privs_2)
def lw_tbl : List Cond := k2_sels lw_privs ++ tables_1
theorem lw_privs_ok : ∀ q ∈ lw_privs, lw_okq q := by
  show ∀ q ∈ lw_privs_1 ++ (lw_privs_2), lw_okq q
  exact List.forall_mem_append.mpr ⟨lw_r1, lw_r2⟩
-- ===== end of PART A; then your names; then what follows =====
/-! ===== BEGIN words of one list among another's, by their places ===== -/
theorem goodIn_r {big : List Cond} (ws : List Cond) (ps : List Nat) (hp : ws = ps.filterMap (fun i => big[i]?)) (h : ws.all goodWord = true) : GoodIn big ws := by
  intro w hw
  have h1 := List.all_eq_true.mp h w hw
  rw [hp] at hw
  obtain ⟨i, -, hi⟩ := List.mem_filterMap.mp hw
  have hm : w ∈ big := by first | exact List.mem_of_getElem? hi | exact List.getElem?_mem hi
  exact ⟨hm, good_of_word h1⟩
theorem goodIn_app {big a b : List Cond} (ha : GoodIn big a) (hb : GoodIn big b) : GoodIn big (a ++ b) := fun w h => (List.mem_append.mp h).elim (ha w) (hb w)
theorem goodIn_ca {big a b : List Cond} {c : Cond} (ha : GoodIn big (c :: a)) (hb : GoodIn big b) : GoodIn big (c :: (a ++ b)) := fun w h => (List.mem_cons.mp h).elim (fun e => ha w (List.mem_cons.mpr (Or.inl e))) (fun h => (List.mem_append.mp h).elim (fun h => ha w (List.mem_cons.mpr (Or.inr h))) (hb w))
theorem goodIn_sub {big ws : List Cond} (hm : ∀ w ∈ ws, w ∈ big) (h : ws.all goodWord = true) : GoodIn big ws := fun w hw => ⟨hm w hw, good_of_word (List.all_eq_true.mp h w hw)⟩
/-! ===== END ===== -/

/-! ===== BEGIN printed: names, fields, word lists, decode rows ===== -/
def RX0 : String := "SimonSays$Chances"
def TX0 : u_T := fun k => match k with
  | 0 => ("SimonSays$Chances", "told", "LSimonSays$Children;", true)
  | 1 => ("SimonSays$Chances", "round", "LSimonSays$Round;", true)
  | 2 => ("SimonSays$Chances", "row", "LSimonSays$Row;", true)
  | _ => ("SimonSays$Chances", "byNumber", "[J", true)
def tyX0 : Nat → FieldType := fun k => match k with
  | 0 => .object "SimonSays$Children"
  | 1 => .object "SimonSays$Round"
  | 2 => .object "SimonSays$Row"
  | _ => .array .long
abbrev wsX00 : List Cond := u_ws RX0 TX0 4
theorem nmX0 : ∀ a, a < 4 → ∀ b, b < 4 → a ≠ b → (TX0 a).2.1 ≠ (TX0 b).2.1 := by decide +kernel
theorem tyX0_ok : ∀ k, k < 4 → parseFieldDescriptor (TX0 k).2.2.1 = some (tyX0 k) := by decide +kernel
abbrev cX0_init : ByteArray := prog_2_method_1_code
def yX0_init : MethodName := ⟨RX0, "<init>", "(LSimonSays$Children;LSimonSays$Round;LSimonSays$Row;)V"⟩
abbrev cX0_lower : ByteArray := prog_2_method_2_code
def yX0_lower : MethodName := ⟨RX0, "lower", "(I)J"⟩
abbrev cX0_setFalls : ByteArray := prog_2_method_3_code
def yX0_setFalls : MethodName := ⟨RX0, "setFalls", "(II)J"⟩
abbrev cX0_numberFalls : ByteArray := prog_2_method_4_code
def yX0_numberFalls : MethodName := ⟨RX0, "numberFalls", "(II)J"⟩
abbrev cX0_addGroup : ByteArray := prog_2_method_5_code
def yX0_addGroup : MethodName := ⟨RX0, "addGroup", "(II)V"⟩
abbrev cX0_leaderStays : ByteArray := prog_2_method_6_code
def yX0_leaderStays : MethodName := ⟨RX0, "leaderStays", "(I)J"⟩
abbrev cX0_justOneStays : ByteArray := prog_2_method_7_code
def yX0_justOneStays : MethodName := ⟨RX0, "justOneStays", "()J"⟩
abbrev cX0_bestRow : ByteArray := prog_2_method_8_code
def yX0_bestRow : MethodName := ⟨RX0, "bestRow", "(I)I"⟩
abbrev cX0_rowNumber : ByteArray := prog_2_method_9_code
def yX0_rowNumber : MethodName := ⟨RX0, "rowNumber", "(II)I"⟩
abbrev cX0_ordersThatCould : ByteArray := prog_2_method_10_code
def yX0_ordersThatCould : MethodName := ⟨RX0, "ordersThatCould", "(I)I"⟩
abbrev cX0_likeliestOrder : ByteArray := prog_2_method_11_code
def yX0_likeliestOrder : MethodName := ⟨RX0, "likeliestOrder", "(I)I"⟩
def RX1 : String := "SimonSays$Children"
def TX1 : u_T := fun k => match k with
  | 0 => ("SimonSays$Children", "slips", "[I", true)
  | 1 => ("SimonSays$Children", "lates", "[I", true)
  | 2 => ("SimonSays$Children", "copied", "[I", true)
  | 3 => ("SimonSays$Children", "size", "I", false)
  | _ => ("SimonSays$Children", "littleOnes", "I", false)
def tyX1 : Nat → FieldType := fun k => match k with
  | 0 => .array .int
  | 1 => .array .int
  | 2 => .array .int
  | 3 => .int
  | _ => .int
abbrev wsX10 : List Cond := u_ws RX1 TX1 5
theorem nmX1 : ∀ a, a < 5 → ∀ b, b < 5 → a ≠ b → (TX1 a).2.1 ≠ (TX1 b).2.1 := by decide +kernel
theorem tyX1_ok : ∀ k, k < 5 → parseFieldDescriptor (TX1 k).2.2.1 = some (tyX1 k) := by decide +kernel
abbrev cX1_init : ByteArray := prog_3_method_1_code
def yX1_init : MethodName := ⟨RX1, "<init>", "()V"⟩
abbrev cX1_forget : ByteArray := prog_3_method_2_code
def yX1_forget : MethodName := ⟨RX1, "forget", "()V"⟩
abbrev cX1_add : ByteArray := prog_3_method_3_code
def yX1_add : MethodName := ⟨RX1, "add", "(III)V"⟩
abbrev cX1_makeLittle : ByteArray := prog_3_method_4_code
def yX1_makeLittle : MethodName := ⟨RX1, "makeLittle", "(I)V"⟩
abbrev cX1_takeOver : ByteArray := prog_3_method_5_code
def yX1_takeOver : MethodName := ⟨RX1, "takeOver", "(LSimonSays$Children;)V"⟩
abbrev cX1_size : ByteArray := prog_3_method_6_code
def yX1_size : MethodName := ⟨RX1, "size", "()I"⟩
abbrev cX1_littleOnes : ByteArray := prog_3_method_7_code
def yX1_littleOnes : MethodName := ⟨RX1, "littleOnes", "()I"⟩
abbrev cX1_has : ByteArray := prog_3_method_8_code
def yX1_has : MethodName := ⟨RX1, "has", "(I)Z"⟩
abbrev cX1_everyone : ByteArray := prog_3_method_9_code
def yX1_everyone : MethodName := ⟨RX1, "everyone", "()I"⟩
abbrev cX1_isSet : ByteArray := prog_3_method_10_code
def yX1_isSet : MethodName := ⟨RX1, "isSet", "(I)Z"⟩
abbrev cX1_isLittle : ByteArray := prog_3_method_11_code
def yX1_isLittle : MethodName := ⟨RX1, "isLittle", "(I)Z"⟩
abbrev cX1_slipOf : ByteArray := prog_3_method_12_code
def yX1_slipOf : MethodName := ⟨RX1, "slipOf", "(I)I"⟩
abbrev cX1_lateOf : ByteArray := prog_3_method_13_code
def yX1_lateOf : MethodName := ⟨RX1, "lateOf", "(I)I"⟩
abbrev cX1_copiedBy : ByteArray := prog_3_method_14_code
def yX1_copiedBy : MethodName := ⟨RX1, "copiedBy", "(I)I"⟩
abbrev cX1_howManyCopy : ByteArray := prog_3_method_15_code
def yX1_howManyCopy : MethodName := ⟨RX1, "howManyCopy", "(I)I"⟩
abbrev cX1_errsOf : ByteArray := prog_3_method_16_code
def yX1_errsOf : MethodName := ⟨RX1, "errsOf", "(III)I"⟩
def RX2 : String := "SimonSays$History"
def TX2 : u_T := fun k => match k with
  | 0 => ("SimonSays$History", "ins", "[I", true)
  | 1 => ("SimonSays$History", "streaks", "[I", true)
  | _ => ("SimonSays$History", "size", "I", false)
def tyX2 : Nat → FieldType := fun k => match k with
  | 0 => .array .int
  | 1 => .array .int
  | _ => .int
abbrev wsX20 : List Cond := u_ws RX2 TX2 3
theorem nmX2 : ∀ a, a < 3 → ∀ b, b < 3 → a ≠ b → (TX2 a).2.1 ≠ (TX2 b).2.1 := by decide +kernel
theorem tyX2_ok : ∀ k, k < 3 → parseFieldDescriptor (TX2 k).2.2.1 = some (tyX2 k) := by decide +kernel
abbrev cX2_init : ByteArray := prog_4_method_1_code
def yX2_init : MethodName := ⟨RX2, "<init>", "()V"⟩
abbrev cX2_size : ByteArray := prog_4_method_2_code
def yX2_size : MethodName := ⟨RX2, "size", "()I"⟩
abbrev cX2_forget : ByteArray := prog_4_method_3_code
def yX2_forget : MethodName := ⟨RX2, "forget", "()V"⟩
abbrev cX2_add : ByteArray := prog_4_method_4_code
def yX2_add : MethodName := ⟨RX2, "add", "(II)V"⟩
abbrev cX2_loseOldest : ByteArray := prog_4_method_5_code
def yX2_loseOldest : MethodName := ⟨RX2, "loseOldest", "()V"⟩
abbrev cX2_dropLatest : ByteArray := prog_4_method_6_code
def yX2_dropLatest : MethodName := ⟨RX2, "dropLatest", "()V"⟩
abbrev cX2_droppedIn : ByteArray := prog_4_method_7_code
def yX2_droppedIn : MethodName := ⟨RX2, "droppedIn", "()I"⟩
abbrev cX2_droppedStreak : ByteArray := prog_4_method_8_code
def yX2_droppedStreak : MethodName := ⟨RX2, "droppedStreak", "()I"⟩
def RX3 : String := "SimonSays$Image"
def TX3 : u_T := fun k => match k with
  | 0 => ("SimonSays$Image", "kept", "Z", false)
  | 1 => ("SimonSays$Image", "in", "I", false)
  | 2 => ("SimonSays$Image", "streak", "I", false)
  | _ => ("SimonSays$Image", "lot", "I", false)
def tyX3 : Nat → FieldType := fun k => match k with
  | 0 => .boolean
  | 1 => .int
  | 2 => .int
  | _ => .int
abbrev wsX30 : List Cond := u_ws RX3 TX3 4
theorem nmX3 : ∀ a, a < 4 → ∀ b, b < 4 → a ≠ b → (TX3 a).2.1 ≠ (TX3 b).2.1 := by decide +kernel
theorem tyX3_ok : ∀ k, k < 4 → parseFieldDescriptor (TX3 k).2.2.1 = some (tyX3 k) := by decide +kernel
abbrev cX3_init : ByteArray := prog_5_method_1_code
def yX3_init : MethodName := ⟨RX3, "<init>", "()V"⟩
abbrev cX3_isKept : ByteArray := prog_5_method_2_code
def yX3_isKept : MethodName := ⟨RX3, "isKept", "()Z"⟩
abbrev cX3_forget : ByteArray := prog_5_method_3_code
def yX3_forget : MethodName := ⟨RX3, "forget", "()V"⟩
abbrev cX3_take : ByteArray := prog_5_method_4_code
def yX3_take : MethodName := ⟨RX3, "take", "(LSimonSays$Round;)V"⟩
abbrev cX3_giveTo : ByteArray := prog_5_method_5_code
def yX3_giveTo : MethodName := ⟨RX3, "giveTo", "(LSimonSays$Round;)V"⟩
def RX4 : String := "SimonSays$Kinds"
def TX4 : u_T := fun k => match k with
  | 0 => ("SimonSays$Kinds", "told", "LSimonSays$Children;", true)
  | 1 => ("SimonSays$Kinds", "round", "LSimonSays$Round;", true)
  | _ => ("SimonSays$Kinds", "trace", "J", false)
def tyX4 : Nat → FieldType := fun k => match k with
  | 0 => .object "SimonSays$Children"
  | 1 => .object "SimonSays$Round"
  | _ => .long
abbrev wsX40 : List Cond := u_ws RX4 TX4 3
theorem nmX4 : ∀ a, a < 3 → ∀ b, b < 3 → a ≠ b → (TX4 a).2.1 ≠ (TX4 b).2.1 := by decide +kernel
theorem tyX4_ok : ∀ k, k < 3 → parseFieldDescriptor (TX4 k).2.2.1 = some (tyX4 k) := by decide +kernel
abbrev cX4_init : ByteArray := prog_6_method_1_code
def yX4_init : MethodName := ⟨RX4, "<init>", "(LSimonSays$Children;LSimonSays$Round;)V"⟩
abbrev cX4_theTrace : ByteArray := prog_6_method_2_code
def yX4_theTrace : MethodName := ⟨RX4, "theTrace", "()J"⟩
abbrev cX4_rateAs : ByteArray := prog_6_method_3_code
def yX4_rateAs : MethodName := ⟨RX4, "rateAs", "(II)I"⟩
abbrev cX4_asChild : ByteArray := prog_6_method_4_code
def yX4_asChild : MethodName := ⟨RX4, "asChild", "(I)I"⟩
abbrev cX4_asDreamer : ByteArray := prog_6_method_5_code
def yX4_asDreamer : MethodName := ⟨RX4, "asDreamer", "(I)I"⟩
abbrev cX4_asWatcher : ByteArray := prog_6_method_6_code
def yX4_asWatcher : MethodName := ⟨RX4, "asWatcher", "(I)I"⟩
abbrev cX4_asRunner : ByteArray := prog_6_method_7_code
def yX4_asRunner : MethodName := ⟨RX4, "asRunner", "(I)I"⟩
abbrev cX4_asCopier : ByteArray := prog_6_method_8_code
def yX4_asCopier : MethodName := ⟨RX4, "asCopier", "(I)I"⟩
abbrev cX4_asListener : ByteArray := prog_6_method_9_code
def yX4_asListener : MethodName := ⟨RX4, "asListener", "(I)I"⟩
def RX5 : String := "SimonSays$Reader"
def TX5 : u_T := fun k => match k with
  | 0 => ("SimonSays$Reader", "text", "LSimonSays$Text;", true)
  | 1 => ("SimonSays$Reader", "found", "LSimonSays$Children;", true)
  | 2 => ("SimonSays$Reader", "token", "I", false)
  | 3 => ("SimonSays$Reader", "start", "I", false)
  | 4 => ("SimonSays$Reader", "end", "I", false)
  | _ => ("SimonSays$Reader", "value", "I", false)
def tyX5 : Nat → FieldType := fun k => match k with
  | 0 => .object "SimonSays$Text"
  | 1 => .object "SimonSays$Children"
  | 2 => .int
  | 3 => .int
  | 4 => .int
  | _ => .int
abbrev wsX50 : List Cond := u_ws RX5 TX5 6
theorem nmX5 : ∀ a, a < 6 → ∀ b, b < 6 → a ≠ b → (TX5 a).2.1 ≠ (TX5 b).2.1 := by decide +kernel
theorem tyX5_ok : ∀ k, k < 6 → parseFieldDescriptor (TX5 k).2.2.1 = some (tyX5 k) := by decide +kernel
abbrev cX5_init : ByteArray := prog_7_method_1_code
def yX5_init : MethodName := ⟨RX5, "<init>", "(LSimonSays$Text;)V"⟩
abbrev cX5_readItems : ByteArray := prog_7_method_2_code
def yX5_readItems : MethodName := ⟨RX5, "readItems", "()I"⟩
abbrev cX5_fault : ByteArray := prog_7_method_3_code
def yX5_fault : MethodName := ⟨RX5, "fault", "()I"⟩
abbrev cX5_found : ByteArray := prog_7_method_4_code
def yX5_found : MethodName := ⟨RX5, "found", "()LSimonSays$Children;"⟩
abbrev cX5_readItem : ByteArray := prog_7_method_5_code
def yX5_readItem : MethodName := ⟨RX5, "readItem", "()Z"⟩
abbrev cX5_readChild : ByteArray := prog_7_method_6_code
def yX5_readChild : MethodName := ⟨RX5, "readChild", "()Z"⟩
abbrev cX5_readLittle : ByteArray := prog_7_method_7_code
def yX5_readLittle : MethodName := ⟨RX5, "readLittle", "()Z"⟩
abbrev cX5_isNumberUpTo : ByteArray := prog_7_method_8_code
def yX5_isNumberUpTo : MethodName := ⟨RX5, "isNumberUpTo", "(I)Z"⟩
abbrev cX5_advance : ByteArray := prog_7_method_9_code
def yX5_advance : MethodName := ⟨RX5, "advance", "()V"⟩
abbrev cX5_advanceOverWord : ByteArray := prog_7_method_10_code
def yX5_advanceOverWord : MethodName := ⟨RX5, "advanceOverWord", "()V"⟩
abbrev cX5_advanceOverNumber : ByteArray := prog_7_method_11_code
def yX5_advanceOverNumber : MethodName := ⟨RX5, "advanceOverNumber", "()V"⟩
abbrev cX5_spells : ByteArray := prog_7_method_12_code
def yX5_spells : MethodName := ⟨RX5, "spells", "(Ljava/lang/String;)Z"⟩
abbrev cX5_isLetter : ByteArray := prog_7_method_13_code
def yX5_isLetter : MethodName := ⟨RX5, "isLetter", "(I)Z"⟩
abbrev cX5_isDigit : ByteArray := prog_7_method_14_code
def yX5_isDigit : MethodName := ⟨RX5, "isDigit", "(I)Z"⟩
def RX6 : String := "SimonSays$Round"
def TX6 : u_T := fun k => match k with
  | 0 => ("SimonSays$Round", "told", "LSimonSays$Children;", true)
  | 1 => ("SimonSays$Round", "in", "I", false)
  | 2 => ("SimonSays$Round", "streak", "I", false)
  | _ => ("SimonSays$Round", "lot", "I", false)
def tyX6 : Nat → FieldType := fun k => match k with
  | 0 => .object "SimonSays$Children"
  | 1 => .int
  | 2 => .int
  | _ => .int
abbrev wsX60 : List Cond := u_ws RX6 TX6 4
theorem nmX6 : ∀ a, a < 4 → ∀ b, b < 4 → a ≠ b → (TX6 a).2.1 ≠ (TX6 b).2.1 := by decide +kernel
theorem tyX6_ok : ∀ k, k < 4 → parseFieldDescriptor (TX6 k).2.2.1 = some (tyX6 k) := by decide +kernel
abbrev cX6_init : ByteArray := prog_8_method_1_code
def yX6_init : MethodName := ⟨RX6, "<init>", "(LSimonSays$Children;)V"⟩
abbrev cX6_startAnew : ByteArray := prog_8_method_2_code
def yX6_startAnew : MethodName := ⟨RX6, "startAnew", "()V"⟩
abbrev cX6_become : ByteArray := prog_8_method_3_code
def yX6_become : MethodName := ⟨RX6, "become", "(II)V"⟩
abbrev cX6_whoIsIn : ByteArray := prog_8_method_4_code
def yX6_whoIsIn : MethodName := ⟨RX6, "whoIsIn", "()I"⟩
abbrev cX6_howManyIn : ByteArray := prog_8_method_5_code
def yX6_howManyIn : MethodName := ⟨RX6, "howManyIn", "()I"⟩
abbrev cX6_streak : ByteArray := prog_8_method_6_code
def yX6_streak : MethodName := ⟨RX6, "streak", "()I"⟩
abbrev cX6_theLot : ByteArray := prog_8_method_7_code
def yX6_theLot : MethodName := ⟨RX6, "theLot", "()I"⟩
abbrev cX6_setLot : ByteArray := prog_8_method_8_code
def yX6_setLot : MethodName := ⟨RX6, "setLot", "(I)V"⟩
abbrev cX6_isIn : ByteArray := prog_8_method_9_code
def yX6_isIn : MethodName := ⟨RX6, "isIn", "(I)Z"⟩
abbrev cX6_letIn : ByteArray := prog_8_method_10_code
def yX6_letIn : MethodName := ⟨RX6, "letIn", "(I)V"⟩
abbrev cX6_leaderOf : ByteArray := prog_8_method_11_code
def yX6_leaderOf : MethodName := ⟨RX6, "leaderOf", "(I)I"⟩
abbrev cX6_isLeader : ByteArray := prog_8_method_12_code
def yX6_isLeader : MethodName := ⟨RX6, "isLeader", "(I)Z"⟩
abbrev cX6_groupOf : ByteArray := prog_8_method_13_code
def yX6_groupOf : MethodName := ⟨RX6, "groupOf", "(I)I"⟩
abbrev cX6_obey : ByteArray := prog_8_method_14_code
def yX6_obey : MethodName := ⟨RX6, "obey", "(I)I"⟩
abbrev cX6_draw : ByteArray := prog_8_method_15_code
def yX6_draw : MethodName := ⟨RX6, "draw", "()I"⟩
abbrev cX6_fewestSaidAhead : ByteArray := prog_8_method_16_code
def yX6_fewestSaidAhead : MethodName := ⟨RX6, "fewestSaidAhead", "(II)I"⟩
abbrev cX6_isFair : ByteArray := prog_8_method_17_code
def yX6_isFair : MethodName := ⟨RX6, "isFair", "()Z"⟩
def RX7 : String := "SimonSays$Row"
def TX7 : u_T := fun k => match k with
  | 0 => ("SimonSays$Row", "figures", "[I", true)
  | _ => ("SimonSays$Row", "length", "I", false)
def tyX7 : Nat → FieldType := fun k => match k with
  | 0 => .array .int
  | _ => .int
abbrev wsX70 : List Cond := u_ws RX7 TX7 2
theorem nmX7 : ∀ a, a < 2 → ∀ b, b < 2 → a ≠ b → (TX7 a).2.1 ≠ (TX7 b).2.1 := by decide +kernel
theorem tyX7_ok : ∀ k, k < 2 → parseFieldDescriptor (TX7 k).2.2.1 = some (tyX7 k) := by decide +kernel
abbrev cX7_init : ByteArray := prog_9_method_1_code
def yX7_init : MethodName := ⟨RX7, "<init>", "()V"⟩
abbrev cX7_length : ByteArray := prog_9_method_2_code
def yX7_length : MethodName := ⟨RX7, "length", "()I"⟩
abbrev cX7_read : ByteArray := prog_9_method_3_code
def yX7_read : MethodName := ⟨RX7, "read", "(II)Z"⟩
abbrev cX7_orderAt : ByteArray := prog_9_method_4_code
def yX7_orderAt : MethodName := ⟨RX7, "orderAt", "(I)I"⟩
def RX8 : String := "SimonSays$Text"
def TX8 : u_T := fun k => match k with
  | 0 => ("SimonSays$Text", "bytes", "[I", true)
  | _ => ("SimonSays$Text", "length", "I", false)
def tyX8 : Nat → FieldType := fun k => match k with
  | 0 => .array .int
  | _ => .int
abbrev wsX80 : List Cond := u_ws RX8 TX8 2
theorem nmX8 : ∀ a, a < 2 → ∀ b, b < 2 → a ≠ b → (TX8 a).2.1 ≠ (TX8 b).2.1 := by decide +kernel
theorem tyX8_ok : ∀ k, k < 2 → parseFieldDescriptor (TX8 k).2.2.1 = some (tyX8 k) := by decide +kernel
abbrev cX8_init : ByteArray := prog_10_method_1_code
def yX8_init : MethodName := ⟨RX8, "<init>", "()V"⟩
abbrev cX8_length : ByteArray := prog_10_method_2_code
def yX8_length : MethodName := ⟨RX8, "length", "()I"⟩
abbrev cX8_append : ByteArray := prog_10_method_3_code
def yX8_append : MethodName := ⟨RX8, "append", "(I)V"⟩
abbrev cX8_byteAt : ByteArray := prog_10_method_4_code
def yX8_byteAt : MethodName := ⟨RX8, "byteAt", "(I)I"⟩
abbrev cX8_drop : ByteArray := prog_10_method_5_code
def yX8_drop : MethodName := ⟨RX8, "drop", "()V"⟩
def RX9 : String := "SimonSays"
def TX9 : u_T := fun k => match k with
  | 0 => ("SimonSays", "text", "LSimonSays$Text;", true)
  | 1 => ("SimonSays", "reader", "LSimonSays$Reader;", true)
  | 2 => ("SimonSays", "told", "LSimonSays$Children;", true)
  | 3 => ("SimonSays", "round", "LSimonSays$Round;", true)
  | 4 => ("SimonSays", "history", "LSimonSays$History;", true)
  | 5 => ("SimonSays", "images", "[LSimonSays$Image;", true)
  | 6 => ("SimonSays", "asked", "LSimonSays$Row;", true)
  | 7 => ("SimonSays", "chances", "LSimonSays$Chances;", true)
  | _ => ("SimonSays", "kinds", "LSimonSays$Kinds;", true)
def tyX9 : Nat → FieldType := fun k => match k with
  | 0 => .object "SimonSays$Text"
  | 1 => .object "SimonSays$Reader"
  | 2 => .object "SimonSays$Children"
  | 3 => .object "SimonSays$Round"
  | 4 => .object "SimonSays$History"
  | 5 => .array (.object "SimonSays$Image")
  | 6 => .object "SimonSays$Row"
  | 7 => .object "SimonSays$Chances"
  | _ => .object "SimonSays$Kinds"
abbrev wsX90 : List Cond := u_ws RX9 TX9 9
theorem nmX9 : ∀ a, a < 9 → ∀ b, b < 9 → a ≠ b → (TX9 a).2.1 ≠ (TX9 b).2.1 := by decide +kernel
theorem tyX9_ok : ∀ k, k < 9 → parseFieldDescriptor (TX9 k).2.2.1 = some (tyX9 k) := by decide +kernel
abbrev cX9_init : ByteArray := prog_1_method_1_code
def yX9_init : MethodName := ⟨RX9, "<init>", "()V"⟩
abbrev cX9_type : ByteArray := prog_1_method_2_code
def yX9_type : MethodName := ⟨RX9, "type", "(JI)I"⟩
abbrev cX9_clear : ByteArray := prog_1_method_3_code
def yX9_clear : MethodName := ⟨RX9, "clear", "()I"⟩
abbrev cX9_children : ByteArray := prog_1_method_4_code
def yX9_children : MethodName := ⟨RX9, "children", "()I"⟩
abbrev cX9_child : ByteArray := prog_1_method_5_code
def yX9_child : MethodName := ⟨RX9, "child", "(II)I"⟩
abbrev cX9_now : ByteArray := prog_1_method_6_code
def yX9_now : MethodName := ⟨RX9, "now", "(I)I"⟩
abbrev cX9_errs : ByteArray := prog_1_method_7_code
def yX9_errs : MethodName := ⟨RX9, "errs", "(II)I"⟩
abbrev cX9_call : ByteArray := prog_1_method_8_code
def yX9_call : MethodName := ⟨RX9, "call", "(I)I"⟩
abbrev cX9_comesBack : ByteArray := prog_1_method_9_code
def yX9_comesBack : MethodName := ⟨RX9, "comesBack", "(I)I"⟩
abbrev cX9_undo : ByteArray := prog_1_method_10_code
def yX9_undo : MethodName := ⟨RX9, "undo", "()I"⟩
abbrev cX9_lot : ByteArray := prog_1_method_11_code
def yX9_lot : MethodName := ⟨RX9, "lot", "(I)I"⟩
abbrev cX9_falls : ByteArray := prog_1_method_12_code
def yX9_falls : MethodName := ⟨RX9, "falls", "(III)J"⟩
abbrev cX9_many : ByteArray := prog_1_method_13_code
def yX9_many : MethodName := ⟨RX9, "many", "(III)J"⟩
abbrev cX9_stays : ByteArray := prog_1_method_14_code
def yX9_stays : MethodName := ⟨RX9, "stays", "(III)J"⟩
abbrev cX9_left : ByteArray := prog_1_method_15_code
def yX9_left : MethodName := ⟨RX9, "left", "(II)J"⟩
abbrev cX9_best : ByteArray := prog_1_method_16_code
def yX9_best : MethodName := ⟨RX9, "best", "(I)I"⟩
abbrev cX9_lure : ByteArray := prog_1_method_17_code
def yX9_lure : MethodName := ⟨RX9, "lure", "(II)I"⟩
abbrev cX9_could : ByteArray := prog_1_method_18_code
def yX9_could : MethodName := ⟨RX9, "could", "(I)I"⟩
abbrev cX9_likeliest : ByteArray := prog_1_method_19_code
def yX9_likeliest : MethodName := ⟨RX9, "likeliest", "(I)I"⟩
abbrev cX9_rate : ByteArray := prog_1_method_20_code
def yX9_rate : MethodName := ⟨RX9, "rate", "(II)I"⟩
abbrev cX9_keep : ByteArray := prog_1_method_21_code
def yX9_keep : MethodName := ⟨RX9, "keep", "(I)I"⟩
abbrev cX9_back : ByteArray := prog_1_method_22_code
def yX9_back : MethodName := ⟨RX9, "back", "(I)I"⟩
abbrev cX9_count : ByteArray := prog_1_method_23_code
def yX9_count : MethodName := ⟨RX9, "count", "(I)I"⟩
abbrev cX9_trace : ByteArray := prog_1_method_24_code
def yX9_trace : MethodName := ⟨RX9, "trace", "()J"⟩
abbrev cX9_isOrder : ByteArray := prog_1_method_25_code
def yX9_isOrder : MethodName := ⟨RX9, "isOrder", "(I)Z"⟩
abbrev cX9_isImage : ByteArray := prog_1_method_26_code
def yX9_isImage : MethodName := ⟨RX9, "isImage", "(I)Z"⟩
abbrev cX9_isHalf : ByteArray := prog_1_method_27_code
def yX9_isHalf : MethodName := ⟨RX9, "isHalf", "(I)Z"⟩
abbrev cX9_streakBehind : ByteArray := prog_1_method_28_code
def yX9_streakBehind : MethodName := ⟨RX9, "streakBehind", "(II)I"⟩
abbrev cX9_powerOfTen : ByteArray := prog_1_method_29_code
def yX9_powerOfTen : MethodName := ⟨RX9, "powerOfTen", "(I)J"⟩
abbrev cX9_leastTerms : ByteArray := prog_1_method_30_code
def yX9_leastTerms : MethodName := ⟨RX9, "leastTerms", "(JJI)J"⟩
abbrev cX9_greatestDivisor : ByteArray := prog_1_method_31_code
def yX9_greatestDivisor : MethodName := ⟨RX9, "greatestDivisor", "(JJ)J"⟩
def RX10 : String := "SimonSaysModel"
def TX10 : u_T := fun k => match k with
  | 0 => ("SimonSaysModel", "text", "[I", true)
  | 1 => ("SimonSaysModel", "size", "I", false)
  | 2 => ("SimonSaysModel", "many", "I", false)
  | 3 => ("SimonSaysModel", "slips", "[I", true)
  | 4 => ("SimonSaysModel", "lates", "[I", true)
  | 5 => ("SimonSaysModel", "copies", "[I", true)
  | 6 => ("SimonSaysModel", "little", "I", false)
  | 7 => ("SimonSaysModel", "in", "I", false)
  | 8 => ("SimonSaysModel", "streak", "I", false)
  | 9 => ("SimonSaysModel", "lot", "I", false)
  | 10 => ("SimonSaysModel", "undos", "I", false)
  | 11 => ("SimonSaysModel", "before", "[I", true)
  | 12 => ("SimonSaysModel", "images", "[I", true)
  | 13 => ("SimonSaysModel", "kept", "[Z", true)
  | 14 => ("SimonSaysModel", "trace", "J", false)
  | 15 => ("SimonSaysModel", "at", "I", false)
  | 16 => ("SimonSaysModel", "begin", "I", false)
  | 17 => ("SimonSaysModel", "kind", "I", false)
  | 18 => ("SimonSaysModel", "value", "J", false)
  | 19 => ("SimonSaysModel", "readMany", "I", false)
  | 20 => ("SimonSaysModel", "readLittle", "I", false)
  | 21 => ("SimonSaysModel", "read", "[I", true)
  | _ => ("SimonSaysModel", "below", "J", false)
def tyX10 : Nat → FieldType := fun k => match k with
  | 0 => .array .int
  | 1 => .int
  | 2 => .int
  | 3 => .array .int
  | 4 => .array .int
  | 5 => .array .int
  | 6 => .int
  | 7 => .int
  | 8 => .int
  | 9 => .int
  | 10 => .int
  | 11 => .array .int
  | 12 => .array .int
  | 13 => .array .boolean
  | 14 => .long
  | 15 => .int
  | 16 => .int
  | 17 => .int
  | 18 => .long
  | 19 => .int
  | 20 => .int
  | 21 => .array .int
  | _ => .long
abbrev wsX100 : List Cond := u_ws RX10 TX10 23
theorem nmX10 : ∀ a, a < 23 → ∀ b, b < 23 → a ≠ b → (TX10 a).2.1 ≠ (TX10 b).2.1 := by decide +kernel
theorem tyX10_ok : ∀ k, k < 23 → parseFieldDescriptor (TX10 k).2.2.1 = some (tyX10 k) := by decide +kernel
abbrev cX10_init : ByteArray := prog_12_method_1_code
def yX10_init : MethodName := ⟨RX10, "<init>", "()V"⟩
abbrev cX10_within : ByteArray := prog_12_method_3_code
def yX10_within : MethodName := ⟨RX10, "within", "(JJJ)Z"⟩
abbrev cX10_has : ByteArray := prog_12_method_4_code
def yX10_has : MethodName := ⟨RX10, "has", "(II)Z"⟩
abbrev cX10_bits : ByteArray := prog_12_method_5_code
def yX10_bits : MethodName := ⟨RX10, "bits", "(I)I"⟩
abbrev cX10_isChild : ByteArray := prog_12_method_6_code
def yX10_isChild : MethodName := ⟨RX10, "isChild", "(I)Z"⟩
abbrev cX10_isOrder : ByteArray := prog_12_method_7_code
def yX10_isOrder : MethodName := ⟨RX10, "isOrder", "(I)Z"⟩
abbrev cX10_isSet : ByteArray := prog_12_method_8_code
def yX10_isSet : MethodName := ⟨RX10, "isSet", "(I)Z"⟩
abbrev cX10_type : ByteArray := prog_12_method_9_code
def yX10_type : MethodName := ⟨RX10, "type", "(JI)I"⟩
abbrev cX10_clear : ByteArray := prog_12_method_10_code
def yX10_clear : MethodName := ⟨RX10, "clear", "()I"⟩
abbrev cX10_isLetter : ByteArray := prog_12_method_11_code
def yX10_isLetter : MethodName := ⟨RX10, "isLetter", "(I)Z"⟩
abbrev cX10_isFigure : ByteArray := prog_12_method_12_code
def yX10_isFigure : MethodName := ⟨RX10, "isFigure", "(I)Z"⟩
abbrev cX10_next : ByteArray := prog_12_method_13_code
def yX10_next : MethodName := ⟨RX10, "next", "()V"⟩
abbrev cX10_takes : ByteArray := prog_12_method_14_code
def yX10_takes : MethodName := ⟨RX10, "takes", "(II)Z"⟩
abbrev cX10_stops : ByteArray := prog_12_method_15_code
def yX10_stops : MethodName := ⟨RX10, "stops", "()Z"⟩
abbrev cX10_takesChild : ByteArray := prog_12_method_16_code
def yX10_takesChild : MethodName := ⟨RX10, "takesChild", "()Z"⟩
abbrev cX10_takesLittle : ByteArray := prog_12_method_17_code
def yX10_takesLittle : MethodName := ⟨RX10, "takesLittle", "()Z"⟩
abbrev cX10_children : ByteArray := prog_12_method_18_code
def yX10_children : MethodName := ⟨RX10, "children", "()I"⟩
abbrev cX10_leaderOf : ByteArray := prog_12_method_19_code
def yX10_leaderOf : MethodName := ⟨RX10, "leaderOf", "(I)I"⟩
abbrev cX10_ledBy : ByteArray := prog_12_method_20_code
def yX10_ledBy : MethodName := ⟨RX10, "ledBy", "(I)I"⟩
abbrev cX10_errsOf : ByteArray := prog_12_method_21_code
def yX10_errsOf : MethodName := ⟨RX10, "errsOf", "(III)I"⟩
abbrev cX10_streakBehind : ByteArray := prog_12_method_22_code
def yX10_streakBehind : MethodName := ⟨RX10, "streakBehind", "(II)I"⟩
abbrev cX10_fair : ByteArray := prog_12_method_23_code
def yX10_fair : MethodName := ⟨RX10, "fair", "()I"⟩
abbrev cX10_child : ByteArray := prog_12_method_24_code
def yX10_child : MethodName := ⟨RX10, "child", "(II)I"⟩
abbrev cX10_now : ByteArray := prog_12_method_25_code
def yX10_now : MethodName := ⟨RX10, "now", "(I)I"⟩
abbrev cX10_errs : ByteArray := prog_12_method_26_code
def yX10_errs : MethodName := ⟨RX10, "errs", "(II)I"⟩
abbrev cX10_remember : ByteArray := prog_12_method_27_code
def yX10_remember : MethodName := ⟨RX10, "remember", "()V"⟩
abbrev cX10_call : ByteArray := prog_12_method_28_code
def yX10_call : MethodName := ⟨RX10, "call", "(I)I"⟩
abbrev cX10_comesBack : ByteArray := prog_12_method_29_code
def yX10_comesBack : MethodName := ⟨RX10, "comesBack", "(I)I"⟩
abbrev cX10_undo : ByteArray := prog_12_method_30_code
def yX10_undo : MethodName := ⟨RX10, "undo", "()I"⟩
abbrev cX10_lot : ByteArray := prog_12_method_31_code
def yX10_lot : MethodName := ⟨RX10, "lot", "(I)I"⟩
abbrev cX10_part : ByteArray := prog_12_method_32_code
def yX10_part : MethodName := ⟨RX10, "part", "(JJI)J"⟩
abbrev cX10_waysOf : ByteArray := prog_12_method_33_code
def yX10_waysOf : MethodName := ⟨RX10, "waysOf", "(II)J"⟩
abbrev cX10_isPart : ByteArray := prog_12_method_34_code
def yX10_isPart : MethodName := ⟨RX10, "isPart", "(I)Z"⟩
abbrev cX10_falls : ByteArray := prog_12_method_35_code
def yX10_falls : MethodName := ⟨RX10, "falls", "(III)J"⟩
abbrev cX10_many : ByteArray := prog_12_method_36_code
def yX10_many : MethodName := ⟨RX10, "many", "(III)J"⟩
abbrev cX10_ordersIn : ByteArray := prog_12_method_37_code
def yX10_ordersIn : MethodName := ⟨RX10, "ordersIn", "(I)I"⟩
abbrev cX10_orderAt : ByteArray := prog_12_method_38_code
def yX10_orderAt : MethodName := ⟨RX10, "orderAt", "(III)I"⟩
abbrev cX10_staysOf : ByteArray := prog_12_method_39_code
def yX10_staysOf : MethodName := ⟨RX10, "staysOf", "(III)J"⟩
abbrev cX10_tens : ByteArray := prog_12_method_40_code
def yX10_tens : MethodName := ⟨RX10, "tens", "(I)J"⟩
abbrev cX10_stays : ByteArray := prog_12_method_41_code
def yX10_stays : MethodName := ⟨RX10, "stays", "(III)J"⟩
abbrev cX10_leftOf : ByteArray := prog_12_method_42_code
def yX10_leftOf : MethodName := ⟨RX10, "leftOf", "(II)J"⟩
abbrev cX10_left : ByteArray := prog_12_method_43_code
def yX10_left : MethodName := ⟨RX10, "left", "(II)J"⟩
abbrev cX10_best : ByteArray := prog_12_method_44_code
def yX10_best : MethodName := ⟨RX10, "best", "(I)I"⟩
abbrev cX10_lure : ByteArray := prog_12_method_45_code
def yX10_lure : MethodName := ⟨RX10, "lure", "(II)I"⟩
abbrev cX10_could : ByteArray := prog_12_method_46_code
def yX10_could : MethodName := ⟨RX10, "could", "(I)I"⟩
abbrev cX10_likeliest : ByteArray := prog_12_method_47_code
def yX10_likeliest : MethodName := ⟨RX10, "likeliest", "(I)I"⟩
abbrev cX10_rate : ByteArray := prog_12_method_48_code
def yX10_rate : MethodName := ⟨RX10, "rate", "(II)I"⟩
abbrev cX10_keep : ByteArray := prog_12_method_49_code
def yX10_keep : MethodName := ⟨RX10, "keep", "(I)I"⟩
abbrev cX10_back : ByteArray := prog_12_method_50_code
def yX10_back : MethodName := ⟨RX10, "back", "(I)I"⟩
abbrev cX10_count : ByteArray := prog_12_method_51_code
def yX10_count : MethodName := ⟨RX10, "count", "(I)I"⟩
abbrev cX10_trace : ByteArray := prog_12_method_52_code
def yX10_trace : MethodName := ⟨RX10, "trace", "()J"⟩
def RJ6 : String := "java/lang/Integer"
def TJ6 : u_T := fun k => match k with
  | _ => ("", "", "", false)
def tyJ6 : Nat → FieldType := fun k => match k with
  | _ => .int
abbrev wsJ60 : List Cond := u_ws RJ6 TJ6 0
theorem nmJ6 : ∀ a, a < 0 → ∀ b, b < 0 → a ≠ b → (TJ6 a).2.1 ≠ (TJ6 b).2.1 := by decide +kernel
theorem tyJ6_ok : ∀ k, k < 0 → parseFieldDescriptor (TJ6 k).2.2.1 = some (tyJ6 k) := by decide +kernel
abbrev cJ6_bitCount_0f7a4 : ByteArray := prog_13_method_49_code
def yJ6_bitCount_0f7a4 : MethodName := ⟨RJ6, "bitCount", "(I)I"⟩
def RJ9 : String := "java/lang/Math"
def TJ9 : u_T := fun k => match k with
  | _ => ("", "", "", false)
def tyJ9 : Nat → FieldType := fun k => match k with
  | _ => .int
abbrev wsJ90 : List Cond := u_ws RJ9 TJ9 0
theorem nmJ9 : ∀ a, a < 0 → ∀ b, b < 0 → a ≠ b → (TJ9 a).2.1 ≠ (TJ9 b).2.1 := by decide +kernel
theorem tyJ9_ok : ∀ k, k < 0 → parseFieldDescriptor (TJ9 k).2.2.1 = some (tyJ9 k) := by decide +kernel
abbrev cJ9_min_7cf53 : ByteArray := prog_14_method_69_code
def yJ9_min_7cf53 : MethodName := ⟨RJ9, "min", "(II)I"⟩
def RJ0 : String := "java/lang/String"
def TJ0 : u_T := fun k => match k with
  | _ => ("", "", "", false)
def tyJ0 : Nat → FieldType := fun k => match k with
  | _ => .int
abbrev wsJ00 : List Cond := u_ws RJ0 TJ0 0
theorem nmJ0 : ∀ a, a < 0 → ∀ b, b < 0 → a ≠ b → (TJ0 a).2.1 ≠ (TJ0 b).2.1 := by decide +kernel
theorem tyJ0_ok : ∀ k, k < 0 → parseFieldDescriptor (TJ0 k).2.2.1 = some (tyJ0 k) := by decide +kernel
abbrev cJ0_length_8abf5 : ByteArray := prog_15_method_54_code
def yJ0_length_8abf5 : MethodName := ⟨RJ0, "length", "()I"⟩
abbrev cJ0_charAt_5068e : ByteArray := prog_15_method_56_code
def yJ0_charAt_5068e : MethodName := ⟨RJ0, "charAt", "(I)C"⟩
abbrev cJ0_coder_7d493 : ByteArray := prog_15_method_152_code
def yJ0_coder_7d493 : MethodName := ⟨RJ0, "coder", "()B"⟩
abbrev cJ0_isLatin1_aae02 : ByteArray := prog_15_method_154_code
def yJ0_isLatin1_aae02 : MethodName := ⟨RJ0, "isLatin1", "()Z"⟩
abbrev cJ0_checkIndex_df160 : ByteArray := prog_15_method_155_code
def yJ0_checkIndex_df160 : MethodName := ⟨RJ0, "checkIndex", "(II)V"⟩
def RJ1 : String := "java/lang/StringLatin1"
def TJ1 : u_T := fun k => match k with
  | _ => ("", "", "", false)
def tyJ1 : Nat → FieldType := fun k => match k with
  | _ => .int
abbrev wsJ10 : List Cond := u_ws RJ1 TJ1 0
theorem nmJ1 : ∀ a, a < 0 → ∀ b, b < 0 → a ≠ b → (TJ1 a).2.1 ≠ (TJ1 b).2.1 := by decide +kernel
theorem tyJ1_ok : ∀ k, k < 0 → parseFieldDescriptor (TJ1 k).2.2.1 = some (tyJ1 k) := by decide +kernel
abbrev cJ1_charAt_3b067 : ByteArray := prog_16_method_2_code
def yJ1_charAt_3b067 : MethodName := ⟨RJ1, "charAt", "([BI)C"⟩
def RJ2 : String := "java/lang/StringUTF16"
def TJ2 : u_T := fun k => match k with
  | _ => ("", "", "", false)
def tyJ2 : Nat → FieldType := fun k => match k with
  | _ => .int
abbrev wsJ20 : List Cond := u_ws RJ2 TJ2 0
theorem nmJ2 : ∀ a, a < 0 → ∀ b, b < 0 → a ≠ b → (TJ2 a).2.1 ≠ (TJ2 b).2.1 := by decide +kernel
theorem tyJ2_ok : ∀ k, k < 0 → parseFieldDescriptor (TJ2 k).2.2.1 = some (tyJ2 k) := by decide +kernel
abbrev cJ2_getChar_3b067 : ByteArray := prog_17_method_5_code
def yJ2_getChar_3b067 : MethodName := ⟨RJ2, "getChar", "([BI)C"⟩
abbrev cJ2_length_9d52b : ByteArray := prog_17_method_6_code
def yJ2_length_9d52b : MethodName := ⟨RJ2, "length", "([B)I"⟩
abbrev cJ2_charAt_3b067 : ByteArray := prog_17_method_83_code
def yJ2_charAt_3b067 : MethodName := ⟨RJ2, "charAt", "([BI)C"⟩
abbrev cJ2_checkIndex_2214a : ByteArray := prog_17_method_91_code
def yJ2_checkIndex_2214a : MethodName := ⟨RJ2, "checkIndex", "(I[B)V"⟩
def RJ10 : String := "java/lang/System"
def TJ10 : u_T := fun k => match k with
  | _ => ("", "", "", false)
def tyJ10 : Nat → FieldType := fun k => match k with
  | _ => .int
abbrev wsJ100 : List Cond := u_ws RJ10 TJ10 0
theorem nmJ10 : ∀ a, a < 0 → ∀ b, b < 0 → a ≠ b → (TJ10 a).2.1 ≠ (TJ10 b).2.1 := by decide +kernel
theorem tyJ10_ok : ∀ k, k < 0 → parseFieldDescriptor (TJ10 k).2.2.1 = some (tyJ10 k) := by decide +kernel
def RJ3 : String := "jdk/internal/util/Preconditions"
def TJ3 : u_T := fun k => match k with
  | _ => ("", "", "", false)
def tyJ3 : Nat → FieldType := fun k => match k with
  | _ => .int
abbrev wsJ30 : List Cond := u_ws RJ3 TJ3 0
theorem nmJ3 : ∀ a, a < 0 → ∀ b, b < 0 → a ≠ b → (TJ3 a).2.1 ≠ (TJ3 b).2.1 := by decide +kernel
theorem tyJ3_ok : ∀ k, k < 0 → parseFieldDescriptor (TJ3 k).2.2.1 = some (tyJ3 k) := by decide +kernel
abbrev cJ3_checkIndex_8e157 : ByteArray := prog_19_method_11_code
def yJ3_checkIndex_8e157 : MethodName := ⟨RJ3, "checkIndex", "(IILjava/util/function/BiFunction;)I"⟩
def RL : String := "SimonSaysLaw"
abbrev cL_law : ByteArray := code
def yL_law : MethodName := ⟨RL, "law", "([I)Z"⟩
def wsX0_init : List Cond := .code yX0_init cX0_init 4 none :: ([.methodLink RX0 3 objectInit, .instanceMethod objectInit, .code objectInit ⟨#[0xb1]⟩ 1 none, .fieldLink RX0 9 "SimonSays$Chances" "told" "LSimonSays$Children;", .fieldLink RX0 15 "SimonSays$Chances" "round" "LSimonSays$Round;", .fieldLink RX0 19 "SimonSays$Chances" "row" "LSimonSays$Row;", .arrayClass .long, .fieldLink RX0 23 "SimonSays$Chances" "byNumber" "[J"] ++ wsX00)
def wsX1_size : List Cond := .code yX1_size cX1_size 1 (some .int) :: ([.fieldLink RX1 21 "SimonSays$Children" "size" "I"] ++ wsX10)
def wsX1_has : List Cond := .code yX1_has cX1_has 2 (some .boolean) :: ([.fieldLink RX1 21 "SimonSays$Children" "size" "I"] ++ wsX10)
def wsX6_isIn : List Cond := .code yX6_isIn cX6_isIn 2 (some .boolean) :: ([.fieldLink RX6 9 "SimonSays$Round" "told" "LSimonSays$Children;", .fieldLink RX6 29 "SimonSays$Round" "in" "I", .methodLink RX6 41 yX1_has, .instanceMethod yX1_has, .selects RX1 yX1_has yX1_has, .initialized RX1, .code yX1_has cX1_has 2 (some .boolean), .fieldLink RX1 21 "SimonSays$Children" "size" "I"] ++ wsX60 ++ wsX10)
def wsX1_copiedBy : List Cond := .code yX1_copiedBy cX1_copiedBy 2 (some .int) :: ([.fieldLink RX1 18 "SimonSays$Children" "copied" "[I", .methodLink RX1 49 yX1_has, .instanceMethod yX1_has, .selects RX1 yX1_has yX1_has, .initialized RX1, .code yX1_has cX1_has 2 (some .boolean), .fieldLink RX1 21 "SimonSays$Children" "size" "I"] ++ wsX10)
def wsX6_leaderOf : List Cond := .code yX6_leaderOf cX6_leaderOf 5 (some .int) :: ([.fieldLink RX6 9 "SimonSays$Round" "told" "LSimonSays$Children;", .methodLink RX6 45 yX1_copiedBy, .instanceMethod yX1_copiedBy, .selects RX1 yX1_copiedBy yX1_copiedBy, .initialized RX1, .code yX1_copiedBy cX1_copiedBy 2 (some .int), .fieldLink RX1 18 "SimonSays$Children" "copied" "[I", .methodLink RX1 49 yX1_has, .instanceMethod yX1_has, .selects RX1 yX1_has yX1_has, .code yX1_has cX1_has 2 (some .boolean), .fieldLink RX1 21 "SimonSays$Children" "size" "I", .methodLink RX6 48 yX6_isIn, .instanceMethod yX6_isIn, .selects RX6 yX6_isIn yX6_isIn, .initialized RX6, .code yX6_isIn cX6_isIn 2 (some .boolean), .fieldLink RX6 29 "SimonSays$Round" "in" "I", .methodLink RX6 41 yX1_has] ++ wsX60 ++ wsX10)
def wsX6_isLeader : List Cond := .code yX6_isLeader cX6_isLeader 2 (some .boolean) :: ([.methodLink RX6 48 yX6_isIn, .instanceMethod yX6_isIn, .selects RX6 yX6_isIn yX6_isIn, .initialized RX6, .code yX6_isIn cX6_isIn 2 (some .boolean), .fieldLink RX6 9 "SimonSays$Round" "told" "LSimonSays$Children;", .fieldLink RX6 29 "SimonSays$Round" "in" "I", .methodLink RX6 41 yX1_has, .instanceMethod yX1_has, .selects RX1 yX1_has yX1_has, .initialized RX1, .code yX1_has cX1_has 2 (some .boolean), .fieldLink RX1 21 "SimonSays$Children" "size" "I", .methodLink RX6 51 yX6_leaderOf, .instanceMethod yX6_leaderOf, .selects RX6 yX6_leaderOf yX6_leaderOf, .code yX6_leaderOf cX6_leaderOf 5 (some .int), .methodLink RX6 45 yX1_copiedBy, .instanceMethod yX1_copiedBy, .selects RX1 yX1_copiedBy yX1_copiedBy, .code yX1_copiedBy cX1_copiedBy 2 (some .int), .fieldLink RX1 18 "SimonSays$Children" "copied" "[I", .methodLink RX1 49 yX1_has] ++ wsX60 ++ wsX10)
def wsX9_powerOfTen : List Cond := .code yX9_powerOfTen cX9_powerOfTen 4 (some .long) :: ([.constantLong RX9 270 (10)])
def wsX0_lower_r1 : List Cond := [Cond.fieldLink RX0 9 "SimonSays$Chances" "told" "LSimonSays$Children;", Cond.fieldLink RX0 15 "SimonSays$Chances" "round" "LSimonSays$Round;", Cond.methodLink RX0 27 yX1_size, Cond.instanceMethod yX1_size, Cond.selects RX1 yX1_size yX1_size, Cond.initialized RX1, Cond.code yX1_size cX1_size 1 (some .int), Cond.fieldLink RX1 21 "SimonSays$Children" "size" "I", Cond.methodLink RX0 33 yX6_isLeader, Cond.instanceMethod yX6_isLeader, Cond.selects RX6 yX6_isLeader yX6_isLeader, Cond.initialized RX6, Cond.code yX6_isLeader cX6_isLeader 2 (some .boolean), Cond.methodLink RX6 48 yX6_isIn, Cond.instanceMethod yX6_isIn, Cond.selects RX6 yX6_isIn yX6_isIn, Cond.code yX6_isIn cX6_isIn 2 (some .boolean), Cond.fieldLink RX6 9 "SimonSays$Round" "told" "LSimonSays$Children;", Cond.fieldLink RX6 29 "SimonSays$Round" "in" "I", Cond.methodLink RX6 41 yX1_has, Cond.instanceMethod yX1_has, Cond.selects RX1 yX1_has yX1_has, Cond.code yX1_has cX1_has 2 (some .boolean), Cond.methodLink RX6 51 yX6_leaderOf]
def wsX0_lower_r2 : List Cond := [Cond.instanceMethod yX6_leaderOf, Cond.selects RX6 yX6_leaderOf yX6_leaderOf, Cond.code yX6_leaderOf cX6_leaderOf 5 (some .int), Cond.methodLink RX6 45 yX1_copiedBy, Cond.instanceMethod yX1_copiedBy, Cond.selects RX1 yX1_copiedBy yX1_copiedBy, Cond.code yX1_copiedBy cX1_copiedBy 2 (some .int), Cond.fieldLink RX1 18 "SimonSays$Children" "copied" "[I", Cond.methodLink RX1 49 yX1_has, Cond.static yX9_powerOfTen, Cond.initialized RX9, Cond.code yX9_powerOfTen cX9_powerOfTen 4 (some .long), Cond.constantLong RX9 270 (10)]
def wsX0_lower : List Cond := .code yX0_lower cX0_lower 4 (some .long) :: ((wsX0_lower_r1 ++ wsX0_lower_r2) ++ wsX00 ++ wsX10 ++ wsX60)
def wsX6_whoIsIn : List Cond := .code yX6_whoIsIn cX6_whoIsIn 1 (some .int) :: ([.fieldLink RX6 29 "SimonSays$Round" "in" "I"] ++ wsX60)
def wsX6_groupOf_r1 : List Cond := [Cond.fieldLink RX6 9 "SimonSays$Round" "told" "LSimonSays$Children;", Cond.methodLink RX6 54 yX1_size, Cond.instanceMethod yX1_size, Cond.selects RX1 yX1_size yX1_size, Cond.initialized RX1, Cond.code yX1_size cX1_size 1 (some .int), Cond.fieldLink RX1 21 "SimonSays$Children" "size" "I", Cond.methodLink RX6 48 yX6_isIn, Cond.instanceMethod yX6_isIn, Cond.selects RX6 yX6_isIn yX6_isIn, Cond.initialized RX6, Cond.code yX6_isIn cX6_isIn 2 (some .boolean), Cond.fieldLink RX6 29 "SimonSays$Round" "in" "I", Cond.methodLink RX6 41 yX1_has, Cond.instanceMethod yX1_has, Cond.selects RX1 yX1_has yX1_has, Cond.code yX1_has cX1_has 2 (some .boolean), Cond.methodLink RX6 51 yX6_leaderOf, Cond.instanceMethod yX6_leaderOf, Cond.selects RX6 yX6_leaderOf yX6_leaderOf, Cond.code yX6_leaderOf cX6_leaderOf 5 (some .int), Cond.methodLink RX6 45 yX1_copiedBy, Cond.instanceMethod yX1_copiedBy, Cond.selects RX1 yX1_copiedBy yX1_copiedBy]
def wsX6_groupOf_r2 : List Cond := [Cond.code yX1_copiedBy cX1_copiedBy 2 (some .int), Cond.fieldLink RX1 18 "SimonSays$Children" "copied" "[I", Cond.methodLink RX1 49 yX1_has]
def wsX6_groupOf : List Cond := .code yX6_groupOf cX6_groupOf 4 (some .int) :: ((wsX6_groupOf_r1 ++ wsX6_groupOf_r2) ++ wsX60 ++ wsX10)
def wsX6_streak : List Cond := .code yX6_streak cX6_streak 1 (some .int) :: ([.fieldLink RX6 32 "SimonSays$Round" "streak" "I"] ++ wsX60)
def wsX1_slipOf : List Cond := .code yX1_slipOf cX1_slipOf 2 (some .int) :: ([.fieldLink RX1 9 "SimonSays$Children" "slips" "[I", .methodLink RX1 49 yX1_has, .instanceMethod yX1_has, .selects RX1 yX1_has yX1_has, .initialized RX1, .code yX1_has cX1_has 2 (some .boolean), .fieldLink RX1 21 "SimonSays$Children" "size" "I"] ++ wsX10)
def wsX1_lateOf : List Cond := .code yX1_lateOf cX1_lateOf 2 (some .int) :: ([.fieldLink RX1 15 "SimonSays$Children" "lates" "[I", .methodLink RX1 49 yX1_has, .instanceMethod yX1_has, .selects RX1 yX1_has yX1_has, .initialized RX1, .code yX1_has cX1_has 2 (some .boolean), .fieldLink RX1 21 "SimonSays$Children" "size" "I"] ++ wsX10)
def wsX1_errsOf : List Cond := .code yX1_errsOf cX1_errsOf 4 (some .int) :: ([.methodLink RX1 53 Lib.Math.min.name, .static Lib.Math.min.name, .initialized "java/lang/Math", .code Lib.Math.min.name Lib.Math.min.code 2 (some .int), .methodLink RX1 31 yX1_slipOf, .instanceMethod yX1_slipOf, .selects RX1 yX1_slipOf yX1_slipOf, .initialized RX1, .code yX1_slipOf cX1_slipOf 2 (some .int), .fieldLink RX1 9 "SimonSays$Children" "slips" "[I", .methodLink RX1 49 yX1_has, .instanceMethod yX1_has, .selects RX1 yX1_has yX1_has, .code yX1_has cX1_has 2 (some .boolean), .fieldLink RX1 21 "SimonSays$Children" "size" "I", .methodLink RX1 35 yX1_lateOf, .instanceMethod yX1_lateOf, .selects RX1 yX1_lateOf yX1_lateOf, .code yX1_lateOf cX1_lateOf 2 (some .int), .fieldLink RX1 15 "SimonSays$Children" "lates" "[I"] ++ wsX10)
def wsX0_setFalls_r1 : List Cond := [Cond.fieldLink RX0 15 "SimonSays$Chances" "round" "LSimonSays$Round;", Cond.fieldLink RX0 9 "SimonSays$Chances" "told" "LSimonSays$Children;", Cond.methodLink RX0 43 yX6_whoIsIn, Cond.instanceMethod yX6_whoIsIn, Cond.selects RX6 yX6_whoIsIn yX6_whoIsIn, Cond.initialized RX6, Cond.code yX6_whoIsIn cX6_whoIsIn 1 (some .int), Cond.fieldLink RX6 29 "SimonSays$Round" "in" "I", Cond.methodLink RX0 27 yX1_size, Cond.instanceMethod yX1_size, Cond.selects RX1 yX1_size yX1_size, Cond.initialized RX1, Cond.code yX1_size cX1_size 1 (some .int), Cond.fieldLink RX1 21 "SimonSays$Children" "size" "I", Cond.methodLink RX0 33 yX6_isLeader, Cond.instanceMethod yX6_isLeader, Cond.selects RX6 yX6_isLeader yX6_isLeader, Cond.code yX6_isLeader cX6_isLeader 2 (some .boolean), Cond.methodLink RX6 48 yX6_isIn, Cond.instanceMethod yX6_isIn, Cond.selects RX6 yX6_isIn yX6_isIn, Cond.code yX6_isIn cX6_isIn 2 (some .boolean), Cond.fieldLink RX6 9 "SimonSays$Round" "told" "LSimonSays$Children;", Cond.methodLink RX6 41 yX1_has]
def wsX0_setFalls_r2 : List Cond := [Cond.instanceMethod yX1_has, Cond.selects RX1 yX1_has yX1_has, Cond.code yX1_has cX1_has 2 (some .boolean), Cond.methodLink RX6 51 yX6_leaderOf, Cond.instanceMethod yX6_leaderOf, Cond.selects RX6 yX6_leaderOf yX6_leaderOf, Cond.code yX6_leaderOf cX6_leaderOf 5 (some .int), Cond.methodLink RX6 45 yX1_copiedBy, Cond.instanceMethod yX1_copiedBy, Cond.selects RX1 yX1_copiedBy yX1_copiedBy, Cond.code yX1_copiedBy cX1_copiedBy 2 (some .int), Cond.fieldLink RX1 18 "SimonSays$Children" "copied" "[I", Cond.methodLink RX1 49 yX1_has, Cond.methodLink RX0 46 yX6_groupOf, Cond.instanceMethod yX6_groupOf, Cond.selects RX6 yX6_groupOf yX6_groupOf, Cond.code yX6_groupOf cX6_groupOf 4 (some .int), Cond.methodLink RX6 54 yX1_size, Cond.methodLink RX0 50 yX6_streak, Cond.instanceMethod yX6_streak, Cond.selects RX6 yX6_streak yX6_streak, Cond.code yX6_streak cX6_streak 1 (some .int), Cond.fieldLink RX6 32 "SimonSays$Round" "streak" "I", Cond.methodLink RX0 53 yX1_errsOf]
def wsX0_setFalls_r3 : List Cond := [Cond.instanceMethod yX1_errsOf, Cond.selects RX1 yX1_errsOf yX1_errsOf, Cond.code yX1_errsOf cX1_errsOf 4 (some .int), Cond.methodLink RX1 53 Lib.Math.min.name, Cond.static Lib.Math.min.name, Cond.initialized "java/lang/Math", Cond.code Lib.Math.min.name Lib.Math.min.code 2 (some .int), Cond.methodLink RX1 31 yX1_slipOf, Cond.instanceMethod yX1_slipOf, Cond.selects RX1 yX1_slipOf yX1_slipOf, Cond.code yX1_slipOf cX1_slipOf 2 (some .int), Cond.fieldLink RX1 9 "SimonSays$Children" "slips" "[I", Cond.methodLink RX1 35 yX1_lateOf, Cond.instanceMethod yX1_lateOf, Cond.selects RX1 yX1_lateOf yX1_lateOf, Cond.code yX1_lateOf cX1_lateOf 2 (some .int), Cond.fieldLink RX1 15 "SimonSays$Children" "lates" "[I"]
def wsX0_setFalls : List Cond := .code yX0_setFalls cX0_setFalls 8 (some .long) :: ((wsX0_setFalls_r1 ++ (wsX0_setFalls_r2 ++ wsX0_setFalls_r3)) ++ wsX00 ++ wsX60 ++ wsX10)
def wsJ6_bitCount_0f7a4 : List Cond := .code yJ6_bitCount_0f7a4 cJ6_bitCount_0f7a4 1 (some .int) :: ([.constant RJ6 265 (1431655765), .constant RJ6 266 (858993459), .constant RJ6 267 (252645135)])
def wsX0_addGroup : List Cond := .code yX0_addGroup cX0_addGroup 6 none :: ([.fieldLink RX0 23 "SimonSays$Chances" "byNumber" "[J"] ++ wsX00)
def wsX0_numberFalls_r1 : List Cond := [Cond.fieldLink RX0 23 "SimonSays$Chances" "byNumber" "[J", Cond.fieldLink RX0 9 "SimonSays$Chances" "told" "LSimonSays$Children;", Cond.fieldLink RX0 15 "SimonSays$Chances" "round" "LSimonSays$Round;", Cond.methodLink RX0 27 yX1_size, Cond.instanceMethod yX1_size, Cond.selects RX1 yX1_size yX1_size, Cond.initialized RX1, Cond.code yX1_size cX1_size 1 (some .int), Cond.fieldLink RX1 21 "SimonSays$Children" "size" "I", Cond.methodLink RX0 33 yX6_isLeader, Cond.instanceMethod yX6_isLeader, Cond.selects RX6 yX6_isLeader yX6_isLeader, Cond.initialized RX6, Cond.code yX6_isLeader cX6_isLeader 2 (some .boolean), Cond.methodLink RX6 48 yX6_isIn, Cond.instanceMethod yX6_isIn, Cond.selects RX6 yX6_isIn yX6_isIn, Cond.code yX6_isIn cX6_isIn 2 (some .boolean), Cond.fieldLink RX6 9 "SimonSays$Round" "told" "LSimonSays$Children;", Cond.fieldLink RX6 29 "SimonSays$Round" "in" "I", Cond.methodLink RX6 41 yX1_has, Cond.instanceMethod yX1_has, Cond.selects RX1 yX1_has yX1_has, Cond.code yX1_has cX1_has 2 (some .boolean)]
def wsX0_numberFalls_r2 : List Cond := [Cond.methodLink RX6 51 yX6_leaderOf, Cond.instanceMethod yX6_leaderOf, Cond.selects RX6 yX6_leaderOf yX6_leaderOf, Cond.code yX6_leaderOf cX6_leaderOf 5 (some .int), Cond.methodLink RX6 45 yX1_copiedBy, Cond.instanceMethod yX1_copiedBy, Cond.selects RX1 yX1_copiedBy yX1_copiedBy, Cond.code yX1_copiedBy cX1_copiedBy 2 (some .int), Cond.fieldLink RX1 18 "SimonSays$Children" "copied" "[I", Cond.methodLink RX1 49 yX1_has, Cond.methodLink RX0 46 yX6_groupOf, Cond.instanceMethod yX6_groupOf, Cond.selects RX6 yX6_groupOf yX6_groupOf, Cond.code yX6_groupOf cX6_groupOf 4 (some .int), Cond.methodLink RX6 54 yX1_size, Cond.methodLink RX0 57 yJ6_bitCount_0f7a4, Cond.static yJ6_bitCount_0f7a4, Cond.initialized RJ6, Cond.code yJ6_bitCount_0f7a4 cJ6_bitCount_0f7a4 1 (some .int), Cond.constant RJ6 265 (1431655765), Cond.constant RJ6 266 (858993459), Cond.constant RJ6 267 (252645135), Cond.methodLink RX0 50 yX6_streak, Cond.instanceMethod yX6_streak]
def wsX0_numberFalls_r3 : List Cond := [Cond.selects RX6 yX6_streak yX6_streak, Cond.code yX6_streak cX6_streak 1 (some .int), Cond.fieldLink RX6 32 "SimonSays$Round" "streak" "I", Cond.methodLink RX0 53 yX1_errsOf, Cond.instanceMethod yX1_errsOf, Cond.selects RX1 yX1_errsOf yX1_errsOf, Cond.code yX1_errsOf cX1_errsOf 4 (some .int), Cond.methodLink RX1 53 Lib.Math.min.name, Cond.static Lib.Math.min.name, Cond.initialized "java/lang/Math", Cond.code Lib.Math.min.name Lib.Math.min.code 2 (some .int), Cond.methodLink RX1 31 yX1_slipOf, Cond.instanceMethod yX1_slipOf, Cond.selects RX1 yX1_slipOf yX1_slipOf, Cond.code yX1_slipOf cX1_slipOf 2 (some .int), Cond.fieldLink RX1 9 "SimonSays$Children" "slips" "[I", Cond.methodLink RX1 35 yX1_lateOf, Cond.instanceMethod yX1_lateOf, Cond.selects RX1 yX1_lateOf yX1_lateOf, Cond.code yX1_lateOf cX1_lateOf 2 (some .int), Cond.fieldLink RX1 15 "SimonSays$Children" "lates" "[I", Cond.methodLink RX0 62 yX0_addGroup, Cond.instanceMethod yX0_addGroup, Cond.selects RX0 yX0_addGroup yX0_addGroup]
def wsX0_numberFalls_r4 : List Cond := [Cond.initialized RX0, Cond.code yX0_addGroup cX0_addGroup 6 none]
def wsX0_numberFalls : List Cond := .code yX0_numberFalls cX0_numberFalls 4 (some .long) :: ((wsX0_numberFalls_r1 ++ (wsX0_numberFalls_r2 ++ (wsX0_numberFalls_r3 ++ wsX0_numberFalls_r4))) ++ wsX00 ++ wsX10 ++ wsX60)
def wsX7_length : List Cond := .code yX7_length cX7_length 1 (some .int) :: ([.fieldLink RX7 15 "SimonSays$Row" "length" "I"] ++ wsX70)
def wsX7_orderAt : List Cond := .code yX7_orderAt cX7_orderAt 2 (some .int) :: ([.fieldLink RX7 15 "SimonSays$Row" "length" "I", .fieldLink RX7 9 "SimonSays$Row" "figures" "[I"] ++ wsX70)
def wsX9_streakBehind : List Cond := .code yX9_streakBehind cX9_streakBehind 2 (some .int) :: ([.methodLink RX9 265 Lib.Math.min.name, .static Lib.Math.min.name, .initialized "java/lang/Math", .code Lib.Math.min.name Lib.Math.min.code 2 (some .int)])
def wsX0_leaderStays_r1 : List Cond := [Cond.fieldLink RX0 15 "SimonSays$Chances" "round" "LSimonSays$Round;", Cond.fieldLink RX0 19 "SimonSays$Chances" "row" "LSimonSays$Row;", Cond.fieldLink RX0 9 "SimonSays$Chances" "told" "LSimonSays$Children;", Cond.methodLink RX0 50 yX6_streak, Cond.instanceMethod yX6_streak, Cond.selects RX6 yX6_streak yX6_streak, Cond.initialized RX6, Cond.code yX6_streak cX6_streak 1 (some .int), Cond.fieldLink RX6 32 "SimonSays$Round" "streak" "I", Cond.methodLink RX0 66 yX7_length, Cond.instanceMethod yX7_length, Cond.selects RX7 yX7_length yX7_length, Cond.initialized RX7, Cond.code yX7_length cX7_length 1 (some .int), Cond.fieldLink RX7 15 "SimonSays$Row" "length" "I", Cond.methodLink RX0 71 yX7_orderAt, Cond.instanceMethod yX7_orderAt, Cond.selects RX7 yX7_orderAt yX7_orderAt, Cond.code yX7_orderAt cX7_orderAt 2 (some .int), Cond.fieldLink RX7 9 "SimonSays$Row" "figures" "[I", Cond.methodLink RX0 53 yX1_errsOf, Cond.instanceMethod yX1_errsOf, Cond.selects RX1 yX1_errsOf yX1_errsOf, Cond.initialized RX1]
def wsX0_leaderStays_r2 : List Cond := [Cond.code yX1_errsOf cX1_errsOf 4 (some .int), Cond.methodLink RX1 53 Lib.Math.min.name, Cond.static Lib.Math.min.name, Cond.initialized "java/lang/Math", Cond.code Lib.Math.min.name Lib.Math.min.code 2 (some .int), Cond.methodLink RX1 31 yX1_slipOf, Cond.instanceMethod yX1_slipOf, Cond.selects RX1 yX1_slipOf yX1_slipOf, Cond.code yX1_slipOf cX1_slipOf 2 (some .int), Cond.fieldLink RX1 9 "SimonSays$Children" "slips" "[I", Cond.methodLink RX1 49 yX1_has, Cond.instanceMethod yX1_has, Cond.selects RX1 yX1_has yX1_has, Cond.code yX1_has cX1_has 2 (some .boolean), Cond.fieldLink RX1 21 "SimonSays$Children" "size" "I", Cond.methodLink RX1 35 yX1_lateOf, Cond.instanceMethod yX1_lateOf, Cond.selects RX1 yX1_lateOf yX1_lateOf, Cond.code yX1_lateOf cX1_lateOf 2 (some .int), Cond.fieldLink RX1 15 "SimonSays$Children" "lates" "[I", Cond.static yX9_streakBehind, Cond.initialized RX9, Cond.code yX9_streakBehind cX9_streakBehind 2 (some .int), Cond.methodLink RX9 265 Lib.Math.min.name]
def wsX0_leaderStays : List Cond := .code yX0_leaderStays cX0_leaderStays 7 (some .long) :: ((wsX0_leaderStays_r1 ++ wsX0_leaderStays_r2) ++ wsX00 ++ wsX60 ++ wsX70 ++ wsX10)
def wsX0_justOneStays_r1 : List Cond := [Cond.fieldLink RX0 19 "SimonSays$Chances" "row" "LSimonSays$Row;", Cond.fieldLink RX0 9 "SimonSays$Chances" "told" "LSimonSays$Children;", Cond.fieldLink RX0 15 "SimonSays$Chances" "round" "LSimonSays$Round;", Cond.methodLink RX0 66 yX7_length, Cond.instanceMethod yX7_length, Cond.selects RX7 yX7_length yX7_length, Cond.initialized RX7, Cond.code yX7_length cX7_length 1 (some .int), Cond.fieldLink RX7 15 "SimonSays$Row" "length" "I", Cond.static yX9_powerOfTen, Cond.initialized RX9, Cond.code yX9_powerOfTen cX9_powerOfTen 4 (some .long), Cond.constantLong RX9 270 (10), Cond.methodLink RX0 27 yX1_size, Cond.instanceMethod yX1_size, Cond.selects RX1 yX1_size yX1_size, Cond.initialized RX1, Cond.code yX1_size cX1_size 1 (some .int), Cond.fieldLink RX1 21 "SimonSays$Children" "size" "I", Cond.methodLink RX0 33 yX6_isLeader, Cond.instanceMethod yX6_isLeader, Cond.selects RX6 yX6_isLeader yX6_isLeader, Cond.initialized RX6, Cond.code yX6_isLeader cX6_isLeader 2 (some .boolean)]
def wsX0_justOneStays_r2 : List Cond := [Cond.methodLink RX6 48 yX6_isIn, Cond.instanceMethod yX6_isIn, Cond.selects RX6 yX6_isIn yX6_isIn, Cond.code yX6_isIn cX6_isIn 2 (some .boolean), Cond.fieldLink RX6 9 "SimonSays$Round" "told" "LSimonSays$Children;", Cond.fieldLink RX6 29 "SimonSays$Round" "in" "I", Cond.methodLink RX6 41 yX1_has, Cond.instanceMethod yX1_has, Cond.selects RX1 yX1_has yX1_has, Cond.code yX1_has cX1_has 2 (some .boolean), Cond.methodLink RX6 51 yX6_leaderOf, Cond.instanceMethod yX6_leaderOf, Cond.selects RX6 yX6_leaderOf yX6_leaderOf, Cond.code yX6_leaderOf cX6_leaderOf 5 (some .int), Cond.methodLink RX6 45 yX1_copiedBy, Cond.instanceMethod yX1_copiedBy, Cond.selects RX1 yX1_copiedBy yX1_copiedBy, Cond.code yX1_copiedBy cX1_copiedBy 2 (some .int), Cond.fieldLink RX1 18 "SimonSays$Children" "copied" "[I", Cond.methodLink RX1 49 yX1_has, Cond.methodLink RX0 78 yX0_leaderStays, Cond.instanceMethod yX0_leaderStays, Cond.selects RX0 yX0_leaderStays yX0_leaderStays, Cond.initialized RX0]
def wsX0_justOneStays_r3 : List Cond := [Cond.code yX0_leaderStays cX0_leaderStays 7 (some .long), Cond.methodLink RX0 50 yX6_streak, Cond.instanceMethod yX6_streak, Cond.selects RX6 yX6_streak yX6_streak, Cond.code yX6_streak cX6_streak 1 (some .int), Cond.fieldLink RX6 32 "SimonSays$Round" "streak" "I", Cond.methodLink RX0 71 yX7_orderAt, Cond.instanceMethod yX7_orderAt, Cond.selects RX7 yX7_orderAt yX7_orderAt, Cond.code yX7_orderAt cX7_orderAt 2 (some .int), Cond.fieldLink RX7 9 "SimonSays$Row" "figures" "[I", Cond.methodLink RX0 53 yX1_errsOf, Cond.instanceMethod yX1_errsOf, Cond.selects RX1 yX1_errsOf yX1_errsOf, Cond.code yX1_errsOf cX1_errsOf 4 (some .int), Cond.methodLink RX1 53 Lib.Math.min.name, Cond.static Lib.Math.min.name, Cond.initialized "java/lang/Math", Cond.code Lib.Math.min.name Lib.Math.min.code 2 (some .int), Cond.methodLink RX1 31 yX1_slipOf, Cond.instanceMethod yX1_slipOf, Cond.selects RX1 yX1_slipOf yX1_slipOf, Cond.code yX1_slipOf cX1_slipOf 2 (some .int), Cond.fieldLink RX1 9 "SimonSays$Children" "slips" "[I"]
def wsX0_justOneStays_r4 : List Cond := [Cond.methodLink RX1 35 yX1_lateOf, Cond.instanceMethod yX1_lateOf, Cond.selects RX1 yX1_lateOf yX1_lateOf, Cond.code yX1_lateOf cX1_lateOf 2 (some .int), Cond.fieldLink RX1 15 "SimonSays$Children" "lates" "[I", Cond.static yX9_streakBehind, Cond.code yX9_streakBehind cX9_streakBehind 2 (some .int), Cond.methodLink RX9 265 Lib.Math.min.name, Cond.methodLink RX0 46 yX6_groupOf, Cond.instanceMethod yX6_groupOf, Cond.selects RX6 yX6_groupOf yX6_groupOf, Cond.code yX6_groupOf cX6_groupOf 4 (some .int), Cond.methodLink RX6 54 yX1_size, Cond.methodLink RX0 57 yJ6_bitCount_0f7a4, Cond.static yJ6_bitCount_0f7a4, Cond.initialized RJ6, Cond.code yJ6_bitCount_0f7a4 cJ6_bitCount_0f7a4 1 (some .int), Cond.constant RJ6 265 (1431655765), Cond.constant RJ6 266 (858993459), Cond.constant RJ6 267 (252645135)]
def wsX0_justOneStays : List Cond := .code yX0_justOneStays cX0_justOneStays 13 (some .long) :: ((wsX0_justOneStays_r1 ++ (wsX0_justOneStays_r2 ++ (wsX0_justOneStays_r3 ++ wsX0_justOneStays_r4))) ++ wsX00 ++ wsX70 ++ wsX10 ++ wsX60)
def wsX0_rowNumber : List Cond := .code yX0_rowNumber cX0_rowNumber 4 (some .int) :: ([])
def wsX9_isOrder : List Cond := .code yX9_isOrder cX9_isOrder 1 (some .boolean) :: ([])
def wsX7_read : List Cond := .code yX7_read cX7_read 5 (some .boolean) :: ([.fieldLink RX7 15 "SimonSays$Row" "length" "I", .fieldLink RX7 9 "SimonSays$Row" "figures" "[I", .static yX9_isOrder, .initialized RX9, .code yX9_isOrder cX9_isOrder 1 (some .boolean)] ++ wsX70)
def wsX0_bestRow_r1 : List Cond := [Cond.constantLong RX0 81 (-1), Cond.fieldLink RX0 19 "SimonSays$Chances" "row" "LSimonSays$Row;", Cond.methodLink RX0 83 yX0_rowNumber, Cond.static yX0_rowNumber, Cond.initialized RX0, Cond.code yX0_rowNumber cX0_rowNumber 4 (some .int), Cond.methodLink RX0 86 yX7_read, Cond.instanceMethod yX7_read, Cond.selects RX7 yX7_read yX7_read, Cond.initialized RX7, Cond.code yX7_read cX7_read 5 (some .boolean), Cond.fieldLink RX7 15 "SimonSays$Row" "length" "I", Cond.fieldLink RX7 9 "SimonSays$Row" "figures" "[I", Cond.static yX9_isOrder, Cond.initialized RX9, Cond.code yX9_isOrder cX9_isOrder 1 (some .boolean), Cond.methodLink RX0 90 yX0_justOneStays, Cond.instanceMethod yX0_justOneStays, Cond.selects RX0 yX0_justOneStays yX0_justOneStays, Cond.code yX0_justOneStays cX0_justOneStays 13 (some .long), Cond.fieldLink RX0 9 "SimonSays$Chances" "told" "LSimonSays$Children;", Cond.fieldLink RX0 15 "SimonSays$Chances" "round" "LSimonSays$Round;", Cond.methodLink RX0 66 yX7_length, Cond.instanceMethod yX7_length]
def wsX0_bestRow_r2 : List Cond := [Cond.selects RX7 yX7_length yX7_length, Cond.code yX7_length cX7_length 1 (some .int), Cond.static yX9_powerOfTen, Cond.code yX9_powerOfTen cX9_powerOfTen 4 (some .long), Cond.constantLong RX9 270 (10), Cond.methodLink RX0 27 yX1_size, Cond.instanceMethod yX1_size, Cond.selects RX1 yX1_size yX1_size, Cond.initialized RX1, Cond.code yX1_size cX1_size 1 (some .int), Cond.fieldLink RX1 21 "SimonSays$Children" "size" "I", Cond.methodLink RX0 33 yX6_isLeader, Cond.instanceMethod yX6_isLeader, Cond.selects RX6 yX6_isLeader yX6_isLeader, Cond.initialized RX6, Cond.code yX6_isLeader cX6_isLeader 2 (some .boolean), Cond.methodLink RX6 48 yX6_isIn, Cond.instanceMethod yX6_isIn, Cond.selects RX6 yX6_isIn yX6_isIn, Cond.code yX6_isIn cX6_isIn 2 (some .boolean), Cond.fieldLink RX6 9 "SimonSays$Round" "told" "LSimonSays$Children;", Cond.fieldLink RX6 29 "SimonSays$Round" "in" "I", Cond.methodLink RX6 41 yX1_has, Cond.instanceMethod yX1_has]
def wsX0_bestRow_r3 : List Cond := [Cond.selects RX1 yX1_has yX1_has, Cond.code yX1_has cX1_has 2 (some .boolean), Cond.methodLink RX6 51 yX6_leaderOf, Cond.instanceMethod yX6_leaderOf, Cond.selects RX6 yX6_leaderOf yX6_leaderOf, Cond.code yX6_leaderOf cX6_leaderOf 5 (some .int), Cond.methodLink RX6 45 yX1_copiedBy, Cond.instanceMethod yX1_copiedBy, Cond.selects RX1 yX1_copiedBy yX1_copiedBy, Cond.code yX1_copiedBy cX1_copiedBy 2 (some .int), Cond.fieldLink RX1 18 "SimonSays$Children" "copied" "[I", Cond.methodLink RX1 49 yX1_has, Cond.methodLink RX0 78 yX0_leaderStays, Cond.instanceMethod yX0_leaderStays, Cond.selects RX0 yX0_leaderStays yX0_leaderStays, Cond.code yX0_leaderStays cX0_leaderStays 7 (some .long), Cond.methodLink RX0 50 yX6_streak, Cond.instanceMethod yX6_streak, Cond.selects RX6 yX6_streak yX6_streak, Cond.code yX6_streak cX6_streak 1 (some .int), Cond.fieldLink RX6 32 "SimonSays$Round" "streak" "I", Cond.methodLink RX0 71 yX7_orderAt, Cond.instanceMethod yX7_orderAt, Cond.selects RX7 yX7_orderAt yX7_orderAt]
def wsX0_bestRow_r4 : List Cond := [Cond.code yX7_orderAt cX7_orderAt 2 (some .int), Cond.methodLink RX0 53 yX1_errsOf, Cond.instanceMethod yX1_errsOf, Cond.selects RX1 yX1_errsOf yX1_errsOf, Cond.code yX1_errsOf cX1_errsOf 4 (some .int), Cond.methodLink RX1 53 Lib.Math.min.name, Cond.static Lib.Math.min.name, Cond.initialized "java/lang/Math", Cond.code Lib.Math.min.name Lib.Math.min.code 2 (some .int), Cond.methodLink RX1 31 yX1_slipOf, Cond.instanceMethod yX1_slipOf, Cond.selects RX1 yX1_slipOf yX1_slipOf, Cond.code yX1_slipOf cX1_slipOf 2 (some .int), Cond.fieldLink RX1 9 "SimonSays$Children" "slips" "[I", Cond.methodLink RX1 35 yX1_lateOf, Cond.instanceMethod yX1_lateOf, Cond.selects RX1 yX1_lateOf yX1_lateOf, Cond.code yX1_lateOf cX1_lateOf 2 (some .int), Cond.fieldLink RX1 15 "SimonSays$Children" "lates" "[I", Cond.static yX9_streakBehind, Cond.code yX9_streakBehind cX9_streakBehind 2 (some .int), Cond.methodLink RX9 265 Lib.Math.min.name, Cond.methodLink RX0 46 yX6_groupOf, Cond.instanceMethod yX6_groupOf]
def wsX0_bestRow_r5 : List Cond := [Cond.selects RX6 yX6_groupOf yX6_groupOf, Cond.code yX6_groupOf cX6_groupOf 4 (some .int), Cond.methodLink RX6 54 yX1_size, Cond.methodLink RX0 57 yJ6_bitCount_0f7a4, Cond.static yJ6_bitCount_0f7a4, Cond.initialized RJ6, Cond.code yJ6_bitCount_0f7a4 cJ6_bitCount_0f7a4 1 (some .int), Cond.constant RJ6 265 (1431655765), Cond.constant RJ6 266 (858993459), Cond.constant RJ6 267 (252645135)]
def wsX0_bestRow : List Cond := .code yX0_bestRow cX0_bestRow 9 (some .int) :: ((wsX0_bestRow_r1 ++ (wsX0_bestRow_r2 ++ (wsX0_bestRow_r3 ++ (wsX0_bestRow_r4 ++ wsX0_bestRow_r5)))) ++ wsX00 ++ wsX70 ++ wsX10 ++ wsX60)
def wsX0_ordersThatCould_r1 : List Cond := [Cond.methodLink RX0 94 yX0_setFalls, Cond.instanceMethod yX0_setFalls, Cond.selects RX0 yX0_setFalls yX0_setFalls, Cond.initialized RX0, Cond.code yX0_setFalls cX0_setFalls 8 (some .long), Cond.fieldLink RX0 15 "SimonSays$Chances" "round" "LSimonSays$Round;", Cond.fieldLink RX0 9 "SimonSays$Chances" "told" "LSimonSays$Children;", Cond.methodLink RX0 43 yX6_whoIsIn, Cond.instanceMethod yX6_whoIsIn, Cond.selects RX6 yX6_whoIsIn yX6_whoIsIn, Cond.initialized RX6, Cond.code yX6_whoIsIn cX6_whoIsIn 1 (some .int), Cond.fieldLink RX6 29 "SimonSays$Round" "in" "I", Cond.methodLink RX0 27 yX1_size, Cond.instanceMethod yX1_size, Cond.selects RX1 yX1_size yX1_size, Cond.initialized RX1, Cond.code yX1_size cX1_size 1 (some .int), Cond.fieldLink RX1 21 "SimonSays$Children" "size" "I", Cond.methodLink RX0 33 yX6_isLeader, Cond.instanceMethod yX6_isLeader, Cond.selects RX6 yX6_isLeader yX6_isLeader, Cond.code yX6_isLeader cX6_isLeader 2 (some .boolean), Cond.methodLink RX6 48 yX6_isIn]
def wsX0_ordersThatCould_r2 : List Cond := [Cond.instanceMethod yX6_isIn, Cond.selects RX6 yX6_isIn yX6_isIn, Cond.code yX6_isIn cX6_isIn 2 (some .boolean), Cond.fieldLink RX6 9 "SimonSays$Round" "told" "LSimonSays$Children;", Cond.methodLink RX6 41 yX1_has, Cond.instanceMethod yX1_has, Cond.selects RX1 yX1_has yX1_has, Cond.code yX1_has cX1_has 2 (some .boolean), Cond.methodLink RX6 51 yX6_leaderOf, Cond.instanceMethod yX6_leaderOf, Cond.selects RX6 yX6_leaderOf yX6_leaderOf, Cond.code yX6_leaderOf cX6_leaderOf 5 (some .int), Cond.methodLink RX6 45 yX1_copiedBy, Cond.instanceMethod yX1_copiedBy, Cond.selects RX1 yX1_copiedBy yX1_copiedBy, Cond.code yX1_copiedBy cX1_copiedBy 2 (some .int), Cond.fieldLink RX1 18 "SimonSays$Children" "copied" "[I", Cond.methodLink RX1 49 yX1_has, Cond.methodLink RX0 46 yX6_groupOf, Cond.instanceMethod yX6_groupOf, Cond.selects RX6 yX6_groupOf yX6_groupOf, Cond.code yX6_groupOf cX6_groupOf 4 (some .int), Cond.methodLink RX6 54 yX1_size, Cond.methodLink RX0 50 yX6_streak]
def wsX0_ordersThatCould_r3 : List Cond := [Cond.instanceMethod yX6_streak, Cond.selects RX6 yX6_streak yX6_streak, Cond.code yX6_streak cX6_streak 1 (some .int), Cond.fieldLink RX6 32 "SimonSays$Round" "streak" "I", Cond.methodLink RX0 53 yX1_errsOf, Cond.instanceMethod yX1_errsOf, Cond.selects RX1 yX1_errsOf yX1_errsOf, Cond.code yX1_errsOf cX1_errsOf 4 (some .int), Cond.methodLink RX1 53 Lib.Math.min.name, Cond.static Lib.Math.min.name, Cond.initialized "java/lang/Math", Cond.code Lib.Math.min.name Lib.Math.min.code 2 (some .int), Cond.methodLink RX1 31 yX1_slipOf, Cond.instanceMethod yX1_slipOf, Cond.selects RX1 yX1_slipOf yX1_slipOf, Cond.code yX1_slipOf cX1_slipOf 2 (some .int), Cond.fieldLink RX1 9 "SimonSays$Children" "slips" "[I", Cond.methodLink RX1 35 yX1_lateOf, Cond.instanceMethod yX1_lateOf, Cond.selects RX1 yX1_lateOf yX1_lateOf, Cond.code yX1_lateOf cX1_lateOf 2 (some .int), Cond.fieldLink RX1 15 "SimonSays$Children" "lates" "[I"]
def wsX0_ordersThatCould : List Cond := .code yX0_ordersThatCould cX0_ordersThatCould 4 (some .int) :: ((wsX0_ordersThatCould_r1 ++ (wsX0_ordersThatCould_r2 ++ wsX0_ordersThatCould_r3)) ++ wsX00 ++ wsX60 ++ wsX10)
def wsX0_likeliestOrder_r1 : List Cond := [Cond.methodLink RX0 94 yX0_setFalls, Cond.instanceMethod yX0_setFalls, Cond.selects RX0 yX0_setFalls yX0_setFalls, Cond.initialized RX0, Cond.code yX0_setFalls cX0_setFalls 8 (some .long), Cond.fieldLink RX0 15 "SimonSays$Chances" "round" "LSimonSays$Round;", Cond.fieldLink RX0 9 "SimonSays$Chances" "told" "LSimonSays$Children;", Cond.methodLink RX0 43 yX6_whoIsIn, Cond.instanceMethod yX6_whoIsIn, Cond.selects RX6 yX6_whoIsIn yX6_whoIsIn, Cond.initialized RX6, Cond.code yX6_whoIsIn cX6_whoIsIn 1 (some .int), Cond.fieldLink RX6 29 "SimonSays$Round" "in" "I", Cond.methodLink RX0 27 yX1_size, Cond.instanceMethod yX1_size, Cond.selects RX1 yX1_size yX1_size, Cond.initialized RX1, Cond.code yX1_size cX1_size 1 (some .int), Cond.fieldLink RX1 21 "SimonSays$Children" "size" "I", Cond.methodLink RX0 33 yX6_isLeader, Cond.instanceMethod yX6_isLeader, Cond.selects RX6 yX6_isLeader yX6_isLeader, Cond.code yX6_isLeader cX6_isLeader 2 (some .boolean), Cond.methodLink RX6 48 yX6_isIn]
def wsX0_likeliestOrder_r2 : List Cond := [Cond.instanceMethod yX6_isIn, Cond.selects RX6 yX6_isIn yX6_isIn, Cond.code yX6_isIn cX6_isIn 2 (some .boolean), Cond.fieldLink RX6 9 "SimonSays$Round" "told" "LSimonSays$Children;", Cond.methodLink RX6 41 yX1_has, Cond.instanceMethod yX1_has, Cond.selects RX1 yX1_has yX1_has, Cond.code yX1_has cX1_has 2 (some .boolean), Cond.methodLink RX6 51 yX6_leaderOf, Cond.instanceMethod yX6_leaderOf, Cond.selects RX6 yX6_leaderOf yX6_leaderOf, Cond.code yX6_leaderOf cX6_leaderOf 5 (some .int), Cond.methodLink RX6 45 yX1_copiedBy, Cond.instanceMethod yX1_copiedBy, Cond.selects RX1 yX1_copiedBy yX1_copiedBy, Cond.code yX1_copiedBy cX1_copiedBy 2 (some .int), Cond.fieldLink RX1 18 "SimonSays$Children" "copied" "[I", Cond.methodLink RX1 49 yX1_has, Cond.methodLink RX0 46 yX6_groupOf, Cond.instanceMethod yX6_groupOf, Cond.selects RX6 yX6_groupOf yX6_groupOf, Cond.code yX6_groupOf cX6_groupOf 4 (some .int), Cond.methodLink RX6 54 yX1_size, Cond.methodLink RX0 50 yX6_streak]
def wsX0_likeliestOrder_r3 : List Cond := [Cond.instanceMethod yX6_streak, Cond.selects RX6 yX6_streak yX6_streak, Cond.code yX6_streak cX6_streak 1 (some .int), Cond.fieldLink RX6 32 "SimonSays$Round" "streak" "I", Cond.methodLink RX0 53 yX1_errsOf, Cond.instanceMethod yX1_errsOf, Cond.selects RX1 yX1_errsOf yX1_errsOf, Cond.code yX1_errsOf cX1_errsOf 4 (some .int), Cond.methodLink RX1 53 Lib.Math.min.name, Cond.static Lib.Math.min.name, Cond.initialized "java/lang/Math", Cond.code Lib.Math.min.name Lib.Math.min.code 2 (some .int), Cond.methodLink RX1 31 yX1_slipOf, Cond.instanceMethod yX1_slipOf, Cond.selects RX1 yX1_slipOf yX1_slipOf, Cond.code yX1_slipOf cX1_slipOf 2 (some .int), Cond.fieldLink RX1 9 "SimonSays$Children" "slips" "[I", Cond.methodLink RX1 35 yX1_lateOf, Cond.instanceMethod yX1_lateOf, Cond.selects RX1 yX1_lateOf yX1_lateOf, Cond.code yX1_lateOf cX1_lateOf 2 (some .int), Cond.fieldLink RX1 15 "SimonSays$Children" "lates" "[I"]
def wsX0_likeliestOrder : List Cond := .code yX0_likeliestOrder cX0_likeliestOrder 8 (some .int) :: ((wsX0_likeliestOrder_r1 ++ (wsX0_likeliestOrder_r2 ++ wsX0_likeliestOrder_r3)) ++ wsX00 ++ wsX60 ++ wsX10)
def wsX1_init : List Cond := .code yX1_init cX1_init 1 none :: ([.methodLink RX1 3 objectInit, .instanceMethod objectInit, .code objectInit ⟨#[0xb1]⟩ 1 none, .arrayClass .int, .fieldLink RX1 9 "SimonSays$Children" "slips" "[I", .fieldLink RX1 15 "SimonSays$Children" "lates" "[I", .fieldLink RX1 18 "SimonSays$Children" "copied" "[I"] ++ wsX10)
def wsX1_forget : List Cond := .code yX1_forget cX1_forget 1 none :: ([.fieldLink RX1 21 "SimonSays$Children" "size" "I", .fieldLink RX1 25 "SimonSays$Children" "littleOnes" "I"] ++ wsX10)
def wsX1_add : List Cond := .code yX1_add cX1_add 4 none :: ([.fieldLink RX1 21 "SimonSays$Children" "size" "I", .fieldLink RX1 9 "SimonSays$Children" "slips" "[I", .fieldLink RX1 15 "SimonSays$Children" "lates" "[I", .fieldLink RX1 18 "SimonSays$Children" "copied" "[I"] ++ wsX10)
def wsX1_makeLittle : List Cond := .code yX1_makeLittle cX1_makeLittle 2 none :: ([.fieldLink RX1 25 "SimonSays$Children" "littleOnes" "I"] ++ wsX10)
def wsX1_takeOver_r1 : List Cond := [Cond.fieldLink RX1 21 "SimonSays$Children" "size" "I", Cond.fieldLink RX1 25 "SimonSays$Children" "littleOnes" "I", Cond.methodLink RX1 28 yX1_forget, Cond.instanceMethod yX1_forget, Cond.selects RX1 yX1_forget yX1_forget, Cond.initialized RX1, Cond.code yX1_forget cX1_forget 1 none, Cond.methodLink RX1 31 yX1_slipOf, Cond.instanceMethod yX1_slipOf, Cond.selects RX1 yX1_slipOf yX1_slipOf, Cond.code yX1_slipOf cX1_slipOf 2 (some .int), Cond.fieldLink RX1 9 "SimonSays$Children" "slips" "[I", Cond.methodLink RX1 49 yX1_has, Cond.instanceMethod yX1_has, Cond.selects RX1 yX1_has yX1_has, Cond.code yX1_has cX1_has 2 (some .boolean), Cond.methodLink RX1 35 yX1_lateOf, Cond.instanceMethod yX1_lateOf, Cond.selects RX1 yX1_lateOf yX1_lateOf, Cond.code yX1_lateOf cX1_lateOf 2 (some .int), Cond.fieldLink RX1 15 "SimonSays$Children" "lates" "[I", Cond.methodLink RX1 38 yX1_copiedBy, Cond.instanceMethod yX1_copiedBy, Cond.selects RX1 yX1_copiedBy yX1_copiedBy]
def wsX1_takeOver_r2 : List Cond := [Cond.code yX1_copiedBy cX1_copiedBy 2 (some .int), Cond.fieldLink RX1 18 "SimonSays$Children" "copied" "[I", Cond.methodLink RX1 41 yX1_add, Cond.instanceMethod yX1_add, Cond.selects RX1 yX1_add yX1_add, Cond.code yX1_add cX1_add 4 none]
def wsX1_takeOver : List Cond := .code yX1_takeOver cX1_takeOver 3 none :: ((wsX1_takeOver_r1 ++ wsX1_takeOver_r2) ++ wsX10)
def wsX1_littleOnes : List Cond := .code yX1_littleOnes cX1_littleOnes 1 (some .int) :: ([.fieldLink RX1 25 "SimonSays$Children" "littleOnes" "I"] ++ wsX10)
def wsX1_everyone : List Cond := .code yX1_everyone cX1_everyone 1 (some .int) :: ([.fieldLink RX1 21 "SimonSays$Children" "size" "I"] ++ wsX10)
def wsX1_isSet : List Cond := .code yX1_isSet cX1_isSet 2 (some .boolean) :: ([.methodLink RX1 45 yX1_everyone, .instanceMethod yX1_everyone, .selects RX1 yX1_everyone yX1_everyone, .initialized RX1, .code yX1_everyone cX1_everyone 1 (some .int), .fieldLink RX1 21 "SimonSays$Children" "size" "I"] ++ wsX10)
def wsX1_isLittle : List Cond := .code yX1_isLittle cX1_isLittle 2 (some .boolean) :: ([.fieldLink RX1 25 "SimonSays$Children" "littleOnes" "I", .methodLink RX1 49 yX1_has, .instanceMethod yX1_has, .selects RX1 yX1_has yX1_has, .initialized RX1, .code yX1_has cX1_has 2 (some .boolean), .fieldLink RX1 21 "SimonSays$Children" "size" "I"] ++ wsX10)
def wsX1_howManyCopy : List Cond := .code yX1_howManyCopy cX1_howManyCopy 4 (some .int) :: ([.fieldLink RX1 21 "SimonSays$Children" "size" "I", .methodLink RX1 38 yX1_copiedBy, .instanceMethod yX1_copiedBy, .selects RX1 yX1_copiedBy yX1_copiedBy, .initialized RX1, .code yX1_copiedBy cX1_copiedBy 2 (some .int), .fieldLink RX1 18 "SimonSays$Children" "copied" "[I", .methodLink RX1 49 yX1_has, .instanceMethod yX1_has, .selects RX1 yX1_has yX1_has, .code yX1_has cX1_has 2 (some .boolean)] ++ wsX10)
def wsX2_init : List Cond := .code yX2_init cX2_init 1 none :: ([.methodLink RX2 3 objectInit, .instanceMethod objectInit, .code objectInit ⟨#[0xb1]⟩ 1 none, .arrayClass .int, .fieldLink RX2 9 "SimonSays$History" "ins" "[I", .fieldLink RX2 15 "SimonSays$History" "streaks" "[I"] ++ wsX20)
def wsX2_size : List Cond := .code yX2_size cX2_size 1 (some .int) :: ([.fieldLink RX2 18 "SimonSays$History" "size" "I"] ++ wsX20)
def wsX2_forget : List Cond := .code yX2_forget cX2_forget 1 none :: ([.fieldLink RX2 18 "SimonSays$History" "size" "I"] ++ wsX20)
def wsX2_loseOldest : List Cond := .code yX2_loseOldest cX2_loseOldest 1 none :: ([.fieldLink RX2 18 "SimonSays$History" "size" "I", .fieldLink RX2 9 "SimonSays$History" "ins" "[I", .methodLink RX2 25 arraycopyName, .native arraycopyName, .static arraycopyName, .initialized "java/lang/System", .fieldLink RX2 15 "SimonSays$History" "streaks" "[I"] ++ wsX20)
def wsX2_add : List Cond := .code yX2_add cX2_add 3 none :: ([.fieldLink RX2 18 "SimonSays$History" "size" "I", .fieldLink RX2 9 "SimonSays$History" "ins" "[I", .fieldLink RX2 15 "SimonSays$History" "streaks" "[I", .methodLink RX2 22 yX2_loseOldest, .instanceMethod yX2_loseOldest, .selects RX2 yX2_loseOldest yX2_loseOldest, .initialized RX2, .code yX2_loseOldest cX2_loseOldest 1 none, .methodLink RX2 25 arraycopyName, .native arraycopyName, .static arraycopyName, .initialized "java/lang/System"] ++ wsX20)
def wsX2_dropLatest : List Cond := .code yX2_dropLatest cX2_dropLatest 1 none :: ([.fieldLink RX2 18 "SimonSays$History" "size" "I"] ++ wsX20)
def wsX2_droppedIn : List Cond := .code yX2_droppedIn cX2_droppedIn 1 (some .int) :: ([.fieldLink RX2 18 "SimonSays$History" "size" "I", .fieldLink RX2 9 "SimonSays$History" "ins" "[I"] ++ wsX20)
def wsX2_droppedStreak : List Cond := .code yX2_droppedStreak cX2_droppedStreak 1 (some .int) :: ([.fieldLink RX2 18 "SimonSays$History" "size" "I", .fieldLink RX2 15 "SimonSays$History" "streaks" "[I"] ++ wsX20)
def wsX3_init : List Cond := .code yX3_init cX3_init 1 none :: ([.methodLink RX3 1 objectInit, .instanceMethod objectInit, .code objectInit ⟨#[0xb1]⟩ 1 none, .fieldLink RX3 7 "SimonSays$Image" "kept" "Z"] ++ wsX30)
def wsX3_isKept : List Cond := .code yX3_isKept cX3_isKept 1 (some .boolean) :: ([.fieldLink RX3 7 "SimonSays$Image" "kept" "Z"] ++ wsX30)
def wsX3_forget : List Cond := .code yX3_forget cX3_forget 1 none :: ([.fieldLink RX3 7 "SimonSays$Image" "kept" "Z"] ++ wsX30)
def wsX6_theLot : List Cond := .code yX6_theLot cX6_theLot 1 (some .int) :: ([.fieldLink RX6 15 "SimonSays$Round" "lot" "I"] ++ wsX60)
def wsX3_take : List Cond := .code yX3_take cX3_take 2 none :: ([.fieldLink RX3 7 "SimonSays$Image" "kept" "Z", .fieldLink RX3 19 "SimonSays$Image" "in" "I", .fieldLink RX3 26 "SimonSays$Image" "streak" "I", .fieldLink RX3 31 "SimonSays$Image" "lot" "I", .methodLink RX3 13 yX6_whoIsIn, .instanceMethod yX6_whoIsIn, .selects RX6 yX6_whoIsIn yX6_whoIsIn, .initialized RX6, .code yX6_whoIsIn cX6_whoIsIn 1 (some .int), .fieldLink RX6 29 "SimonSays$Round" "in" "I", .methodLink RX3 23 yX6_streak, .instanceMethod yX6_streak, .selects RX6 yX6_streak yX6_streak, .code yX6_streak cX6_streak 1 (some .int), .fieldLink RX6 32 "SimonSays$Round" "streak" "I", .methodLink RX3 28 yX6_theLot, .instanceMethod yX6_theLot, .selects RX6 yX6_theLot yX6_theLot, .code yX6_theLot cX6_theLot 1 (some .int), .fieldLink RX6 15 "SimonSays$Round" "lot" "I"] ++ wsX30 ++ wsX60)
def wsX6_become : List Cond := .code yX6_become cX6_become 3 none :: ([.fieldLink RX6 29 "SimonSays$Round" "in" "I", .fieldLink RX6 32 "SimonSays$Round" "streak" "I"] ++ wsX60)
def wsX6_setLot : List Cond := .code yX6_setLot cX6_setLot 2 none :: ([.fieldLink RX6 15 "SimonSays$Round" "lot" "I"] ++ wsX60)
def wsX3_giveTo : List Cond := .code yX3_giveTo cX3_giveTo 2 none :: ([.fieldLink RX3 19 "SimonSays$Image" "in" "I", .fieldLink RX3 26 "SimonSays$Image" "streak" "I", .fieldLink RX3 31 "SimonSays$Image" "lot" "I", .methodLink RX3 34 yX6_become, .instanceMethod yX6_become, .selects RX6 yX6_become yX6_become, .initialized RX6, .code yX6_become cX6_become 3 none, .fieldLink RX6 29 "SimonSays$Round" "in" "I", .fieldLink RX6 32 "SimonSays$Round" "streak" "I", .methodLink RX3 38 yX6_setLot, .instanceMethod yX6_setLot, .selects RX6 yX6_setLot yX6_setLot, .code yX6_setLot cX6_setLot 2 none, .fieldLink RX6 15 "SimonSays$Round" "lot" "I"] ++ wsX30 ++ wsX60)
def wsX4_init : List Cond := .code yX4_init cX4_init 3 none :: ([.methodLink RX4 3 objectInit, .instanceMethod objectInit, .code objectInit ⟨#[0xb1]⟩ 1 none, .fieldLink RX4 9 "SimonSays$Kinds" "told" "LSimonSays$Children;", .fieldLink RX4 15 "SimonSays$Kinds" "round" "LSimonSays$Round;"] ++ wsX40)
def wsX4_theTrace : List Cond := .code yX4_theTrace cX4_theTrace 1 (some .long) :: ([.fieldLink RX4 19 "SimonSays$Kinds" "trace" "J"] ++ wsX40)
def wsX4_asChild : List Cond := .code yX4_asChild cX4_asChild 2 (some .int) :: ([.fieldLink RX4 19 "SimonSays$Kinds" "trace" "J", .fieldLink RX4 9 "SimonSays$Kinds" "told" "LSimonSays$Children;", .methodLink RX4 43 yX1_slipOf, .instanceMethod yX1_slipOf, .selects RX1 yX1_slipOf yX1_slipOf, .initialized RX1, .code yX1_slipOf cX1_slipOf 2 (some .int), .fieldLink RX1 9 "SimonSays$Children" "slips" "[I", .methodLink RX1 49 yX1_has, .instanceMethod yX1_has, .selects RX1 yX1_has yX1_has, .code yX1_has cX1_has 2 (some .boolean), .fieldLink RX1 21 "SimonSays$Children" "size" "I"] ++ wsX40 ++ wsX10)
def wsX4_asDreamer_r1 : List Cond := [Cond.fieldLink RX4 19 "SimonSays$Kinds" "trace" "J", Cond.constantLong RX4 48 (10), Cond.fieldLink RX4 15 "SimonSays$Kinds" "round" "LSimonSays$Round;", Cond.methodLink RX4 23 yX4_asChild, Cond.instanceMethod yX4_asChild, Cond.selects RX4 yX4_asChild yX4_asChild, Cond.initialized RX4, Cond.code yX4_asChild cX4_asChild 2 (some .int), Cond.fieldLink RX4 9 "SimonSays$Kinds" "told" "LSimonSays$Children;", Cond.methodLink RX4 43 yX1_slipOf, Cond.instanceMethod yX1_slipOf, Cond.selects RX1 yX1_slipOf yX1_slipOf, Cond.initialized RX1, Cond.code yX1_slipOf cX1_slipOf 2 (some .int), Cond.fieldLink RX1 9 "SimonSays$Children" "slips" "[I", Cond.methodLink RX1 49 yX1_has, Cond.instanceMethod yX1_has, Cond.selects RX1 yX1_has yX1_has, Cond.code yX1_has cX1_has 2 (some .boolean), Cond.fieldLink RX1 21 "SimonSays$Children" "size" "I", Cond.methodLink RX4 50 yX6_streak, Cond.instanceMethod yX6_streak, Cond.selects RX6 yX6_streak yX6_streak, Cond.initialized RX6]
def wsX4_asDreamer_r2 : List Cond := [Cond.code yX6_streak cX6_streak 1 (some .int), Cond.fieldLink RX6 32 "SimonSays$Round" "streak" "I"]
def wsX4_asDreamer : List Cond := .code yX4_asDreamer cX4_asDreamer 2 (some .int) :: ((wsX4_asDreamer_r1 ++ wsX4_asDreamer_r2) ++ wsX40 ++ wsX10 ++ wsX60)
def wsX4_asWatcher : List Cond := .code yX4_asWatcher cX4_asWatcher 2 (some .int) :: ([.fieldLink RX4 19 "SimonSays$Kinds" "trace" "J", .constantLong RX4 56 (100), .fieldLink RX4 9 "SimonSays$Kinds" "told" "LSimonSays$Children;", .methodLink RX4 23 yX4_asChild, .instanceMethod yX4_asChild, .selects RX4 yX4_asChild yX4_asChild, .initialized RX4, .code yX4_asChild cX4_asChild 2 (some .int), .methodLink RX4 43 yX1_slipOf, .instanceMethod yX1_slipOf, .selects RX1 yX1_slipOf yX1_slipOf, .initialized RX1, .code yX1_slipOf cX1_slipOf 2 (some .int), .fieldLink RX1 9 "SimonSays$Children" "slips" "[I", .methodLink RX1 49 yX1_has, .instanceMethod yX1_has, .selects RX1 yX1_has yX1_has, .code yX1_has cX1_has 2 (some .boolean), .fieldLink RX1 21 "SimonSays$Children" "size" "I", .methodLink RX4 58 yX1_lateOf, .instanceMethod yX1_lateOf, .selects RX1 yX1_lateOf yX1_lateOf, .code yX1_lateOf cX1_lateOf 2 (some .int), .fieldLink RX1 15 "SimonSays$Children" "lates" "[I"] ++ wsX40 ++ wsX10)
def wsX4_asRunner_r1 : List Cond := [Cond.fieldLink RX4 19 "SimonSays$Kinds" "trace" "J", Cond.constantLong RX4 61 (1000), Cond.methodLink RX4 27 yX4_asDreamer, Cond.instanceMethod yX4_asDreamer, Cond.selects RX4 yX4_asDreamer yX4_asDreamer, Cond.initialized RX4, Cond.code yX4_asDreamer cX4_asDreamer 2 (some .int), Cond.constantLong RX4 48 (10), Cond.fieldLink RX4 15 "SimonSays$Kinds" "round" "LSimonSays$Round;", Cond.methodLink RX4 23 yX4_asChild, Cond.instanceMethod yX4_asChild, Cond.selects RX4 yX4_asChild yX4_asChild, Cond.code yX4_asChild cX4_asChild 2 (some .int), Cond.fieldLink RX4 9 "SimonSays$Kinds" "told" "LSimonSays$Children;", Cond.methodLink RX4 43 yX1_slipOf, Cond.instanceMethod yX1_slipOf, Cond.selects RX1 yX1_slipOf yX1_slipOf, Cond.initialized RX1, Cond.code yX1_slipOf cX1_slipOf 2 (some .int), Cond.fieldLink RX1 9 "SimonSays$Children" "slips" "[I", Cond.methodLink RX1 49 yX1_has, Cond.instanceMethod yX1_has, Cond.selects RX1 yX1_has yX1_has, Cond.code yX1_has cX1_has 2 (some .boolean)]
def wsX4_asRunner_r2 : List Cond := [Cond.fieldLink RX1 21 "SimonSays$Children" "size" "I", Cond.methodLink RX4 50 yX6_streak, Cond.instanceMethod yX6_streak, Cond.selects RX6 yX6_streak yX6_streak, Cond.initialized RX6, Cond.code yX6_streak cX6_streak 1 (some .int), Cond.fieldLink RX6 32 "SimonSays$Round" "streak" "I"]
def wsX4_asRunner : List Cond := .code yX4_asRunner cX4_asRunner 2 (some .int) :: ((wsX4_asRunner_r1 ++ wsX4_asRunner_r2) ++ wsX40 ++ wsX10 ++ wsX60)
def wsX4_asCopier_r1 : List Cond := [Cond.fieldLink RX4 19 "SimonSays$Kinds" "trace" "J", Cond.constantLong RX4 63 (10000), Cond.fieldLink RX4 9 "SimonSays$Kinds" "told" "LSimonSays$Children;", Cond.methodLink RX4 30 yX4_asWatcher, Cond.instanceMethod yX4_asWatcher, Cond.selects RX4 yX4_asWatcher yX4_asWatcher, Cond.initialized RX4, Cond.code yX4_asWatcher cX4_asWatcher 2 (some .int), Cond.constantLong RX4 56 (100), Cond.methodLink RX4 23 yX4_asChild, Cond.instanceMethod yX4_asChild, Cond.selects RX4 yX4_asChild yX4_asChild, Cond.code yX4_asChild cX4_asChild 2 (some .int), Cond.methodLink RX4 43 yX1_slipOf, Cond.instanceMethod yX1_slipOf, Cond.selects RX1 yX1_slipOf yX1_slipOf, Cond.initialized RX1, Cond.code yX1_slipOf cX1_slipOf 2 (some .int), Cond.fieldLink RX1 9 "SimonSays$Children" "slips" "[I", Cond.methodLink RX1 49 yX1_has, Cond.instanceMethod yX1_has, Cond.selects RX1 yX1_has yX1_has, Cond.code yX1_has cX1_has 2 (some .boolean), Cond.fieldLink RX1 21 "SimonSays$Children" "size" "I"]
def wsX4_asCopier_r2 : List Cond := [Cond.methodLink RX4 58 yX1_lateOf, Cond.instanceMethod yX1_lateOf, Cond.selects RX1 yX1_lateOf yX1_lateOf, Cond.code yX1_lateOf cX1_lateOf 2 (some .int), Cond.fieldLink RX1 15 "SimonSays$Children" "lates" "[I", Cond.methodLink RX4 65 yX1_howManyCopy, Cond.instanceMethod yX1_howManyCopy, Cond.selects RX1 yX1_howManyCopy yX1_howManyCopy, Cond.code yX1_howManyCopy cX1_howManyCopy 4 (some .int), Cond.methodLink RX1 38 yX1_copiedBy, Cond.instanceMethod yX1_copiedBy, Cond.selects RX1 yX1_copiedBy yX1_copiedBy, Cond.code yX1_copiedBy cX1_copiedBy 2 (some .int), Cond.fieldLink RX1 18 "SimonSays$Children" "copied" "[I"]
def wsX4_asCopier : List Cond := .code yX4_asCopier cX4_asCopier 2 (some .int) :: ((wsX4_asCopier_r1 ++ wsX4_asCopier_r2) ++ wsX40 ++ wsX10)
def wsX6_howManyIn : List Cond := .code yX6_howManyIn cX6_howManyIn 1 (some .int) :: ([.fieldLink RX6 29 "SimonSays$Round" "in" "I", .methodLink RX6 35 yJ6_bitCount_0f7a4, .static yJ6_bitCount_0f7a4, .initialized RJ6, .code yJ6_bitCount_0f7a4 cJ6_bitCount_0f7a4 1 (some .int), .constant RJ6 265 (1431655765), .constant RJ6 266 (858993459), .constant RJ6 267 (252645135)] ++ wsX60)
def wsX4_asListener_r1 : List Cond := [Cond.fieldLink RX4 19 "SimonSays$Kinds" "trace" "J", Cond.constantLong RX4 68 (100000), Cond.fieldLink RX4 15 "SimonSays$Kinds" "round" "LSimonSays$Round;", Cond.methodLink RX4 23 yX4_asChild, Cond.instanceMethod yX4_asChild, Cond.selects RX4 yX4_asChild yX4_asChild, Cond.initialized RX4, Cond.code yX4_asChild cX4_asChild 2 (some .int), Cond.fieldLink RX4 9 "SimonSays$Kinds" "told" "LSimonSays$Children;", Cond.methodLink RX4 43 yX1_slipOf, Cond.instanceMethod yX1_slipOf, Cond.selects RX1 yX1_slipOf yX1_slipOf, Cond.initialized RX1, Cond.code yX1_slipOf cX1_slipOf 2 (some .int), Cond.fieldLink RX1 9 "SimonSays$Children" "slips" "[I", Cond.methodLink RX1 49 yX1_has, Cond.instanceMethod yX1_has, Cond.selects RX1 yX1_has yX1_has, Cond.code yX1_has cX1_has 2 (some .boolean), Cond.fieldLink RX1 21 "SimonSays$Children" "size" "I", Cond.methodLink RX4 70 yX6_howManyIn, Cond.instanceMethod yX6_howManyIn, Cond.selects RX6 yX6_howManyIn yX6_howManyIn, Cond.initialized RX6]
def wsX4_asListener_r2 : List Cond := [Cond.code yX6_howManyIn cX6_howManyIn 1 (some .int), Cond.fieldLink RX6 29 "SimonSays$Round" "in" "I", Cond.methodLink RX6 35 yJ6_bitCount_0f7a4, Cond.static yJ6_bitCount_0f7a4, Cond.initialized RJ6, Cond.code yJ6_bitCount_0f7a4 cJ6_bitCount_0f7a4 1 (some .int), Cond.constant RJ6 265 (1431655765), Cond.constant RJ6 266 (858993459), Cond.constant RJ6 267 (252645135)]
def wsX4_asListener : List Cond := .code yX4_asListener cX4_asListener 2 (some .int) :: ((wsX4_asListener_r1 ++ wsX4_asListener_r2) ++ wsX40 ++ wsX10 ++ wsX60)
def wsX4_rateAs_r1 : List Cond := [Cond.constant RX4 42 (-1000000), Cond.methodLink RX4 23 yX4_asChild, Cond.instanceMethod yX4_asChild, Cond.selects RX4 yX4_asChild yX4_asChild, Cond.initialized RX4, Cond.code yX4_asChild cX4_asChild 2 (some .int), Cond.fieldLink RX4 19 "SimonSays$Kinds" "trace" "J", Cond.fieldLink RX4 9 "SimonSays$Kinds" "told" "LSimonSays$Children;", Cond.methodLink RX4 43 yX1_slipOf, Cond.instanceMethod yX1_slipOf, Cond.selects RX1 yX1_slipOf yX1_slipOf, Cond.initialized RX1, Cond.code yX1_slipOf cX1_slipOf 2 (some .int), Cond.fieldLink RX1 9 "SimonSays$Children" "slips" "[I", Cond.methodLink RX1 49 yX1_has, Cond.instanceMethod yX1_has, Cond.selects RX1 yX1_has yX1_has, Cond.code yX1_has cX1_has 2 (some .boolean), Cond.fieldLink RX1 21 "SimonSays$Children" "size" "I", Cond.methodLink RX4 27 yX4_asDreamer, Cond.instanceMethod yX4_asDreamer, Cond.selects RX4 yX4_asDreamer yX4_asDreamer, Cond.code yX4_asDreamer cX4_asDreamer 2 (some .int), Cond.constantLong RX4 48 (10)]
def wsX4_rateAs_r2 : List Cond := [Cond.fieldLink RX4 15 "SimonSays$Kinds" "round" "LSimonSays$Round;", Cond.methodLink RX4 50 yX6_streak, Cond.instanceMethod yX6_streak, Cond.selects RX6 yX6_streak yX6_streak, Cond.initialized RX6, Cond.code yX6_streak cX6_streak 1 (some .int), Cond.fieldLink RX6 32 "SimonSays$Round" "streak" "I", Cond.methodLink RX4 30 yX4_asWatcher, Cond.instanceMethod yX4_asWatcher, Cond.selects RX4 yX4_asWatcher yX4_asWatcher, Cond.code yX4_asWatcher cX4_asWatcher 2 (some .int), Cond.constantLong RX4 56 (100), Cond.methodLink RX4 58 yX1_lateOf, Cond.instanceMethod yX1_lateOf, Cond.selects RX1 yX1_lateOf yX1_lateOf, Cond.code yX1_lateOf cX1_lateOf 2 (some .int), Cond.fieldLink RX1 15 "SimonSays$Children" "lates" "[I", Cond.methodLink RX4 33 yX4_asRunner, Cond.instanceMethod yX4_asRunner, Cond.selects RX4 yX4_asRunner yX4_asRunner, Cond.code yX4_asRunner cX4_asRunner 2 (some .int), Cond.constantLong RX4 61 (1000), Cond.methodLink RX4 36 yX4_asCopier, Cond.instanceMethod yX4_asCopier]
def wsX4_rateAs_r3 : List Cond := [Cond.selects RX4 yX4_asCopier yX4_asCopier, Cond.code yX4_asCopier cX4_asCopier 2 (some .int), Cond.constantLong RX4 63 (10000), Cond.methodLink RX4 65 yX1_howManyCopy, Cond.instanceMethod yX1_howManyCopy, Cond.selects RX1 yX1_howManyCopy yX1_howManyCopy, Cond.code yX1_howManyCopy cX1_howManyCopy 4 (some .int), Cond.methodLink RX1 38 yX1_copiedBy, Cond.instanceMethod yX1_copiedBy, Cond.selects RX1 yX1_copiedBy yX1_copiedBy, Cond.code yX1_copiedBy cX1_copiedBy 2 (some .int), Cond.fieldLink RX1 18 "SimonSays$Children" "copied" "[I", Cond.methodLink RX4 39 yX4_asListener, Cond.instanceMethod yX4_asListener, Cond.selects RX4 yX4_asListener yX4_asListener, Cond.code yX4_asListener cX4_asListener 2 (some .int), Cond.constantLong RX4 68 (100000), Cond.methodLink RX4 70 yX6_howManyIn, Cond.instanceMethod yX6_howManyIn, Cond.selects RX6 yX6_howManyIn yX6_howManyIn, Cond.code yX6_howManyIn cX6_howManyIn 1 (some .int), Cond.fieldLink RX6 29 "SimonSays$Round" "in" "I", Cond.methodLink RX6 35 yJ6_bitCount_0f7a4, Cond.static yJ6_bitCount_0f7a4]
def wsX4_rateAs_r4 : List Cond := [Cond.initialized RJ6, Cond.code yJ6_bitCount_0f7a4 cJ6_bitCount_0f7a4 1 (some .int), Cond.constant RJ6 265 (1431655765), Cond.constant RJ6 266 (858993459), Cond.constant RJ6 267 (252645135)]
def wsX4_rateAs : List Cond := .code yX4_rateAs cX4_rateAs 3 (some .int) :: ((wsX4_rateAs_r1 ++ (wsX4_rateAs_r2 ++ (wsX4_rateAs_r3 ++ wsX4_rateAs_r4))) ++ wsX40 ++ wsX10 ++ wsX60)
def wsX5_init : List Cond := .code yX5_init cX5_init 2 none :: ([.methodLink RX5 3 objectInit, .instanceMethod objectInit, .code objectInit ⟨#[0xb1]⟩ 1 none, .fieldLink RX5 9 "SimonSays$Reader" "text" "LSimonSays$Text;", .classLink RX5 15 RX1, .instantiable RX1 5, .initialized RX1, .fieldLink RX5 18 "SimonSays$Reader" "found" "LSimonSays$Children;", .methodLink RX5 17 yX1_init, .instanceMethod yX1_init, .code yX1_init cX1_init 1 none, .methodLink RX1 3 objectInit, .arrayClass .int, .fieldLink RX1 9 "SimonSays$Children" "slips" "[I", .fieldLink RX1 15 "SimonSays$Children" "lates" "[I", .fieldLink RX1 18 "SimonSays$Children" "copied" "[I"] ++ wsX50 ++ wsX10)
def wsX8_length : List Cond := .code yX8_length cX8_length 1 (some .int) :: ([.fieldLink RX8 15 "SimonSays$Text" "length" "I"] ++ wsX80)
def wsX8_byteAt : List Cond := .code yX8_byteAt cX8_byteAt 2 (some .int) :: ([.fieldLink RX8 15 "SimonSays$Text" "length" "I", .fieldLink RX8 9 "SimonSays$Text" "bytes" "[I"] ++ wsX80)
def wsX5_isLetter : List Cond := .code yX5_isLetter cX5_isLetter 1 (some .boolean) :: ([])
def wsJ0_coder_7d493 : List Cond := .code yJ0_coder_7d493 cJ0_coder_7d493 1 (some .byte) :: ([.fieldLink RJ0 38 "java/lang/String" "COMPACT_STRINGS" "Z", .fieldLink RJ0 15 "java/lang/String" "coder" "B"])
def wsJ0_length_8abf5 : List Cond := .code yJ0_length_8abf5 cJ0_length_8abf5 1 (some .int) :: ([.fieldLink RJ0 9 "java/lang/String" "value" "[B", .methodLink RJ0 335 yJ0_coder_7d493, .instanceMethod yJ0_coder_7d493, .selects RJ0 yJ0_coder_7d493 yJ0_coder_7d493, .initialized RJ0, .code yJ0_coder_7d493 cJ0_coder_7d493 1 (some .byte), .fieldLink RJ0 38 "java/lang/String" "COMPACT_STRINGS" "Z", .fieldLink RJ0 15 "java/lang/String" "coder" "B"])
def wsJ0_isLatin1_aae02 : List Cond := .code yJ0_isLatin1_aae02 cJ0_isLatin1_aae02 1 (some .boolean) :: ([.fieldLink RJ0 38 "java/lang/String" "COMPACT_STRINGS" "Z", .fieldLink RJ0 15 "java/lang/String" "coder" "B"])
def wsJ3_checkIndex_8e157 : List Cond := .code yJ3_checkIndex_8e157 cJ3_checkIndex_8e157 3 (some .int) :: ([])
def wsJ0_checkIndex_df160 : List Cond := .code yJ0_checkIndex_df160 cJ0_checkIndex_df160 2 none :: ([.fieldLink RJ0 1053 "jdk/internal/util/Preconditions" "SIOOBE_FORMATTER" "Ljava/util/function/BiFunction;", .methodLink RJ0 1059 yJ3_checkIndex_8e157, .static yJ3_checkIndex_8e157, .initialized RJ3, .code yJ3_checkIndex_8e157 cJ3_checkIndex_8e157 3 (some .int)])
def wsJ1_charAt_3b067 : List Cond := .code yJ1_charAt_3b067 cJ1_charAt_3b067 2 (some .char) :: ([.methodLink RJ1 9 yJ0_checkIndex_df160, .static yJ0_checkIndex_df160, .initialized RJ0, .code yJ0_checkIndex_df160 cJ0_checkIndex_df160 2 none, .fieldLink RJ0 1053 "jdk/internal/util/Preconditions" "SIOOBE_FORMATTER" "Ljava/util/function/BiFunction;", .methodLink RJ0 1059 yJ3_checkIndex_8e157, .static yJ3_checkIndex_8e157, .initialized RJ3, .code yJ3_checkIndex_8e157 cJ3_checkIndex_8e157 3 (some .int)])
def wsJ2_length_9d52b : List Cond := .code yJ2_length_9d52b cJ2_length_9d52b 1 (some .int) :: ([])
def wsJ2_checkIndex_2214a : List Cond := .code yJ2_checkIndex_2214a cJ2_checkIndex_2214a 2 none :: ([.methodLink RJ2 48 yJ2_length_9d52b, .static yJ2_length_9d52b, .initialized RJ2, .code yJ2_length_9d52b cJ2_length_9d52b 1 (some .int), .methodLink RJ2 414 yJ0_checkIndex_df160, .static yJ0_checkIndex_df160, .initialized RJ0, .code yJ0_checkIndex_df160 cJ0_checkIndex_df160 2 none, .fieldLink RJ0 1053 "jdk/internal/util/Preconditions" "SIOOBE_FORMATTER" "Ljava/util/function/BiFunction;", .methodLink RJ0 1059 yJ3_checkIndex_8e157, .static yJ3_checkIndex_8e157, .initialized RJ3, .code yJ3_checkIndex_8e157 cJ3_checkIndex_8e157 3 (some .int)])
def wsJ2_getChar_3b067 : List Cond := .code yJ2_getChar_3b067 cJ2_getChar_3b067 2 (some .char) :: ([.fieldLink RJ2 44 "java/lang/StringUTF16" "$assertionsDisabled" "Z", .fieldLink RJ2 59 "java/lang/StringUTF16" "HI_BYTE_SHIFT" "I", .fieldLink RJ2 63 "java/lang/StringUTF16" "LO_BYTE_SHIFT" "I", .methodLink RJ2 48 yJ2_length_9d52b, .static yJ2_length_9d52b, .initialized RJ2, .code yJ2_length_9d52b cJ2_length_9d52b 1 (some .int)])
def wsJ2_charAt_3b067 : List Cond := .code yJ2_charAt_3b067 cJ2_charAt_3b067 2 (some .char) :: ([.methodLink RJ2 67 yJ2_checkIndex_2214a, .static yJ2_checkIndex_2214a, .initialized RJ2, .code yJ2_checkIndex_2214a cJ2_checkIndex_2214a 2 none, .methodLink RJ2 48 yJ2_length_9d52b, .static yJ2_length_9d52b, .code yJ2_length_9d52b cJ2_length_9d52b 1 (some .int), .methodLink RJ2 414 yJ0_checkIndex_df160, .static yJ0_checkIndex_df160, .initialized RJ0, .code yJ0_checkIndex_df160 cJ0_checkIndex_df160 2 none, .fieldLink RJ0 1053 "jdk/internal/util/Preconditions" "SIOOBE_FORMATTER" "Ljava/util/function/BiFunction;", .methodLink RJ0 1059 yJ3_checkIndex_8e157, .static yJ3_checkIndex_8e157, .initialized RJ3, .code yJ3_checkIndex_8e157 cJ3_checkIndex_8e157 3 (some .int), .methodLink RJ2 71 yJ2_getChar_3b067, .static yJ2_getChar_3b067, .code yJ2_getChar_3b067 cJ2_getChar_3b067 2 (some .char), .fieldLink RJ2 44 "java/lang/StringUTF16" "$assertionsDisabled" "Z", .fieldLink RJ2 59 "java/lang/StringUTF16" "HI_BYTE_SHIFT" "I", .fieldLink RJ2 63 "java/lang/StringUTF16" "LO_BYTE_SHIFT" "I"])
def wsJ0_charAt_5068e_r1 : List Cond := [Cond.fieldLink RJ0 9 "java/lang/String" "value" "[B", Cond.methodLink RJ0 492 yJ0_isLatin1_aae02, Cond.instanceMethod yJ0_isLatin1_aae02, Cond.selects RJ0 yJ0_isLatin1_aae02 yJ0_isLatin1_aae02, Cond.initialized RJ0, Cond.code yJ0_isLatin1_aae02 cJ0_isLatin1_aae02 1 (some .boolean), Cond.fieldLink RJ0 38 "java/lang/String" "COMPACT_STRINGS" "Z", Cond.fieldLink RJ0 15 "java/lang/String" "coder" "B", Cond.methodLink RJ0 495 yJ1_charAt_3b067, Cond.static yJ1_charAt_3b067, Cond.initialized RJ1, Cond.code yJ1_charAt_3b067 cJ1_charAt_3b067 2 (some .char), Cond.methodLink RJ1 9 yJ0_checkIndex_df160, Cond.static yJ0_checkIndex_df160, Cond.code yJ0_checkIndex_df160 cJ0_checkIndex_df160 2 none, Cond.fieldLink RJ0 1053 "jdk/internal/util/Preconditions" "SIOOBE_FORMATTER" "Ljava/util/function/BiFunction;", Cond.methodLink RJ0 1059 yJ3_checkIndex_8e157, Cond.static yJ3_checkIndex_8e157, Cond.initialized RJ3, Cond.code yJ3_checkIndex_8e157 cJ3_checkIndex_8e157 3 (some .int), Cond.methodLink RJ0 498 yJ2_charAt_3b067, Cond.static yJ2_charAt_3b067, Cond.initialized RJ2, Cond.code yJ2_charAt_3b067 cJ2_charAt_3b067 2 (some .char)]
def wsJ0_charAt_5068e_r2 : List Cond := [Cond.methodLink RJ2 67 yJ2_checkIndex_2214a, Cond.static yJ2_checkIndex_2214a, Cond.code yJ2_checkIndex_2214a cJ2_checkIndex_2214a 2 none, Cond.methodLink RJ2 48 yJ2_length_9d52b, Cond.static yJ2_length_9d52b, Cond.code yJ2_length_9d52b cJ2_length_9d52b 1 (some .int), Cond.methodLink RJ2 414 yJ0_checkIndex_df160, Cond.methodLink RJ2 71 yJ2_getChar_3b067, Cond.static yJ2_getChar_3b067, Cond.code yJ2_getChar_3b067 cJ2_getChar_3b067 2 (some .char), Cond.fieldLink RJ2 44 "java/lang/StringUTF16" "$assertionsDisabled" "Z", Cond.fieldLink RJ2 59 "java/lang/StringUTF16" "HI_BYTE_SHIFT" "I", Cond.fieldLink RJ2 63 "java/lang/StringUTF16" "LO_BYTE_SHIFT" "I"]
def wsJ0_charAt_5068e : List Cond := .code yJ0_charAt_5068e cJ0_charAt_5068e 2 (some .char) :: ((wsJ0_charAt_5068e_r1 ++ wsJ0_charAt_5068e_r2))
def wsX5_spells_r1 : List Cond := [Cond.fieldLink RX5 25 "SimonSays$Reader" "end" "I", Cond.fieldLink RX5 39 "SimonSays$Reader" "start" "I", Cond.fieldLink RX5 9 "SimonSays$Reader" "text" "LSimonSays$Text;", Cond.methodLink RX5 105 yJ0_length_8abf5, Cond.instanceMethod yJ0_length_8abf5, Cond.selects RJ0 yJ0_length_8abf5 yJ0_length_8abf5, Cond.initialized RJ0, Cond.code yJ0_length_8abf5 cJ0_length_8abf5 1 (some .int), Cond.fieldLink RJ0 9 "java/lang/String" "value" "[B", Cond.methodLink RJ0 335 yJ0_coder_7d493, Cond.instanceMethod yJ0_coder_7d493, Cond.selects RJ0 yJ0_coder_7d493 yJ0_coder_7d493, Cond.code yJ0_coder_7d493 cJ0_coder_7d493 1 (some .byte), Cond.fieldLink RJ0 38 "java/lang/String" "COMPACT_STRINGS" "Z", Cond.fieldLink RJ0 15 "java/lang/String" "coder" "B", Cond.methodLink RX5 75 yX8_byteAt, Cond.instanceMethod yX8_byteAt, Cond.selects RX8 yX8_byteAt yX8_byteAt, Cond.initialized RX8, Cond.code yX8_byteAt cX8_byteAt 2 (some .int), Cond.fieldLink RX8 15 "SimonSays$Text" "length" "I", Cond.fieldLink RX8 9 "SimonSays$Text" "bytes" "[I", Cond.methodLink RX5 108 yJ0_charAt_5068e, Cond.instanceMethod yJ0_charAt_5068e]
def wsX5_spells_r2 : List Cond := [Cond.selects RJ0 yJ0_charAt_5068e yJ0_charAt_5068e, Cond.code yJ0_charAt_5068e cJ0_charAt_5068e 2 (some .char), Cond.methodLink RJ0 492 yJ0_isLatin1_aae02, Cond.instanceMethod yJ0_isLatin1_aae02, Cond.selects RJ0 yJ0_isLatin1_aae02 yJ0_isLatin1_aae02, Cond.code yJ0_isLatin1_aae02 cJ0_isLatin1_aae02 1 (some .boolean), Cond.methodLink RJ0 495 yJ1_charAt_3b067, Cond.static yJ1_charAt_3b067, Cond.initialized RJ1, Cond.code yJ1_charAt_3b067 cJ1_charAt_3b067 2 (some .char), Cond.methodLink RJ1 9 yJ0_checkIndex_df160, Cond.static yJ0_checkIndex_df160, Cond.code yJ0_checkIndex_df160 cJ0_checkIndex_df160 2 none, Cond.fieldLink RJ0 1053 "jdk/internal/util/Preconditions" "SIOOBE_FORMATTER" "Ljava/util/function/BiFunction;", Cond.methodLink RJ0 1059 yJ3_checkIndex_8e157, Cond.static yJ3_checkIndex_8e157, Cond.initialized RJ3, Cond.code yJ3_checkIndex_8e157 cJ3_checkIndex_8e157 3 (some .int), Cond.methodLink RJ0 498 yJ2_charAt_3b067, Cond.static yJ2_charAt_3b067, Cond.initialized RJ2, Cond.code yJ2_charAt_3b067 cJ2_charAt_3b067 2 (some .char), Cond.methodLink RJ2 67 yJ2_checkIndex_2214a, Cond.static yJ2_checkIndex_2214a]
def wsX5_spells_r3 : List Cond := [Cond.code yJ2_checkIndex_2214a cJ2_checkIndex_2214a 2 none, Cond.methodLink RJ2 48 yJ2_length_9d52b, Cond.static yJ2_length_9d52b, Cond.code yJ2_length_9d52b cJ2_length_9d52b 1 (some .int), Cond.methodLink RJ2 414 yJ0_checkIndex_df160, Cond.methodLink RJ2 71 yJ2_getChar_3b067, Cond.static yJ2_getChar_3b067, Cond.code yJ2_getChar_3b067 cJ2_getChar_3b067 2 (some .char), Cond.fieldLink RJ2 44 "java/lang/StringUTF16" "$assertionsDisabled" "Z", Cond.fieldLink RJ2 59 "java/lang/StringUTF16" "HI_BYTE_SHIFT" "I", Cond.fieldLink RJ2 63 "java/lang/StringUTF16" "LO_BYTE_SHIFT" "I"]
def wsX5_spells : List Cond := .code yX5_spells cX5_spells 3 (some .boolean) :: ((wsX5_spells_r1 ++ (wsX5_spells_r2 ++ wsX5_spells_r3)) ++ wsX50 ++ wsX80)
def wsX5_advanceOverWord_r1 : List Cond := [Cond.fieldLink RX5 25 "SimonSays$Reader" "end" "I", Cond.fieldLink RX5 9 "SimonSays$Reader" "text" "LSimonSays$Text;", Cond.fieldLink RX5 32 "SimonSays$Reader" "token" "I", Cond.methodLink RX5 70 yX8_length, Cond.instanceMethod yX8_length, Cond.selects RX8 yX8_length yX8_length, Cond.initialized RX8, Cond.code yX8_length cX8_length 1 (some .int), Cond.fieldLink RX8 15 "SimonSays$Text" "length" "I", Cond.methodLink RX5 75 yX8_byteAt, Cond.instanceMethod yX8_byteAt, Cond.selects RX8 yX8_byteAt yX8_byteAt, Cond.code yX8_byteAt cX8_byteAt 2 (some .int), Cond.fieldLink RX8 9 "SimonSays$Text" "bytes" "[I", Cond.methodLink RX5 79 yX5_isLetter, Cond.static yX5_isLetter, Cond.initialized RX5, Cond.code yX5_isLetter cX5_isLetter 1 (some .boolean), Cond.methodLink RX5 93 yX5_spells, Cond.instanceMethod yX5_spells, Cond.selects RX5 yX5_spells yX5_spells, Cond.code yX5_spells cX5_spells 3 (some .boolean), Cond.fieldLink RX5 39 "SimonSays$Reader" "start" "I", Cond.methodLink RX5 105 yJ0_length_8abf5]
def wsX5_advanceOverWord_r2 : List Cond := [Cond.instanceMethod yJ0_length_8abf5, Cond.selects RJ0 yJ0_length_8abf5 yJ0_length_8abf5, Cond.initialized RJ0, Cond.code yJ0_length_8abf5 cJ0_length_8abf5 1 (some .int), Cond.fieldLink RJ0 9 "java/lang/String" "value" "[B", Cond.methodLink RJ0 335 yJ0_coder_7d493, Cond.instanceMethod yJ0_coder_7d493, Cond.selects RJ0 yJ0_coder_7d493 yJ0_coder_7d493, Cond.code yJ0_coder_7d493 cJ0_coder_7d493 1 (some .byte), Cond.fieldLink RJ0 38 "java/lang/String" "COMPACT_STRINGS" "Z", Cond.fieldLink RJ0 15 "java/lang/String" "coder" "B", Cond.methodLink RX5 108 yJ0_charAt_5068e, Cond.instanceMethod yJ0_charAt_5068e, Cond.selects RJ0 yJ0_charAt_5068e yJ0_charAt_5068e, Cond.code yJ0_charAt_5068e cJ0_charAt_5068e 2 (some .char), Cond.methodLink RJ0 492 yJ0_isLatin1_aae02, Cond.instanceMethod yJ0_isLatin1_aae02, Cond.selects RJ0 yJ0_isLatin1_aae02 yJ0_isLatin1_aae02, Cond.code yJ0_isLatin1_aae02 cJ0_isLatin1_aae02 1 (some .boolean), Cond.methodLink RJ0 495 yJ1_charAt_3b067, Cond.static yJ1_charAt_3b067, Cond.initialized RJ1, Cond.code yJ1_charAt_3b067 cJ1_charAt_3b067 2 (some .char), Cond.methodLink RJ1 9 yJ0_checkIndex_df160]
def wsX5_advanceOverWord_r3 : List Cond := [Cond.static yJ0_checkIndex_df160, Cond.code yJ0_checkIndex_df160 cJ0_checkIndex_df160 2 none, Cond.fieldLink RJ0 1053 "jdk/internal/util/Preconditions" "SIOOBE_FORMATTER" "Ljava/util/function/BiFunction;", Cond.methodLink RJ0 1059 yJ3_checkIndex_8e157, Cond.static yJ3_checkIndex_8e157, Cond.initialized RJ3, Cond.code yJ3_checkIndex_8e157 cJ3_checkIndex_8e157 3 (some .int), Cond.methodLink RJ0 498 yJ2_charAt_3b067, Cond.static yJ2_charAt_3b067, Cond.initialized RJ2, Cond.code yJ2_charAt_3b067 cJ2_charAt_3b067 2 (some .char), Cond.methodLink RJ2 67 yJ2_checkIndex_2214a, Cond.static yJ2_checkIndex_2214a, Cond.code yJ2_checkIndex_2214a cJ2_checkIndex_2214a 2 none, Cond.methodLink RJ2 48 yJ2_length_9d52b, Cond.static yJ2_length_9d52b, Cond.code yJ2_length_9d52b cJ2_length_9d52b 1 (some .int), Cond.methodLink RJ2 414 yJ0_checkIndex_df160, Cond.methodLink RJ2 71 yJ2_getChar_3b067, Cond.static yJ2_getChar_3b067, Cond.code yJ2_getChar_3b067 cJ2_getChar_3b067 2 (some .char), Cond.fieldLink RJ2 44 "java/lang/StringUTF16" "$assertionsDisabled" "Z", Cond.fieldLink RJ2 59 "java/lang/StringUTF16" "HI_BYTE_SHIFT" "I", Cond.fieldLink RJ2 63 "java/lang/StringUTF16" "LO_BYTE_SHIFT" "I"]
def wsX5_advanceOverWord : List Cond := .code yX5_advanceOverWord cX5_advanceOverWord 1 none :: ((wsX5_advanceOverWord_r1 ++ (wsX5_advanceOverWord_r2 ++ wsX5_advanceOverWord_r3)) ++ wsX50 ++ wsX80)
def wsX5_isDigit : List Cond := .code yX5_isDigit cX5_isDigit 1 (some .boolean) :: ([])
def wsX5_advanceOverNumber : List Cond := .code yX5_advanceOverNumber cX5_advanceOverNumber 3 none :: ([.fieldLink RX5 9 "SimonSays$Reader" "text" "LSimonSays$Text;", .fieldLink RX5 39 "SimonSays$Reader" "start" "I", .fieldLink RX5 56 "SimonSays$Reader" "value" "I", .fieldLink RX5 25 "SimonSays$Reader" "end" "I", .methodLink RX5 99 Lib.Math.min.name, .static Lib.Math.min.name, .initialized "java/lang/Math", .code Lib.Math.min.name Lib.Math.min.code 2 (some .int), .fieldLink RX5 32 "SimonSays$Reader" "token" "I", .methodLink RX5 75 yX8_byteAt, .instanceMethod yX8_byteAt, .selects RX8 yX8_byteAt yX8_byteAt, .initialized RX8, .code yX8_byteAt cX8_byteAt 2 (some .int), .fieldLink RX8 15 "SimonSays$Text" "length" "I", .fieldLink RX8 9 "SimonSays$Text" "bytes" "[I", .methodLink RX5 70 yX8_length, .instanceMethod yX8_length, .selects RX8 yX8_length yX8_length, .code yX8_length cX8_length 1 (some .int), .methodLink RX5 85 yX5_isDigit, .static yX5_isDigit, .initialized RX5, .code yX5_isDigit cX5_isDigit 1 (some .boolean)] ++ wsX50 ++ wsX80)
def wsX5_advance_r1 : List Cond := [Cond.fieldLink RX5 25 "SimonSays$Reader" "end" "I", Cond.fieldLink RX5 39 "SimonSays$Reader" "start" "I", Cond.fieldLink RX5 9 "SimonSays$Reader" "text" "LSimonSays$Text;", Cond.fieldLink RX5 32 "SimonSays$Reader" "token" "I", Cond.methodLink RX5 70 yX8_length, Cond.instanceMethod yX8_length, Cond.selects RX8 yX8_length yX8_length, Cond.initialized RX8, Cond.code yX8_length cX8_length 1 (some .int), Cond.fieldLink RX8 15 "SimonSays$Text" "length" "I", Cond.methodLink RX5 75 yX8_byteAt, Cond.instanceMethod yX8_byteAt, Cond.selects RX8 yX8_byteAt yX8_byteAt, Cond.code yX8_byteAt cX8_byteAt 2 (some .int), Cond.fieldLink RX8 9 "SimonSays$Text" "bytes" "[I", Cond.methodLink RX5 79 yX5_isLetter, Cond.static yX5_isLetter, Cond.initialized RX5, Cond.code yX5_isLetter cX5_isLetter 1 (some .boolean), Cond.methodLink RX5 82 yX5_advanceOverWord, Cond.instanceMethod yX5_advanceOverWord, Cond.selects RX5 yX5_advanceOverWord yX5_advanceOverWord, Cond.code yX5_advanceOverWord cX5_advanceOverWord 1 none, Cond.methodLink RX5 93 yX5_spells]
def wsX5_advance_r2 : List Cond := [Cond.instanceMethod yX5_spells, Cond.selects RX5 yX5_spells yX5_spells, Cond.code yX5_spells cX5_spells 3 (some .boolean), Cond.methodLink RX5 105 yJ0_length_8abf5, Cond.instanceMethod yJ0_length_8abf5, Cond.selects RJ0 yJ0_length_8abf5 yJ0_length_8abf5, Cond.initialized RJ0, Cond.code yJ0_length_8abf5 cJ0_length_8abf5 1 (some .int), Cond.fieldLink RJ0 9 "java/lang/String" "value" "[B", Cond.methodLink RJ0 335 yJ0_coder_7d493, Cond.instanceMethod yJ0_coder_7d493, Cond.selects RJ0 yJ0_coder_7d493 yJ0_coder_7d493, Cond.code yJ0_coder_7d493 cJ0_coder_7d493 1 (some .byte), Cond.fieldLink RJ0 38 "java/lang/String" "COMPACT_STRINGS" "Z", Cond.fieldLink RJ0 15 "java/lang/String" "coder" "B", Cond.methodLink RX5 108 yJ0_charAt_5068e, Cond.instanceMethod yJ0_charAt_5068e, Cond.selects RJ0 yJ0_charAt_5068e yJ0_charAt_5068e, Cond.code yJ0_charAt_5068e cJ0_charAt_5068e 2 (some .char), Cond.methodLink RJ0 492 yJ0_isLatin1_aae02, Cond.instanceMethod yJ0_isLatin1_aae02, Cond.selects RJ0 yJ0_isLatin1_aae02 yJ0_isLatin1_aae02, Cond.code yJ0_isLatin1_aae02 cJ0_isLatin1_aae02 1 (some .boolean), Cond.methodLink RJ0 495 yJ1_charAt_3b067]
def wsX5_advance_r3 : List Cond := [Cond.static yJ1_charAt_3b067, Cond.initialized RJ1, Cond.code yJ1_charAt_3b067 cJ1_charAt_3b067 2 (some .char), Cond.methodLink RJ1 9 yJ0_checkIndex_df160, Cond.static yJ0_checkIndex_df160, Cond.code yJ0_checkIndex_df160 cJ0_checkIndex_df160 2 none, Cond.fieldLink RJ0 1053 "jdk/internal/util/Preconditions" "SIOOBE_FORMATTER" "Ljava/util/function/BiFunction;", Cond.methodLink RJ0 1059 yJ3_checkIndex_8e157, Cond.static yJ3_checkIndex_8e157, Cond.initialized RJ3, Cond.code yJ3_checkIndex_8e157 cJ3_checkIndex_8e157 3 (some .int), Cond.methodLink RJ0 498 yJ2_charAt_3b067, Cond.static yJ2_charAt_3b067, Cond.initialized RJ2, Cond.code yJ2_charAt_3b067 cJ2_charAt_3b067 2 (some .char), Cond.methodLink RJ2 67 yJ2_checkIndex_2214a, Cond.static yJ2_checkIndex_2214a, Cond.code yJ2_checkIndex_2214a cJ2_checkIndex_2214a 2 none, Cond.methodLink RJ2 48 yJ2_length_9d52b, Cond.static yJ2_length_9d52b, Cond.code yJ2_length_9d52b cJ2_length_9d52b 1 (some .int), Cond.methodLink RJ2 414 yJ0_checkIndex_df160, Cond.methodLink RJ2 71 yJ2_getChar_3b067, Cond.static yJ2_getChar_3b067]
def wsX5_advance_r4 : List Cond := [Cond.code yJ2_getChar_3b067 cJ2_getChar_3b067 2 (some .char), Cond.fieldLink RJ2 44 "java/lang/StringUTF16" "$assertionsDisabled" "Z", Cond.fieldLink RJ2 59 "java/lang/StringUTF16" "HI_BYTE_SHIFT" "I", Cond.fieldLink RJ2 63 "java/lang/StringUTF16" "LO_BYTE_SHIFT" "I", Cond.methodLink RX5 85 yX5_isDigit, Cond.static yX5_isDigit, Cond.code yX5_isDigit cX5_isDigit 1 (some .boolean), Cond.methodLink RX5 88 yX5_advanceOverNumber, Cond.instanceMethod yX5_advanceOverNumber, Cond.selects RX5 yX5_advanceOverNumber yX5_advanceOverNumber, Cond.code yX5_advanceOverNumber cX5_advanceOverNumber 3 none, Cond.fieldLink RX5 56 "SimonSays$Reader" "value" "I", Cond.methodLink RX5 99 Lib.Math.min.name, Cond.static Lib.Math.min.name, Cond.initialized "java/lang/Math", Cond.code Lib.Math.min.name Lib.Math.min.code 2 (some .int)]
def wsX5_advance : List Cond := .code yX5_advance cX5_advance 2 none :: ((wsX5_advance_r1 ++ (wsX5_advance_r2 ++ (wsX5_advance_r3 ++ wsX5_advance_r4))) ++ wsX50 ++ wsX80)
def wsX5_isNumberUpTo : List Cond := .code yX5_isNumberUpTo cX5_isNumberUpTo 2 (some .boolean) :: ([.fieldLink RX5 32 "SimonSays$Reader" "token" "I", .fieldLink RX5 56 "SimonSays$Reader" "value" "I"] ++ wsX50)
def wsX5_readChild_r1 : List Cond := [Cond.fieldLink RX5 18 "SimonSays$Reader" "found" "LSimonSays$Children;", Cond.fieldLink RX5 56 "SimonSays$Reader" "value" "I", Cond.fieldLink RX5 32 "SimonSays$Reader" "token" "I", Cond.methodLink RX5 48 yX1_size, Cond.instanceMethod yX1_size, Cond.selects RX1 yX1_size yX1_size, Cond.initialized RX1, Cond.code yX1_size cX1_size 1 (some .int), Cond.fieldLink RX1 21 "SimonSays$Children" "size" "I", Cond.methodLink RX5 29 yX5_advance, Cond.instanceMethod yX5_advance, Cond.selects RX5 yX5_advance yX5_advance, Cond.initialized RX5, Cond.code yX5_advance cX5_advance 2 none, Cond.fieldLink RX5 25 "SimonSays$Reader" "end" "I", Cond.fieldLink RX5 39 "SimonSays$Reader" "start" "I", Cond.fieldLink RX5 9 "SimonSays$Reader" "text" "LSimonSays$Text;", Cond.methodLink RX5 70 yX8_length, Cond.instanceMethod yX8_length, Cond.selects RX8 yX8_length yX8_length, Cond.initialized RX8, Cond.code yX8_length cX8_length 1 (some .int), Cond.fieldLink RX8 15 "SimonSays$Text" "length" "I", Cond.methodLink RX5 75 yX8_byteAt]
def wsX5_readChild_r2 : List Cond := [Cond.instanceMethod yX8_byteAt, Cond.selects RX8 yX8_byteAt yX8_byteAt, Cond.code yX8_byteAt cX8_byteAt 2 (some .int), Cond.fieldLink RX8 9 "SimonSays$Text" "bytes" "[I", Cond.methodLink RX5 79 yX5_isLetter, Cond.static yX5_isLetter, Cond.code yX5_isLetter cX5_isLetter 1 (some .boolean), Cond.methodLink RX5 82 yX5_advanceOverWord, Cond.instanceMethod yX5_advanceOverWord, Cond.selects RX5 yX5_advanceOverWord yX5_advanceOverWord, Cond.code yX5_advanceOverWord cX5_advanceOverWord 1 none, Cond.methodLink RX5 93 yX5_spells, Cond.instanceMethod yX5_spells, Cond.selects RX5 yX5_spells yX5_spells, Cond.code yX5_spells cX5_spells 3 (some .boolean), Cond.methodLink RX5 105 yJ0_length_8abf5, Cond.instanceMethod yJ0_length_8abf5, Cond.selects RJ0 yJ0_length_8abf5 yJ0_length_8abf5, Cond.initialized RJ0, Cond.code yJ0_length_8abf5 cJ0_length_8abf5 1 (some .int), Cond.fieldLink RJ0 9 "java/lang/String" "value" "[B", Cond.methodLink RJ0 335 yJ0_coder_7d493, Cond.instanceMethod yJ0_coder_7d493, Cond.selects RJ0 yJ0_coder_7d493 yJ0_coder_7d493]
def wsX5_readChild_r3 : List Cond := [Cond.code yJ0_coder_7d493 cJ0_coder_7d493 1 (some .byte), Cond.fieldLink RJ0 38 "java/lang/String" "COMPACT_STRINGS" "Z", Cond.fieldLink RJ0 15 "java/lang/String" "coder" "B", Cond.methodLink RX5 108 yJ0_charAt_5068e, Cond.instanceMethod yJ0_charAt_5068e, Cond.selects RJ0 yJ0_charAt_5068e yJ0_charAt_5068e, Cond.code yJ0_charAt_5068e cJ0_charAt_5068e 2 (some .char), Cond.methodLink RJ0 492 yJ0_isLatin1_aae02, Cond.instanceMethod yJ0_isLatin1_aae02, Cond.selects RJ0 yJ0_isLatin1_aae02 yJ0_isLatin1_aae02, Cond.code yJ0_isLatin1_aae02 cJ0_isLatin1_aae02 1 (some .boolean), Cond.methodLink RJ0 495 yJ1_charAt_3b067, Cond.static yJ1_charAt_3b067, Cond.initialized RJ1, Cond.code yJ1_charAt_3b067 cJ1_charAt_3b067 2 (some .char), Cond.methodLink RJ1 9 yJ0_checkIndex_df160, Cond.static yJ0_checkIndex_df160, Cond.code yJ0_checkIndex_df160 cJ0_checkIndex_df160 2 none, Cond.fieldLink RJ0 1053 "jdk/internal/util/Preconditions" "SIOOBE_FORMATTER" "Ljava/util/function/BiFunction;", Cond.methodLink RJ0 1059 yJ3_checkIndex_8e157, Cond.static yJ3_checkIndex_8e157, Cond.initialized RJ3, Cond.code yJ3_checkIndex_8e157 cJ3_checkIndex_8e157 3 (some .int), Cond.methodLink RJ0 498 yJ2_charAt_3b067]
def wsX5_readChild_r4 : List Cond := [Cond.static yJ2_charAt_3b067, Cond.initialized RJ2, Cond.code yJ2_charAt_3b067 cJ2_charAt_3b067 2 (some .char), Cond.methodLink RJ2 67 yJ2_checkIndex_2214a, Cond.static yJ2_checkIndex_2214a, Cond.code yJ2_checkIndex_2214a cJ2_checkIndex_2214a 2 none, Cond.methodLink RJ2 48 yJ2_length_9d52b, Cond.static yJ2_length_9d52b, Cond.code yJ2_length_9d52b cJ2_length_9d52b 1 (some .int), Cond.methodLink RJ2 414 yJ0_checkIndex_df160, Cond.methodLink RJ2 71 yJ2_getChar_3b067, Cond.static yJ2_getChar_3b067, Cond.code yJ2_getChar_3b067 cJ2_getChar_3b067 2 (some .char), Cond.fieldLink RJ2 44 "java/lang/StringUTF16" "$assertionsDisabled" "Z", Cond.fieldLink RJ2 59 "java/lang/StringUTF16" "HI_BYTE_SHIFT" "I", Cond.fieldLink RJ2 63 "java/lang/StringUTF16" "LO_BYTE_SHIFT" "I", Cond.methodLink RX5 85 yX5_isDigit, Cond.static yX5_isDigit, Cond.code yX5_isDigit cX5_isDigit 1 (some .boolean), Cond.methodLink RX5 88 yX5_advanceOverNumber, Cond.instanceMethod yX5_advanceOverNumber, Cond.selects RX5 yX5_advanceOverNumber yX5_advanceOverNumber, Cond.code yX5_advanceOverNumber cX5_advanceOverNumber 3 none, Cond.methodLink RX5 99 Lib.Math.min.name]
def wsX5_readChild_r5 : List Cond := [Cond.static Lib.Math.min.name, Cond.initialized "java/lang/Math", Cond.code Lib.Math.min.name Lib.Math.min.code 2 (some .int), Cond.methodLink RX5 52 yX5_isNumberUpTo, Cond.instanceMethod yX5_isNumberUpTo, Cond.selects RX5 yX5_isNumberUpTo yX5_isNumberUpTo, Cond.code yX5_isNumberUpTo cX5_isNumberUpTo 2 (some .boolean), Cond.methodLink RX5 59 yX1_has, Cond.instanceMethod yX1_has, Cond.selects RX1 yX1_has yX1_has, Cond.code yX1_has cX1_has 2 (some .boolean), Cond.methodLink RX5 62 yX1_add, Cond.instanceMethod yX1_add, Cond.selects RX1 yX1_add yX1_add, Cond.code yX1_add cX1_add 4 none, Cond.fieldLink RX1 9 "SimonSays$Children" "slips" "[I", Cond.fieldLink RX1 15 "SimonSays$Children" "lates" "[I", Cond.fieldLink RX1 18 "SimonSays$Children" "copied" "[I"]
def wsX5_readChild : List Cond := .code yX5_readChild cX5_readChild 4 (some .boolean) :: ((wsX5_readChild_r1 ++ (wsX5_readChild_r2 ++ (wsX5_readChild_r3 ++ (wsX5_readChild_r4 ++ wsX5_readChild_r5)))) ++ wsX50 ++ wsX10 ++ wsX80)
def wsX5_readLittle_r1 : List Cond := [Cond.fieldLink RX5 32 "SimonSays$Reader" "token" "I", Cond.fieldLink RX5 18 "SimonSays$Reader" "found" "LSimonSays$Children;", Cond.fieldLink RX5 56 "SimonSays$Reader" "value" "I", Cond.methodLink RX5 29 yX5_advance, Cond.instanceMethod yX5_advance, Cond.selects RX5 yX5_advance yX5_advance, Cond.initialized RX5, Cond.code yX5_advance cX5_advance 2 none, Cond.fieldLink RX5 25 "SimonSays$Reader" "end" "I", Cond.fieldLink RX5 39 "SimonSays$Reader" "start" "I", Cond.fieldLink RX5 9 "SimonSays$Reader" "text" "LSimonSays$Text;", Cond.methodLink RX5 70 yX8_length, Cond.instanceMethod yX8_length, Cond.selects RX8 yX8_length yX8_length, Cond.initialized RX8, Cond.code yX8_length cX8_length 1 (some .int), Cond.fieldLink RX8 15 "SimonSays$Text" "length" "I", Cond.methodLink RX5 75 yX8_byteAt, Cond.instanceMethod yX8_byteAt, Cond.selects RX8 yX8_byteAt yX8_byteAt, Cond.code yX8_byteAt cX8_byteAt 2 (some .int), Cond.fieldLink RX8 9 "SimonSays$Text" "bytes" "[I", Cond.methodLink RX5 79 yX5_isLetter, Cond.static yX5_isLetter]
def wsX5_readLittle_r2 : List Cond := [Cond.code yX5_isLetter cX5_isLetter 1 (some .boolean), Cond.methodLink RX5 82 yX5_advanceOverWord, Cond.instanceMethod yX5_advanceOverWord, Cond.selects RX5 yX5_advanceOverWord yX5_advanceOverWord, Cond.code yX5_advanceOverWord cX5_advanceOverWord 1 none, Cond.methodLink RX5 93 yX5_spells, Cond.instanceMethod yX5_spells, Cond.selects RX5 yX5_spells yX5_spells, Cond.code yX5_spells cX5_spells 3 (some .boolean), Cond.methodLink RX5 105 yJ0_length_8abf5, Cond.instanceMethod yJ0_length_8abf5, Cond.selects RJ0 yJ0_length_8abf5 yJ0_length_8abf5, Cond.initialized RJ0, Cond.code yJ0_length_8abf5 cJ0_length_8abf5 1 (some .int), Cond.fieldLink RJ0 9 "java/lang/String" "value" "[B", Cond.methodLink RJ0 335 yJ0_coder_7d493, Cond.instanceMethod yJ0_coder_7d493, Cond.selects RJ0 yJ0_coder_7d493 yJ0_coder_7d493, Cond.code yJ0_coder_7d493 cJ0_coder_7d493 1 (some .byte), Cond.fieldLink RJ0 38 "java/lang/String" "COMPACT_STRINGS" "Z", Cond.fieldLink RJ0 15 "java/lang/String" "coder" "B", Cond.methodLink RX5 108 yJ0_charAt_5068e, Cond.instanceMethod yJ0_charAt_5068e, Cond.selects RJ0 yJ0_charAt_5068e yJ0_charAt_5068e]
def wsX5_readLittle_r3 : List Cond := [Cond.code yJ0_charAt_5068e cJ0_charAt_5068e 2 (some .char), Cond.methodLink RJ0 492 yJ0_isLatin1_aae02, Cond.instanceMethod yJ0_isLatin1_aae02, Cond.selects RJ0 yJ0_isLatin1_aae02 yJ0_isLatin1_aae02, Cond.code yJ0_isLatin1_aae02 cJ0_isLatin1_aae02 1 (some .boolean), Cond.methodLink RJ0 495 yJ1_charAt_3b067, Cond.static yJ1_charAt_3b067, Cond.initialized RJ1, Cond.code yJ1_charAt_3b067 cJ1_charAt_3b067 2 (some .char), Cond.methodLink RJ1 9 yJ0_checkIndex_df160, Cond.static yJ0_checkIndex_df160, Cond.code yJ0_checkIndex_df160 cJ0_checkIndex_df160 2 none, Cond.fieldLink RJ0 1053 "jdk/internal/util/Preconditions" "SIOOBE_FORMATTER" "Ljava/util/function/BiFunction;", Cond.methodLink RJ0 1059 yJ3_checkIndex_8e157, Cond.static yJ3_checkIndex_8e157, Cond.initialized RJ3, Cond.code yJ3_checkIndex_8e157 cJ3_checkIndex_8e157 3 (some .int), Cond.methodLink RJ0 498 yJ2_charAt_3b067, Cond.static yJ2_charAt_3b067, Cond.initialized RJ2, Cond.code yJ2_charAt_3b067 cJ2_charAt_3b067 2 (some .char), Cond.methodLink RJ2 67 yJ2_checkIndex_2214a, Cond.static yJ2_checkIndex_2214a, Cond.code yJ2_checkIndex_2214a cJ2_checkIndex_2214a 2 none]
def wsX5_readLittle_r4 : List Cond := [Cond.methodLink RJ2 48 yJ2_length_9d52b, Cond.static yJ2_length_9d52b, Cond.code yJ2_length_9d52b cJ2_length_9d52b 1 (some .int), Cond.methodLink RJ2 414 yJ0_checkIndex_df160, Cond.methodLink RJ2 71 yJ2_getChar_3b067, Cond.static yJ2_getChar_3b067, Cond.code yJ2_getChar_3b067 cJ2_getChar_3b067 2 (some .char), Cond.fieldLink RJ2 44 "java/lang/StringUTF16" "$assertionsDisabled" "Z", Cond.fieldLink RJ2 59 "java/lang/StringUTF16" "HI_BYTE_SHIFT" "I", Cond.fieldLink RJ2 63 "java/lang/StringUTF16" "LO_BYTE_SHIFT" "I", Cond.methodLink RX5 85 yX5_isDigit, Cond.static yX5_isDigit, Cond.code yX5_isDigit cX5_isDigit 1 (some .boolean), Cond.methodLink RX5 88 yX5_advanceOverNumber, Cond.instanceMethod yX5_advanceOverNumber, Cond.selects RX5 yX5_advanceOverNumber yX5_advanceOverNumber, Cond.code yX5_advanceOverNumber cX5_advanceOverNumber 3 none, Cond.methodLink RX5 99 Lib.Math.min.name, Cond.static Lib.Math.min.name, Cond.initialized "java/lang/Math", Cond.code Lib.Math.min.name Lib.Math.min.code 2 (some .int), Cond.methodLink RX5 59 yX1_has, Cond.instanceMethod yX1_has, Cond.selects RX1 yX1_has yX1_has]
def wsX5_readLittle_r5 : List Cond := [Cond.initialized RX1, Cond.code yX1_has cX1_has 2 (some .boolean), Cond.fieldLink RX1 21 "SimonSays$Children" "size" "I", Cond.methodLink RX5 66 yX1_makeLittle, Cond.instanceMethod yX1_makeLittle, Cond.selects RX1 yX1_makeLittle yX1_makeLittle, Cond.code yX1_makeLittle cX1_makeLittle 2 none, Cond.fieldLink RX1 25 "SimonSays$Children" "littleOnes" "I"]
def wsX5_readLittle : List Cond := .code yX5_readLittle cX5_readLittle 2 (some .boolean) :: ((wsX5_readLittle_r1 ++ (wsX5_readLittle_r2 ++ (wsX5_readLittle_r3 ++ (wsX5_readLittle_r4 ++ wsX5_readLittle_r5)))) ++ wsX50 ++ wsX80 ++ wsX10)
def wsX5_readItem_r1 : List Cond := [Cond.fieldLink RX5 32 "SimonSays$Reader" "token" "I", Cond.methodLink RX5 42 yX5_readChild, Cond.instanceMethod yX5_readChild, Cond.selects RX5 yX5_readChild yX5_readChild, Cond.initialized RX5, Cond.code yX5_readChild cX5_readChild 4 (some .boolean), Cond.fieldLink RX5 18 "SimonSays$Reader" "found" "LSimonSays$Children;", Cond.fieldLink RX5 56 "SimonSays$Reader" "value" "I", Cond.methodLink RX5 48 yX1_size, Cond.instanceMethod yX1_size, Cond.selects RX1 yX1_size yX1_size, Cond.initialized RX1, Cond.code yX1_size cX1_size 1 (some .int), Cond.fieldLink RX1 21 "SimonSays$Children" "size" "I", Cond.methodLink RX5 29 yX5_advance, Cond.instanceMethod yX5_advance, Cond.selects RX5 yX5_advance yX5_advance, Cond.code yX5_advance cX5_advance 2 none, Cond.fieldLink RX5 25 "SimonSays$Reader" "end" "I", Cond.fieldLink RX5 39 "SimonSays$Reader" "start" "I", Cond.fieldLink RX5 9 "SimonSays$Reader" "text" "LSimonSays$Text;", Cond.methodLink RX5 70 yX8_length, Cond.instanceMethod yX8_length, Cond.selects RX8 yX8_length yX8_length]
def wsX5_readItem_r2 : List Cond := [Cond.initialized RX8, Cond.code yX8_length cX8_length 1 (some .int), Cond.fieldLink RX8 15 "SimonSays$Text" "length" "I", Cond.methodLink RX5 75 yX8_byteAt, Cond.instanceMethod yX8_byteAt, Cond.selects RX8 yX8_byteAt yX8_byteAt, Cond.code yX8_byteAt cX8_byteAt 2 (some .int), Cond.fieldLink RX8 9 "SimonSays$Text" "bytes" "[I", Cond.methodLink RX5 79 yX5_isLetter, Cond.static yX5_isLetter, Cond.code yX5_isLetter cX5_isLetter 1 (some .boolean), Cond.methodLink RX5 82 yX5_advanceOverWord, Cond.instanceMethod yX5_advanceOverWord, Cond.selects RX5 yX5_advanceOverWord yX5_advanceOverWord, Cond.code yX5_advanceOverWord cX5_advanceOverWord 1 none, Cond.methodLink RX5 93 yX5_spells, Cond.instanceMethod yX5_spells, Cond.selects RX5 yX5_spells yX5_spells, Cond.code yX5_spells cX5_spells 3 (some .boolean), Cond.methodLink RX5 105 yJ0_length_8abf5, Cond.instanceMethod yJ0_length_8abf5, Cond.selects RJ0 yJ0_length_8abf5 yJ0_length_8abf5, Cond.initialized RJ0, Cond.code yJ0_length_8abf5 cJ0_length_8abf5 1 (some .int)]
def wsX5_readItem_r3 : List Cond := [Cond.fieldLink RJ0 9 "java/lang/String" "value" "[B", Cond.methodLink RJ0 335 yJ0_coder_7d493, Cond.instanceMethod yJ0_coder_7d493, Cond.selects RJ0 yJ0_coder_7d493 yJ0_coder_7d493, Cond.code yJ0_coder_7d493 cJ0_coder_7d493 1 (some .byte), Cond.fieldLink RJ0 38 "java/lang/String" "COMPACT_STRINGS" "Z", Cond.fieldLink RJ0 15 "java/lang/String" "coder" "B", Cond.methodLink RX5 108 yJ0_charAt_5068e, Cond.instanceMethod yJ0_charAt_5068e, Cond.selects RJ0 yJ0_charAt_5068e yJ0_charAt_5068e, Cond.code yJ0_charAt_5068e cJ0_charAt_5068e 2 (some .char), Cond.methodLink RJ0 492 yJ0_isLatin1_aae02, Cond.instanceMethod yJ0_isLatin1_aae02, Cond.selects RJ0 yJ0_isLatin1_aae02 yJ0_isLatin1_aae02, Cond.code yJ0_isLatin1_aae02 cJ0_isLatin1_aae02 1 (some .boolean), Cond.methodLink RJ0 495 yJ1_charAt_3b067, Cond.static yJ1_charAt_3b067, Cond.initialized RJ1, Cond.code yJ1_charAt_3b067 cJ1_charAt_3b067 2 (some .char), Cond.methodLink RJ1 9 yJ0_checkIndex_df160, Cond.static yJ0_checkIndex_df160, Cond.code yJ0_checkIndex_df160 cJ0_checkIndex_df160 2 none, Cond.fieldLink RJ0 1053 "jdk/internal/util/Preconditions" "SIOOBE_FORMATTER" "Ljava/util/function/BiFunction;", Cond.methodLink RJ0 1059 yJ3_checkIndex_8e157]
def wsX5_readItem_r4 : List Cond := [Cond.static yJ3_checkIndex_8e157, Cond.initialized RJ3, Cond.code yJ3_checkIndex_8e157 cJ3_checkIndex_8e157 3 (some .int), Cond.methodLink RJ0 498 yJ2_charAt_3b067, Cond.static yJ2_charAt_3b067, Cond.initialized RJ2, Cond.code yJ2_charAt_3b067 cJ2_charAt_3b067 2 (some .char), Cond.methodLink RJ2 67 yJ2_checkIndex_2214a, Cond.static yJ2_checkIndex_2214a, Cond.code yJ2_checkIndex_2214a cJ2_checkIndex_2214a 2 none, Cond.methodLink RJ2 48 yJ2_length_9d52b, Cond.static yJ2_length_9d52b, Cond.code yJ2_length_9d52b cJ2_length_9d52b 1 (some .int), Cond.methodLink RJ2 414 yJ0_checkIndex_df160, Cond.methodLink RJ2 71 yJ2_getChar_3b067, Cond.static yJ2_getChar_3b067, Cond.code yJ2_getChar_3b067 cJ2_getChar_3b067 2 (some .char), Cond.fieldLink RJ2 44 "java/lang/StringUTF16" "$assertionsDisabled" "Z", Cond.fieldLink RJ2 59 "java/lang/StringUTF16" "HI_BYTE_SHIFT" "I", Cond.fieldLink RJ2 63 "java/lang/StringUTF16" "LO_BYTE_SHIFT" "I", Cond.methodLink RX5 85 yX5_isDigit, Cond.static yX5_isDigit, Cond.code yX5_isDigit cX5_isDigit 1 (some .boolean), Cond.methodLink RX5 88 yX5_advanceOverNumber]
def wsX5_readItem_r5 : List Cond := [Cond.instanceMethod yX5_advanceOverNumber, Cond.selects RX5 yX5_advanceOverNumber yX5_advanceOverNumber, Cond.code yX5_advanceOverNumber cX5_advanceOverNumber 3 none, Cond.methodLink RX5 99 Lib.Math.min.name, Cond.static Lib.Math.min.name, Cond.initialized "java/lang/Math", Cond.code Lib.Math.min.name Lib.Math.min.code 2 (some .int), Cond.methodLink RX5 52 yX5_isNumberUpTo, Cond.instanceMethod yX5_isNumberUpTo, Cond.selects RX5 yX5_isNumberUpTo yX5_isNumberUpTo, Cond.code yX5_isNumberUpTo cX5_isNumberUpTo 2 (some .boolean), Cond.methodLink RX5 59 yX1_has, Cond.instanceMethod yX1_has, Cond.selects RX1 yX1_has yX1_has, Cond.code yX1_has cX1_has 2 (some .boolean), Cond.methodLink RX5 62 yX1_add, Cond.instanceMethod yX1_add, Cond.selects RX1 yX1_add yX1_add, Cond.code yX1_add cX1_add 4 none, Cond.fieldLink RX1 9 "SimonSays$Children" "slips" "[I", Cond.fieldLink RX1 15 "SimonSays$Children" "lates" "[I", Cond.fieldLink RX1 18 "SimonSays$Children" "copied" "[I", Cond.methodLink RX5 45 yX5_readLittle, Cond.instanceMethod yX5_readLittle]
def wsX5_readItem_r6 : List Cond := [Cond.selects RX5 yX5_readLittle yX5_readLittle, Cond.code yX5_readLittle cX5_readLittle 2 (some .boolean), Cond.methodLink RX5 66 yX1_makeLittle, Cond.instanceMethod yX1_makeLittle, Cond.selects RX1 yX1_makeLittle yX1_makeLittle, Cond.code yX1_makeLittle cX1_makeLittle 2 none, Cond.fieldLink RX1 25 "SimonSays$Children" "littleOnes" "I"]
def wsX5_readItem : List Cond := .code yX5_readItem cX5_readItem 1 (some .boolean) :: ((wsX5_readItem_r1 ++ (wsX5_readItem_r2 ++ (wsX5_readItem_r3 ++ (wsX5_readItem_r4 ++ (wsX5_readItem_r5 ++ wsX5_readItem_r6))))) ++ wsX50 ++ wsX10 ++ wsX80)
def wsX5_readItems_r1 : List Cond := [Cond.fieldLink RX5 18 "SimonSays$Reader" "found" "LSimonSays$Children;", Cond.fieldLink RX5 25 "SimonSays$Reader" "end" "I", Cond.fieldLink RX5 32 "SimonSays$Reader" "token" "I", Cond.methodLink RX5 22 yX1_forget, Cond.instanceMethod yX1_forget, Cond.selects RX1 yX1_forget yX1_forget, Cond.initialized RX1, Cond.code yX1_forget cX1_forget 1 none, Cond.fieldLink RX1 21 "SimonSays$Children" "size" "I", Cond.fieldLink RX1 25 "SimonSays$Children" "littleOnes" "I", Cond.methodLink RX5 29 yX5_advance, Cond.instanceMethod yX5_advance, Cond.selects RX5 yX5_advance yX5_advance, Cond.initialized RX5, Cond.code yX5_advance cX5_advance 2 none, Cond.fieldLink RX5 39 "SimonSays$Reader" "start" "I", Cond.fieldLink RX5 9 "SimonSays$Reader" "text" "LSimonSays$Text;", Cond.methodLink RX5 70 yX8_length, Cond.instanceMethod yX8_length, Cond.selects RX8 yX8_length yX8_length, Cond.initialized RX8, Cond.code yX8_length cX8_length 1 (some .int), Cond.fieldLink RX8 15 "SimonSays$Text" "length" "I", Cond.methodLink RX5 75 yX8_byteAt]
def wsX5_readItems_r2 : List Cond := [Cond.instanceMethod yX8_byteAt, Cond.selects RX8 yX8_byteAt yX8_byteAt, Cond.code yX8_byteAt cX8_byteAt 2 (some .int), Cond.fieldLink RX8 9 "SimonSays$Text" "bytes" "[I", Cond.methodLink RX5 79 yX5_isLetter, Cond.static yX5_isLetter, Cond.code yX5_isLetter cX5_isLetter 1 (some .boolean), Cond.methodLink RX5 82 yX5_advanceOverWord, Cond.instanceMethod yX5_advanceOverWord, Cond.selects RX5 yX5_advanceOverWord yX5_advanceOverWord, Cond.code yX5_advanceOverWord cX5_advanceOverWord 1 none, Cond.methodLink RX5 93 yX5_spells, Cond.instanceMethod yX5_spells, Cond.selects RX5 yX5_spells yX5_spells, Cond.code yX5_spells cX5_spells 3 (some .boolean), Cond.methodLink RX5 105 yJ0_length_8abf5, Cond.instanceMethod yJ0_length_8abf5, Cond.selects RJ0 yJ0_length_8abf5 yJ0_length_8abf5, Cond.initialized RJ0, Cond.code yJ0_length_8abf5 cJ0_length_8abf5 1 (some .int), Cond.fieldLink RJ0 9 "java/lang/String" "value" "[B", Cond.methodLink RJ0 335 yJ0_coder_7d493, Cond.instanceMethod yJ0_coder_7d493, Cond.selects RJ0 yJ0_coder_7d493 yJ0_coder_7d493]
def wsX5_readItems_r3 : List Cond := [Cond.code yJ0_coder_7d493 cJ0_coder_7d493 1 (some .byte), Cond.fieldLink RJ0 38 "java/lang/String" "COMPACT_STRINGS" "Z", Cond.fieldLink RJ0 15 "java/lang/String" "coder" "B", Cond.methodLink RX5 108 yJ0_charAt_5068e, Cond.instanceMethod yJ0_charAt_5068e, Cond.selects RJ0 yJ0_charAt_5068e yJ0_charAt_5068e, Cond.code yJ0_charAt_5068e cJ0_charAt_5068e 2 (some .char), Cond.methodLink RJ0 492 yJ0_isLatin1_aae02, Cond.instanceMethod yJ0_isLatin1_aae02, Cond.selects RJ0 yJ0_isLatin1_aae02 yJ0_isLatin1_aae02, Cond.code yJ0_isLatin1_aae02 cJ0_isLatin1_aae02 1 (some .boolean), Cond.methodLink RJ0 495 yJ1_charAt_3b067, Cond.static yJ1_charAt_3b067, Cond.initialized RJ1, Cond.code yJ1_charAt_3b067 cJ1_charAt_3b067 2 (some .char), Cond.methodLink RJ1 9 yJ0_checkIndex_df160, Cond.static yJ0_checkIndex_df160, Cond.code yJ0_checkIndex_df160 cJ0_checkIndex_df160 2 none, Cond.fieldLink RJ0 1053 "jdk/internal/util/Preconditions" "SIOOBE_FORMATTER" "Ljava/util/function/BiFunction;", Cond.methodLink RJ0 1059 yJ3_checkIndex_8e157, Cond.static yJ3_checkIndex_8e157, Cond.initialized RJ3, Cond.code yJ3_checkIndex_8e157 cJ3_checkIndex_8e157 3 (some .int), Cond.methodLink RJ0 498 yJ2_charAt_3b067]
def wsX5_readItems_r4 : List Cond := [Cond.static yJ2_charAt_3b067, Cond.initialized RJ2, Cond.code yJ2_charAt_3b067 cJ2_charAt_3b067 2 (some .char), Cond.methodLink RJ2 67 yJ2_checkIndex_2214a, Cond.static yJ2_checkIndex_2214a, Cond.code yJ2_checkIndex_2214a cJ2_checkIndex_2214a 2 none, Cond.methodLink RJ2 48 yJ2_length_9d52b, Cond.static yJ2_length_9d52b, Cond.code yJ2_length_9d52b cJ2_length_9d52b 1 (some .int), Cond.methodLink RJ2 414 yJ0_checkIndex_df160, Cond.methodLink RJ2 71 yJ2_getChar_3b067, Cond.static yJ2_getChar_3b067, Cond.code yJ2_getChar_3b067 cJ2_getChar_3b067 2 (some .char), Cond.fieldLink RJ2 44 "java/lang/StringUTF16" "$assertionsDisabled" "Z", Cond.fieldLink RJ2 59 "java/lang/StringUTF16" "HI_BYTE_SHIFT" "I", Cond.fieldLink RJ2 63 "java/lang/StringUTF16" "LO_BYTE_SHIFT" "I", Cond.methodLink RX5 85 yX5_isDigit, Cond.static yX5_isDigit, Cond.code yX5_isDigit cX5_isDigit 1 (some .boolean), Cond.methodLink RX5 88 yX5_advanceOverNumber, Cond.instanceMethod yX5_advanceOverNumber, Cond.selects RX5 yX5_advanceOverNumber yX5_advanceOverNumber, Cond.code yX5_advanceOverNumber cX5_advanceOverNumber 3 none, Cond.fieldLink RX5 56 "SimonSays$Reader" "value" "I"]
def wsX5_readItems_r5 : List Cond := [Cond.methodLink RX5 99 Lib.Math.min.name, Cond.static Lib.Math.min.name, Cond.initialized "java/lang/Math", Cond.code Lib.Math.min.name Lib.Math.min.code 2 (some .int), Cond.methodLink RX5 35 yX5_readItem, Cond.instanceMethod yX5_readItem, Cond.selects RX5 yX5_readItem yX5_readItem, Cond.code yX5_readItem cX5_readItem 1 (some .boolean), Cond.methodLink RX5 42 yX5_readChild, Cond.instanceMethod yX5_readChild, Cond.selects RX5 yX5_readChild yX5_readChild, Cond.code yX5_readChild cX5_readChild 4 (some .boolean), Cond.methodLink RX5 48 yX1_size, Cond.instanceMethod yX1_size, Cond.selects RX1 yX1_size yX1_size, Cond.code yX1_size cX1_size 1 (some .int), Cond.methodLink RX5 52 yX5_isNumberUpTo, Cond.instanceMethod yX5_isNumberUpTo, Cond.selects RX5 yX5_isNumberUpTo yX5_isNumberUpTo, Cond.code yX5_isNumberUpTo cX5_isNumberUpTo 2 (some .boolean), Cond.methodLink RX5 59 yX1_has, Cond.instanceMethod yX1_has, Cond.selects RX1 yX1_has yX1_has, Cond.code yX1_has cX1_has 2 (some .boolean)]
def wsX5_readItems_r6 : List Cond := [Cond.methodLink RX5 62 yX1_add, Cond.instanceMethod yX1_add, Cond.selects RX1 yX1_add yX1_add, Cond.code yX1_add cX1_add 4 none, Cond.fieldLink RX1 9 "SimonSays$Children" "slips" "[I", Cond.fieldLink RX1 15 "SimonSays$Children" "lates" "[I", Cond.fieldLink RX1 18 "SimonSays$Children" "copied" "[I", Cond.methodLink RX5 45 yX5_readLittle, Cond.instanceMethod yX5_readLittle, Cond.selects RX5 yX5_readLittle yX5_readLittle, Cond.code yX5_readLittle cX5_readLittle 2 (some .boolean), Cond.methodLink RX5 66 yX1_makeLittle, Cond.instanceMethod yX1_makeLittle, Cond.selects RX1 yX1_makeLittle yX1_makeLittle, Cond.code yX1_makeLittle cX1_makeLittle 2 none]
def wsX5_readItems : List Cond := .code yX5_readItems cX5_readItems 2 (some .int) :: ((wsX5_readItems_r1 ++ (wsX5_readItems_r2 ++ (wsX5_readItems_r3 ++ (wsX5_readItems_r4 ++ (wsX5_readItems_r5 ++ wsX5_readItems_r6))))) ++ wsX50 ++ wsX10 ++ wsX80)
def wsX5_fault : List Cond := .code yX5_fault cX5_fault 1 (some .int) :: ([.fieldLink RX5 39 "SimonSays$Reader" "start" "I"] ++ wsX50)
def wsX5_found : List Cond := .code yX5_found cX5_found 1 (some (.object "SimonSays$Children")) :: ([.fieldLink RX5 18 "SimonSays$Reader" "found" "LSimonSays$Children;"] ++ wsX50)
def wsX6_init : List Cond := .code yX6_init cX6_init 2 none :: ([.methodLink RX6 3 objectInit, .instanceMethod objectInit, .code objectInit ⟨#[0xb1]⟩ 1 none, .fieldLink RX6 9 "SimonSays$Round" "told" "LSimonSays$Children;", .fieldLink RX6 15 "SimonSays$Round" "lot" "I"] ++ wsX60)
def wsX6_startAnew : List Cond := .code yX6_startAnew cX6_startAnew 1 none :: ([.fieldLink RX6 9 "SimonSays$Round" "told" "LSimonSays$Children;", .methodLink RX6 19 yX1_everyone, .instanceMethod yX1_everyone, .selects RX1 yX1_everyone yX1_everyone, .initialized RX1, .code yX1_everyone cX1_everyone 1 (some .int), .fieldLink RX1 21 "SimonSays$Children" "size" "I", .methodLink RX6 25 yX6_become, .instanceMethod yX6_become, .selects RX6 yX6_become yX6_become, .initialized RX6, .code yX6_become cX6_become 3 none, .fieldLink RX6 29 "SimonSays$Round" "in" "I", .fieldLink RX6 32 "SimonSays$Round" "streak" "I"] ++ wsX60 ++ wsX10)
def wsX6_letIn : List Cond := .code yX6_letIn cX6_letIn 2 none :: ([.fieldLink RX6 29 "SimonSays$Round" "in" "I"] ++ wsX60)
def wsX6_draw : List Cond := .code yX6_draw cX6_draw 1 (some .int) :: ([.fieldLink RX6 15 "SimonSays$Round" "lot" "I", .constant RX6 74 (1103515245)] ++ wsX60)
def wsX6_obey_r1 : List Cond := [Cond.fieldLink RX6 9 "SimonSays$Round" "told" "LSimonSays$Children;", Cond.fieldLink RX6 32 "SimonSays$Round" "streak" "I", Cond.fieldLink RX6 29 "SimonSays$Round" "in" "I", Cond.methodLink RX6 54 yX1_size, Cond.instanceMethod yX1_size, Cond.selects RX1 yX1_size yX1_size, Cond.initialized RX1, Cond.code yX1_size cX1_size 1 (some .int), Cond.fieldLink RX1 21 "SimonSays$Children" "size" "I", Cond.methodLink RX6 57 yX6_isLeader, Cond.instanceMethod yX6_isLeader, Cond.selects RX6 yX6_isLeader yX6_isLeader, Cond.initialized RX6, Cond.code yX6_isLeader cX6_isLeader 2 (some .boolean), Cond.methodLink RX6 48 yX6_isIn, Cond.instanceMethod yX6_isIn, Cond.selects RX6 yX6_isIn yX6_isIn, Cond.code yX6_isIn cX6_isIn 2 (some .boolean), Cond.methodLink RX6 41 yX1_has, Cond.instanceMethod yX1_has, Cond.selects RX1 yX1_has yX1_has, Cond.code yX1_has cX1_has 2 (some .boolean), Cond.methodLink RX6 51 yX6_leaderOf, Cond.instanceMethod yX6_leaderOf]
def wsX6_obey_r2 : List Cond := [Cond.selects RX6 yX6_leaderOf yX6_leaderOf, Cond.code yX6_leaderOf cX6_leaderOf 5 (some .int), Cond.methodLink RX6 45 yX1_copiedBy, Cond.instanceMethod yX1_copiedBy, Cond.selects RX1 yX1_copiedBy yX1_copiedBy, Cond.code yX1_copiedBy cX1_copiedBy 2 (some .int), Cond.fieldLink RX1 18 "SimonSays$Children" "copied" "[I", Cond.methodLink RX1 49 yX1_has, Cond.methodLink RX6 60 yX6_draw, Cond.instanceMethod yX6_draw, Cond.selects RX6 yX6_draw yX6_draw, Cond.code yX6_draw cX6_draw 1 (some .int), Cond.fieldLink RX6 15 "SimonSays$Round" "lot" "I", Cond.constant RX6 74 (1103515245), Cond.methodLink RX6 63 yX1_errsOf, Cond.instanceMethod yX1_errsOf, Cond.selects RX1 yX1_errsOf yX1_errsOf, Cond.code yX1_errsOf cX1_errsOf 4 (some .int), Cond.methodLink RX1 53 Lib.Math.min.name, Cond.static Lib.Math.min.name, Cond.initialized "java/lang/Math", Cond.code Lib.Math.min.name Lib.Math.min.code 2 (some .int), Cond.methodLink RX1 31 yX1_slipOf, Cond.instanceMethod yX1_slipOf]
def wsX6_obey_r3 : List Cond := [Cond.selects RX1 yX1_slipOf yX1_slipOf, Cond.code yX1_slipOf cX1_slipOf 2 (some .int), Cond.fieldLink RX1 9 "SimonSays$Children" "slips" "[I", Cond.methodLink RX1 35 yX1_lateOf, Cond.instanceMethod yX1_lateOf, Cond.selects RX1 yX1_lateOf yX1_lateOf, Cond.code yX1_lateOf cX1_lateOf 2 (some .int), Cond.fieldLink RX1 15 "SimonSays$Children" "lates" "[I", Cond.methodLink RX6 67 yX6_groupOf, Cond.instanceMethod yX6_groupOf, Cond.selects RX6 yX6_groupOf yX6_groupOf, Cond.code yX6_groupOf cX6_groupOf 4 (some .int), Cond.static yX9_streakBehind, Cond.initialized RX9, Cond.code yX9_streakBehind cX9_streakBehind 2 (some .int), Cond.methodLink RX9 265 Lib.Math.min.name, Cond.methodLink RX6 25 yX6_become, Cond.instanceMethod yX6_become, Cond.selects RX6 yX6_become yX6_become, Cond.code yX6_become cX6_become 3 none]
def wsX6_obey : List Cond := .code yX6_obey cX6_obey 4 (some .int) :: ((wsX6_obey_r1 ++ (wsX6_obey_r2 ++ wsX6_obey_r3)) ++ wsX60 ++ wsX10)
def wsX6_fewestSaidAhead_r1 : List Cond := [Cond.fieldLink RX6 32 "SimonSays$Round" "streak" "I", Cond.fieldLink RX6 9 "SimonSays$Round" "told" "LSimonSays$Children;", Cond.methodLink RX6 51 yX6_leaderOf, Cond.instanceMethod yX6_leaderOf, Cond.selects RX6 yX6_leaderOf yX6_leaderOf, Cond.initialized RX6, Cond.code yX6_leaderOf cX6_leaderOf 5 (some .int), Cond.methodLink RX6 45 yX1_copiedBy, Cond.instanceMethod yX1_copiedBy, Cond.selects RX1 yX1_copiedBy yX1_copiedBy, Cond.initialized RX1, Cond.code yX1_copiedBy cX1_copiedBy 2 (some .int), Cond.fieldLink RX1 18 "SimonSays$Children" "copied" "[I", Cond.methodLink RX1 49 yX1_has, Cond.instanceMethod yX1_has, Cond.selects RX1 yX1_has yX1_has, Cond.code yX1_has cX1_has 2 (some .boolean), Cond.fieldLink RX1 21 "SimonSays$Children" "size" "I", Cond.methodLink RX6 48 yX6_isIn, Cond.instanceMethod yX6_isIn, Cond.selects RX6 yX6_isIn yX6_isIn, Cond.code yX6_isIn cX6_isIn 2 (some .boolean), Cond.fieldLink RX6 29 "SimonSays$Round" "in" "I", Cond.methodLink RX6 41 yX1_has]
def wsX6_fewestSaidAhead_r2 : List Cond := [Cond.methodLink RX6 63 yX1_errsOf, Cond.instanceMethod yX1_errsOf, Cond.selects RX1 yX1_errsOf yX1_errsOf, Cond.code yX1_errsOf cX1_errsOf 4 (some .int), Cond.methodLink RX1 53 Lib.Math.min.name, Cond.static Lib.Math.min.name, Cond.initialized "java/lang/Math", Cond.code Lib.Math.min.name Lib.Math.min.code 2 (some .int), Cond.methodLink RX1 31 yX1_slipOf, Cond.instanceMethod yX1_slipOf, Cond.selects RX1 yX1_slipOf yX1_slipOf, Cond.code yX1_slipOf cX1_slipOf 2 (some .int), Cond.fieldLink RX1 9 "SimonSays$Children" "slips" "[I", Cond.methodLink RX1 35 yX1_lateOf, Cond.instanceMethod yX1_lateOf, Cond.selects RX1 yX1_lateOf yX1_lateOf, Cond.code yX1_lateOf cX1_lateOf 2 (some .int), Cond.fieldLink RX1 15 "SimonSays$Children" "lates" "[I", Cond.static yX9_streakBehind, Cond.initialized RX9, Cond.code yX9_streakBehind cX9_streakBehind 2 (some .int), Cond.methodLink RX9 265 Lib.Math.min.name]
def wsX6_fewestSaidAhead : List Cond := .code yX6_fewestSaidAhead cX6_fewestSaidAhead 6 (some .int) :: ((wsX6_fewestSaidAhead_r1 ++ wsX6_fewestSaidAhead_r2) ++ wsX60 ++ wsX10)
def wsX6_isFair : List Cond := .code yX6_isFair cX6_isFair 3 (some .boolean) :: ([.fieldLink RX6 9 "SimonSays$Round" "told" "LSimonSays$Children;", .fieldLink RX6 29 "SimonSays$Round" "in" "I", .methodLink RX6 75 yX1_littleOnes, .instanceMethod yX1_littleOnes, .selects RX1 yX1_littleOnes yX1_littleOnes, .initialized RX1, .code yX1_littleOnes cX1_littleOnes 1 (some .int), .fieldLink RX1 25 "SimonSays$Children" "littleOnes" "I"] ++ wsX60 ++ wsX10)
def wsX7_init : List Cond := .code yX7_init cX7_init 1 none :: ([.methodLink RX7 3 objectInit, .instanceMethod objectInit, .code objectInit ⟨#[0xb1]⟩ 1 none, .arrayClass .int, .fieldLink RX7 9 "SimonSays$Row" "figures" "[I"] ++ wsX70)
def wsX8_init : List Cond := .code yX8_init cX8_init 1 none :: ([.methodLink RX8 3 objectInit, .instanceMethod objectInit, .code objectInit ⟨#[0xb1]⟩ 1 none, .arrayClass .int, .fieldLink RX8 9 "SimonSays$Text" "bytes" "[I"] ++ wsX80)
def wsX8_append : List Cond := .code yX8_append cX8_append 2 none :: ([.fieldLink RX8 15 "SimonSays$Text" "length" "I", .fieldLink RX8 9 "SimonSays$Text" "bytes" "[I"] ++ wsX80)
def wsX8_drop : List Cond := .code yX8_drop cX8_drop 1 none :: ([.fieldLink RX8 15 "SimonSays$Text" "length" "I"] ++ wsX80)
def wsX9_init_r1 : List Cond := [Cond.methodLink RX9 1 objectInit, Cond.instanceMethod objectInit, Cond.code objectInit ⟨#[0xb1]⟩ 1 none, Cond.classLink RX9 7 RX8, Cond.instantiable RX8 2, Cond.initialized RX8, Cond.fieldLink RX9 10 "SimonSays" "text" "LSimonSays$Text;", Cond.classLink RX9 16 RX5, Cond.instantiable RX5 6, Cond.initialized RX5, Cond.fieldLink RX9 21 "SimonSays" "reader" "LSimonSays$Reader;", Cond.classLink RX9 25 RX1, Cond.instantiable RX1 5, Cond.initialized RX1, Cond.fieldLink RX9 28 "SimonSays" "told" "LSimonSays$Children;", Cond.classLink RX9 32 RX6, Cond.instantiable RX6 4, Cond.initialized RX6, Cond.fieldLink RX9 37 "SimonSays" "round" "LSimonSays$Round;", Cond.classLink RX9 41 RX2, Cond.instantiable RX2 3, Cond.initialized RX2, Cond.fieldLink RX9 44 "SimonSays" "history" "LSimonSays$History;", Cond.classLink RX9 48 RX3]
def wsX9_init_r2 : List Cond := [Cond.fieldLink RX9 50 "SimonSays" "images" "[LSimonSays$Image;", Cond.instantiable RX3 4, Cond.initialized RX3, Cond.classLink RX9 55 RX7, Cond.instantiable RX7 2, Cond.initialized RX7, Cond.fieldLink RX9 58 "SimonSays" "asked" "LSimonSays$Row;", Cond.classLink RX9 62 RX0, Cond.instantiable RX0 4, Cond.initialized RX0, Cond.fieldLink RX9 67 "SimonSays" "chances" "LSimonSays$Chances;", Cond.classLink RX9 71 RX4, Cond.instantiable RX4 3, Cond.initialized RX4, Cond.fieldLink RX9 76 "SimonSays" "kinds" "LSimonSays$Kinds;", Cond.methodLink RX9 9 yX8_init, Cond.instanceMethod yX8_init, Cond.code yX8_init cX8_init 1 none, Cond.methodLink RX8 3 objectInit, Cond.arrayClass .int, Cond.fieldLink RX8 9 "SimonSays$Text" "bytes" "[I", Cond.methodLink RX9 18 yX5_init, Cond.instanceMethod yX5_init, Cond.code yX5_init cX5_init 2 none]
def wsX9_init_r3 : List Cond := [Cond.methodLink RX5 3 objectInit, Cond.fieldLink RX5 9 "SimonSays$Reader" "text" "LSimonSays$Text;", Cond.classLink RX5 15 RX1, Cond.fieldLink RX5 18 "SimonSays$Reader" "found" "LSimonSays$Children;", Cond.methodLink RX5 17 yX1_init, Cond.instanceMethod yX1_init, Cond.code yX1_init cX1_init 1 none, Cond.methodLink RX1 3 objectInit, Cond.fieldLink RX1 9 "SimonSays$Children" "slips" "[I", Cond.fieldLink RX1 15 "SimonSays$Children" "lates" "[I", Cond.fieldLink RX1 18 "SimonSays$Children" "copied" "[I", Cond.methodLink RX9 27 yX1_init, Cond.methodLink RX9 34 yX6_init, Cond.instanceMethod yX6_init, Cond.code yX6_init cX6_init 2 none, Cond.methodLink RX6 3 objectInit, Cond.fieldLink RX6 9 "SimonSays$Round" "told" "LSimonSays$Children;", Cond.fieldLink RX6 15 "SimonSays$Round" "lot" "I", Cond.methodLink RX9 43 yX2_init, Cond.instanceMethod yX2_init, Cond.code yX2_init cX2_init 1 none, Cond.methodLink RX2 3 objectInit, Cond.fieldLink RX2 9 "SimonSays$History" "ins" "[I", Cond.fieldLink RX2 15 "SimonSays$History" "streaks" "[I"]
def wsX9_init_r4 : List Cond := [Cond.methodLink RX9 54 yX3_init, Cond.instanceMethod yX3_init, Cond.code yX3_init cX3_init 1 none, Cond.methodLink RX3 1 objectInit, Cond.fieldLink RX3 7 "SimonSays$Image" "kept" "Z", Cond.methodLink RX9 57 yX7_init, Cond.instanceMethod yX7_init, Cond.code yX7_init cX7_init 1 none, Cond.methodLink RX7 3 objectInit, Cond.fieldLink RX7 9 "SimonSays$Row" "figures" "[I", Cond.methodLink RX9 64 yX0_init, Cond.instanceMethod yX0_init, Cond.code yX0_init cX0_init 4 none, Cond.methodLink RX0 3 objectInit, Cond.fieldLink RX0 9 "SimonSays$Chances" "told" "LSimonSays$Children;", Cond.fieldLink RX0 15 "SimonSays$Chances" "round" "LSimonSays$Round;", Cond.fieldLink RX0 19 "SimonSays$Chances" "row" "LSimonSays$Row;", Cond.arrayClass .long, Cond.fieldLink RX0 23 "SimonSays$Chances" "byNumber" "[J", Cond.methodLink RX9 73 yX4_init, Cond.instanceMethod yX4_init, Cond.code yX4_init cX4_init 3 none, Cond.methodLink RX4 3 objectInit, Cond.fieldLink RX4 9 "SimonSays$Kinds" "told" "LSimonSays$Children;"]
def wsX9_init_r5 : List Cond := [Cond.fieldLink RX4 15 "SimonSays$Kinds" "round" "LSimonSays$Round;"]
def wsX9_init : List Cond := .code yX9_init cX9_init 2 none :: ((wsX9_init_r1 ++ (wsX9_init_r2 ++ (wsX9_init_r3 ++ (wsX9_init_r4 ++ wsX9_init_r5)))) ++ wsX80 ++ wsX90 ++ wsX50 ++ wsX10 ++ wsX60 ++ wsX20 ++ wsX30 ++ wsX70 ++ wsX00 ++ wsX40)
def wsX9_type : List Cond := .code yX9_type cX9_type 5 (some .int) :: ([.fieldLink RX9 10 "SimonSays" "text" "LSimonSays$Text;", .methodLink RX9 80 yX8_length, .instanceMethod yX8_length, .selects RX8 yX8_length yX8_length, .initialized RX8, .code yX8_length cX8_length 1 (some .int), .fieldLink RX8 15 "SimonSays$Text" "length" "I", .methodLink RX9 84 yX8_append, .instanceMethod yX8_append, .selects RX8 yX8_append yX8_append, .code yX8_append cX8_append 2 none, .fieldLink RX8 9 "SimonSays$Text" "bytes" "[I"] ++ wsX90 ++ wsX80)
def wsX9_clear : List Cond := .code yX9_clear cX9_clear 2 (some .int) :: ([.fieldLink RX9 10 "SimonSays" "text" "LSimonSays$Text;", .methodLink RX9 80 yX8_length, .instanceMethod yX8_length, .selects RX8 yX8_length yX8_length, .initialized RX8, .code yX8_length cX8_length 1 (some .int), .fieldLink RX8 15 "SimonSays$Text" "length" "I", .methodLink RX9 88 yX8_drop, .instanceMethod yX8_drop, .selects RX8 yX8_drop yX8_drop, .code yX8_drop cX8_drop 1 none] ++ wsX90 ++ wsX80)
def wsX9_children_r1 : List Cond := [Cond.fieldLink RX9 21 "SimonSays" "reader" "LSimonSays$Reader;", Cond.fieldLink RX9 28 "SimonSays" "told" "LSimonSays$Children;", Cond.fieldLink RX9 37 "SimonSays" "round" "LSimonSays$Round;", Cond.fieldLink RX9 44 "SimonSays" "history" "LSimonSays$History;", Cond.fieldLink RX9 50 "SimonSays" "images" "[LSimonSays$Image;", Cond.fieldLink RX9 10 "SimonSays" "text" "LSimonSays$Text;", Cond.methodLink RX9 91 yX5_readItems, Cond.instanceMethod yX5_readItems, Cond.selects RX5 yX5_readItems yX5_readItems, Cond.initialized RX5, Cond.code yX5_readItems cX5_readItems 2 (some .int), Cond.fieldLink RX5 18 "SimonSays$Reader" "found" "LSimonSays$Children;", Cond.fieldLink RX5 25 "SimonSays$Reader" "end" "I", Cond.fieldLink RX5 32 "SimonSays$Reader" "token" "I", Cond.methodLink RX5 22 yX1_forget, Cond.instanceMethod yX1_forget, Cond.selects RX1 yX1_forget yX1_forget, Cond.initialized RX1, Cond.code yX1_forget cX1_forget 1 none, Cond.fieldLink RX1 21 "SimonSays$Children" "size" "I", Cond.fieldLink RX1 25 "SimonSays$Children" "littleOnes" "I", Cond.methodLink RX5 29 yX5_advance, Cond.instanceMethod yX5_advance, Cond.selects RX5 yX5_advance yX5_advance]
def wsX9_children_r2 : List Cond := [Cond.code yX5_advance cX5_advance 2 none, Cond.fieldLink RX5 39 "SimonSays$Reader" "start" "I", Cond.fieldLink RX5 9 "SimonSays$Reader" "text" "LSimonSays$Text;", Cond.methodLink RX5 70 yX8_length, Cond.instanceMethod yX8_length, Cond.selects RX8 yX8_length yX8_length, Cond.initialized RX8, Cond.code yX8_length cX8_length 1 (some .int), Cond.fieldLink RX8 15 "SimonSays$Text" "length" "I", Cond.methodLink RX5 75 yX8_byteAt, Cond.instanceMethod yX8_byteAt, Cond.selects RX8 yX8_byteAt yX8_byteAt, Cond.code yX8_byteAt cX8_byteAt 2 (some .int), Cond.fieldLink RX8 9 "SimonSays$Text" "bytes" "[I", Cond.methodLink RX5 79 yX5_isLetter, Cond.static yX5_isLetter, Cond.code yX5_isLetter cX5_isLetter 1 (some .boolean), Cond.methodLink RX5 82 yX5_advanceOverWord, Cond.instanceMethod yX5_advanceOverWord, Cond.selects RX5 yX5_advanceOverWord yX5_advanceOverWord, Cond.code yX5_advanceOverWord cX5_advanceOverWord 1 none, Cond.methodLink RX5 93 yX5_spells, Cond.instanceMethod yX5_spells, Cond.selects RX5 yX5_spells yX5_spells]
def wsX9_children_r3 : List Cond := [Cond.code yX5_spells cX5_spells 3 (some .boolean), Cond.methodLink RX5 105 yJ0_length_8abf5, Cond.instanceMethod yJ0_length_8abf5, Cond.selects RJ0 yJ0_length_8abf5 yJ0_length_8abf5, Cond.initialized RJ0, Cond.code yJ0_length_8abf5 cJ0_length_8abf5 1 (some .int), Cond.fieldLink RJ0 9 "java/lang/String" "value" "[B", Cond.methodLink RJ0 335 yJ0_coder_7d493, Cond.instanceMethod yJ0_coder_7d493, Cond.selects RJ0 yJ0_coder_7d493 yJ0_coder_7d493, Cond.code yJ0_coder_7d493 cJ0_coder_7d493 1 (some .byte), Cond.fieldLink RJ0 38 "java/lang/String" "COMPACT_STRINGS" "Z", Cond.fieldLink RJ0 15 "java/lang/String" "coder" "B", Cond.methodLink RX5 108 yJ0_charAt_5068e, Cond.instanceMethod yJ0_charAt_5068e, Cond.selects RJ0 yJ0_charAt_5068e yJ0_charAt_5068e, Cond.code yJ0_charAt_5068e cJ0_charAt_5068e 2 (some .char), Cond.methodLink RJ0 492 yJ0_isLatin1_aae02, Cond.instanceMethod yJ0_isLatin1_aae02, Cond.selects RJ0 yJ0_isLatin1_aae02 yJ0_isLatin1_aae02, Cond.code yJ0_isLatin1_aae02 cJ0_isLatin1_aae02 1 (some .boolean), Cond.methodLink RJ0 495 yJ1_charAt_3b067, Cond.static yJ1_charAt_3b067, Cond.initialized RJ1]
def wsX9_children_r4 : List Cond := [Cond.code yJ1_charAt_3b067 cJ1_charAt_3b067 2 (some .char), Cond.methodLink RJ1 9 yJ0_checkIndex_df160, Cond.static yJ0_checkIndex_df160, Cond.code yJ0_checkIndex_df160 cJ0_checkIndex_df160 2 none, Cond.fieldLink RJ0 1053 "jdk/internal/util/Preconditions" "SIOOBE_FORMATTER" "Ljava/util/function/BiFunction;", Cond.methodLink RJ0 1059 yJ3_checkIndex_8e157, Cond.static yJ3_checkIndex_8e157, Cond.initialized RJ3, Cond.code yJ3_checkIndex_8e157 cJ3_checkIndex_8e157 3 (some .int), Cond.methodLink RJ0 498 yJ2_charAt_3b067, Cond.static yJ2_charAt_3b067, Cond.initialized RJ2, Cond.code yJ2_charAt_3b067 cJ2_charAt_3b067 2 (some .char), Cond.methodLink RJ2 67 yJ2_checkIndex_2214a, Cond.static yJ2_checkIndex_2214a, Cond.code yJ2_checkIndex_2214a cJ2_checkIndex_2214a 2 none, Cond.methodLink RJ2 48 yJ2_length_9d52b, Cond.static yJ2_length_9d52b, Cond.code yJ2_length_9d52b cJ2_length_9d52b 1 (some .int), Cond.methodLink RJ2 414 yJ0_checkIndex_df160, Cond.methodLink RJ2 71 yJ2_getChar_3b067, Cond.static yJ2_getChar_3b067, Cond.code yJ2_getChar_3b067 cJ2_getChar_3b067 2 (some .char), Cond.fieldLink RJ2 44 "java/lang/StringUTF16" "$assertionsDisabled" "Z"]
def wsX9_children_r5 : List Cond := [Cond.fieldLink RJ2 59 "java/lang/StringUTF16" "HI_BYTE_SHIFT" "I", Cond.fieldLink RJ2 63 "java/lang/StringUTF16" "LO_BYTE_SHIFT" "I", Cond.methodLink RX5 85 yX5_isDigit, Cond.static yX5_isDigit, Cond.code yX5_isDigit cX5_isDigit 1 (some .boolean), Cond.methodLink RX5 88 yX5_advanceOverNumber, Cond.instanceMethod yX5_advanceOverNumber, Cond.selects RX5 yX5_advanceOverNumber yX5_advanceOverNumber, Cond.code yX5_advanceOverNumber cX5_advanceOverNumber 3 none, Cond.fieldLink RX5 56 "SimonSays$Reader" "value" "I", Cond.methodLink RX5 99 Lib.Math.min.name, Cond.static Lib.Math.min.name, Cond.initialized "java/lang/Math", Cond.code Lib.Math.min.name Lib.Math.min.code 2 (some .int), Cond.methodLink RX5 35 yX5_readItem, Cond.instanceMethod yX5_readItem, Cond.selects RX5 yX5_readItem yX5_readItem, Cond.code yX5_readItem cX5_readItem 1 (some .boolean), Cond.methodLink RX5 42 yX5_readChild, Cond.instanceMethod yX5_readChild, Cond.selects RX5 yX5_readChild yX5_readChild, Cond.code yX5_readChild cX5_readChild 4 (some .boolean), Cond.methodLink RX5 48 yX1_size, Cond.instanceMethod yX1_size]
def wsX9_children_r6 : List Cond := [Cond.selects RX1 yX1_size yX1_size, Cond.code yX1_size cX1_size 1 (some .int), Cond.methodLink RX5 52 yX5_isNumberUpTo, Cond.instanceMethod yX5_isNumberUpTo, Cond.selects RX5 yX5_isNumberUpTo yX5_isNumberUpTo, Cond.code yX5_isNumberUpTo cX5_isNumberUpTo 2 (some .boolean), Cond.methodLink RX5 59 yX1_has, Cond.instanceMethod yX1_has, Cond.selects RX1 yX1_has yX1_has, Cond.code yX1_has cX1_has 2 (some .boolean), Cond.methodLink RX5 62 yX1_add, Cond.instanceMethod yX1_add, Cond.selects RX1 yX1_add yX1_add, Cond.code yX1_add cX1_add 4 none, Cond.fieldLink RX1 9 "SimonSays$Children" "slips" "[I", Cond.fieldLink RX1 15 "SimonSays$Children" "lates" "[I", Cond.fieldLink RX1 18 "SimonSays$Children" "copied" "[I", Cond.methodLink RX5 45 yX5_readLittle, Cond.instanceMethod yX5_readLittle, Cond.selects RX5 yX5_readLittle yX5_readLittle, Cond.code yX5_readLittle cX5_readLittle 2 (some .boolean), Cond.methodLink RX5 66 yX1_makeLittle, Cond.instanceMethod yX1_makeLittle, Cond.selects RX1 yX1_makeLittle yX1_makeLittle]
def wsX9_children_r7 : List Cond := [Cond.code yX1_makeLittle cX1_makeLittle 2 none, Cond.methodLink RX9 94 yX5_fault, Cond.instanceMethod yX5_fault, Cond.selects RX5 yX5_fault yX5_fault, Cond.code yX5_fault cX5_fault 1 (some .int), Cond.methodLink RX9 97 yX5_found, Cond.instanceMethod yX5_found, Cond.selects RX5 yX5_found yX5_found, Cond.code yX5_found cX5_found 1 (some (.object "SimonSays$Children")), Cond.methodLink RX9 101 yX1_takeOver, Cond.instanceMethod yX1_takeOver, Cond.selects RX1 yX1_takeOver yX1_takeOver, Cond.code yX1_takeOver cX1_takeOver 3 none, Cond.methodLink RX1 28 yX1_forget, Cond.methodLink RX1 31 yX1_slipOf, Cond.instanceMethod yX1_slipOf, Cond.selects RX1 yX1_slipOf yX1_slipOf, Cond.code yX1_slipOf cX1_slipOf 2 (some .int), Cond.methodLink RX1 49 yX1_has, Cond.methodLink RX1 35 yX1_lateOf, Cond.instanceMethod yX1_lateOf, Cond.selects RX1 yX1_lateOf yX1_lateOf, Cond.code yX1_lateOf cX1_lateOf 2 (some .int), Cond.methodLink RX1 38 yX1_copiedBy]
def wsX9_children_r8 : List Cond := [Cond.instanceMethod yX1_copiedBy, Cond.selects RX1 yX1_copiedBy yX1_copiedBy, Cond.code yX1_copiedBy cX1_copiedBy 2 (some .int), Cond.methodLink RX1 41 yX1_add, Cond.methodLink RX9 104 yX6_startAnew, Cond.instanceMethod yX6_startAnew, Cond.selects RX6 yX6_startAnew yX6_startAnew, Cond.initialized RX6, Cond.code yX6_startAnew cX6_startAnew 1 none, Cond.fieldLink RX6 9 "SimonSays$Round" "told" "LSimonSays$Children;", Cond.methodLink RX6 19 yX1_everyone, Cond.instanceMethod yX1_everyone, Cond.selects RX1 yX1_everyone yX1_everyone, Cond.code yX1_everyone cX1_everyone 1 (some .int), Cond.methodLink RX6 25 yX6_become, Cond.instanceMethod yX6_become, Cond.selects RX6 yX6_become yX6_become, Cond.code yX6_become cX6_become 3 none, Cond.fieldLink RX6 29 "SimonSays$Round" "in" "I", Cond.fieldLink RX6 32 "SimonSays$Round" "streak" "I", Cond.methodLink RX9 107 yX2_forget, Cond.instanceMethod yX2_forget, Cond.selects RX2 yX2_forget yX2_forget, Cond.initialized RX2]
def wsX9_children_r9 : List Cond := [Cond.code yX2_forget cX2_forget 1 none, Cond.fieldLink RX2 18 "SimonSays$History" "size" "I", Cond.methodLink RX9 110 yX3_forget, Cond.instanceMethod yX3_forget, Cond.selects RX3 yX3_forget yX3_forget, Cond.initialized RX3, Cond.code yX3_forget cX3_forget 1 none, Cond.fieldLink RX3 7 "SimonSays$Image" "kept" "Z", Cond.methodLink RX9 88 yX8_drop, Cond.instanceMethod yX8_drop, Cond.selects RX8 yX8_drop yX8_drop, Cond.code yX8_drop cX8_drop 1 none]
def wsX9_children : List Cond := .code yX9_children cX9_children 3 (some .int) :: ((wsX9_children_r1 ++ (wsX9_children_r2 ++ (wsX9_children_r3 ++ (wsX9_children_r4 ++ (wsX9_children_r5 ++ (wsX9_children_r6 ++ (wsX9_children_r7 ++ (wsX9_children_r8 ++ wsX9_children_r9)))))))) ++ wsX90 ++ wsX50 ++ wsX10 ++ wsX80 ++ wsX60 ++ wsX20 ++ wsX30)
def wsX9_child_r1 : List Cond := [Cond.fieldLink RX9 28 "SimonSays" "told" "LSimonSays$Children;", Cond.fieldLink RX9 37 "SimonSays" "round" "LSimonSays$Round;", Cond.methodLink RX9 111 yX1_has, Cond.instanceMethod yX1_has, Cond.selects RX1 yX1_has yX1_has, Cond.initialized RX1, Cond.code yX1_has cX1_has 2 (some .boolean), Cond.fieldLink RX1 21 "SimonSays$Children" "size" "I", Cond.methodLink RX9 115 yX1_slipOf, Cond.instanceMethod yX1_slipOf, Cond.selects RX1 yX1_slipOf yX1_slipOf, Cond.code yX1_slipOf cX1_slipOf 2 (some .int), Cond.fieldLink RX1 9 "SimonSays$Children" "slips" "[I", Cond.methodLink RX1 49 yX1_has, Cond.methodLink RX9 119 yX1_lateOf, Cond.instanceMethod yX1_lateOf, Cond.selects RX1 yX1_lateOf yX1_lateOf, Cond.code yX1_lateOf cX1_lateOf 2 (some .int), Cond.fieldLink RX1 15 "SimonSays$Children" "lates" "[I", Cond.methodLink RX9 122 yX1_copiedBy, Cond.instanceMethod yX1_copiedBy, Cond.selects RX1 yX1_copiedBy yX1_copiedBy, Cond.code yX1_copiedBy cX1_copiedBy 2 (some .int), Cond.fieldLink RX1 18 "SimonSays$Children" "copied" "[I"]
def wsX9_child_r2 : List Cond := [Cond.methodLink RX9 125 yX1_isLittle, Cond.instanceMethod yX1_isLittle, Cond.selects RX1 yX1_isLittle yX1_isLittle, Cond.code yX1_isLittle cX1_isLittle 2 (some .boolean), Cond.fieldLink RX1 25 "SimonSays$Children" "littleOnes" "I", Cond.methodLink RX9 128 yX6_isIn, Cond.instanceMethod yX6_isIn, Cond.selects RX6 yX6_isIn yX6_isIn, Cond.initialized RX6, Cond.code yX6_isIn cX6_isIn 2 (some .boolean), Cond.fieldLink RX6 9 "SimonSays$Round" "told" "LSimonSays$Children;", Cond.fieldLink RX6 29 "SimonSays$Round" "in" "I", Cond.methodLink RX6 41 yX1_has, Cond.methodLink RX9 131 yX6_leaderOf, Cond.instanceMethod yX6_leaderOf, Cond.selects RX6 yX6_leaderOf yX6_leaderOf, Cond.code yX6_leaderOf cX6_leaderOf 5 (some .int), Cond.methodLink RX6 45 yX1_copiedBy, Cond.methodLink RX6 48 yX6_isIn]
def wsX9_child : List Cond := .code yX9_child cX9_child 3 (some .int) :: ((wsX9_child_r1 ++ wsX9_child_r2) ++ wsX90 ++ wsX10 ++ wsX60)
def wsX9_now_r1 : List Cond := [Cond.fieldLink RX9 37 "SimonSays" "round" "LSimonSays$Round;", Cond.fieldLink RX9 44 "SimonSays" "history" "LSimonSays$History;", Cond.methodLink RX9 134 yX6_whoIsIn, Cond.instanceMethod yX6_whoIsIn, Cond.selects RX6 yX6_whoIsIn yX6_whoIsIn, Cond.initialized RX6, Cond.code yX6_whoIsIn cX6_whoIsIn 1 (some .int), Cond.fieldLink RX6 29 "SimonSays$Round" "in" "I", Cond.methodLink RX9 137 yX6_streak, Cond.instanceMethod yX6_streak, Cond.selects RX6 yX6_streak yX6_streak, Cond.code yX6_streak cX6_streak 1 (some .int), Cond.fieldLink RX6 32 "SimonSays$Round" "streak" "I", Cond.methodLink RX9 140 yX6_isFair, Cond.instanceMethod yX6_isFair, Cond.selects RX6 yX6_isFair yX6_isFair, Cond.code yX6_isFair cX6_isFair 3 (some .boolean), Cond.fieldLink RX6 9 "SimonSays$Round" "told" "LSimonSays$Children;", Cond.methodLink RX6 75 yX1_littleOnes, Cond.instanceMethod yX1_littleOnes, Cond.selects RX1 yX1_littleOnes yX1_littleOnes, Cond.initialized RX1, Cond.code yX1_littleOnes cX1_littleOnes 1 (some .int), Cond.fieldLink RX1 25 "SimonSays$Children" "littleOnes" "I"]
def wsX9_now_r2 : List Cond := [Cond.methodLink RX9 144 yX2_size, Cond.instanceMethod yX2_size, Cond.selects RX2 yX2_size yX2_size, Cond.initialized RX2, Cond.code yX2_size cX2_size 1 (some .int), Cond.fieldLink RX2 18 "SimonSays$History" "size" "I"]
def wsX9_now : List Cond := .code yX9_now cX9_now 2 (some .int) :: ((wsX9_now_r1 ++ wsX9_now_r2) ++ wsX90 ++ wsX60 ++ wsX10 ++ wsX20)
def wsX9_errs_r1 : List Cond := [Cond.fieldLink RX9 28 "SimonSays" "told" "LSimonSays$Children;", Cond.fieldLink RX9 37 "SimonSays" "round" "LSimonSays$Round;", Cond.methodLink RX9 111 yX1_has, Cond.instanceMethod yX1_has, Cond.selects RX1 yX1_has yX1_has, Cond.initialized RX1, Cond.code yX1_has cX1_has 2 (some .boolean), Cond.fieldLink RX1 21 "SimonSays$Children" "size" "I", Cond.methodLink RX9 147 yX9_isOrder, Cond.static yX9_isOrder, Cond.initialized RX9, Cond.code yX9_isOrder cX9_isOrder 1 (some .boolean), Cond.methodLink RX9 128 yX6_isIn, Cond.instanceMethod yX6_isIn, Cond.selects RX6 yX6_isIn yX6_isIn, Cond.initialized RX6, Cond.code yX6_isIn cX6_isIn 2 (some .boolean), Cond.fieldLink RX6 9 "SimonSays$Round" "told" "LSimonSays$Children;", Cond.fieldLink RX6 29 "SimonSays$Round" "in" "I", Cond.methodLink RX6 41 yX1_has, Cond.methodLink RX9 137 yX6_streak, Cond.instanceMethod yX6_streak, Cond.selects RX6 yX6_streak yX6_streak, Cond.code yX6_streak cX6_streak 1 (some .int)]
def wsX9_errs_r2 : List Cond := [Cond.fieldLink RX6 32 "SimonSays$Round" "streak" "I", Cond.methodLink RX9 150 yX1_errsOf, Cond.instanceMethod yX1_errsOf, Cond.selects RX1 yX1_errsOf yX1_errsOf, Cond.code yX1_errsOf cX1_errsOf 4 (some .int), Cond.methodLink RX1 53 Lib.Math.min.name, Cond.static Lib.Math.min.name, Cond.initialized "java/lang/Math", Cond.code Lib.Math.min.name Lib.Math.min.code 2 (some .int), Cond.methodLink RX1 31 yX1_slipOf, Cond.instanceMethod yX1_slipOf, Cond.selects RX1 yX1_slipOf yX1_slipOf, Cond.code yX1_slipOf cX1_slipOf 2 (some .int), Cond.fieldLink RX1 9 "SimonSays$Children" "slips" "[I", Cond.methodLink RX1 49 yX1_has, Cond.methodLink RX1 35 yX1_lateOf, Cond.instanceMethod yX1_lateOf, Cond.selects RX1 yX1_lateOf yX1_lateOf, Cond.code yX1_lateOf cX1_lateOf 2 (some .int), Cond.fieldLink RX1 15 "SimonSays$Children" "lates" "[I"]
def wsX9_errs : List Cond := .code yX9_errs cX9_errs 3 (some .int) :: ((wsX9_errs_r1 ++ wsX9_errs_r2) ++ wsX90 ++ wsX10 ++ wsX60)
def wsX9_call_r1 : List Cond := [Cond.fieldLink RX9 37 "SimonSays" "round" "LSimonSays$Round;", Cond.fieldLink RX9 44 "SimonSays" "history" "LSimonSays$History;", Cond.methodLink RX9 147 yX9_isOrder, Cond.static yX9_isOrder, Cond.initialized RX9, Cond.code yX9_isOrder cX9_isOrder 1 (some .boolean), Cond.methodLink RX9 134 yX6_whoIsIn, Cond.instanceMethod yX6_whoIsIn, Cond.selects RX6 yX6_whoIsIn yX6_whoIsIn, Cond.initialized RX6, Cond.code yX6_whoIsIn cX6_whoIsIn 1 (some .int), Cond.fieldLink RX6 29 "SimonSays$Round" "in" "I", Cond.methodLink RX9 137 yX6_streak, Cond.instanceMethod yX6_streak, Cond.selects RX6 yX6_streak yX6_streak, Cond.code yX6_streak cX6_streak 1 (some .int), Cond.fieldLink RX6 32 "SimonSays$Round" "streak" "I", Cond.methodLink RX9 154 yX2_add, Cond.instanceMethod yX2_add, Cond.selects RX2 yX2_add yX2_add, Cond.initialized RX2, Cond.code yX2_add cX2_add 3 none, Cond.fieldLink RX2 18 "SimonSays$History" "size" "I", Cond.fieldLink RX2 9 "SimonSays$History" "ins" "[I"]
def wsX9_call_r2 : List Cond := [Cond.fieldLink RX2 15 "SimonSays$History" "streaks" "[I", Cond.methodLink RX2 22 yX2_loseOldest, Cond.instanceMethod yX2_loseOldest, Cond.selects RX2 yX2_loseOldest yX2_loseOldest, Cond.code yX2_loseOldest cX2_loseOldest 1 none, Cond.methodLink RX2 25 arraycopyName, Cond.native arraycopyName, Cond.static arraycopyName, Cond.initialized "java/lang/System", Cond.methodLink RX9 158 yX6_obey, Cond.instanceMethod yX6_obey, Cond.selects RX6 yX6_obey yX6_obey, Cond.code yX6_obey cX6_obey 4 (some .int), Cond.fieldLink RX6 9 "SimonSays$Round" "told" "LSimonSays$Children;", Cond.methodLink RX6 54 yX1_size, Cond.instanceMethod yX1_size, Cond.selects RX1 yX1_size yX1_size, Cond.initialized RX1, Cond.code yX1_size cX1_size 1 (some .int), Cond.fieldLink RX1 21 "SimonSays$Children" "size" "I", Cond.methodLink RX6 57 yX6_isLeader, Cond.instanceMethod yX6_isLeader, Cond.selects RX6 yX6_isLeader yX6_isLeader, Cond.code yX6_isLeader cX6_isLeader 2 (some .boolean)]
def wsX9_call_r3 : List Cond := [Cond.methodLink RX6 48 yX6_isIn, Cond.instanceMethod yX6_isIn, Cond.selects RX6 yX6_isIn yX6_isIn, Cond.code yX6_isIn cX6_isIn 2 (some .boolean), Cond.methodLink RX6 41 yX1_has, Cond.instanceMethod yX1_has, Cond.selects RX1 yX1_has yX1_has, Cond.code yX1_has cX1_has 2 (some .boolean), Cond.methodLink RX6 51 yX6_leaderOf, Cond.instanceMethod yX6_leaderOf, Cond.selects RX6 yX6_leaderOf yX6_leaderOf, Cond.code yX6_leaderOf cX6_leaderOf 5 (some .int), Cond.methodLink RX6 45 yX1_copiedBy, Cond.instanceMethod yX1_copiedBy, Cond.selects RX1 yX1_copiedBy yX1_copiedBy, Cond.code yX1_copiedBy cX1_copiedBy 2 (some .int), Cond.fieldLink RX1 18 "SimonSays$Children" "copied" "[I", Cond.methodLink RX1 49 yX1_has, Cond.methodLink RX6 60 yX6_draw, Cond.instanceMethod yX6_draw, Cond.selects RX6 yX6_draw yX6_draw, Cond.code yX6_draw cX6_draw 1 (some .int), Cond.fieldLink RX6 15 "SimonSays$Round" "lot" "I", Cond.constant RX6 74 (1103515245)]
def wsX9_call_r4 : List Cond := [Cond.methodLink RX6 63 yX1_errsOf, Cond.instanceMethod yX1_errsOf, Cond.selects RX1 yX1_errsOf yX1_errsOf, Cond.code yX1_errsOf cX1_errsOf 4 (some .int), Cond.methodLink RX1 53 Lib.Math.min.name, Cond.static Lib.Math.min.name, Cond.initialized "java/lang/Math", Cond.code Lib.Math.min.name Lib.Math.min.code 2 (some .int), Cond.methodLink RX1 31 yX1_slipOf, Cond.instanceMethod yX1_slipOf, Cond.selects RX1 yX1_slipOf yX1_slipOf, Cond.code yX1_slipOf cX1_slipOf 2 (some .int), Cond.fieldLink RX1 9 "SimonSays$Children" "slips" "[I", Cond.methodLink RX1 35 yX1_lateOf, Cond.instanceMethod yX1_lateOf, Cond.selects RX1 yX1_lateOf yX1_lateOf, Cond.code yX1_lateOf cX1_lateOf 2 (some .int), Cond.fieldLink RX1 15 "SimonSays$Children" "lates" "[I", Cond.methodLink RX6 67 yX6_groupOf, Cond.instanceMethod yX6_groupOf, Cond.selects RX6 yX6_groupOf yX6_groupOf, Cond.code yX6_groupOf cX6_groupOf 4 (some .int), Cond.static yX9_streakBehind, Cond.code yX9_streakBehind cX9_streakBehind 2 (some .int)]
def wsX9_call_r5 : List Cond := [Cond.methodLink RX9 265 Lib.Math.min.name, Cond.methodLink RX6 25 yX6_become, Cond.instanceMethod yX6_become, Cond.selects RX6 yX6_become yX6_become, Cond.code yX6_become cX6_become 3 none]
def wsX9_call : List Cond := .code yX9_call cX9_call 2 (some .int) :: ((wsX9_call_r1 ++ (wsX9_call_r2 ++ (wsX9_call_r3 ++ (wsX9_call_r4 ++ wsX9_call_r5)))) ++ wsX90 ++ wsX60 ++ wsX20 ++ wsX10)
def wsX9_comesBack_r1 : List Cond := [Cond.fieldLink RX9 28 "SimonSays" "told" "LSimonSays$Children;", Cond.fieldLink RX9 37 "SimonSays" "round" "LSimonSays$Round;", Cond.fieldLink RX9 44 "SimonSays" "history" "LSimonSays$History;", Cond.methodLink RX9 111 yX1_has, Cond.instanceMethod yX1_has, Cond.selects RX1 yX1_has yX1_has, Cond.initialized RX1, Cond.code yX1_has cX1_has 2 (some .boolean), Cond.fieldLink RX1 21 "SimonSays$Children" "size" "I", Cond.methodLink RX9 128 yX6_isIn, Cond.instanceMethod yX6_isIn, Cond.selects RX6 yX6_isIn yX6_isIn, Cond.initialized RX6, Cond.code yX6_isIn cX6_isIn 2 (some .boolean), Cond.fieldLink RX6 9 "SimonSays$Round" "told" "LSimonSays$Children;", Cond.fieldLink RX6 29 "SimonSays$Round" "in" "I", Cond.methodLink RX6 41 yX1_has, Cond.methodLink RX9 134 yX6_whoIsIn, Cond.instanceMethod yX6_whoIsIn, Cond.selects RX6 yX6_whoIsIn yX6_whoIsIn, Cond.code yX6_whoIsIn cX6_whoIsIn 1 (some .int), Cond.methodLink RX9 137 yX6_streak, Cond.instanceMethod yX6_streak, Cond.selects RX6 yX6_streak yX6_streak]
def wsX9_comesBack_r2 : List Cond := [Cond.code yX6_streak cX6_streak 1 (some .int), Cond.fieldLink RX6 32 "SimonSays$Round" "streak" "I", Cond.methodLink RX9 154 yX2_add, Cond.instanceMethod yX2_add, Cond.selects RX2 yX2_add yX2_add, Cond.initialized RX2, Cond.code yX2_add cX2_add 3 none, Cond.fieldLink RX2 18 "SimonSays$History" "size" "I", Cond.fieldLink RX2 9 "SimonSays$History" "ins" "[I", Cond.fieldLink RX2 15 "SimonSays$History" "streaks" "[I", Cond.methodLink RX2 22 yX2_loseOldest, Cond.instanceMethod yX2_loseOldest, Cond.selects RX2 yX2_loseOldest yX2_loseOldest, Cond.code yX2_loseOldest cX2_loseOldest 1 none, Cond.methodLink RX2 25 arraycopyName, Cond.native arraycopyName, Cond.static arraycopyName, Cond.initialized "java/lang/System", Cond.methodLink RX9 161 yX6_letIn, Cond.instanceMethod yX6_letIn, Cond.selects RX6 yX6_letIn yX6_letIn, Cond.code yX6_letIn cX6_letIn 2 none, Cond.methodLink RX9 164 yX6_howManyIn, Cond.instanceMethod yX6_howManyIn]
def wsX9_comesBack_r3 : List Cond := [Cond.selects RX6 yX6_howManyIn yX6_howManyIn, Cond.code yX6_howManyIn cX6_howManyIn 1 (some .int), Cond.methodLink RX6 35 yJ6_bitCount_0f7a4, Cond.static yJ6_bitCount_0f7a4, Cond.initialized RJ6, Cond.code yJ6_bitCount_0f7a4 cJ6_bitCount_0f7a4 1 (some .int), Cond.constant RJ6 265 (1431655765), Cond.constant RJ6 266 (858993459), Cond.constant RJ6 267 (252645135)]
def wsX9_comesBack : List Cond := .code yX9_comesBack cX9_comesBack 2 (some .int) :: ((wsX9_comesBack_r1 ++ (wsX9_comesBack_r2 ++ wsX9_comesBack_r3)) ++ wsX90 ++ wsX10 ++ wsX60 ++ wsX20)
def wsX9_undo_r1 : List Cond := [Cond.fieldLink RX9 44 "SimonSays" "history" "LSimonSays$History;", Cond.fieldLink RX9 37 "SimonSays" "round" "LSimonSays$Round;", Cond.methodLink RX9 144 yX2_size, Cond.instanceMethod yX2_size, Cond.selects RX2 yX2_size yX2_size, Cond.initialized RX2, Cond.code yX2_size cX2_size 1 (some .int), Cond.fieldLink RX2 18 "SimonSays$History" "size" "I", Cond.methodLink RX9 167 yX2_dropLatest, Cond.instanceMethod yX2_dropLatest, Cond.selects RX2 yX2_dropLatest yX2_dropLatest, Cond.code yX2_dropLatest cX2_dropLatest 1 none, Cond.methodLink RX9 170 yX2_droppedIn, Cond.instanceMethod yX2_droppedIn, Cond.selects RX2 yX2_droppedIn yX2_droppedIn, Cond.code yX2_droppedIn cX2_droppedIn 1 (some .int), Cond.fieldLink RX2 9 "SimonSays$History" "ins" "[I", Cond.methodLink RX9 173 yX2_droppedStreak, Cond.instanceMethod yX2_droppedStreak, Cond.selects RX2 yX2_droppedStreak yX2_droppedStreak, Cond.code yX2_droppedStreak cX2_droppedStreak 1 (some .int), Cond.fieldLink RX2 15 "SimonSays$History" "streaks" "[I", Cond.methodLink RX9 176 yX6_become, Cond.instanceMethod yX6_become]
def wsX9_undo_r2 : List Cond := [Cond.selects RX6 yX6_become yX6_become, Cond.initialized RX6, Cond.code yX6_become cX6_become 3 none, Cond.fieldLink RX6 29 "SimonSays$Round" "in" "I", Cond.fieldLink RX6 32 "SimonSays$Round" "streak" "I"]
def wsX9_undo : List Cond := .code yX9_undo cX9_undo 1 (some .int) :: ((wsX9_undo_r1 ++ wsX9_undo_r2) ++ wsX90 ++ wsX20 ++ wsX60)
def wsX9_lot : List Cond := .code yX9_lot cX9_lot 3 (some .int) :: ([.fieldLink RX9 37 "SimonSays" "round" "LSimonSays$Round;", .methodLink RX9 179 yX6_theLot, .instanceMethod yX6_theLot, .selects RX6 yX6_theLot yX6_theLot, .initialized RX6, .code yX6_theLot cX6_theLot 1 (some .int), .fieldLink RX6 15 "SimonSays$Round" "lot" "I", .methodLink RX9 182 yX6_setLot, .instanceMethod yX6_setLot, .selects RX6 yX6_setLot yX6_setLot, .code yX6_setLot cX6_setLot 2 none] ++ wsX90 ++ wsX60)
def wsX9_isHalf : List Cond := .code yX9_isHalf cX9_isHalf 1 (some .boolean) :: ([])
def wsX9_greatestDivisor : List Cond := .code yX9_greatestDivisor cX9_greatestDivisor 11 (some .long) :: ([])
def wsX9_leastTerms : List Cond := .code yX9_leastTerms cX9_leastTerms 9 (some .long) :: ([.methodLink RX9 272 yX9_greatestDivisor, .static yX9_greatestDivisor, .initialized RX9, .code yX9_greatestDivisor cX9_greatestDivisor 11 (some .long)])
def wsX9_falls_r1 : List Cond := [Cond.fieldLink RX9 28 "SimonSays" "told" "LSimonSays$Children;", Cond.constantLong RX9 191 (-1), Cond.fieldLink RX9 67 "SimonSays" "chances" "LSimonSays$Chances;", Cond.methodLink RX9 147 yX9_isOrder, Cond.static yX9_isOrder, Cond.initialized RX9, Cond.code yX9_isOrder cX9_isOrder 1 (some .boolean), Cond.methodLink RX9 185 yX1_isSet, Cond.instanceMethod yX1_isSet, Cond.selects RX1 yX1_isSet yX1_isSet, Cond.initialized RX1, Cond.code yX1_isSet cX1_isSet 2 (some .boolean), Cond.methodLink RX1 45 yX1_everyone, Cond.instanceMethod yX1_everyone, Cond.selects RX1 yX1_everyone yX1_everyone, Cond.code yX1_everyone cX1_everyone 1 (some .int), Cond.fieldLink RX1 21 "SimonSays$Children" "size" "I", Cond.methodLink RX9 188 yX9_isHalf, Cond.static yX9_isHalf, Cond.code yX9_isHalf cX9_isHalf 1 (some .boolean), Cond.methodLink RX9 193 yX0_setFalls, Cond.instanceMethod yX0_setFalls, Cond.selects RX0 yX0_setFalls yX0_setFalls, Cond.initialized RX0]
def wsX9_falls_r2 : List Cond := [Cond.code yX0_setFalls cX0_setFalls 8 (some .long), Cond.fieldLink RX0 15 "SimonSays$Chances" "round" "LSimonSays$Round;", Cond.fieldLink RX0 9 "SimonSays$Chances" "told" "LSimonSays$Children;", Cond.methodLink RX0 43 yX6_whoIsIn, Cond.instanceMethod yX6_whoIsIn, Cond.selects RX6 yX6_whoIsIn yX6_whoIsIn, Cond.initialized RX6, Cond.code yX6_whoIsIn cX6_whoIsIn 1 (some .int), Cond.fieldLink RX6 29 "SimonSays$Round" "in" "I", Cond.methodLink RX0 27 yX1_size, Cond.instanceMethod yX1_size, Cond.selects RX1 yX1_size yX1_size, Cond.code yX1_size cX1_size 1 (some .int), Cond.methodLink RX0 33 yX6_isLeader, Cond.instanceMethod yX6_isLeader, Cond.selects RX6 yX6_isLeader yX6_isLeader, Cond.code yX6_isLeader cX6_isLeader 2 (some .boolean), Cond.methodLink RX6 48 yX6_isIn, Cond.instanceMethod yX6_isIn, Cond.selects RX6 yX6_isIn yX6_isIn, Cond.code yX6_isIn cX6_isIn 2 (some .boolean), Cond.fieldLink RX6 9 "SimonSays$Round" "told" "LSimonSays$Children;", Cond.methodLink RX6 41 yX1_has, Cond.instanceMethod yX1_has]
def wsX9_falls_r3 : List Cond := [Cond.selects RX1 yX1_has yX1_has, Cond.code yX1_has cX1_has 2 (some .boolean), Cond.methodLink RX6 51 yX6_leaderOf, Cond.instanceMethod yX6_leaderOf, Cond.selects RX6 yX6_leaderOf yX6_leaderOf, Cond.code yX6_leaderOf cX6_leaderOf 5 (some .int), Cond.methodLink RX6 45 yX1_copiedBy, Cond.instanceMethod yX1_copiedBy, Cond.selects RX1 yX1_copiedBy yX1_copiedBy, Cond.code yX1_copiedBy cX1_copiedBy 2 (some .int), Cond.fieldLink RX1 18 "SimonSays$Children" "copied" "[I", Cond.methodLink RX1 49 yX1_has, Cond.methodLink RX0 46 yX6_groupOf, Cond.instanceMethod yX6_groupOf, Cond.selects RX6 yX6_groupOf yX6_groupOf, Cond.code yX6_groupOf cX6_groupOf 4 (some .int), Cond.methodLink RX6 54 yX1_size, Cond.methodLink RX0 50 yX6_streak, Cond.instanceMethod yX6_streak, Cond.selects RX6 yX6_streak yX6_streak, Cond.code yX6_streak cX6_streak 1 (some .int), Cond.fieldLink RX6 32 "SimonSays$Round" "streak" "I", Cond.methodLink RX0 53 yX1_errsOf, Cond.instanceMethod yX1_errsOf]
def wsX9_falls_r4 : List Cond := [Cond.selects RX1 yX1_errsOf yX1_errsOf, Cond.code yX1_errsOf cX1_errsOf 4 (some .int), Cond.methodLink RX1 53 Lib.Math.min.name, Cond.static Lib.Math.min.name, Cond.initialized "java/lang/Math", Cond.code Lib.Math.min.name Lib.Math.min.code 2 (some .int), Cond.methodLink RX1 31 yX1_slipOf, Cond.instanceMethod yX1_slipOf, Cond.selects RX1 yX1_slipOf yX1_slipOf, Cond.code yX1_slipOf cX1_slipOf 2 (some .int), Cond.fieldLink RX1 9 "SimonSays$Children" "slips" "[I", Cond.methodLink RX1 35 yX1_lateOf, Cond.instanceMethod yX1_lateOf, Cond.selects RX1 yX1_lateOf yX1_lateOf, Cond.code yX1_lateOf cX1_lateOf 2 (some .int), Cond.fieldLink RX1 15 "SimonSays$Children" "lates" "[I", Cond.methodLink RX9 197 yX0_lower, Cond.instanceMethod yX0_lower, Cond.selects RX0 yX0_lower yX0_lower, Cond.code yX0_lower cX0_lower 4 (some .long), Cond.static yX9_powerOfTen, Cond.code yX9_powerOfTen cX9_powerOfTen 4 (some .long), Cond.constantLong RX9 270 (10), Cond.methodLink RX9 201 yX9_leastTerms]
def wsX9_falls_r5 : List Cond := [Cond.static yX9_leastTerms, Cond.code yX9_leastTerms cX9_leastTerms 9 (some .long), Cond.methodLink RX9 272 yX9_greatestDivisor, Cond.static yX9_greatestDivisor, Cond.code yX9_greatestDivisor cX9_greatestDivisor 11 (some .long)]
def wsX9_falls : List Cond := .code yX9_falls cX9_falls 4 (some .long) :: ((wsX9_falls_r1 ++ (wsX9_falls_r2 ++ (wsX9_falls_r3 ++ (wsX9_falls_r4 ++ wsX9_falls_r5)))) ++ wsX90 ++ wsX10 ++ wsX00 ++ wsX60)
def wsX9_many_r1 : List Cond := [Cond.constantLong RX9 191 (-1), Cond.fieldLink RX9 67 "SimonSays" "chances" "LSimonSays$Chances;", Cond.methodLink RX9 147 yX9_isOrder, Cond.static yX9_isOrder, Cond.initialized RX9, Cond.code yX9_isOrder cX9_isOrder 1 (some .boolean), Cond.methodLink RX9 188 yX9_isHalf, Cond.static yX9_isHalf, Cond.code yX9_isHalf cX9_isHalf 1 (some .boolean), Cond.methodLink RX9 205 yX0_numberFalls, Cond.instanceMethod yX0_numberFalls, Cond.selects RX0 yX0_numberFalls yX0_numberFalls, Cond.initialized RX0, Cond.code yX0_numberFalls cX0_numberFalls 4 (some .long), Cond.fieldLink RX0 23 "SimonSays$Chances" "byNumber" "[J", Cond.fieldLink RX0 9 "SimonSays$Chances" "told" "LSimonSays$Children;", Cond.fieldLink RX0 15 "SimonSays$Chances" "round" "LSimonSays$Round;", Cond.methodLink RX0 27 yX1_size, Cond.instanceMethod yX1_size, Cond.selects RX1 yX1_size yX1_size, Cond.initialized RX1, Cond.code yX1_size cX1_size 1 (some .int), Cond.fieldLink RX1 21 "SimonSays$Children" "size" "I", Cond.methodLink RX0 33 yX6_isLeader]
def wsX9_many_r2 : List Cond := [Cond.instanceMethod yX6_isLeader, Cond.selects RX6 yX6_isLeader yX6_isLeader, Cond.initialized RX6, Cond.code yX6_isLeader cX6_isLeader 2 (some .boolean), Cond.methodLink RX6 48 yX6_isIn, Cond.instanceMethod yX6_isIn, Cond.selects RX6 yX6_isIn yX6_isIn, Cond.code yX6_isIn cX6_isIn 2 (some .boolean), Cond.fieldLink RX6 9 "SimonSays$Round" "told" "LSimonSays$Children;", Cond.fieldLink RX6 29 "SimonSays$Round" "in" "I", Cond.methodLink RX6 41 yX1_has, Cond.instanceMethod yX1_has, Cond.selects RX1 yX1_has yX1_has, Cond.code yX1_has cX1_has 2 (some .boolean), Cond.methodLink RX6 51 yX6_leaderOf, Cond.instanceMethod yX6_leaderOf, Cond.selects RX6 yX6_leaderOf yX6_leaderOf, Cond.code yX6_leaderOf cX6_leaderOf 5 (some .int), Cond.methodLink RX6 45 yX1_copiedBy, Cond.instanceMethod yX1_copiedBy, Cond.selects RX1 yX1_copiedBy yX1_copiedBy, Cond.code yX1_copiedBy cX1_copiedBy 2 (some .int), Cond.fieldLink RX1 18 "SimonSays$Children" "copied" "[I", Cond.methodLink RX1 49 yX1_has]
def wsX9_many_r3 : List Cond := [Cond.methodLink RX0 46 yX6_groupOf, Cond.instanceMethod yX6_groupOf, Cond.selects RX6 yX6_groupOf yX6_groupOf, Cond.code yX6_groupOf cX6_groupOf 4 (some .int), Cond.methodLink RX6 54 yX1_size, Cond.methodLink RX0 57 yJ6_bitCount_0f7a4, Cond.static yJ6_bitCount_0f7a4, Cond.initialized RJ6, Cond.code yJ6_bitCount_0f7a4 cJ6_bitCount_0f7a4 1 (some .int), Cond.constant RJ6 265 (1431655765), Cond.constant RJ6 266 (858993459), Cond.constant RJ6 267 (252645135), Cond.methodLink RX0 50 yX6_streak, Cond.instanceMethod yX6_streak, Cond.selects RX6 yX6_streak yX6_streak, Cond.code yX6_streak cX6_streak 1 (some .int), Cond.fieldLink RX6 32 "SimonSays$Round" "streak" "I", Cond.methodLink RX0 53 yX1_errsOf, Cond.instanceMethod yX1_errsOf, Cond.selects RX1 yX1_errsOf yX1_errsOf, Cond.code yX1_errsOf cX1_errsOf 4 (some .int), Cond.methodLink RX1 53 Lib.Math.min.name, Cond.static Lib.Math.min.name, Cond.initialized "java/lang/Math"]
def wsX9_many_r4 : List Cond := [Cond.code Lib.Math.min.name Lib.Math.min.code 2 (some .int), Cond.methodLink RX1 31 yX1_slipOf, Cond.instanceMethod yX1_slipOf, Cond.selects RX1 yX1_slipOf yX1_slipOf, Cond.code yX1_slipOf cX1_slipOf 2 (some .int), Cond.fieldLink RX1 9 "SimonSays$Children" "slips" "[I", Cond.methodLink RX1 35 yX1_lateOf, Cond.instanceMethod yX1_lateOf, Cond.selects RX1 yX1_lateOf yX1_lateOf, Cond.code yX1_lateOf cX1_lateOf 2 (some .int), Cond.fieldLink RX1 15 "SimonSays$Children" "lates" "[I", Cond.methodLink RX0 62 yX0_addGroup, Cond.instanceMethod yX0_addGroup, Cond.selects RX0 yX0_addGroup yX0_addGroup, Cond.code yX0_addGroup cX0_addGroup 6 none, Cond.methodLink RX9 197 yX0_lower, Cond.instanceMethod yX0_lower, Cond.selects RX0 yX0_lower yX0_lower, Cond.code yX0_lower cX0_lower 4 (some .long), Cond.static yX9_powerOfTen, Cond.code yX9_powerOfTen cX9_powerOfTen 4 (some .long), Cond.constantLong RX9 270 (10), Cond.methodLink RX9 201 yX9_leastTerms, Cond.static yX9_leastTerms]
def wsX9_many_r5 : List Cond := [Cond.code yX9_leastTerms cX9_leastTerms 9 (some .long), Cond.methodLink RX9 272 yX9_greatestDivisor, Cond.static yX9_greatestDivisor, Cond.code yX9_greatestDivisor cX9_greatestDivisor 11 (some .long)]
def wsX9_many : List Cond := .code yX9_many cX9_many 4 (some .long) :: ((wsX9_many_r1 ++ (wsX9_many_r2 ++ (wsX9_many_r3 ++ (wsX9_many_r4 ++ wsX9_many_r5)))) ++ wsX90 ++ wsX00 ++ wsX10 ++ wsX60)
def wsX9_stays_r1 : List Cond := [Cond.fieldLink RX9 28 "SimonSays" "told" "LSimonSays$Children;", Cond.fieldLink RX9 58 "SimonSays" "asked" "LSimonSays$Row;", Cond.constantLong RX9 191 (-1), Cond.fieldLink RX9 37 "SimonSays" "round" "LSimonSays$Round;", Cond.fieldLink RX9 67 "SimonSays" "chances" "LSimonSays$Chances;", Cond.methodLink RX9 111 yX1_has, Cond.instanceMethod yX1_has, Cond.selects RX1 yX1_has yX1_has, Cond.initialized RX1, Cond.code yX1_has cX1_has 2 (some .boolean), Cond.fieldLink RX1 21 "SimonSays$Children" "size" "I", Cond.methodLink RX9 208 yX7_read, Cond.instanceMethod yX7_read, Cond.selects RX7 yX7_read yX7_read, Cond.initialized RX7, Cond.code yX7_read cX7_read 5 (some .boolean), Cond.fieldLink RX7 15 "SimonSays$Row" "length" "I", Cond.fieldLink RX7 9 "SimonSays$Row" "figures" "[I", Cond.static yX9_isOrder, Cond.initialized RX9, Cond.code yX9_isOrder cX9_isOrder 1 (some .boolean), Cond.methodLink RX9 188 yX9_isHalf, Cond.static yX9_isHalf, Cond.code yX9_isHalf cX9_isHalf 1 (some .boolean)]
def wsX9_stays_r2 : List Cond := [Cond.methodLink RX9 128 yX6_isIn, Cond.instanceMethod yX6_isIn, Cond.selects RX6 yX6_isIn yX6_isIn, Cond.initialized RX6, Cond.code yX6_isIn cX6_isIn 2 (some .boolean), Cond.fieldLink RX6 9 "SimonSays$Round" "told" "LSimonSays$Children;", Cond.fieldLink RX6 29 "SimonSays$Round" "in" "I", Cond.methodLink RX6 41 yX1_has, Cond.methodLink RX9 201 yX9_leastTerms, Cond.static yX9_leastTerms, Cond.code yX9_leastTerms cX9_leastTerms 9 (some .long), Cond.methodLink RX9 272 yX9_greatestDivisor, Cond.static yX9_greatestDivisor, Cond.code yX9_greatestDivisor cX9_greatestDivisor 11 (some .long), Cond.methodLink RX9 131 yX6_leaderOf, Cond.instanceMethod yX6_leaderOf, Cond.selects RX6 yX6_leaderOf yX6_leaderOf, Cond.code yX6_leaderOf cX6_leaderOf 5 (some .int), Cond.methodLink RX6 45 yX1_copiedBy, Cond.instanceMethod yX1_copiedBy, Cond.selects RX1 yX1_copiedBy yX1_copiedBy, Cond.code yX1_copiedBy cX1_copiedBy 2 (some .int), Cond.fieldLink RX1 18 "SimonSays$Children" "copied" "[I", Cond.methodLink RX1 49 yX1_has]
def wsX9_stays_r3 : List Cond := [Cond.methodLink RX6 48 yX6_isIn, Cond.methodLink RX9 212 yX0_leaderStays, Cond.instanceMethod yX0_leaderStays, Cond.selects RX0 yX0_leaderStays yX0_leaderStays, Cond.initialized RX0, Cond.code yX0_leaderStays cX0_leaderStays 7 (some .long), Cond.fieldLink RX0 15 "SimonSays$Chances" "round" "LSimonSays$Round;", Cond.fieldLink RX0 19 "SimonSays$Chances" "row" "LSimonSays$Row;", Cond.fieldLink RX0 9 "SimonSays$Chances" "told" "LSimonSays$Children;", Cond.methodLink RX0 50 yX6_streak, Cond.instanceMethod yX6_streak, Cond.selects RX6 yX6_streak yX6_streak, Cond.code yX6_streak cX6_streak 1 (some .int), Cond.fieldLink RX6 32 "SimonSays$Round" "streak" "I", Cond.methodLink RX0 66 yX7_length, Cond.instanceMethod yX7_length, Cond.selects RX7 yX7_length yX7_length, Cond.code yX7_length cX7_length 1 (some .int), Cond.methodLink RX0 71 yX7_orderAt, Cond.instanceMethod yX7_orderAt, Cond.selects RX7 yX7_orderAt yX7_orderAt, Cond.code yX7_orderAt cX7_orderAt 2 (some .int), Cond.methodLink RX0 53 yX1_errsOf, Cond.instanceMethod yX1_errsOf]
def wsX9_stays_r4 : List Cond := [Cond.selects RX1 yX1_errsOf yX1_errsOf, Cond.code yX1_errsOf cX1_errsOf 4 (some .int), Cond.methodLink RX1 53 Lib.Math.min.name, Cond.static Lib.Math.min.name, Cond.initialized "java/lang/Math", Cond.code Lib.Math.min.name Lib.Math.min.code 2 (some .int), Cond.methodLink RX1 31 yX1_slipOf, Cond.instanceMethod yX1_slipOf, Cond.selects RX1 yX1_slipOf yX1_slipOf, Cond.code yX1_slipOf cX1_slipOf 2 (some .int), Cond.fieldLink RX1 9 "SimonSays$Children" "slips" "[I", Cond.methodLink RX1 35 yX1_lateOf, Cond.instanceMethod yX1_lateOf, Cond.selects RX1 yX1_lateOf yX1_lateOf, Cond.code yX1_lateOf cX1_lateOf 2 (some .int), Cond.fieldLink RX1 15 "SimonSays$Children" "lates" "[I", Cond.static yX9_streakBehind, Cond.code yX9_streakBehind cX9_streakBehind 2 (some .int), Cond.methodLink RX9 265 Lib.Math.min.name, Cond.methodLink RX9 215 yX7_length, Cond.methodLink RX9 216 yX9_powerOfTen, Cond.static yX9_powerOfTen, Cond.code yX9_powerOfTen cX9_powerOfTen 4 (some .long), Cond.constantLong RX9 270 (10)]
def wsX9_stays : List Cond := .code yX9_stays cX9_stays 4 (some .long) :: ((wsX9_stays_r1 ++ (wsX9_stays_r2 ++ (wsX9_stays_r3 ++ wsX9_stays_r4))) ++ wsX90 ++ wsX10 ++ wsX70 ++ wsX60 ++ wsX00)
def wsX9_left_r1 : List Cond := [Cond.fieldLink RX9 58 "SimonSays" "asked" "LSimonSays$Row;", Cond.constantLong RX9 191 (-1), Cond.fieldLink RX9 67 "SimonSays" "chances" "LSimonSays$Chances;", Cond.methodLink RX9 208 yX7_read, Cond.instanceMethod yX7_read, Cond.selects RX7 yX7_read yX7_read, Cond.initialized RX7, Cond.code yX7_read cX7_read 5 (some .boolean), Cond.fieldLink RX7 15 "SimonSays$Row" "length" "I", Cond.fieldLink RX7 9 "SimonSays$Row" "figures" "[I", Cond.static yX9_isOrder, Cond.initialized RX9, Cond.code yX9_isOrder cX9_isOrder 1 (some .boolean), Cond.methodLink RX9 188 yX9_isHalf, Cond.static yX9_isHalf, Cond.code yX9_isHalf cX9_isHalf 1 (some .boolean), Cond.methodLink RX9 219 yX0_justOneStays, Cond.instanceMethod yX0_justOneStays, Cond.selects RX0 yX0_justOneStays yX0_justOneStays, Cond.initialized RX0, Cond.code yX0_justOneStays cX0_justOneStays 13 (some .long), Cond.fieldLink RX0 19 "SimonSays$Chances" "row" "LSimonSays$Row;", Cond.fieldLink RX0 9 "SimonSays$Chances" "told" "LSimonSays$Children;", Cond.fieldLink RX0 15 "SimonSays$Chances" "round" "LSimonSays$Round;"]
def wsX9_left_r2 : List Cond := [Cond.methodLink RX0 66 yX7_length, Cond.instanceMethod yX7_length, Cond.selects RX7 yX7_length yX7_length, Cond.code yX7_length cX7_length 1 (some .int), Cond.static yX9_powerOfTen, Cond.code yX9_powerOfTen cX9_powerOfTen 4 (some .long), Cond.constantLong RX9 270 (10), Cond.methodLink RX0 27 yX1_size, Cond.instanceMethod yX1_size, Cond.selects RX1 yX1_size yX1_size, Cond.initialized RX1, Cond.code yX1_size cX1_size 1 (some .int), Cond.fieldLink RX1 21 "SimonSays$Children" "size" "I", Cond.methodLink RX0 33 yX6_isLeader, Cond.instanceMethod yX6_isLeader, Cond.selects RX6 yX6_isLeader yX6_isLeader, Cond.initialized RX6, Cond.code yX6_isLeader cX6_isLeader 2 (some .boolean), Cond.methodLink RX6 48 yX6_isIn, Cond.instanceMethod yX6_isIn, Cond.selects RX6 yX6_isIn yX6_isIn, Cond.code yX6_isIn cX6_isIn 2 (some .boolean), Cond.fieldLink RX6 9 "SimonSays$Round" "told" "LSimonSays$Children;", Cond.fieldLink RX6 29 "SimonSays$Round" "in" "I"]
def wsX9_left_r3 : List Cond := [Cond.methodLink RX6 41 yX1_has, Cond.instanceMethod yX1_has, Cond.selects RX1 yX1_has yX1_has, Cond.code yX1_has cX1_has 2 (some .boolean), Cond.methodLink RX6 51 yX6_leaderOf, Cond.instanceMethod yX6_leaderOf, Cond.selects RX6 yX6_leaderOf yX6_leaderOf, Cond.code yX6_leaderOf cX6_leaderOf 5 (some .int), Cond.methodLink RX6 45 yX1_copiedBy, Cond.instanceMethod yX1_copiedBy, Cond.selects RX1 yX1_copiedBy yX1_copiedBy, Cond.code yX1_copiedBy cX1_copiedBy 2 (some .int), Cond.fieldLink RX1 18 "SimonSays$Children" "copied" "[I", Cond.methodLink RX1 49 yX1_has, Cond.methodLink RX0 78 yX0_leaderStays, Cond.instanceMethod yX0_leaderStays, Cond.selects RX0 yX0_leaderStays yX0_leaderStays, Cond.code yX0_leaderStays cX0_leaderStays 7 (some .long), Cond.methodLink RX0 50 yX6_streak, Cond.instanceMethod yX6_streak, Cond.selects RX6 yX6_streak yX6_streak, Cond.code yX6_streak cX6_streak 1 (some .int), Cond.fieldLink RX6 32 "SimonSays$Round" "streak" "I", Cond.methodLink RX0 71 yX7_orderAt]
def wsX9_left_r4 : List Cond := [Cond.instanceMethod yX7_orderAt, Cond.selects RX7 yX7_orderAt yX7_orderAt, Cond.code yX7_orderAt cX7_orderAt 2 (some .int), Cond.methodLink RX0 53 yX1_errsOf, Cond.instanceMethod yX1_errsOf, Cond.selects RX1 yX1_errsOf yX1_errsOf, Cond.code yX1_errsOf cX1_errsOf 4 (some .int), Cond.methodLink RX1 53 Lib.Math.min.name, Cond.static Lib.Math.min.name, Cond.initialized "java/lang/Math", Cond.code Lib.Math.min.name Lib.Math.min.code 2 (some .int), Cond.methodLink RX1 31 yX1_slipOf, Cond.instanceMethod yX1_slipOf, Cond.selects RX1 yX1_slipOf yX1_slipOf, Cond.code yX1_slipOf cX1_slipOf 2 (some .int), Cond.fieldLink RX1 9 "SimonSays$Children" "slips" "[I", Cond.methodLink RX1 35 yX1_lateOf, Cond.instanceMethod yX1_lateOf, Cond.selects RX1 yX1_lateOf yX1_lateOf, Cond.code yX1_lateOf cX1_lateOf 2 (some .int), Cond.fieldLink RX1 15 "SimonSays$Children" "lates" "[I", Cond.static yX9_streakBehind, Cond.code yX9_streakBehind cX9_streakBehind 2 (some .int), Cond.methodLink RX9 265 Lib.Math.min.name]
def wsX9_left_r5 : List Cond := [Cond.methodLink RX0 46 yX6_groupOf, Cond.instanceMethod yX6_groupOf, Cond.selects RX6 yX6_groupOf yX6_groupOf, Cond.code yX6_groupOf cX6_groupOf 4 (some .int), Cond.methodLink RX6 54 yX1_size, Cond.methodLink RX0 57 yJ6_bitCount_0f7a4, Cond.static yJ6_bitCount_0f7a4, Cond.initialized RJ6, Cond.code yJ6_bitCount_0f7a4 cJ6_bitCount_0f7a4 1 (some .int), Cond.constant RJ6 265 (1431655765), Cond.constant RJ6 266 (858993459), Cond.constant RJ6 267 (252645135), Cond.methodLink RX9 215 yX7_length, Cond.methodLink RX9 197 yX0_lower, Cond.instanceMethod yX0_lower, Cond.selects RX0 yX0_lower yX0_lower, Cond.code yX0_lower cX0_lower 4 (some .long), Cond.methodLink RX9 201 yX9_leastTerms, Cond.static yX9_leastTerms, Cond.code yX9_leastTerms cX9_leastTerms 9 (some .long), Cond.methodLink RX9 272 yX9_greatestDivisor, Cond.static yX9_greatestDivisor, Cond.code yX9_greatestDivisor cX9_greatestDivisor 11 (some .long)]
def wsX9_left : List Cond := .code yX9_left cX9_left 3 (some .long) :: ((wsX9_left_r1 ++ (wsX9_left_r2 ++ (wsX9_left_r3 ++ (wsX9_left_r4 ++ wsX9_left_r5)))) ++ wsX90 ++ wsX70 ++ wsX00 ++ wsX10 ++ wsX60)
def wsX9_best_r1 : List Cond := [Cond.fieldLink RX9 67 "SimonSays" "chances" "LSimonSays$Chances;", Cond.methodLink RX9 223 yX0_bestRow, Cond.instanceMethod yX0_bestRow, Cond.selects RX0 yX0_bestRow yX0_bestRow, Cond.initialized RX0, Cond.code yX0_bestRow cX0_bestRow 9 (some .int), Cond.constantLong RX0 81 (-1), Cond.fieldLink RX0 19 "SimonSays$Chances" "row" "LSimonSays$Row;", Cond.methodLink RX0 83 yX0_rowNumber, Cond.static yX0_rowNumber, Cond.code yX0_rowNumber cX0_rowNumber 4 (some .int), Cond.methodLink RX0 86 yX7_read, Cond.instanceMethod yX7_read, Cond.selects RX7 yX7_read yX7_read, Cond.initialized RX7, Cond.code yX7_read cX7_read 5 (some .boolean), Cond.fieldLink RX7 15 "SimonSays$Row" "length" "I", Cond.fieldLink RX7 9 "SimonSays$Row" "figures" "[I", Cond.static yX9_isOrder, Cond.initialized RX9, Cond.code yX9_isOrder cX9_isOrder 1 (some .boolean), Cond.methodLink RX0 90 yX0_justOneStays, Cond.instanceMethod yX0_justOneStays, Cond.selects RX0 yX0_justOneStays yX0_justOneStays]
def wsX9_best_r2 : List Cond := [Cond.code yX0_justOneStays cX0_justOneStays 13 (some .long), Cond.fieldLink RX0 9 "SimonSays$Chances" "told" "LSimonSays$Children;", Cond.fieldLink RX0 15 "SimonSays$Chances" "round" "LSimonSays$Round;", Cond.methodLink RX0 66 yX7_length, Cond.instanceMethod yX7_length, Cond.selects RX7 yX7_length yX7_length, Cond.code yX7_length cX7_length 1 (some .int), Cond.static yX9_powerOfTen, Cond.code yX9_powerOfTen cX9_powerOfTen 4 (some .long), Cond.constantLong RX9 270 (10), Cond.methodLink RX0 27 yX1_size, Cond.instanceMethod yX1_size, Cond.selects RX1 yX1_size yX1_size, Cond.initialized RX1, Cond.code yX1_size cX1_size 1 (some .int), Cond.fieldLink RX1 21 "SimonSays$Children" "size" "I", Cond.methodLink RX0 33 yX6_isLeader, Cond.instanceMethod yX6_isLeader, Cond.selects RX6 yX6_isLeader yX6_isLeader, Cond.initialized RX6, Cond.code yX6_isLeader cX6_isLeader 2 (some .boolean), Cond.methodLink RX6 48 yX6_isIn, Cond.instanceMethod yX6_isIn, Cond.selects RX6 yX6_isIn yX6_isIn]
def wsX9_best_r3 : List Cond := [Cond.code yX6_isIn cX6_isIn 2 (some .boolean), Cond.fieldLink RX6 9 "SimonSays$Round" "told" "LSimonSays$Children;", Cond.fieldLink RX6 29 "SimonSays$Round" "in" "I", Cond.methodLink RX6 41 yX1_has, Cond.instanceMethod yX1_has, Cond.selects RX1 yX1_has yX1_has, Cond.code yX1_has cX1_has 2 (some .boolean), Cond.methodLink RX6 51 yX6_leaderOf, Cond.instanceMethod yX6_leaderOf, Cond.selects RX6 yX6_leaderOf yX6_leaderOf, Cond.code yX6_leaderOf cX6_leaderOf 5 (some .int), Cond.methodLink RX6 45 yX1_copiedBy, Cond.instanceMethod yX1_copiedBy, Cond.selects RX1 yX1_copiedBy yX1_copiedBy, Cond.code yX1_copiedBy cX1_copiedBy 2 (some .int), Cond.fieldLink RX1 18 "SimonSays$Children" "copied" "[I", Cond.methodLink RX1 49 yX1_has, Cond.methodLink RX0 78 yX0_leaderStays, Cond.instanceMethod yX0_leaderStays, Cond.selects RX0 yX0_leaderStays yX0_leaderStays, Cond.code yX0_leaderStays cX0_leaderStays 7 (some .long), Cond.methodLink RX0 50 yX6_streak, Cond.instanceMethod yX6_streak, Cond.selects RX6 yX6_streak yX6_streak]
def wsX9_best_r4 : List Cond := [Cond.code yX6_streak cX6_streak 1 (some .int), Cond.fieldLink RX6 32 "SimonSays$Round" "streak" "I", Cond.methodLink RX0 71 yX7_orderAt, Cond.instanceMethod yX7_orderAt, Cond.selects RX7 yX7_orderAt yX7_orderAt, Cond.code yX7_orderAt cX7_orderAt 2 (some .int), Cond.methodLink RX0 53 yX1_errsOf, Cond.instanceMethod yX1_errsOf, Cond.selects RX1 yX1_errsOf yX1_errsOf, Cond.code yX1_errsOf cX1_errsOf 4 (some .int), Cond.methodLink RX1 53 Lib.Math.min.name, Cond.static Lib.Math.min.name, Cond.initialized "java/lang/Math", Cond.code Lib.Math.min.name Lib.Math.min.code 2 (some .int), Cond.methodLink RX1 31 yX1_slipOf, Cond.instanceMethod yX1_slipOf, Cond.selects RX1 yX1_slipOf yX1_slipOf, Cond.code yX1_slipOf cX1_slipOf 2 (some .int), Cond.fieldLink RX1 9 "SimonSays$Children" "slips" "[I", Cond.methodLink RX1 35 yX1_lateOf, Cond.instanceMethod yX1_lateOf, Cond.selects RX1 yX1_lateOf yX1_lateOf, Cond.code yX1_lateOf cX1_lateOf 2 (some .int), Cond.fieldLink RX1 15 "SimonSays$Children" "lates" "[I"]
def wsX9_best_r5 : List Cond := [Cond.static yX9_streakBehind, Cond.code yX9_streakBehind cX9_streakBehind 2 (some .int), Cond.methodLink RX9 265 Lib.Math.min.name, Cond.methodLink RX0 46 yX6_groupOf, Cond.instanceMethod yX6_groupOf, Cond.selects RX6 yX6_groupOf yX6_groupOf, Cond.code yX6_groupOf cX6_groupOf 4 (some .int), Cond.methodLink RX6 54 yX1_size, Cond.methodLink RX0 57 yJ6_bitCount_0f7a4, Cond.static yJ6_bitCount_0f7a4, Cond.initialized RJ6, Cond.code yJ6_bitCount_0f7a4 cJ6_bitCount_0f7a4 1 (some .int), Cond.constant RJ6 265 (1431655765), Cond.constant RJ6 266 (858993459), Cond.constant RJ6 267 (252645135)]
def wsX9_best : List Cond := .code yX9_best cX9_best 2 (some .int) :: ((wsX9_best_r1 ++ (wsX9_best_r2 ++ (wsX9_best_r3 ++ (wsX9_best_r4 ++ wsX9_best_r5)))) ++ wsX90 ++ wsX00 ++ wsX70 ++ wsX10 ++ wsX60)
def wsX9_lure_r1 : List Cond := [Cond.fieldLink RX9 28 "SimonSays" "told" "LSimonSays$Children;", Cond.fieldLink RX9 37 "SimonSays" "round" "LSimonSays$Round;", Cond.methodLink RX9 111 yX1_has, Cond.instanceMethod yX1_has, Cond.selects RX1 yX1_has yX1_has, Cond.initialized RX1, Cond.code yX1_has cX1_has 2 (some .boolean), Cond.fieldLink RX1 21 "SimonSays$Children" "size" "I", Cond.methodLink RX9 128 yX6_isIn, Cond.instanceMethod yX6_isIn, Cond.selects RX6 yX6_isIn yX6_isIn, Cond.initialized RX6, Cond.code yX6_isIn cX6_isIn 2 (some .boolean), Cond.fieldLink RX6 9 "SimonSays$Round" "told" "LSimonSays$Children;", Cond.fieldLink RX6 29 "SimonSays$Round" "in" "I", Cond.methodLink RX6 41 yX1_has, Cond.methodLink RX9 226 yX6_fewestSaidAhead, Cond.instanceMethod yX6_fewestSaidAhead, Cond.selects RX6 yX6_fewestSaidAhead yX6_fewestSaidAhead, Cond.code yX6_fewestSaidAhead cX6_fewestSaidAhead 6 (some .int), Cond.fieldLink RX6 32 "SimonSays$Round" "streak" "I", Cond.methodLink RX6 51 yX6_leaderOf, Cond.instanceMethod yX6_leaderOf, Cond.selects RX6 yX6_leaderOf yX6_leaderOf]
def wsX9_lure_r2 : List Cond := [Cond.code yX6_leaderOf cX6_leaderOf 5 (some .int), Cond.methodLink RX6 45 yX1_copiedBy, Cond.instanceMethod yX1_copiedBy, Cond.selects RX1 yX1_copiedBy yX1_copiedBy, Cond.code yX1_copiedBy cX1_copiedBy 2 (some .int), Cond.fieldLink RX1 18 "SimonSays$Children" "copied" "[I", Cond.methodLink RX1 49 yX1_has, Cond.methodLink RX6 48 yX6_isIn, Cond.methodLink RX6 63 yX1_errsOf, Cond.instanceMethod yX1_errsOf, Cond.selects RX1 yX1_errsOf yX1_errsOf, Cond.code yX1_errsOf cX1_errsOf 4 (some .int), Cond.methodLink RX1 53 Lib.Math.min.name, Cond.static Lib.Math.min.name, Cond.initialized "java/lang/Math", Cond.code Lib.Math.min.name Lib.Math.min.code 2 (some .int), Cond.methodLink RX1 31 yX1_slipOf, Cond.instanceMethod yX1_slipOf, Cond.selects RX1 yX1_slipOf yX1_slipOf, Cond.code yX1_slipOf cX1_slipOf 2 (some .int), Cond.fieldLink RX1 9 "SimonSays$Children" "slips" "[I", Cond.methodLink RX1 35 yX1_lateOf, Cond.instanceMethod yX1_lateOf, Cond.selects RX1 yX1_lateOf yX1_lateOf]
def wsX9_lure_r3 : List Cond := [Cond.code yX1_lateOf cX1_lateOf 2 (some .int), Cond.fieldLink RX1 15 "SimonSays$Children" "lates" "[I", Cond.static yX9_streakBehind, Cond.initialized RX9, Cond.code yX9_streakBehind cX9_streakBehind 2 (some .int), Cond.methodLink RX9 265 Lib.Math.min.name]
def wsX9_lure : List Cond := .code yX9_lure cX9_lure 3 (some .int) :: ((wsX9_lure_r1 ++ (wsX9_lure_r2 ++ wsX9_lure_r3)) ++ wsX90 ++ wsX10 ++ wsX60)
def wsX9_could_r1 : List Cond := [Cond.fieldLink RX9 28 "SimonSays" "told" "LSimonSays$Children;", Cond.fieldLink RX9 67 "SimonSays" "chances" "LSimonSays$Chances;", Cond.methodLink RX9 185 yX1_isSet, Cond.instanceMethod yX1_isSet, Cond.selects RX1 yX1_isSet yX1_isSet, Cond.initialized RX1, Cond.code yX1_isSet cX1_isSet 2 (some .boolean), Cond.methodLink RX1 45 yX1_everyone, Cond.instanceMethod yX1_everyone, Cond.selects RX1 yX1_everyone yX1_everyone, Cond.code yX1_everyone cX1_everyone 1 (some .int), Cond.fieldLink RX1 21 "SimonSays$Children" "size" "I", Cond.methodLink RX9 230 yX0_ordersThatCould, Cond.instanceMethod yX0_ordersThatCould, Cond.selects RX0 yX0_ordersThatCould yX0_ordersThatCould, Cond.initialized RX0, Cond.code yX0_ordersThatCould cX0_ordersThatCould 4 (some .int), Cond.methodLink RX0 94 yX0_setFalls, Cond.instanceMethod yX0_setFalls, Cond.selects RX0 yX0_setFalls yX0_setFalls, Cond.code yX0_setFalls cX0_setFalls 8 (some .long), Cond.fieldLink RX0 15 "SimonSays$Chances" "round" "LSimonSays$Round;", Cond.fieldLink RX0 9 "SimonSays$Chances" "told" "LSimonSays$Children;", Cond.methodLink RX0 43 yX6_whoIsIn]
def wsX9_could_r2 : List Cond := [Cond.instanceMethod yX6_whoIsIn, Cond.selects RX6 yX6_whoIsIn yX6_whoIsIn, Cond.initialized RX6, Cond.code yX6_whoIsIn cX6_whoIsIn 1 (some .int), Cond.fieldLink RX6 29 "SimonSays$Round" "in" "I", Cond.methodLink RX0 27 yX1_size, Cond.instanceMethod yX1_size, Cond.selects RX1 yX1_size yX1_size, Cond.code yX1_size cX1_size 1 (some .int), Cond.methodLink RX0 33 yX6_isLeader, Cond.instanceMethod yX6_isLeader, Cond.selects RX6 yX6_isLeader yX6_isLeader, Cond.code yX6_isLeader cX6_isLeader 2 (some .boolean), Cond.methodLink RX6 48 yX6_isIn, Cond.instanceMethod yX6_isIn, Cond.selects RX6 yX6_isIn yX6_isIn, Cond.code yX6_isIn cX6_isIn 2 (some .boolean), Cond.fieldLink RX6 9 "SimonSays$Round" "told" "LSimonSays$Children;", Cond.methodLink RX6 41 yX1_has, Cond.instanceMethod yX1_has, Cond.selects RX1 yX1_has yX1_has, Cond.code yX1_has cX1_has 2 (some .boolean), Cond.methodLink RX6 51 yX6_leaderOf, Cond.instanceMethod yX6_leaderOf]
def wsX9_could_r3 : List Cond := [Cond.selects RX6 yX6_leaderOf yX6_leaderOf, Cond.code yX6_leaderOf cX6_leaderOf 5 (some .int), Cond.methodLink RX6 45 yX1_copiedBy, Cond.instanceMethod yX1_copiedBy, Cond.selects RX1 yX1_copiedBy yX1_copiedBy, Cond.code yX1_copiedBy cX1_copiedBy 2 (some .int), Cond.fieldLink RX1 18 "SimonSays$Children" "copied" "[I", Cond.methodLink RX1 49 yX1_has, Cond.methodLink RX0 46 yX6_groupOf, Cond.instanceMethod yX6_groupOf, Cond.selects RX6 yX6_groupOf yX6_groupOf, Cond.code yX6_groupOf cX6_groupOf 4 (some .int), Cond.methodLink RX6 54 yX1_size, Cond.methodLink RX0 50 yX6_streak, Cond.instanceMethod yX6_streak, Cond.selects RX6 yX6_streak yX6_streak, Cond.code yX6_streak cX6_streak 1 (some .int), Cond.fieldLink RX6 32 "SimonSays$Round" "streak" "I", Cond.methodLink RX0 53 yX1_errsOf, Cond.instanceMethod yX1_errsOf, Cond.selects RX1 yX1_errsOf yX1_errsOf, Cond.code yX1_errsOf cX1_errsOf 4 (some .int), Cond.methodLink RX1 53 Lib.Math.min.name, Cond.static Lib.Math.min.name]
def wsX9_could_r4 : List Cond := [Cond.initialized "java/lang/Math", Cond.code Lib.Math.min.name Lib.Math.min.code 2 (some .int), Cond.methodLink RX1 31 yX1_slipOf, Cond.instanceMethod yX1_slipOf, Cond.selects RX1 yX1_slipOf yX1_slipOf, Cond.code yX1_slipOf cX1_slipOf 2 (some .int), Cond.fieldLink RX1 9 "SimonSays$Children" "slips" "[I", Cond.methodLink RX1 35 yX1_lateOf, Cond.instanceMethod yX1_lateOf, Cond.selects RX1 yX1_lateOf yX1_lateOf, Cond.code yX1_lateOf cX1_lateOf 2 (some .int), Cond.fieldLink RX1 15 "SimonSays$Children" "lates" "[I"]
def wsX9_could : List Cond := .code yX9_could cX9_could 2 (some .int) :: ((wsX9_could_r1 ++ (wsX9_could_r2 ++ (wsX9_could_r3 ++ wsX9_could_r4))) ++ wsX90 ++ wsX10 ++ wsX00 ++ wsX60)
def wsX9_likeliest_r1 : List Cond := [Cond.fieldLink RX9 28 "SimonSays" "told" "LSimonSays$Children;", Cond.fieldLink RX9 67 "SimonSays" "chances" "LSimonSays$Chances;", Cond.methodLink RX9 185 yX1_isSet, Cond.instanceMethod yX1_isSet, Cond.selects RX1 yX1_isSet yX1_isSet, Cond.initialized RX1, Cond.code yX1_isSet cX1_isSet 2 (some .boolean), Cond.methodLink RX1 45 yX1_everyone, Cond.instanceMethod yX1_everyone, Cond.selects RX1 yX1_everyone yX1_everyone, Cond.code yX1_everyone cX1_everyone 1 (some .int), Cond.fieldLink RX1 21 "SimonSays$Children" "size" "I", Cond.methodLink RX9 233 yX0_likeliestOrder, Cond.instanceMethod yX0_likeliestOrder, Cond.selects RX0 yX0_likeliestOrder yX0_likeliestOrder, Cond.initialized RX0, Cond.code yX0_likeliestOrder cX0_likeliestOrder 8 (some .int), Cond.methodLink RX0 94 yX0_setFalls, Cond.instanceMethod yX0_setFalls, Cond.selects RX0 yX0_setFalls yX0_setFalls, Cond.code yX0_setFalls cX0_setFalls 8 (some .long), Cond.fieldLink RX0 15 "SimonSays$Chances" "round" "LSimonSays$Round;", Cond.fieldLink RX0 9 "SimonSays$Chances" "told" "LSimonSays$Children;", Cond.methodLink RX0 43 yX6_whoIsIn]
def wsX9_likeliest_r2 : List Cond := [Cond.instanceMethod yX6_whoIsIn, Cond.selects RX6 yX6_whoIsIn yX6_whoIsIn, Cond.initialized RX6, Cond.code yX6_whoIsIn cX6_whoIsIn 1 (some .int), Cond.fieldLink RX6 29 "SimonSays$Round" "in" "I", Cond.methodLink RX0 27 yX1_size, Cond.instanceMethod yX1_size, Cond.selects RX1 yX1_size yX1_size, Cond.code yX1_size cX1_size 1 (some .int), Cond.methodLink RX0 33 yX6_isLeader, Cond.instanceMethod yX6_isLeader, Cond.selects RX6 yX6_isLeader yX6_isLeader, Cond.code yX6_isLeader cX6_isLeader 2 (some .boolean), Cond.methodLink RX6 48 yX6_isIn, Cond.instanceMethod yX6_isIn, Cond.selects RX6 yX6_isIn yX6_isIn, Cond.code yX6_isIn cX6_isIn 2 (some .boolean), Cond.fieldLink RX6 9 "SimonSays$Round" "told" "LSimonSays$Children;", Cond.methodLink RX6 41 yX1_has, Cond.instanceMethod yX1_has, Cond.selects RX1 yX1_has yX1_has, Cond.code yX1_has cX1_has 2 (some .boolean), Cond.methodLink RX6 51 yX6_leaderOf, Cond.instanceMethod yX6_leaderOf]
def wsX9_likeliest_r3 : List Cond := [Cond.selects RX6 yX6_leaderOf yX6_leaderOf, Cond.code yX6_leaderOf cX6_leaderOf 5 (some .int), Cond.methodLink RX6 45 yX1_copiedBy, Cond.instanceMethod yX1_copiedBy, Cond.selects RX1 yX1_copiedBy yX1_copiedBy, Cond.code yX1_copiedBy cX1_copiedBy 2 (some .int), Cond.fieldLink RX1 18 "SimonSays$Children" "copied" "[I", Cond.methodLink RX1 49 yX1_has, Cond.methodLink RX0 46 yX6_groupOf, Cond.instanceMethod yX6_groupOf, Cond.selects RX6 yX6_groupOf yX6_groupOf, Cond.code yX6_groupOf cX6_groupOf 4 (some .int), Cond.methodLink RX6 54 yX1_size, Cond.methodLink RX0 50 yX6_streak, Cond.instanceMethod yX6_streak, Cond.selects RX6 yX6_streak yX6_streak, Cond.code yX6_streak cX6_streak 1 (some .int), Cond.fieldLink RX6 32 "SimonSays$Round" "streak" "I", Cond.methodLink RX0 53 yX1_errsOf, Cond.instanceMethod yX1_errsOf, Cond.selects RX1 yX1_errsOf yX1_errsOf, Cond.code yX1_errsOf cX1_errsOf 4 (some .int), Cond.methodLink RX1 53 Lib.Math.min.name, Cond.static Lib.Math.min.name]
def wsX9_likeliest_r4 : List Cond := [Cond.initialized "java/lang/Math", Cond.code Lib.Math.min.name Lib.Math.min.code 2 (some .int), Cond.methodLink RX1 31 yX1_slipOf, Cond.instanceMethod yX1_slipOf, Cond.selects RX1 yX1_slipOf yX1_slipOf, Cond.code yX1_slipOf cX1_slipOf 2 (some .int), Cond.fieldLink RX1 9 "SimonSays$Children" "slips" "[I", Cond.methodLink RX1 35 yX1_lateOf, Cond.instanceMethod yX1_lateOf, Cond.selects RX1 yX1_lateOf yX1_lateOf, Cond.code yX1_lateOf cX1_lateOf 2 (some .int), Cond.fieldLink RX1 15 "SimonSays$Children" "lates" "[I"]
def wsX9_likeliest : List Cond := .code yX9_likeliest cX9_likeliest 2 (some .int) :: ((wsX9_likeliest_r1 ++ (wsX9_likeliest_r2 ++ (wsX9_likeliest_r3 ++ wsX9_likeliest_r4))) ++ wsX90 ++ wsX10 ++ wsX00 ++ wsX60)
def wsX9_rate_r1 : List Cond := [Cond.fieldLink RX9 28 "SimonSays" "told" "LSimonSays$Children;", Cond.fieldLink RX9 76 "SimonSays" "kinds" "LSimonSays$Kinds;", Cond.constant RX9 239 (-1000000), Cond.methodLink RX9 111 yX1_has, Cond.instanceMethod yX1_has, Cond.selects RX1 yX1_has yX1_has, Cond.initialized RX1, Cond.code yX1_has cX1_has 2 (some .boolean), Cond.fieldLink RX1 21 "SimonSays$Children" "size" "I", Cond.methodLink RX9 236 yX4_rateAs, Cond.instanceMethod yX4_rateAs, Cond.selects RX4 yX4_rateAs yX4_rateAs, Cond.initialized RX4, Cond.code yX4_rateAs cX4_rateAs 3 (some .int), Cond.constant RX4 42 (-1000000), Cond.methodLink RX4 23 yX4_asChild, Cond.instanceMethod yX4_asChild, Cond.selects RX4 yX4_asChild yX4_asChild, Cond.code yX4_asChild cX4_asChild 2 (some .int), Cond.fieldLink RX4 19 "SimonSays$Kinds" "trace" "J", Cond.fieldLink RX4 9 "SimonSays$Kinds" "told" "LSimonSays$Children;", Cond.methodLink RX4 43 yX1_slipOf, Cond.instanceMethod yX1_slipOf, Cond.selects RX1 yX1_slipOf yX1_slipOf]
def wsX9_rate_r2 : List Cond := [Cond.code yX1_slipOf cX1_slipOf 2 (some .int), Cond.fieldLink RX1 9 "SimonSays$Children" "slips" "[I", Cond.methodLink RX1 49 yX1_has, Cond.methodLink RX4 27 yX4_asDreamer, Cond.instanceMethod yX4_asDreamer, Cond.selects RX4 yX4_asDreamer yX4_asDreamer, Cond.code yX4_asDreamer cX4_asDreamer 2 (some .int), Cond.constantLong RX4 48 (10), Cond.fieldLink RX4 15 "SimonSays$Kinds" "round" "LSimonSays$Round;", Cond.methodLink RX4 50 yX6_streak, Cond.instanceMethod yX6_streak, Cond.selects RX6 yX6_streak yX6_streak, Cond.initialized RX6, Cond.code yX6_streak cX6_streak 1 (some .int), Cond.fieldLink RX6 32 "SimonSays$Round" "streak" "I", Cond.methodLink RX4 30 yX4_asWatcher, Cond.instanceMethod yX4_asWatcher, Cond.selects RX4 yX4_asWatcher yX4_asWatcher, Cond.code yX4_asWatcher cX4_asWatcher 2 (some .int), Cond.constantLong RX4 56 (100), Cond.methodLink RX4 58 yX1_lateOf, Cond.instanceMethod yX1_lateOf, Cond.selects RX1 yX1_lateOf yX1_lateOf, Cond.code yX1_lateOf cX1_lateOf 2 (some .int)]
def wsX9_rate_r3 : List Cond := [Cond.fieldLink RX1 15 "SimonSays$Children" "lates" "[I", Cond.methodLink RX4 33 yX4_asRunner, Cond.instanceMethod yX4_asRunner, Cond.selects RX4 yX4_asRunner yX4_asRunner, Cond.code yX4_asRunner cX4_asRunner 2 (some .int), Cond.constantLong RX4 61 (1000), Cond.methodLink RX4 36 yX4_asCopier, Cond.instanceMethod yX4_asCopier, Cond.selects RX4 yX4_asCopier yX4_asCopier, Cond.code yX4_asCopier cX4_asCopier 2 (some .int), Cond.constantLong RX4 63 (10000), Cond.methodLink RX4 65 yX1_howManyCopy, Cond.instanceMethod yX1_howManyCopy, Cond.selects RX1 yX1_howManyCopy yX1_howManyCopy, Cond.code yX1_howManyCopy cX1_howManyCopy 4 (some .int), Cond.methodLink RX1 38 yX1_copiedBy, Cond.instanceMethod yX1_copiedBy, Cond.selects RX1 yX1_copiedBy yX1_copiedBy, Cond.code yX1_copiedBy cX1_copiedBy 2 (some .int), Cond.fieldLink RX1 18 "SimonSays$Children" "copied" "[I", Cond.methodLink RX4 39 yX4_asListener, Cond.instanceMethod yX4_asListener, Cond.selects RX4 yX4_asListener yX4_asListener, Cond.code yX4_asListener cX4_asListener 2 (some .int)]
def wsX9_rate_r4 : List Cond := [Cond.constantLong RX4 68 (100000), Cond.methodLink RX4 70 yX6_howManyIn, Cond.instanceMethod yX6_howManyIn, Cond.selects RX6 yX6_howManyIn yX6_howManyIn, Cond.code yX6_howManyIn cX6_howManyIn 1 (some .int), Cond.fieldLink RX6 29 "SimonSays$Round" "in" "I", Cond.methodLink RX6 35 yJ6_bitCount_0f7a4, Cond.static yJ6_bitCount_0f7a4, Cond.initialized RJ6, Cond.code yJ6_bitCount_0f7a4 cJ6_bitCount_0f7a4 1 (some .int), Cond.constant RJ6 265 (1431655765), Cond.constant RJ6 266 (858993459), Cond.constant RJ6 267 (252645135)]
def wsX9_rate : List Cond := .code yX9_rate cX9_rate 3 (some .int) :: ((wsX9_rate_r1 ++ (wsX9_rate_r2 ++ (wsX9_rate_r3 ++ wsX9_rate_r4))) ++ wsX90 ++ wsX10 ++ wsX40 ++ wsX60)
def wsX9_isImage : List Cond := .code yX9_isImage cX9_isImage 1 (some .boolean) :: ([])
def wsX9_keep_r1 : List Cond := [Cond.fieldLink RX9 50 "SimonSays" "images" "[LSimonSays$Image;", Cond.fieldLink RX9 37 "SimonSays" "round" "LSimonSays$Round;", Cond.methodLink RX9 240 yX9_isImage, Cond.static yX9_isImage, Cond.initialized RX9, Cond.code yX9_isImage cX9_isImage 1 (some .boolean), Cond.methodLink RX9 243 yX3_take, Cond.instanceMethod yX3_take, Cond.selects RX3 yX3_take yX3_take, Cond.initialized RX3, Cond.code yX3_take cX3_take 2 none, Cond.fieldLink RX3 7 "SimonSays$Image" "kept" "Z", Cond.fieldLink RX3 19 "SimonSays$Image" "in" "I", Cond.fieldLink RX3 26 "SimonSays$Image" "streak" "I", Cond.fieldLink RX3 31 "SimonSays$Image" "lot" "I", Cond.methodLink RX3 13 yX6_whoIsIn, Cond.instanceMethod yX6_whoIsIn, Cond.selects RX6 yX6_whoIsIn yX6_whoIsIn, Cond.initialized RX6, Cond.code yX6_whoIsIn cX6_whoIsIn 1 (some .int), Cond.fieldLink RX6 29 "SimonSays$Round" "in" "I", Cond.methodLink RX3 23 yX6_streak, Cond.instanceMethod yX6_streak, Cond.selects RX6 yX6_streak yX6_streak]
def wsX9_keep_r2 : List Cond := [Cond.code yX6_streak cX6_streak 1 (some .int), Cond.fieldLink RX6 32 "SimonSays$Round" "streak" "I", Cond.methodLink RX3 28 yX6_theLot, Cond.instanceMethod yX6_theLot, Cond.selects RX6 yX6_theLot yX6_theLot, Cond.code yX6_theLot cX6_theLot 1 (some .int), Cond.fieldLink RX6 15 "SimonSays$Round" "lot" "I", Cond.methodLink RX9 164 yX6_howManyIn, Cond.instanceMethod yX6_howManyIn, Cond.selects RX6 yX6_howManyIn yX6_howManyIn, Cond.code yX6_howManyIn cX6_howManyIn 1 (some .int), Cond.methodLink RX6 35 yJ6_bitCount_0f7a4, Cond.static yJ6_bitCount_0f7a4, Cond.initialized RJ6, Cond.code yJ6_bitCount_0f7a4 cJ6_bitCount_0f7a4 1 (some .int), Cond.constant RJ6 265 (1431655765), Cond.constant RJ6 266 (858993459), Cond.constant RJ6 267 (252645135)]
def wsX9_keep : List Cond := .code yX9_keep cX9_keep 2 (some .int) :: ((wsX9_keep_r1 ++ wsX9_keep_r2) ++ wsX90 ++ wsX30 ++ wsX60)
def wsX9_back_r1 : List Cond := [Cond.fieldLink RX9 50 "SimonSays" "images" "[LSimonSays$Image;", Cond.fieldLink RX9 37 "SimonSays" "round" "LSimonSays$Round;", Cond.fieldLink RX9 44 "SimonSays" "history" "LSimonSays$History;", Cond.methodLink RX9 240 yX9_isImage, Cond.static yX9_isImage, Cond.initialized RX9, Cond.code yX9_isImage cX9_isImage 1 (some .boolean), Cond.methodLink RX9 247 yX3_isKept, Cond.instanceMethod yX3_isKept, Cond.selects RX3 yX3_isKept yX3_isKept, Cond.initialized RX3, Cond.code yX3_isKept cX3_isKept 1 (some .boolean), Cond.fieldLink RX3 7 "SimonSays$Image" "kept" "Z", Cond.methodLink RX9 250 yX3_giveTo, Cond.instanceMethod yX3_giveTo, Cond.selects RX3 yX3_giveTo yX3_giveTo, Cond.code yX3_giveTo cX3_giveTo 2 none, Cond.fieldLink RX3 19 "SimonSays$Image" "in" "I", Cond.fieldLink RX3 26 "SimonSays$Image" "streak" "I", Cond.fieldLink RX3 31 "SimonSays$Image" "lot" "I", Cond.methodLink RX3 34 yX6_become, Cond.instanceMethod yX6_become, Cond.selects RX6 yX6_become yX6_become, Cond.initialized RX6]
def wsX9_back_r2 : List Cond := [Cond.code yX6_become cX6_become 3 none, Cond.fieldLink RX6 29 "SimonSays$Round" "in" "I", Cond.fieldLink RX6 32 "SimonSays$Round" "streak" "I", Cond.methodLink RX3 38 yX6_setLot, Cond.instanceMethod yX6_setLot, Cond.selects RX6 yX6_setLot yX6_setLot, Cond.code yX6_setLot cX6_setLot 2 none, Cond.fieldLink RX6 15 "SimonSays$Round" "lot" "I", Cond.methodLink RX9 107 yX2_forget, Cond.instanceMethod yX2_forget, Cond.selects RX2 yX2_forget yX2_forget, Cond.initialized RX2, Cond.code yX2_forget cX2_forget 1 none, Cond.fieldLink RX2 18 "SimonSays$History" "size" "I", Cond.methodLink RX9 164 yX6_howManyIn, Cond.instanceMethod yX6_howManyIn, Cond.selects RX6 yX6_howManyIn yX6_howManyIn, Cond.code yX6_howManyIn cX6_howManyIn 1 (some .int), Cond.methodLink RX6 35 yJ6_bitCount_0f7a4, Cond.static yJ6_bitCount_0f7a4, Cond.initialized RJ6, Cond.code yJ6_bitCount_0f7a4 cJ6_bitCount_0f7a4 1 (some .int), Cond.constant RJ6 265 (1431655765), Cond.constant RJ6 266 (858993459)]
def wsX9_back_r3 : List Cond := [Cond.constant RJ6 267 (252645135)]
def wsX9_back : List Cond := .code yX9_back cX9_back 2 (some .int) :: ((wsX9_back_r1 ++ (wsX9_back_r2 ++ wsX9_back_r3)) ++ wsX90 ++ wsX30 ++ wsX60 ++ wsX20)
def wsX9_count_r1 : List Cond := [Cond.fieldLink RX9 28 "SimonSays" "told" "LSimonSays$Children;", Cond.fieldLink RX9 37 "SimonSays" "round" "LSimonSays$Round;", Cond.fieldLink RX9 10 "SimonSays" "text" "LSimonSays$Text;", Cond.methodLink RX9 253 yX1_size, Cond.instanceMethod yX1_size, Cond.selects RX1 yX1_size yX1_size, Cond.initialized RX1, Cond.code yX1_size cX1_size 1 (some .int), Cond.fieldLink RX1 21 "SimonSays$Children" "size" "I", Cond.methodLink RX9 254 yX1_littleOnes, Cond.instanceMethod yX1_littleOnes, Cond.selects RX1 yX1_littleOnes yX1_littleOnes, Cond.code yX1_littleOnes cX1_littleOnes 1 (some .int), Cond.fieldLink RX1 25 "SimonSays$Children" "littleOnes" "I", Cond.methodLink RX9 257 yJ6_bitCount_0f7a4, Cond.static yJ6_bitCount_0f7a4, Cond.initialized RJ6, Cond.code yJ6_bitCount_0f7a4 cJ6_bitCount_0f7a4 1 (some .int), Cond.constant RJ6 265 (1431655765), Cond.constant RJ6 266 (858993459), Cond.constant RJ6 267 (252645135), Cond.methodLink RX9 164 yX6_howManyIn, Cond.instanceMethod yX6_howManyIn, Cond.selects RX6 yX6_howManyIn yX6_howManyIn]
def wsX9_count_r2 : List Cond := [Cond.initialized RX6, Cond.code yX6_howManyIn cX6_howManyIn 1 (some .int), Cond.fieldLink RX6 29 "SimonSays$Round" "in" "I", Cond.methodLink RX6 35 yJ6_bitCount_0f7a4, Cond.methodLink RX9 80 yX8_length, Cond.instanceMethod yX8_length, Cond.selects RX8 yX8_length yX8_length, Cond.initialized RX8, Cond.code yX8_length cX8_length 1 (some .int), Cond.fieldLink RX8 15 "SimonSays$Text" "length" "I"]
def wsX9_count : List Cond := .code yX9_count cX9_count 2 (some .int) :: ((wsX9_count_r1 ++ wsX9_count_r2) ++ wsX90 ++ wsX10 ++ wsX60 ++ wsX80)
def wsX9_trace : List Cond := .code yX9_trace cX9_trace 1 (some .long) :: ([.fieldLink RX9 76 "SimonSays" "kinds" "LSimonSays$Kinds;", .methodLink RX9 262 yX4_theTrace, .instanceMethod yX4_theTrace, .selects RX4 yX4_theTrace yX4_theTrace, .initialized RX4, .code yX4_theTrace cX4_theTrace 1 (some .long), .fieldLink RX4 19 "SimonSays$Kinds" "trace" "J"] ++ wsX90 ++ wsX40)
def wsX10_init : List Cond := .code yX10_init cX10_init 1 none :: ([.methodLink RX10 1 objectInit, .instanceMethod objectInit, .code objectInit ⟨#[0xb1]⟩ 1 none, .arrayClass .int, .fieldLink RX10 7 "SimonSaysModel" "text" "[I", .fieldLink RX10 13 "SimonSaysModel" "slips" "[I", .fieldLink RX10 16 "SimonSaysModel" "lates" "[I", .fieldLink RX10 19 "SimonSaysModel" "copies" "[I", .fieldLink RX10 22 "SimonSaysModel" "lot" "I", .fieldLink RX10 26 "SimonSaysModel" "before" "[I", .fieldLink RX10 29 "SimonSaysModel" "images" "[I", .arrayClass .boolean, .fieldLink RX10 32 "SimonSaysModel" "kept" "[Z", .fieldLink RX10 36 "SimonSaysModel" "read" "[I"] ++ wsX100)
def wsX10_within : List Cond := .code yX10_within cX10_within 6 (some .boolean) :: ([])
def wsX10_has : List Cond := .code yX10_has cX10_has 2 (some .boolean) :: ([])
def wsX10_bits : List Cond := .code yX10_bits cX10_bits 3 (some .int) :: ([])
def wsX10_isChild : List Cond := .code yX10_isChild cX10_isChild 2 (some .boolean) :: ([.fieldLink RX10 39 "SimonSaysModel" "many" "I", .methodLink RX10 42 yX10_within, .static yX10_within, .initialized RX10, .code yX10_within cX10_within 6 (some .boolean)] ++ wsX100)
def wsX10_isOrder : List Cond := .code yX10_isOrder cX10_isOrder 1 (some .boolean) :: ([.constantLong RX10 46 (4), .methodLink RX10 42 yX10_within, .static yX10_within, .initialized RX10, .code yX10_within cX10_within 6 (some .boolean)])
def wsX10_isSet : List Cond := .code yX10_isSet cX10_isSet 2 (some .boolean) :: ([.fieldLink RX10 39 "SimonSaysModel" "many" "I", .methodLink RX10 42 yX10_within, .static yX10_within, .initialized RX10, .code yX10_within cX10_within 6 (some .boolean)] ++ wsX100)
def wsX10_type : List Cond := .code yX10_type cX10_type 5 (some .int) :: ([.constantLong RX10 48 (8), .fieldLink RX10 50 "SimonSaysModel" "size" "I", .fieldLink RX10 7 "SimonSaysModel" "text" "[I", .constantLong RX10 53 (255), .methodLink RX10 42 yX10_within, .static yX10_within, .initialized RX10, .code yX10_within cX10_within 6 (some .boolean)] ++ wsX100)
def wsX10_clear : List Cond := .code yX10_clear cX10_clear 2 (some .int) :: ([.fieldLink RX10 50 "SimonSaysModel" "size" "I"] ++ wsX100)
def wsX10_isLetter : List Cond := .code yX10_isLetter cX10_isLetter 1 (some .boolean) :: ([])
def wsX10_isFigure : List Cond := .code yX10_isFigure cX10_isFigure 1 (some .boolean) :: ([])
def wsX10_next : List Cond := .code yX10_next cX10_next 2 none :: ([.fieldLink RX10 55 "SimonSaysModel" "at" "I", .fieldLink RX10 50 "SimonSaysModel" "size" "I", .fieldLink RX10 7 "SimonSaysModel" "text" "[I", .fieldLink RX10 58 "SimonSaysModel" "begin" "I", .fieldLink RX10 61 "SimonSaysModel" "value" "J", .fieldLink RX10 72 "SimonSaysModel" "kind" "I", .constantLong RX10 75 (32), .constantLong RX10 77 (96), .constantLong RX10 79 (-1), .constantLong RX10 81 (10), .constantLong RX10 83 (48), .constantLong RX10 85 (1000), .methodLink RX10 65 yX10_isLetter, .static yX10_isLetter, .initialized RX10, .code yX10_isLetter cX10_isLetter 1 (some .boolean), .methodLink RX10 69 yX10_isFigure, .static yX10_isFigure, .code yX10_isFigure cX10_isFigure 1 (some .boolean)] ++ wsX100)
def wsX10_takes_r1 : List Cond := [Cond.fieldLink RX10 72 "SimonSaysModel" "kind" "I", Cond.fieldLink RX10 61 "SimonSaysModel" "value" "J", Cond.methodLink RX10 87 yX10_next, Cond.instanceMethod yX10_next, Cond.selects RX10 yX10_next yX10_next, Cond.initialized RX10, Cond.code yX10_next cX10_next 2 none, Cond.fieldLink RX10 55 "SimonSaysModel" "at" "I", Cond.fieldLink RX10 50 "SimonSaysModel" "size" "I", Cond.fieldLink RX10 7 "SimonSaysModel" "text" "[I", Cond.fieldLink RX10 58 "SimonSaysModel" "begin" "I", Cond.constantLong RX10 75 (32), Cond.constantLong RX10 77 (96), Cond.constantLong RX10 79 (-1), Cond.constantLong RX10 81 (10), Cond.constantLong RX10 83 (48), Cond.constantLong RX10 85 (1000), Cond.methodLink RX10 65 yX10_isLetter, Cond.static yX10_isLetter, Cond.code yX10_isLetter cX10_isLetter 1 (some .boolean), Cond.methodLink RX10 69 yX10_isFigure, Cond.static yX10_isFigure, Cond.code yX10_isFigure cX10_isFigure 1 (some .boolean), Cond.methodLink RX10 42 yX10_within]
def wsX10_takes_r2 : List Cond := [Cond.static yX10_within, Cond.code yX10_within cX10_within 6 (some .boolean)]
def wsX10_takes : List Cond := .code yX10_takes cX10_takes 3 (some .boolean) :: ((wsX10_takes_r1 ++ wsX10_takes_r2) ++ wsX100)
def wsX10_stops : List Cond := .code yX10_stops cX10_stops 1 (some .boolean) :: ([.fieldLink RX10 72 "SimonSaysModel" "kind" "I", .methodLink RX10 87 yX10_next, .instanceMethod yX10_next, .selects RX10 yX10_next yX10_next, .initialized RX10, .code yX10_next cX10_next 2 none, .fieldLink RX10 55 "SimonSaysModel" "at" "I", .fieldLink RX10 50 "SimonSaysModel" "size" "I", .fieldLink RX10 7 "SimonSaysModel" "text" "[I", .fieldLink RX10 58 "SimonSaysModel" "begin" "I", .fieldLink RX10 61 "SimonSaysModel" "value" "J", .constantLong RX10 75 (32), .constantLong RX10 77 (96), .constantLong RX10 79 (-1), .constantLong RX10 81 (10), .constantLong RX10 83 (48), .constantLong RX10 85 (1000), .methodLink RX10 65 yX10_isLetter, .static yX10_isLetter, .code yX10_isLetter cX10_isLetter 1 (some .boolean), .methodLink RX10 69 yX10_isFigure, .static yX10_isFigure, .code yX10_isFigure cX10_isFigure 1 (some .boolean)] ++ wsX100)
def wsX10_takesChild_r1 : List Cond := [Cond.fieldLink RX10 90 "SimonSaysModel" "readMany" "I", Cond.fieldLink RX10 61 "SimonSaysModel" "value" "J", Cond.constantLong RX10 97 (9), Cond.fieldLink RX10 36 "SimonSaysModel" "read" "[I", Cond.methodLink RX10 93 yX10_takes, Cond.instanceMethod yX10_takes, Cond.selects RX10 yX10_takes yX10_takes, Cond.initialized RX10, Cond.code yX10_takes cX10_takes 3 (some .boolean), Cond.fieldLink RX10 72 "SimonSaysModel" "kind" "I", Cond.methodLink RX10 87 yX10_next, Cond.instanceMethod yX10_next, Cond.selects RX10 yX10_next yX10_next, Cond.code yX10_next cX10_next 2 none, Cond.fieldLink RX10 55 "SimonSaysModel" "at" "I", Cond.fieldLink RX10 50 "SimonSaysModel" "size" "I", Cond.fieldLink RX10 7 "SimonSaysModel" "text" "[I", Cond.fieldLink RX10 58 "SimonSaysModel" "begin" "I", Cond.constantLong RX10 75 (32), Cond.constantLong RX10 77 (96), Cond.constantLong RX10 79 (-1), Cond.constantLong RX10 81 (10), Cond.constantLong RX10 83 (48), Cond.constantLong RX10 85 (1000)]
def wsX10_takesChild_r2 : List Cond := [Cond.methodLink RX10 65 yX10_isLetter, Cond.static yX10_isLetter, Cond.code yX10_isLetter cX10_isLetter 1 (some .boolean), Cond.methodLink RX10 69 yX10_isFigure, Cond.static yX10_isFigure, Cond.code yX10_isFigure cX10_isFigure 1 (some .boolean), Cond.methodLink RX10 42 yX10_within, Cond.static yX10_within, Cond.code yX10_within cX10_within 6 (some .boolean), Cond.methodLink RX10 99 yX10_stops, Cond.instanceMethod yX10_stops, Cond.selects RX10 yX10_stops yX10_stops, Cond.code yX10_stops cX10_stops 1 (some .boolean)]
def wsX10_takesChild : List Cond := .code yX10_takesChild cX10_takesChild 2 (some .boolean) :: ((wsX10_takesChild_r1 ++ wsX10_takesChild_r2) ++ wsX100)
def wsX10_takesLittle_r1 : List Cond := [Cond.fieldLink RX10 90 "SimonSaysModel" "readMany" "I", Cond.fieldLink RX10 103 "SimonSaysModel" "readLittle" "I", Cond.fieldLink RX10 61 "SimonSaysModel" "value" "J", Cond.methodLink RX10 93 yX10_takes, Cond.instanceMethod yX10_takes, Cond.selects RX10 yX10_takes yX10_takes, Cond.initialized RX10, Cond.code yX10_takes cX10_takes 3 (some .boolean), Cond.fieldLink RX10 72 "SimonSaysModel" "kind" "I", Cond.methodLink RX10 87 yX10_next, Cond.instanceMethod yX10_next, Cond.selects RX10 yX10_next yX10_next, Cond.code yX10_next cX10_next 2 none, Cond.fieldLink RX10 55 "SimonSaysModel" "at" "I", Cond.fieldLink RX10 50 "SimonSaysModel" "size" "I", Cond.fieldLink RX10 7 "SimonSaysModel" "text" "[I", Cond.fieldLink RX10 58 "SimonSaysModel" "begin" "I", Cond.constantLong RX10 75 (32), Cond.constantLong RX10 77 (96), Cond.constantLong RX10 79 (-1), Cond.constantLong RX10 81 (10), Cond.constantLong RX10 83 (48), Cond.constantLong RX10 85 (1000), Cond.methodLink RX10 65 yX10_isLetter]
def wsX10_takesLittle_r2 : List Cond := [Cond.static yX10_isLetter, Cond.code yX10_isLetter cX10_isLetter 1 (some .boolean), Cond.methodLink RX10 69 yX10_isFigure, Cond.static yX10_isFigure, Cond.code yX10_isFigure cX10_isFigure 1 (some .boolean), Cond.methodLink RX10 42 yX10_within, Cond.static yX10_within, Cond.code yX10_within cX10_within 6 (some .boolean), Cond.methodLink RX10 99 yX10_stops, Cond.instanceMethod yX10_stops, Cond.selects RX10 yX10_stops yX10_stops, Cond.code yX10_stops cX10_stops 1 (some .boolean)]
def wsX10_takesLittle : List Cond := .code yX10_takesLittle cX10_takesLittle 1 (some .boolean) :: ((wsX10_takesLittle_r1 ++ wsX10_takesLittle_r2) ++ wsX100)
def wsX10_children_r1 : List Cond := [Cond.fieldLink RX10 55 "SimonSaysModel" "at" "I", Cond.fieldLink RX10 90 "SimonSaysModel" "readMany" "I", Cond.fieldLink RX10 103 "SimonSaysModel" "readLittle" "I", Cond.fieldLink RX10 72 "SimonSaysModel" "kind" "I", Cond.fieldLink RX10 61 "SimonSaysModel" "value" "J", Cond.constantLong RX10 106 (3417476), Cond.constantLong RX10 111 (412766597), Cond.fieldLink RX10 58 "SimonSaysModel" "begin" "I", Cond.fieldLink RX10 39 "SimonSaysModel" "many" "I", Cond.fieldLink RX10 13 "SimonSaysModel" "slips" "[I", Cond.fieldLink RX10 36 "SimonSaysModel" "read" "[I", Cond.fieldLink RX10 16 "SimonSaysModel" "lates" "[I", Cond.fieldLink RX10 19 "SimonSaysModel" "copies" "[I", Cond.fieldLink RX10 116 "SimonSaysModel" "little" "I", Cond.fieldLink RX10 119 "SimonSaysModel" "in" "I", Cond.fieldLink RX10 122 "SimonSaysModel" "streak" "I", Cond.fieldLink RX10 125 "SimonSaysModel" "undos" "I", Cond.fieldLink RX10 32 "SimonSaysModel" "kept" "[Z", Cond.fieldLink RX10 50 "SimonSaysModel" "size" "I", Cond.methodLink RX10 87 yX10_next, Cond.instanceMethod yX10_next, Cond.selects RX10 yX10_next yX10_next, Cond.initialized RX10, Cond.code yX10_next cX10_next 2 none]
def wsX10_children_r2 : List Cond := [Cond.fieldLink RX10 7 "SimonSaysModel" "text" "[I", Cond.constantLong RX10 75 (32), Cond.constantLong RX10 77 (96), Cond.constantLong RX10 79 (-1), Cond.constantLong RX10 81 (10), Cond.constantLong RX10 83 (48), Cond.constantLong RX10 85 (1000), Cond.methodLink RX10 65 yX10_isLetter, Cond.static yX10_isLetter, Cond.code yX10_isLetter cX10_isLetter 1 (some .boolean), Cond.methodLink RX10 69 yX10_isFigure, Cond.static yX10_isFigure, Cond.code yX10_isFigure cX10_isFigure 1 (some .boolean), Cond.methodLink RX10 108 yX10_takesChild, Cond.instanceMethod yX10_takesChild, Cond.selects RX10 yX10_takesChild yX10_takesChild, Cond.code yX10_takesChild cX10_takesChild 2 (some .boolean), Cond.constantLong RX10 97 (9), Cond.methodLink RX10 93 yX10_takes, Cond.instanceMethod yX10_takes, Cond.selects RX10 yX10_takes yX10_takes, Cond.code yX10_takes cX10_takes 3 (some .boolean), Cond.methodLink RX10 42 yX10_within, Cond.static yX10_within]
def wsX10_children_r3 : List Cond := [Cond.code yX10_within cX10_within 6 (some .boolean), Cond.methodLink RX10 99 yX10_stops, Cond.instanceMethod yX10_stops, Cond.selects RX10 yX10_stops yX10_stops, Cond.code yX10_stops cX10_stops 1 (some .boolean), Cond.methodLink RX10 113 yX10_takesLittle, Cond.instanceMethod yX10_takesLittle, Cond.selects RX10 yX10_takesLittle yX10_takesLittle, Cond.code yX10_takesLittle cX10_takesLittle 1 (some .boolean)]
def wsX10_children : List Cond := .code yX10_children cX10_children 3 (some .int) :: ((wsX10_children_r1 ++ (wsX10_children_r2 ++ wsX10_children_r3)) ++ wsX100)
def wsX10_leaderOf : List Cond := .code yX10_leaderOf cX10_leaderOf 3 (some .int) :: ([.fieldLink RX10 19 "SimonSaysModel" "copies" "[I", .fieldLink RX10 119 "SimonSaysModel" "in" "I", .methodLink RX10 128 yX10_has, .static yX10_has, .initialized RX10, .code yX10_has cX10_has 2 (some .boolean)] ++ wsX100)
def wsX10_ledBy : List Cond := .code yX10_ledBy cX10_ledBy 4 (some .int) :: ([.fieldLink RX10 39 "SimonSaysModel" "many" "I", .fieldLink RX10 119 "SimonSaysModel" "in" "I", .methodLink RX10 128 yX10_has, .static yX10_has, .initialized RX10, .code yX10_has cX10_has 2 (some .boolean), .methodLink RX10 131 yX10_leaderOf, .instanceMethod yX10_leaderOf, .selects RX10 yX10_leaderOf yX10_leaderOf, .code yX10_leaderOf cX10_leaderOf 3 (some .int), .fieldLink RX10 19 "SimonSaysModel" "copies" "[I"] ++ wsX100)
def wsX10_errsOf : List Cond := .code yX10_errsOf cX10_errsOf 5 (some .int) :: ([.fieldLink RX10 13 "SimonSaysModel" "slips" "[I", .fieldLink RX10 16 "SimonSaysModel" "lates" "[I"] ++ wsX100)
def wsX10_streakBehind : List Cond := .code yX10_streakBehind cX10_streakBehind 2 (some .int) :: ([])
def wsX10_fair : List Cond := .code yX10_fair cX10_fair 2 (some .int) :: ([.fieldLink RX10 39 "SimonSaysModel" "many" "I", .fieldLink RX10 116 "SimonSaysModel" "little" "I", .fieldLink RX10 119 "SimonSaysModel" "in" "I"] ++ wsX100)
def wsX10_child : List Cond := .code yX10_child cX10_child 3 (some .int) :: ([.constantLong RX10 138 (5), .fieldLink RX10 13 "SimonSaysModel" "slips" "[I", .fieldLink RX10 16 "SimonSaysModel" "lates" "[I", .fieldLink RX10 19 "SimonSaysModel" "copies" "[I", .fieldLink RX10 116 "SimonSaysModel" "little" "I", .fieldLink RX10 119 "SimonSaysModel" "in" "I", .methodLink RX10 135 yX10_isChild, .instanceMethod yX10_isChild, .selects RX10 yX10_isChild yX10_isChild, .initialized RX10, .code yX10_isChild cX10_isChild 2 (some .boolean), .fieldLink RX10 39 "SimonSaysModel" "many" "I", .methodLink RX10 42 yX10_within, .static yX10_within, .code yX10_within cX10_within 6 (some .boolean), .methodLink RX10 128 yX10_has, .static yX10_has, .code yX10_has cX10_has 2 (some .boolean), .methodLink RX10 131 yX10_leaderOf, .instanceMethod yX10_leaderOf, .selects RX10 yX10_leaderOf yX10_leaderOf, .code yX10_leaderOf cX10_leaderOf 3 (some .int)] ++ wsX100)
def wsX10_now : List Cond := .code yX10_now cX10_now 2 (some .int) :: ([.fieldLink RX10 119 "SimonSaysModel" "in" "I", .fieldLink RX10 122 "SimonSaysModel" "streak" "I", .fieldLink RX10 125 "SimonSaysModel" "undos" "I", .methodLink RX10 140 yX10_fair, .instanceMethod yX10_fair, .selects RX10 yX10_fair yX10_fair, .initialized RX10, .code yX10_fair cX10_fair 2 (some .int), .fieldLink RX10 39 "SimonSaysModel" "many" "I", .fieldLink RX10 116 "SimonSaysModel" "little" "I"] ++ wsX100)
def wsX10_errs : List Cond := .code yX10_errs cX10_errs 3 (some .int) :: ([.fieldLink RX10 119 "SimonSaysModel" "in" "I", .fieldLink RX10 122 "SimonSaysModel" "streak" "I", .methodLink RX10 135 yX10_isChild, .instanceMethod yX10_isChild, .selects RX10 yX10_isChild yX10_isChild, .initialized RX10, .code yX10_isChild cX10_isChild 2 (some .boolean), .fieldLink RX10 39 "SimonSaysModel" "many" "I", .methodLink RX10 42 yX10_within, .static yX10_within, .code yX10_within cX10_within 6 (some .boolean), .methodLink RX10 144 yX10_isOrder, .static yX10_isOrder, .code yX10_isOrder cX10_isOrder 1 (some .boolean), .constantLong RX10 46 (4), .methodLink RX10 128 yX10_has, .static yX10_has, .code yX10_has cX10_has 2 (some .boolean), .methodLink RX10 147 yX10_errsOf, .instanceMethod yX10_errsOf, .selects RX10 yX10_errsOf yX10_errsOf, .code yX10_errsOf cX10_errsOf 5 (some .int), .fieldLink RX10 13 "SimonSaysModel" "slips" "[I", .fieldLink RX10 16 "SimonSaysModel" "lates" "[I"] ++ wsX100)
def wsX10_remember : List Cond := .code yX10_remember cX10_remember 2 none :: ([.fieldLink RX10 125 "SimonSaysModel" "undos" "I", .fieldLink RX10 26 "SimonSaysModel" "before" "[I", .fieldLink RX10 119 "SimonSaysModel" "in" "I", .fieldLink RX10 122 "SimonSaysModel" "streak" "I"] ++ wsX100)
def wsX10_call_r1 : List Cond := [Cond.fieldLink RX10 119 "SimonSaysModel" "in" "I", Cond.fieldLink RX10 39 "SimonSaysModel" "many" "I", Cond.fieldLink RX10 22 "SimonSaysModel" "lot" "I", Cond.constant RX10 151 (1103515245), Cond.fieldLink RX10 122 "SimonSaysModel" "streak" "I", Cond.methodLink RX10 144 yX10_isOrder, Cond.static yX10_isOrder, Cond.initialized RX10, Cond.code yX10_isOrder cX10_isOrder 1 (some .boolean), Cond.constantLong RX10 46 (4), Cond.methodLink RX10 42 yX10_within, Cond.static yX10_within, Cond.code yX10_within cX10_within 6 (some .boolean), Cond.methodLink RX10 128 yX10_has, Cond.static yX10_has, Cond.code yX10_has cX10_has 2 (some .boolean), Cond.methodLink RX10 131 yX10_leaderOf, Cond.instanceMethod yX10_leaderOf, Cond.selects RX10 yX10_leaderOf yX10_leaderOf, Cond.code yX10_leaderOf cX10_leaderOf 3 (some .int), Cond.fieldLink RX10 19 "SimonSaysModel" "copies" "[I", Cond.methodLink RX10 147 yX10_errsOf, Cond.instanceMethod yX10_errsOf, Cond.selects RX10 yX10_errsOf yX10_errsOf]
def wsX10_call_r2 : List Cond := [Cond.code yX10_errsOf cX10_errsOf 5 (some .int), Cond.fieldLink RX10 13 "SimonSaysModel" "slips" "[I", Cond.fieldLink RX10 16 "SimonSaysModel" "lates" "[I", Cond.methodLink RX10 152 yX10_ledBy, Cond.instanceMethod yX10_ledBy, Cond.selects RX10 yX10_ledBy yX10_ledBy, Cond.code yX10_ledBy cX10_ledBy 4 (some .int), Cond.methodLink RX10 155 yX10_remember, Cond.instanceMethod yX10_remember, Cond.selects RX10 yX10_remember yX10_remember, Cond.code yX10_remember cX10_remember 2 none, Cond.fieldLink RX10 125 "SimonSaysModel" "undos" "I", Cond.fieldLink RX10 26 "SimonSaysModel" "before" "[I", Cond.methodLink RX10 158 yX10_streakBehind, Cond.static yX10_streakBehind, Cond.code yX10_streakBehind cX10_streakBehind 2 (some .int)]
def wsX10_call : List Cond := .code yX10_call cX10_call 4 (some .int) :: ((wsX10_call_r1 ++ wsX10_call_r2) ++ wsX100)
def wsX10_comesBack : List Cond := .code yX10_comesBack cX10_comesBack 2 (some .int) :: ([.fieldLink RX10 119 "SimonSaysModel" "in" "I", .methodLink RX10 135 yX10_isChild, .instanceMethod yX10_isChild, .selects RX10 yX10_isChild yX10_isChild, .initialized RX10, .code yX10_isChild cX10_isChild 2 (some .boolean), .fieldLink RX10 39 "SimonSaysModel" "many" "I", .methodLink RX10 42 yX10_within, .static yX10_within, .code yX10_within cX10_within 6 (some .boolean), .methodLink RX10 128 yX10_has, .static yX10_has, .code yX10_has cX10_has 2 (some .boolean), .methodLink RX10 155 yX10_remember, .instanceMethod yX10_remember, .selects RX10 yX10_remember yX10_remember, .code yX10_remember cX10_remember 2 none, .fieldLink RX10 125 "SimonSaysModel" "undos" "I", .fieldLink RX10 26 "SimonSaysModel" "before" "[I", .fieldLink RX10 122 "SimonSaysModel" "streak" "I", .methodLink RX10 162 yX10_bits, .static yX10_bits, .code yX10_bits cX10_bits 3 (some .int)] ++ wsX100)
def wsX10_undo : List Cond := .code yX10_undo cX10_undo 1 (some .int) :: ([.fieldLink RX10 125 "SimonSaysModel" "undos" "I", .fieldLink RX10 26 "SimonSaysModel" "before" "[I", .fieldLink RX10 119 "SimonSaysModel" "in" "I", .fieldLink RX10 122 "SimonSaysModel" "streak" "I"] ++ wsX100)
def wsX10_lot : List Cond := .code yX10_lot cX10_lot 3 (some .int) :: ([.fieldLink RX10 22 "SimonSaysModel" "lot" "I"] ++ wsX100)
def wsX10_part : List Cond := .code yX10_part cX10_part 11 (some .long) :: ([])
def wsX10_waysOf : List Cond := .code yX10_waysOf cX10_waysOf 8 (some .long) :: ([.fieldLink RX10 119 "SimonSaysModel" "in" "I", .fieldLink RX10 165 "SimonSaysModel" "below" "J", .fieldLink RX10 39 "SimonSaysModel" "many" "I", .fieldLink RX10 122 "SimonSaysModel" "streak" "I", .constantLong RX10 81 (10), .methodLink RX10 128 yX10_has, .static yX10_has, .initialized RX10, .code yX10_has cX10_has 2 (some .boolean), .methodLink RX10 131 yX10_leaderOf, .instanceMethod yX10_leaderOf, .selects RX10 yX10_leaderOf yX10_leaderOf, .code yX10_leaderOf cX10_leaderOf 3 (some .int), .fieldLink RX10 19 "SimonSaysModel" "copies" "[I", .methodLink RX10 152 yX10_ledBy, .instanceMethod yX10_ledBy, .selects RX10 yX10_ledBy yX10_ledBy, .code yX10_ledBy cX10_ledBy 4 (some .int), .methodLink RX10 147 yX10_errsOf, .instanceMethod yX10_errsOf, .selects RX10 yX10_errsOf yX10_errsOf, .code yX10_errsOf cX10_errsOf 5 (some .int), .fieldLink RX10 13 "SimonSaysModel" "slips" "[I", .fieldLink RX10 16 "SimonSaysModel" "lates" "[I"] ++ wsX100)
def wsX10_isPart : List Cond := .code yX10_isPart cX10_isPart 1 (some .boolean) :: ([.methodLink RX10 42 yX10_within, .static yX10_within, .initialized RX10, .code yX10_within cX10_within 6 (some .boolean)])
def wsX10_falls_r1 : List Cond := [Cond.constantLong RX10 79 (-1), Cond.fieldLink RX10 165 "SimonSaysModel" "below" "J", Cond.methodLink RX10 144 yX10_isOrder, Cond.static yX10_isOrder, Cond.initialized RX10, Cond.code yX10_isOrder cX10_isOrder 1 (some .boolean), Cond.constantLong RX10 46 (4), Cond.methodLink RX10 42 yX10_within, Cond.static yX10_within, Cond.code yX10_within cX10_within 6 (some .boolean), Cond.methodLink RX10 168 yX10_isSet, Cond.instanceMethod yX10_isSet, Cond.selects RX10 yX10_isSet yX10_isSet, Cond.code yX10_isSet cX10_isSet 2 (some .boolean), Cond.fieldLink RX10 39 "SimonSaysModel" "many" "I", Cond.methodLink RX10 171 yX10_isPart, Cond.static yX10_isPart, Cond.code yX10_isPart cX10_isPart 1 (some .boolean), Cond.methodLink RX10 174 yX10_waysOf, Cond.instanceMethod yX10_waysOf, Cond.selects RX10 yX10_waysOf yX10_waysOf, Cond.code yX10_waysOf cX10_waysOf 8 (some .long), Cond.fieldLink RX10 119 "SimonSaysModel" "in" "I", Cond.fieldLink RX10 122 "SimonSaysModel" "streak" "I"]
def wsX10_falls_r2 : List Cond := [Cond.constantLong RX10 81 (10), Cond.methodLink RX10 128 yX10_has, Cond.static yX10_has, Cond.code yX10_has cX10_has 2 (some .boolean), Cond.methodLink RX10 131 yX10_leaderOf, Cond.instanceMethod yX10_leaderOf, Cond.selects RX10 yX10_leaderOf yX10_leaderOf, Cond.code yX10_leaderOf cX10_leaderOf 3 (some .int), Cond.fieldLink RX10 19 "SimonSaysModel" "copies" "[I", Cond.methodLink RX10 152 yX10_ledBy, Cond.instanceMethod yX10_ledBy, Cond.selects RX10 yX10_ledBy yX10_ledBy, Cond.code yX10_ledBy cX10_ledBy 4 (some .int), Cond.methodLink RX10 147 yX10_errsOf, Cond.instanceMethod yX10_errsOf, Cond.selects RX10 yX10_errsOf yX10_errsOf, Cond.code yX10_errsOf cX10_errsOf 5 (some .int), Cond.fieldLink RX10 13 "SimonSaysModel" "slips" "[I", Cond.fieldLink RX10 16 "SimonSaysModel" "lates" "[I", Cond.methodLink RX10 178 yX10_part, Cond.static yX10_part, Cond.code yX10_part cX10_part 11 (some .long)]
def wsX10_falls : List Cond := .code yX10_falls cX10_falls 6 (some .long) :: ((wsX10_falls_r1 ++ wsX10_falls_r2) ++ wsX100)
def wsX10_many_r1 : List Cond := [Cond.constantLong RX10 182 (6), Cond.constantLong RX10 79 (-1), Cond.fieldLink RX10 39 "SimonSaysModel" "many" "I", Cond.fieldLink RX10 165 "SimonSaysModel" "below" "J", Cond.methodLink RX10 144 yX10_isOrder, Cond.static yX10_isOrder, Cond.initialized RX10, Cond.code yX10_isOrder cX10_isOrder 1 (some .boolean), Cond.constantLong RX10 46 (4), Cond.methodLink RX10 42 yX10_within, Cond.static yX10_within, Cond.code yX10_within cX10_within 6 (some .boolean), Cond.methodLink RX10 171 yX10_isPart, Cond.static yX10_isPart, Cond.code yX10_isPart cX10_isPart 1 (some .boolean), Cond.methodLink RX10 162 yX10_bits, Cond.static yX10_bits, Cond.code yX10_bits cX10_bits 3 (some .int), Cond.methodLink RX10 174 yX10_waysOf, Cond.instanceMethod yX10_waysOf, Cond.selects RX10 yX10_waysOf yX10_waysOf, Cond.code yX10_waysOf cX10_waysOf 8 (some .long), Cond.fieldLink RX10 119 "SimonSaysModel" "in" "I", Cond.fieldLink RX10 122 "SimonSaysModel" "streak" "I"]
def wsX10_many_r2 : List Cond := [Cond.constantLong RX10 81 (10), Cond.methodLink RX10 128 yX10_has, Cond.static yX10_has, Cond.code yX10_has cX10_has 2 (some .boolean), Cond.methodLink RX10 131 yX10_leaderOf, Cond.instanceMethod yX10_leaderOf, Cond.selects RX10 yX10_leaderOf yX10_leaderOf, Cond.code yX10_leaderOf cX10_leaderOf 3 (some .int), Cond.fieldLink RX10 19 "SimonSaysModel" "copies" "[I", Cond.methodLink RX10 152 yX10_ledBy, Cond.instanceMethod yX10_ledBy, Cond.selects RX10 yX10_ledBy yX10_ledBy, Cond.code yX10_ledBy cX10_ledBy 4 (some .int), Cond.methodLink RX10 147 yX10_errsOf, Cond.instanceMethod yX10_errsOf, Cond.selects RX10 yX10_errsOf yX10_errsOf, Cond.code yX10_errsOf cX10_errsOf 5 (some .int), Cond.fieldLink RX10 13 "SimonSaysModel" "slips" "[I", Cond.fieldLink RX10 16 "SimonSaysModel" "lates" "[I", Cond.methodLink RX10 178 yX10_part, Cond.static yX10_part, Cond.code yX10_part cX10_part 11 (some .long)]
def wsX10_many : List Cond := .code yX10_many cX10_many 8 (some .long) :: ((wsX10_many_r1 ++ wsX10_many_r2) ++ wsX100)
def wsX10_ordersIn : List Cond := .code yX10_ordersIn cX10_ordersIn 4 (some .int) :: ([.methodLink RX10 144 yX10_isOrder, .static yX10_isOrder, .initialized RX10, .code yX10_isOrder cX10_isOrder 1 (some .boolean), .constantLong RX10 46 (4), .methodLink RX10 42 yX10_within, .static yX10_within, .code yX10_within cX10_within 6 (some .boolean)])
def wsX10_orderAt : List Cond := .code yX10_orderAt cX10_orderAt 5 (some .int) :: ([])
def wsX10_staysOf : List Cond := .code yX10_staysOf cX10_staysOf 9 (some .long) :: ([.fieldLink RX10 122 "SimonSaysModel" "streak" "I", .methodLink RX10 184 yX10_orderAt, .static yX10_orderAt, .initialized RX10, .code yX10_orderAt cX10_orderAt 5 (some .int), .methodLink RX10 147 yX10_errsOf, .instanceMethod yX10_errsOf, .selects RX10 yX10_errsOf yX10_errsOf, .code yX10_errsOf cX10_errsOf 5 (some .int), .fieldLink RX10 13 "SimonSaysModel" "slips" "[I", .fieldLink RX10 16 "SimonSaysModel" "lates" "[I", .methodLink RX10 158 yX10_streakBehind, .static yX10_streakBehind, .code yX10_streakBehind cX10_streakBehind 2 (some .int)] ++ wsX100)
def wsX10_tens : List Cond := .code yX10_tens cX10_tens 4 (some .long) :: ([.constantLong RX10 81 (10)])
def wsX10_stays_r1 : List Cond := [Cond.constantLong RX10 97 (9), Cond.constantLong RX10 79 (-1), Cond.fieldLink RX10 119 "SimonSaysModel" "in" "I", Cond.methodLink RX10 187 yX10_ordersIn, Cond.static yX10_ordersIn, Cond.initialized RX10, Cond.code yX10_ordersIn cX10_ordersIn 4 (some .int), Cond.methodLink RX10 144 yX10_isOrder, Cond.static yX10_isOrder, Cond.code yX10_isOrder cX10_isOrder 1 (some .boolean), Cond.constantLong RX10 46 (4), Cond.methodLink RX10 42 yX10_within, Cond.static yX10_within, Cond.code yX10_within cX10_within 6 (some .boolean), Cond.methodLink RX10 135 yX10_isChild, Cond.instanceMethod yX10_isChild, Cond.selects RX10 yX10_isChild yX10_isChild, Cond.code yX10_isChild cX10_isChild 2 (some .boolean), Cond.fieldLink RX10 39 "SimonSaysModel" "many" "I", Cond.methodLink RX10 171 yX10_isPart, Cond.static yX10_isPart, Cond.code yX10_isPart cX10_isPart 1 (some .boolean), Cond.methodLink RX10 128 yX10_has, Cond.static yX10_has]
def wsX10_stays_r2 : List Cond := [Cond.code yX10_has cX10_has 2 (some .boolean), Cond.methodLink RX10 131 yX10_leaderOf, Cond.instanceMethod yX10_leaderOf, Cond.selects RX10 yX10_leaderOf yX10_leaderOf, Cond.code yX10_leaderOf cX10_leaderOf 3 (some .int), Cond.fieldLink RX10 19 "SimonSaysModel" "copies" "[I", Cond.methodLink RX10 190 yX10_staysOf, Cond.instanceMethod yX10_staysOf, Cond.selects RX10 yX10_staysOf yX10_staysOf, Cond.code yX10_staysOf cX10_staysOf 9 (some .long), Cond.fieldLink RX10 122 "SimonSaysModel" "streak" "I", Cond.methodLink RX10 184 yX10_orderAt, Cond.static yX10_orderAt, Cond.code yX10_orderAt cX10_orderAt 5 (some .int), Cond.methodLink RX10 147 yX10_errsOf, Cond.instanceMethod yX10_errsOf, Cond.selects RX10 yX10_errsOf yX10_errsOf, Cond.code yX10_errsOf cX10_errsOf 5 (some .int), Cond.fieldLink RX10 13 "SimonSaysModel" "slips" "[I", Cond.fieldLink RX10 16 "SimonSaysModel" "lates" "[I", Cond.methodLink RX10 158 yX10_streakBehind, Cond.static yX10_streakBehind, Cond.code yX10_streakBehind cX10_streakBehind 2 (some .int), Cond.methodLink RX10 194 yX10_tens]
def wsX10_stays_r3 : List Cond := [Cond.static yX10_tens, Cond.code yX10_tens cX10_tens 4 (some .long), Cond.constantLong RX10 81 (10), Cond.methodLink RX10 178 yX10_part, Cond.static yX10_part, Cond.code yX10_part cX10_part 11 (some .long)]
def wsX10_stays : List Cond := .code yX10_stays cX10_stays 5 (some .long) :: ((wsX10_stays_r1 ++ (wsX10_stays_r2 ++ wsX10_stays_r3)) ++ wsX100)
def wsX10_leftOf_r1 : List Cond := [Cond.fieldLink RX10 39 "SimonSaysModel" "many" "I", Cond.fieldLink RX10 119 "SimonSaysModel" "in" "I", Cond.fieldLink RX10 165 "SimonSaysModel" "below" "J", Cond.methodLink RX10 128 yX10_has, Cond.static yX10_has, Cond.initialized RX10, Cond.code yX10_has cX10_has 2 (some .boolean), Cond.methodLink RX10 131 yX10_leaderOf, Cond.instanceMethod yX10_leaderOf, Cond.selects RX10 yX10_leaderOf yX10_leaderOf, Cond.code yX10_leaderOf cX10_leaderOf 3 (some .int), Cond.fieldLink RX10 19 "SimonSaysModel" "copies" "[I", Cond.methodLink RX10 152 yX10_ledBy, Cond.instanceMethod yX10_ledBy, Cond.selects RX10 yX10_ledBy yX10_ledBy, Cond.code yX10_ledBy cX10_ledBy 4 (some .int), Cond.methodLink RX10 162 yX10_bits, Cond.static yX10_bits, Cond.code yX10_bits cX10_bits 3 (some .int), Cond.methodLink RX10 190 yX10_staysOf, Cond.instanceMethod yX10_staysOf, Cond.selects RX10 yX10_staysOf yX10_staysOf, Cond.code yX10_staysOf cX10_staysOf 9 (some .long), Cond.fieldLink RX10 122 "SimonSaysModel" "streak" "I"]
def wsX10_leftOf_r2 : List Cond := [Cond.methodLink RX10 184 yX10_orderAt, Cond.static yX10_orderAt, Cond.code yX10_orderAt cX10_orderAt 5 (some .int), Cond.methodLink RX10 147 yX10_errsOf, Cond.instanceMethod yX10_errsOf, Cond.selects RX10 yX10_errsOf yX10_errsOf, Cond.code yX10_errsOf cX10_errsOf 5 (some .int), Cond.fieldLink RX10 13 "SimonSaysModel" "slips" "[I", Cond.fieldLink RX10 16 "SimonSaysModel" "lates" "[I", Cond.methodLink RX10 158 yX10_streakBehind, Cond.static yX10_streakBehind, Cond.code yX10_streakBehind cX10_streakBehind 2 (some .int), Cond.methodLink RX10 194 yX10_tens, Cond.static yX10_tens, Cond.code yX10_tens cX10_tens 4 (some .long), Cond.constantLong RX10 81 (10)]
def wsX10_leftOf : List Cond := .code yX10_leftOf cX10_leftOf 13 (some .long) :: ((wsX10_leftOf_r1 ++ wsX10_leftOf_r2) ++ wsX100)
def wsX10_left_r1 : List Cond := [Cond.constantLong RX10 198 (3), Cond.constantLong RX10 79 (-1), Cond.fieldLink RX10 165 "SimonSaysModel" "below" "J", Cond.methodLink RX10 187 yX10_ordersIn, Cond.static yX10_ordersIn, Cond.initialized RX10, Cond.code yX10_ordersIn cX10_ordersIn 4 (some .int), Cond.methodLink RX10 144 yX10_isOrder, Cond.static yX10_isOrder, Cond.code yX10_isOrder cX10_isOrder 1 (some .boolean), Cond.constantLong RX10 46 (4), Cond.methodLink RX10 42 yX10_within, Cond.static yX10_within, Cond.code yX10_within cX10_within 6 (some .boolean), Cond.methodLink RX10 171 yX10_isPart, Cond.static yX10_isPart, Cond.code yX10_isPart cX10_isPart 1 (some .boolean), Cond.methodLink RX10 200 yX10_leftOf, Cond.instanceMethod yX10_leftOf, Cond.selects RX10 yX10_leftOf yX10_leftOf, Cond.code yX10_leftOf cX10_leftOf 13 (some .long), Cond.fieldLink RX10 39 "SimonSaysModel" "many" "I", Cond.fieldLink RX10 119 "SimonSaysModel" "in" "I", Cond.methodLink RX10 128 yX10_has]
def wsX10_left_r2 : List Cond := [Cond.static yX10_has, Cond.code yX10_has cX10_has 2 (some .boolean), Cond.methodLink RX10 131 yX10_leaderOf, Cond.instanceMethod yX10_leaderOf, Cond.selects RX10 yX10_leaderOf yX10_leaderOf, Cond.code yX10_leaderOf cX10_leaderOf 3 (some .int), Cond.fieldLink RX10 19 "SimonSaysModel" "copies" "[I", Cond.methodLink RX10 152 yX10_ledBy, Cond.instanceMethod yX10_ledBy, Cond.selects RX10 yX10_ledBy yX10_ledBy, Cond.code yX10_ledBy cX10_ledBy 4 (some .int), Cond.methodLink RX10 162 yX10_bits, Cond.static yX10_bits, Cond.code yX10_bits cX10_bits 3 (some .int), Cond.methodLink RX10 190 yX10_staysOf, Cond.instanceMethod yX10_staysOf, Cond.selects RX10 yX10_staysOf yX10_staysOf, Cond.code yX10_staysOf cX10_staysOf 9 (some .long), Cond.fieldLink RX10 122 "SimonSaysModel" "streak" "I", Cond.methodLink RX10 184 yX10_orderAt, Cond.static yX10_orderAt, Cond.code yX10_orderAt cX10_orderAt 5 (some .int), Cond.methodLink RX10 147 yX10_errsOf, Cond.instanceMethod yX10_errsOf]
def wsX10_left_r3 : List Cond := [Cond.selects RX10 yX10_errsOf yX10_errsOf, Cond.code yX10_errsOf cX10_errsOf 5 (some .int), Cond.fieldLink RX10 13 "SimonSaysModel" "slips" "[I", Cond.fieldLink RX10 16 "SimonSaysModel" "lates" "[I", Cond.methodLink RX10 158 yX10_streakBehind, Cond.static yX10_streakBehind, Cond.code yX10_streakBehind cX10_streakBehind 2 (some .int), Cond.methodLink RX10 194 yX10_tens, Cond.static yX10_tens, Cond.code yX10_tens cX10_tens 4 (some .long), Cond.constantLong RX10 81 (10), Cond.methodLink RX10 178 yX10_part, Cond.static yX10_part, Cond.code yX10_part cX10_part 11 (some .long)]
def wsX10_left : List Cond := .code yX10_left cX10_left 6 (some .long) :: ((wsX10_left_r1 ++ (wsX10_left_r2 ++ wsX10_left_r3)) ++ wsX100)
def wsX10_best_r1 : List Cond := [Cond.constantLong RX10 198 (3), Cond.constantLong RX10 79 (-1), Cond.methodLink RX10 42 yX10_within, Cond.static yX10_within, Cond.initialized RX10, Cond.code yX10_within cX10_within 6 (some .boolean), Cond.methodLink RX10 187 yX10_ordersIn, Cond.static yX10_ordersIn, Cond.code yX10_ordersIn cX10_ordersIn 4 (some .int), Cond.methodLink RX10 144 yX10_isOrder, Cond.static yX10_isOrder, Cond.code yX10_isOrder cX10_isOrder 1 (some .boolean), Cond.constantLong RX10 46 (4), Cond.methodLink RX10 200 yX10_leftOf, Cond.instanceMethod yX10_leftOf, Cond.selects RX10 yX10_leftOf yX10_leftOf, Cond.code yX10_leftOf cX10_leftOf 13 (some .long), Cond.fieldLink RX10 39 "SimonSaysModel" "many" "I", Cond.fieldLink RX10 119 "SimonSaysModel" "in" "I", Cond.fieldLink RX10 165 "SimonSaysModel" "below" "J", Cond.methodLink RX10 128 yX10_has, Cond.static yX10_has, Cond.code yX10_has cX10_has 2 (some .boolean), Cond.methodLink RX10 131 yX10_leaderOf]
def wsX10_best_r2 : List Cond := [Cond.instanceMethod yX10_leaderOf, Cond.selects RX10 yX10_leaderOf yX10_leaderOf, Cond.code yX10_leaderOf cX10_leaderOf 3 (some .int), Cond.fieldLink RX10 19 "SimonSaysModel" "copies" "[I", Cond.methodLink RX10 152 yX10_ledBy, Cond.instanceMethod yX10_ledBy, Cond.selects RX10 yX10_ledBy yX10_ledBy, Cond.code yX10_ledBy cX10_ledBy 4 (some .int), Cond.methodLink RX10 162 yX10_bits, Cond.static yX10_bits, Cond.code yX10_bits cX10_bits 3 (some .int), Cond.methodLink RX10 190 yX10_staysOf, Cond.instanceMethod yX10_staysOf, Cond.selects RX10 yX10_staysOf yX10_staysOf, Cond.code yX10_staysOf cX10_staysOf 9 (some .long), Cond.fieldLink RX10 122 "SimonSaysModel" "streak" "I", Cond.methodLink RX10 184 yX10_orderAt, Cond.static yX10_orderAt, Cond.code yX10_orderAt cX10_orderAt 5 (some .int), Cond.methodLink RX10 147 yX10_errsOf, Cond.instanceMethod yX10_errsOf, Cond.selects RX10 yX10_errsOf yX10_errsOf, Cond.code yX10_errsOf cX10_errsOf 5 (some .int), Cond.fieldLink RX10 13 "SimonSaysModel" "slips" "[I"]
def wsX10_best_r3 : List Cond := [Cond.fieldLink RX10 16 "SimonSaysModel" "lates" "[I", Cond.methodLink RX10 158 yX10_streakBehind, Cond.static yX10_streakBehind, Cond.code yX10_streakBehind cX10_streakBehind 2 (some .int), Cond.methodLink RX10 194 yX10_tens, Cond.static yX10_tens, Cond.code yX10_tens cX10_tens 4 (some .long), Cond.constantLong RX10 81 (10)]
def wsX10_best : List Cond := .code yX10_best cX10_best 8 (some .int) :: ((wsX10_best_r1 ++ (wsX10_best_r2 ++ wsX10_best_r3)) ++ wsX100)
def wsX10_lure_r1 : List Cond := [Cond.constantLong RX10 81 (10), Cond.fieldLink RX10 119 "SimonSaysModel" "in" "I", Cond.fieldLink RX10 122 "SimonSaysModel" "streak" "I", Cond.methodLink RX10 135 yX10_isChild, Cond.instanceMethod yX10_isChild, Cond.selects RX10 yX10_isChild yX10_isChild, Cond.initialized RX10, Cond.code yX10_isChild cX10_isChild 2 (some .boolean), Cond.fieldLink RX10 39 "SimonSaysModel" "many" "I", Cond.methodLink RX10 42 yX10_within, Cond.static yX10_within, Cond.code yX10_within cX10_within 6 (some .boolean), Cond.methodLink RX10 128 yX10_has, Cond.static yX10_has, Cond.code yX10_has cX10_has 2 (some .boolean), Cond.methodLink RX10 131 yX10_leaderOf, Cond.instanceMethod yX10_leaderOf, Cond.selects RX10 yX10_leaderOf yX10_leaderOf, Cond.code yX10_leaderOf cX10_leaderOf 3 (some .int), Cond.fieldLink RX10 19 "SimonSaysModel" "copies" "[I", Cond.methodLink RX10 147 yX10_errsOf, Cond.instanceMethod yX10_errsOf, Cond.selects RX10 yX10_errsOf yX10_errsOf, Cond.code yX10_errsOf cX10_errsOf 5 (some .int)]
def wsX10_lure_r2 : List Cond := [Cond.fieldLink RX10 13 "SimonSaysModel" "slips" "[I", Cond.fieldLink RX10 16 "SimonSaysModel" "lates" "[I", Cond.methodLink RX10 158 yX10_streakBehind, Cond.static yX10_streakBehind, Cond.code yX10_streakBehind cX10_streakBehind 2 (some .int)]
def wsX10_lure : List Cond := .code yX10_lure cX10_lure 5 (some .int) :: ((wsX10_lure_r1 ++ wsX10_lure_r2) ++ wsX100)
def wsX10_could_r1 : List Cond := [Cond.methodLink RX10 168 yX10_isSet, Cond.instanceMethod yX10_isSet, Cond.selects RX10 yX10_isSet yX10_isSet, Cond.initialized RX10, Cond.code yX10_isSet cX10_isSet 2 (some .boolean), Cond.fieldLink RX10 39 "SimonSaysModel" "many" "I", Cond.methodLink RX10 42 yX10_within, Cond.static yX10_within, Cond.code yX10_within cX10_within 6 (some .boolean), Cond.methodLink RX10 174 yX10_waysOf, Cond.instanceMethod yX10_waysOf, Cond.selects RX10 yX10_waysOf yX10_waysOf, Cond.code yX10_waysOf cX10_waysOf 8 (some .long), Cond.fieldLink RX10 119 "SimonSaysModel" "in" "I", Cond.fieldLink RX10 165 "SimonSaysModel" "below" "J", Cond.fieldLink RX10 122 "SimonSaysModel" "streak" "I", Cond.constantLong RX10 81 (10), Cond.methodLink RX10 128 yX10_has, Cond.static yX10_has, Cond.code yX10_has cX10_has 2 (some .boolean), Cond.methodLink RX10 131 yX10_leaderOf, Cond.instanceMethod yX10_leaderOf, Cond.selects RX10 yX10_leaderOf yX10_leaderOf, Cond.code yX10_leaderOf cX10_leaderOf 3 (some .int)]
def wsX10_could_r2 : List Cond := [Cond.fieldLink RX10 19 "SimonSaysModel" "copies" "[I", Cond.methodLink RX10 152 yX10_ledBy, Cond.instanceMethod yX10_ledBy, Cond.selects RX10 yX10_ledBy yX10_ledBy, Cond.code yX10_ledBy cX10_ledBy 4 (some .int), Cond.methodLink RX10 147 yX10_errsOf, Cond.instanceMethod yX10_errsOf, Cond.selects RX10 yX10_errsOf yX10_errsOf, Cond.code yX10_errsOf cX10_errsOf 5 (some .int), Cond.fieldLink RX10 13 "SimonSaysModel" "slips" "[I", Cond.fieldLink RX10 16 "SimonSaysModel" "lates" "[I"]
def wsX10_could : List Cond := .code yX10_could cX10_could 4 (some .int) :: ((wsX10_could_r1 ++ wsX10_could_r2) ++ wsX100)
def wsX10_likeliest_r1 : List Cond := [Cond.methodLink RX10 168 yX10_isSet, Cond.instanceMethod yX10_isSet, Cond.selects RX10 yX10_isSet yX10_isSet, Cond.initialized RX10, Cond.code yX10_isSet cX10_isSet 2 (some .boolean), Cond.fieldLink RX10 39 "SimonSaysModel" "many" "I", Cond.methodLink RX10 42 yX10_within, Cond.static yX10_within, Cond.code yX10_within cX10_within 6 (some .boolean), Cond.methodLink RX10 174 yX10_waysOf, Cond.instanceMethod yX10_waysOf, Cond.selects RX10 yX10_waysOf yX10_waysOf, Cond.code yX10_waysOf cX10_waysOf 8 (some .long), Cond.fieldLink RX10 119 "SimonSaysModel" "in" "I", Cond.fieldLink RX10 165 "SimonSaysModel" "below" "J", Cond.fieldLink RX10 122 "SimonSaysModel" "streak" "I", Cond.constantLong RX10 81 (10), Cond.methodLink RX10 128 yX10_has, Cond.static yX10_has, Cond.code yX10_has cX10_has 2 (some .boolean), Cond.methodLink RX10 131 yX10_leaderOf, Cond.instanceMethod yX10_leaderOf, Cond.selects RX10 yX10_leaderOf yX10_leaderOf, Cond.code yX10_leaderOf cX10_leaderOf 3 (some .int)]
def wsX10_likeliest_r2 : List Cond := [Cond.fieldLink RX10 19 "SimonSaysModel" "copies" "[I", Cond.methodLink RX10 152 yX10_ledBy, Cond.instanceMethod yX10_ledBy, Cond.selects RX10 yX10_ledBy yX10_ledBy, Cond.code yX10_ledBy cX10_ledBy 4 (some .int), Cond.methodLink RX10 147 yX10_errsOf, Cond.instanceMethod yX10_errsOf, Cond.selects RX10 yX10_errsOf yX10_errsOf, Cond.code yX10_errsOf cX10_errsOf 5 (some .int), Cond.fieldLink RX10 13 "SimonSaysModel" "slips" "[I", Cond.fieldLink RX10 16 "SimonSaysModel" "lates" "[I"]
def wsX10_likeliest : List Cond := .code yX10_likeliest cX10_likeliest 8 (some .int) :: ((wsX10_likeliest_r1 ++ wsX10_likeliest_r2) ++ wsX100)
def wsX10_rate_r1 : List Cond := [Cond.constantLong RX10 138 (5), Cond.constant RX10 203 (-1000000), Cond.fieldLink RX10 204 "SimonSaysModel" "trace" "J", Cond.constantLong RX10 207 (11), Cond.constantLong RX10 209 (101), Cond.constantLong RX10 211 (1011), Cond.constantLong RX10 213 (10101), Cond.constantLong RX10 215 (100001), Cond.fieldLink RX10 39 "SimonSaysModel" "many" "I", Cond.fieldLink RX10 19 "SimonSaysModel" "copies" "[I", Cond.fieldLink RX10 13 "SimonSaysModel" "slips" "[I", Cond.fieldLink RX10 122 "SimonSaysModel" "streak" "I", Cond.fieldLink RX10 16 "SimonSaysModel" "lates" "[I", Cond.fieldLink RX10 119 "SimonSaysModel" "in" "I", Cond.methodLink RX10 42 yX10_within, Cond.static yX10_within, Cond.initialized RX10, Cond.code yX10_within cX10_within 6 (some .boolean), Cond.methodLink RX10 135 yX10_isChild, Cond.instanceMethod yX10_isChild, Cond.selects RX10 yX10_isChild yX10_isChild, Cond.code yX10_isChild cX10_isChild 2 (some .boolean), Cond.methodLink RX10 162 yX10_bits, Cond.static yX10_bits]
def wsX10_rate_r2 : List Cond := [Cond.code yX10_bits cX10_bits 3 (some .int)]
def wsX10_rate : List Cond := .code yX10_rate cX10_rate 6 (some .int) :: ((wsX10_rate_r1 ++ wsX10_rate_r2) ++ wsX100)
def wsX10_keep : List Cond := .code yX10_keep cX10_keep 2 (some .int) :: ([.fieldLink RX10 29 "SimonSaysModel" "images" "[I", .fieldLink RX10 119 "SimonSaysModel" "in" "I", .fieldLink RX10 122 "SimonSaysModel" "streak" "I", .fieldLink RX10 22 "SimonSaysModel" "lot" "I", .fieldLink RX10 32 "SimonSaysModel" "kept" "[Z", .methodLink RX10 42 yX10_within, .static yX10_within, .initialized RX10, .code yX10_within cX10_within 6 (some .boolean), .methodLink RX10 162 yX10_bits, .static yX10_bits, .code yX10_bits cX10_bits 3 (some .int)] ++ wsX100)
def wsX10_back : List Cond := .code yX10_back cX10_back 2 (some .int) :: ([.fieldLink RX10 32 "SimonSaysModel" "kept" "[Z", .fieldLink RX10 29 "SimonSaysModel" "images" "[I", .fieldLink RX10 119 "SimonSaysModel" "in" "I", .fieldLink RX10 122 "SimonSaysModel" "streak" "I", .fieldLink RX10 22 "SimonSaysModel" "lot" "I", .fieldLink RX10 125 "SimonSaysModel" "undos" "I", .methodLink RX10 42 yX10_within, .static yX10_within, .initialized RX10, .code yX10_within cX10_within 6 (some .boolean), .methodLink RX10 162 yX10_bits, .static yX10_bits, .code yX10_bits cX10_bits 3 (some .int)] ++ wsX100)
def wsX10_count : List Cond := .code yX10_count cX10_count 2 (some .int) :: ([.fieldLink RX10 39 "SimonSaysModel" "many" "I", .fieldLink RX10 116 "SimonSaysModel" "little" "I", .fieldLink RX10 119 "SimonSaysModel" "in" "I", .fieldLink RX10 50 "SimonSaysModel" "size" "I", .methodLink RX10 162 yX10_bits, .static yX10_bits, .initialized RX10, .code yX10_bits cX10_bits 3 (some .int)] ++ wsX100)
def wsX10_trace : List Cond := .code yX10_trace cX10_trace 1 (some .long) :: ([.fieldLink RX10 204 "SimonSaysModel" "trace" "J"] ++ wsX100)
def wsJ9_min_7cf53 : List Cond := .code yJ9_min_7cf53 cJ9_min_7cf53 2 (some .int) :: ([])
def wsL_law_r1 : List Cond := [Cond.classLink RL 7 RX9, Cond.instantiable RX9 9, Cond.initialized RX9, Cond.classLink RL 10 RX10, Cond.instantiable RX10 23, Cond.initialized RX10, Cond.constantLong RL 13 (4294967295), Cond.methodLink RL 9 yX9_init, Cond.instanceMethod yX9_init, Cond.code yX9_init cX9_init 2 none, Cond.methodLink RX9 1 objectInit, Cond.instanceMethod objectInit, Cond.code objectInit ⟨#[0xb1]⟩ 1 none, Cond.classLink RX9 7 RX8, Cond.instantiable RX8 2, Cond.initialized RX8, Cond.fieldLink RX9 10 "SimonSays" "text" "LSimonSays$Text;", Cond.classLink RX9 16 RX5, Cond.instantiable RX5 6, Cond.initialized RX5, Cond.fieldLink RX9 21 "SimonSays" "reader" "LSimonSays$Reader;", Cond.classLink RX9 25 RX1, Cond.instantiable RX1 5, Cond.initialized RX1]
def wsL_law_r2 : List Cond := [Cond.fieldLink RX9 28 "SimonSays" "told" "LSimonSays$Children;", Cond.classLink RX9 32 RX6, Cond.instantiable RX6 4, Cond.initialized RX6, Cond.fieldLink RX9 37 "SimonSays" "round" "LSimonSays$Round;", Cond.classLink RX9 41 RX2, Cond.instantiable RX2 3, Cond.initialized RX2, Cond.fieldLink RX9 44 "SimonSays" "history" "LSimonSays$History;", Cond.classLink RX9 48 RX3, Cond.fieldLink RX9 50 "SimonSays" "images" "[LSimonSays$Image;", Cond.instantiable RX3 4, Cond.initialized RX3, Cond.classLink RX9 55 RX7, Cond.instantiable RX7 2, Cond.initialized RX7, Cond.fieldLink RX9 58 "SimonSays" "asked" "LSimonSays$Row;", Cond.classLink RX9 62 RX0, Cond.instantiable RX0 4, Cond.initialized RX0, Cond.fieldLink RX9 67 "SimonSays" "chances" "LSimonSays$Chances;", Cond.classLink RX9 71 RX4, Cond.instantiable RX4 3, Cond.initialized RX4]
def wsL_law_r3 : List Cond := [Cond.fieldLink RX9 76 "SimonSays" "kinds" "LSimonSays$Kinds;", Cond.methodLink RX9 9 yX8_init, Cond.instanceMethod yX8_init, Cond.code yX8_init cX8_init 1 none, Cond.methodLink RX8 3 objectInit, Cond.arrayClass .int, Cond.fieldLink RX8 9 "SimonSays$Text" "bytes" "[I", Cond.methodLink RX9 18 yX5_init, Cond.instanceMethod yX5_init, Cond.code yX5_init cX5_init 2 none, Cond.methodLink RX5 3 objectInit, Cond.fieldLink RX5 9 "SimonSays$Reader" "text" "LSimonSays$Text;", Cond.classLink RX5 15 RX1, Cond.fieldLink RX5 18 "SimonSays$Reader" "found" "LSimonSays$Children;", Cond.methodLink RX5 17 yX1_init, Cond.instanceMethod yX1_init, Cond.code yX1_init cX1_init 1 none, Cond.methodLink RX1 3 objectInit, Cond.fieldLink RX1 9 "SimonSays$Children" "slips" "[I", Cond.fieldLink RX1 15 "SimonSays$Children" "lates" "[I", Cond.fieldLink RX1 18 "SimonSays$Children" "copied" "[I", Cond.methodLink RX9 27 yX1_init, Cond.methodLink RX9 34 yX6_init, Cond.instanceMethod yX6_init]
def wsL_law_r4 : List Cond := [Cond.code yX6_init cX6_init 2 none, Cond.methodLink RX6 3 objectInit, Cond.fieldLink RX6 9 "SimonSays$Round" "told" "LSimonSays$Children;", Cond.fieldLink RX6 15 "SimonSays$Round" "lot" "I", Cond.methodLink RX9 43 yX2_init, Cond.instanceMethod yX2_init, Cond.code yX2_init cX2_init 1 none, Cond.methodLink RX2 3 objectInit, Cond.fieldLink RX2 9 "SimonSays$History" "ins" "[I", Cond.fieldLink RX2 15 "SimonSays$History" "streaks" "[I", Cond.methodLink RX9 54 yX3_init, Cond.instanceMethod yX3_init, Cond.code yX3_init cX3_init 1 none, Cond.methodLink RX3 1 objectInit, Cond.fieldLink RX3 7 "SimonSays$Image" "kept" "Z", Cond.methodLink RX9 57 yX7_init, Cond.instanceMethod yX7_init, Cond.code yX7_init cX7_init 1 none, Cond.methodLink RX7 3 objectInit, Cond.fieldLink RX7 9 "SimonSays$Row" "figures" "[I", Cond.methodLink RX9 64 yX0_init, Cond.instanceMethod yX0_init, Cond.code yX0_init cX0_init 4 none, Cond.methodLink RX0 3 objectInit]
def wsL_law_r5 : List Cond := [Cond.fieldLink RX0 9 "SimonSays$Chances" "told" "LSimonSays$Children;", Cond.fieldLink RX0 15 "SimonSays$Chances" "round" "LSimonSays$Round;", Cond.fieldLink RX0 19 "SimonSays$Chances" "row" "LSimonSays$Row;", Cond.arrayClass .long, Cond.fieldLink RX0 23 "SimonSays$Chances" "byNumber" "[J", Cond.methodLink RX9 73 yX4_init, Cond.instanceMethod yX4_init, Cond.code yX4_init cX4_init 3 none, Cond.methodLink RX4 3 objectInit, Cond.fieldLink RX4 9 "SimonSays$Kinds" "told" "LSimonSays$Children;", Cond.fieldLink RX4 15 "SimonSays$Kinds" "round" "LSimonSays$Round;", Cond.methodLink RL 12 yX10_init, Cond.instanceMethod yX10_init, Cond.code yX10_init cX10_init 1 none, Cond.methodLink RX10 1 objectInit, Cond.fieldLink RX10 7 "SimonSaysModel" "text" "[I", Cond.fieldLink RX10 13 "SimonSaysModel" "slips" "[I", Cond.fieldLink RX10 16 "SimonSaysModel" "lates" "[I", Cond.fieldLink RX10 19 "SimonSaysModel" "copies" "[I", Cond.fieldLink RX10 22 "SimonSaysModel" "lot" "I", Cond.fieldLink RX10 26 "SimonSaysModel" "before" "[I", Cond.fieldLink RX10 29 "SimonSaysModel" "images" "[I", Cond.arrayClass .boolean, Cond.fieldLink RX10 32 "SimonSaysModel" "kept" "[Z"]
def wsL_law_r6 : List Cond := [Cond.fieldLink RX10 36 "SimonSaysModel" "read" "[I", Cond.methodLink RL 15 yX9_type, Cond.instanceMethod yX9_type, Cond.selects RX9 yX9_type yX9_type, Cond.code yX9_type cX9_type 5 (some .int), Cond.methodLink RX9 80 yX8_length, Cond.instanceMethod yX8_length, Cond.selects RX8 yX8_length yX8_length, Cond.code yX8_length cX8_length 1 (some .int), Cond.fieldLink RX8 15 "SimonSays$Text" "length" "I", Cond.methodLink RX9 84 yX8_append, Cond.instanceMethod yX8_append, Cond.selects RX8 yX8_append yX8_append, Cond.code yX8_append cX8_append 2 none, Cond.methodLink RL 19 yX10_type, Cond.instanceMethod yX10_type, Cond.selects RX10 yX10_type yX10_type, Cond.code yX10_type cX10_type 5 (some .int), Cond.constantLong RX10 48 (8), Cond.fieldLink RX10 50 "SimonSaysModel" "size" "I", Cond.constantLong RX10 53 (255), Cond.methodLink RX10 42 yX10_within, Cond.static yX10_within, Cond.code yX10_within cX10_within 6 (some .boolean)]
def wsL_law_r7 : List Cond := [Cond.methodLink RL 20 yX9_clear, Cond.instanceMethod yX9_clear, Cond.selects RX9 yX9_clear yX9_clear, Cond.code yX9_clear cX9_clear 2 (some .int), Cond.methodLink RX9 88 yX8_drop, Cond.instanceMethod yX8_drop, Cond.selects RX8 yX8_drop yX8_drop, Cond.code yX8_drop cX8_drop 1 none, Cond.methodLink RL 24 yX10_clear, Cond.instanceMethod yX10_clear, Cond.selects RX10 yX10_clear yX10_clear, Cond.code yX10_clear cX10_clear 2 (some .int), Cond.methodLink RL 25 yX9_children, Cond.instanceMethod yX9_children, Cond.selects RX9 yX9_children yX9_children, Cond.code yX9_children cX9_children 3 (some .int), Cond.methodLink RX9 91 yX5_readItems, Cond.instanceMethod yX5_readItems, Cond.selects RX5 yX5_readItems yX5_readItems, Cond.code yX5_readItems cX5_readItems 2 (some .int), Cond.fieldLink RX5 25 "SimonSays$Reader" "end" "I", Cond.fieldLink RX5 32 "SimonSays$Reader" "token" "I", Cond.methodLink RX5 22 yX1_forget, Cond.instanceMethod yX1_forget]
def wsL_law_r8 : List Cond := [Cond.selects RX1 yX1_forget yX1_forget, Cond.code yX1_forget cX1_forget 1 none, Cond.fieldLink RX1 21 "SimonSays$Children" "size" "I", Cond.fieldLink RX1 25 "SimonSays$Children" "littleOnes" "I", Cond.methodLink RX5 29 yX5_advance, Cond.instanceMethod yX5_advance, Cond.selects RX5 yX5_advance yX5_advance, Cond.code yX5_advance cX5_advance 2 none, Cond.fieldLink RX5 39 "SimonSays$Reader" "start" "I", Cond.methodLink RX5 70 yX8_length, Cond.methodLink RX5 75 yX8_byteAt, Cond.instanceMethod yX8_byteAt, Cond.selects RX8 yX8_byteAt yX8_byteAt, Cond.code yX8_byteAt cX8_byteAt 2 (some .int), Cond.methodLink RX5 79 yX5_isLetter, Cond.static yX5_isLetter, Cond.code yX5_isLetter cX5_isLetter 1 (some .boolean), Cond.methodLink RX5 82 yX5_advanceOverWord, Cond.instanceMethod yX5_advanceOverWord, Cond.selects RX5 yX5_advanceOverWord yX5_advanceOverWord, Cond.code yX5_advanceOverWord cX5_advanceOverWord 1 none, Cond.methodLink RX5 93 yX5_spells, Cond.instanceMethod yX5_spells, Cond.selects RX5 yX5_spells yX5_spells]
def wsL_law_r9 : List Cond := [Cond.code yX5_spells cX5_spells 3 (some .boolean), Cond.methodLink RX5 105 yJ0_length_8abf5, Cond.instanceMethod yJ0_length_8abf5, Cond.selects RJ0 yJ0_length_8abf5 yJ0_length_8abf5, Cond.initialized RJ0, Cond.code yJ0_length_8abf5 cJ0_length_8abf5 1 (some .int), Cond.fieldLink RJ0 9 "java/lang/String" "value" "[B", Cond.methodLink RJ0 335 yJ0_coder_7d493, Cond.instanceMethod yJ0_coder_7d493, Cond.selects RJ0 yJ0_coder_7d493 yJ0_coder_7d493, Cond.code yJ0_coder_7d493 cJ0_coder_7d493 1 (some .byte), Cond.fieldLink RJ0 38 "java/lang/String" "COMPACT_STRINGS" "Z", Cond.fieldLink RJ0 15 "java/lang/String" "coder" "B", Cond.methodLink RX5 108 yJ0_charAt_5068e, Cond.instanceMethod yJ0_charAt_5068e, Cond.selects RJ0 yJ0_charAt_5068e yJ0_charAt_5068e, Cond.code yJ0_charAt_5068e cJ0_charAt_5068e 2 (some .char), Cond.methodLink RJ0 492 yJ0_isLatin1_aae02, Cond.instanceMethod yJ0_isLatin1_aae02, Cond.selects RJ0 yJ0_isLatin1_aae02 yJ0_isLatin1_aae02, Cond.code yJ0_isLatin1_aae02 cJ0_isLatin1_aae02 1 (some .boolean), Cond.methodLink RJ0 495 yJ1_charAt_3b067, Cond.static yJ1_charAt_3b067, Cond.initialized RJ1]
def wsL_law_r10 : List Cond := [Cond.code yJ1_charAt_3b067 cJ1_charAt_3b067 2 (some .char), Cond.methodLink RJ1 9 yJ0_checkIndex_df160, Cond.static yJ0_checkIndex_df160, Cond.code yJ0_checkIndex_df160 cJ0_checkIndex_df160 2 none, Cond.fieldLink RJ0 1053 "jdk/internal/util/Preconditions" "SIOOBE_FORMATTER" "Ljava/util/function/BiFunction;", Cond.methodLink RJ0 1059 yJ3_checkIndex_8e157, Cond.static yJ3_checkIndex_8e157, Cond.initialized RJ3, Cond.code yJ3_checkIndex_8e157 cJ3_checkIndex_8e157 3 (some .int), Cond.methodLink RJ0 498 yJ2_charAt_3b067, Cond.static yJ2_charAt_3b067, Cond.initialized RJ2, Cond.code yJ2_charAt_3b067 cJ2_charAt_3b067 2 (some .char), Cond.methodLink RJ2 67 yJ2_checkIndex_2214a, Cond.static yJ2_checkIndex_2214a, Cond.code yJ2_checkIndex_2214a cJ2_checkIndex_2214a 2 none, Cond.methodLink RJ2 48 yJ2_length_9d52b, Cond.static yJ2_length_9d52b, Cond.code yJ2_length_9d52b cJ2_length_9d52b 1 (some .int), Cond.methodLink RJ2 414 yJ0_checkIndex_df160, Cond.methodLink RJ2 71 yJ2_getChar_3b067, Cond.static yJ2_getChar_3b067, Cond.code yJ2_getChar_3b067 cJ2_getChar_3b067 2 (some .char), Cond.fieldLink RJ2 44 "java/lang/StringUTF16" "$assertionsDisabled" "Z"]
def wsL_law_r11 : List Cond := [Cond.fieldLink RJ2 59 "java/lang/StringUTF16" "HI_BYTE_SHIFT" "I", Cond.fieldLink RJ2 63 "java/lang/StringUTF16" "LO_BYTE_SHIFT" "I", Cond.methodLink RX5 85 yX5_isDigit, Cond.static yX5_isDigit, Cond.code yX5_isDigit cX5_isDigit 1 (some .boolean), Cond.methodLink RX5 88 yX5_advanceOverNumber, Cond.instanceMethod yX5_advanceOverNumber, Cond.selects RX5 yX5_advanceOverNumber yX5_advanceOverNumber, Cond.code yX5_advanceOverNumber cX5_advanceOverNumber 3 none, Cond.fieldLink RX5 56 "SimonSays$Reader" "value" "I", Cond.methodLink RX5 99 Lib.Math.min.name, Cond.static Lib.Math.min.name, Cond.initialized "java/lang/Math", Cond.code Lib.Math.min.name Lib.Math.min.code 2 (some .int), Cond.methodLink RX5 35 yX5_readItem, Cond.instanceMethod yX5_readItem, Cond.selects RX5 yX5_readItem yX5_readItem, Cond.code yX5_readItem cX5_readItem 1 (some .boolean), Cond.methodLink RX5 42 yX5_readChild, Cond.instanceMethod yX5_readChild, Cond.selects RX5 yX5_readChild yX5_readChild, Cond.code yX5_readChild cX5_readChild 4 (some .boolean), Cond.methodLink RX5 48 yX1_size, Cond.instanceMethod yX1_size]
def wsL_law_r12 : List Cond := [Cond.selects RX1 yX1_size yX1_size, Cond.code yX1_size cX1_size 1 (some .int), Cond.methodLink RX5 52 yX5_isNumberUpTo, Cond.instanceMethod yX5_isNumberUpTo, Cond.selects RX5 yX5_isNumberUpTo yX5_isNumberUpTo, Cond.code yX5_isNumberUpTo cX5_isNumberUpTo 2 (some .boolean), Cond.methodLink RX5 59 yX1_has, Cond.instanceMethod yX1_has, Cond.selects RX1 yX1_has yX1_has, Cond.code yX1_has cX1_has 2 (some .boolean), Cond.methodLink RX5 62 yX1_add, Cond.instanceMethod yX1_add, Cond.selects RX1 yX1_add yX1_add, Cond.code yX1_add cX1_add 4 none, Cond.methodLink RX5 45 yX5_readLittle, Cond.instanceMethod yX5_readLittle, Cond.selects RX5 yX5_readLittle yX5_readLittle, Cond.code yX5_readLittle cX5_readLittle 2 (some .boolean), Cond.methodLink RX5 66 yX1_makeLittle, Cond.instanceMethod yX1_makeLittle, Cond.selects RX1 yX1_makeLittle yX1_makeLittle, Cond.code yX1_makeLittle cX1_makeLittle 2 none, Cond.methodLink RX9 94 yX5_fault, Cond.instanceMethod yX5_fault]
def wsL_law_r13 : List Cond := [Cond.selects RX5 yX5_fault yX5_fault, Cond.code yX5_fault cX5_fault 1 (some .int), Cond.methodLink RX9 97 yX5_found, Cond.instanceMethod yX5_found, Cond.selects RX5 yX5_found yX5_found, Cond.code yX5_found cX5_found 1 (some (.object "SimonSays$Children")), Cond.methodLink RX9 101 yX1_takeOver, Cond.instanceMethod yX1_takeOver, Cond.selects RX1 yX1_takeOver yX1_takeOver, Cond.code yX1_takeOver cX1_takeOver 3 none, Cond.methodLink RX1 28 yX1_forget, Cond.methodLink RX1 31 yX1_slipOf, Cond.instanceMethod yX1_slipOf, Cond.selects RX1 yX1_slipOf yX1_slipOf, Cond.code yX1_slipOf cX1_slipOf 2 (some .int), Cond.methodLink RX1 49 yX1_has, Cond.methodLink RX1 35 yX1_lateOf, Cond.instanceMethod yX1_lateOf, Cond.selects RX1 yX1_lateOf yX1_lateOf, Cond.code yX1_lateOf cX1_lateOf 2 (some .int), Cond.methodLink RX1 38 yX1_copiedBy, Cond.instanceMethod yX1_copiedBy, Cond.selects RX1 yX1_copiedBy yX1_copiedBy, Cond.code yX1_copiedBy cX1_copiedBy 2 (some .int)]
def wsL_law_r14 : List Cond := [Cond.methodLink RX1 41 yX1_add, Cond.methodLink RX9 104 yX6_startAnew, Cond.instanceMethod yX6_startAnew, Cond.selects RX6 yX6_startAnew yX6_startAnew, Cond.code yX6_startAnew cX6_startAnew 1 none, Cond.methodLink RX6 19 yX1_everyone, Cond.instanceMethod yX1_everyone, Cond.selects RX1 yX1_everyone yX1_everyone, Cond.code yX1_everyone cX1_everyone 1 (some .int), Cond.methodLink RX6 25 yX6_become, Cond.instanceMethod yX6_become, Cond.selects RX6 yX6_become yX6_become, Cond.code yX6_become cX6_become 3 none, Cond.fieldLink RX6 29 "SimonSays$Round" "in" "I", Cond.fieldLink RX6 32 "SimonSays$Round" "streak" "I", Cond.methodLink RX9 107 yX2_forget, Cond.instanceMethod yX2_forget, Cond.selects RX2 yX2_forget yX2_forget, Cond.code yX2_forget cX2_forget 1 none, Cond.fieldLink RX2 18 "SimonSays$History" "size" "I", Cond.methodLink RX9 110 yX3_forget, Cond.instanceMethod yX3_forget, Cond.selects RX3 yX3_forget yX3_forget, Cond.code yX3_forget cX3_forget 1 none]
def wsL_law_r15 : List Cond := [Cond.methodLink RL 28 yX10_children, Cond.instanceMethod yX10_children, Cond.selects RX10 yX10_children yX10_children, Cond.code yX10_children cX10_children 3 (some .int), Cond.fieldLink RX10 55 "SimonSaysModel" "at" "I", Cond.fieldLink RX10 90 "SimonSaysModel" "readMany" "I", Cond.fieldLink RX10 103 "SimonSaysModel" "readLittle" "I", Cond.fieldLink RX10 72 "SimonSaysModel" "kind" "I", Cond.fieldLink RX10 61 "SimonSaysModel" "value" "J", Cond.constantLong RX10 106 (3417476), Cond.constantLong RX10 111 (412766597), Cond.fieldLink RX10 58 "SimonSaysModel" "begin" "I", Cond.fieldLink RX10 39 "SimonSaysModel" "many" "I", Cond.fieldLink RX10 116 "SimonSaysModel" "little" "I", Cond.fieldLink RX10 119 "SimonSaysModel" "in" "I", Cond.fieldLink RX10 122 "SimonSaysModel" "streak" "I", Cond.fieldLink RX10 125 "SimonSaysModel" "undos" "I", Cond.methodLink RX10 87 yX10_next, Cond.instanceMethod yX10_next, Cond.selects RX10 yX10_next yX10_next, Cond.code yX10_next cX10_next 2 none, Cond.constantLong RX10 75 (32), Cond.constantLong RX10 77 (96), Cond.constantLong RX10 79 (-1)]
def wsL_law_r16 : List Cond := [Cond.constantLong RX10 81 (10), Cond.constantLong RX10 83 (48), Cond.constantLong RX10 85 (1000), Cond.methodLink RX10 65 yX10_isLetter, Cond.static yX10_isLetter, Cond.code yX10_isLetter cX10_isLetter 1 (some .boolean), Cond.methodLink RX10 69 yX10_isFigure, Cond.static yX10_isFigure, Cond.code yX10_isFigure cX10_isFigure 1 (some .boolean), Cond.methodLink RX10 108 yX10_takesChild, Cond.instanceMethod yX10_takesChild, Cond.selects RX10 yX10_takesChild yX10_takesChild, Cond.code yX10_takesChild cX10_takesChild 2 (some .boolean), Cond.constantLong RX10 97 (9), Cond.methodLink RX10 93 yX10_takes, Cond.instanceMethod yX10_takes, Cond.selects RX10 yX10_takes yX10_takes, Cond.code yX10_takes cX10_takes 3 (some .boolean), Cond.methodLink RX10 99 yX10_stops, Cond.instanceMethod yX10_stops, Cond.selects RX10 yX10_stops yX10_stops, Cond.code yX10_stops cX10_stops 1 (some .boolean), Cond.methodLink RX10 113 yX10_takesLittle, Cond.instanceMethod yX10_takesLittle]
def wsL_law_r17 : List Cond := [Cond.selects RX10 yX10_takesLittle yX10_takesLittle, Cond.code yX10_takesLittle cX10_takesLittle 1 (some .boolean), Cond.methodLink RL 29 yX9_child, Cond.instanceMethod yX9_child, Cond.selects RX9 yX9_child yX9_child, Cond.code yX9_child cX9_child 3 (some .int), Cond.methodLink RX9 111 yX1_has, Cond.methodLink RX9 115 yX1_slipOf, Cond.methodLink RX9 119 yX1_lateOf, Cond.methodLink RX9 122 yX1_copiedBy, Cond.methodLink RX9 125 yX1_isLittle, Cond.instanceMethod yX1_isLittle, Cond.selects RX1 yX1_isLittle yX1_isLittle, Cond.code yX1_isLittle cX1_isLittle 2 (some .boolean), Cond.methodLink RX9 128 yX6_isIn, Cond.instanceMethod yX6_isIn, Cond.selects RX6 yX6_isIn yX6_isIn, Cond.code yX6_isIn cX6_isIn 2 (some .boolean), Cond.methodLink RX6 41 yX1_has, Cond.methodLink RX9 131 yX6_leaderOf, Cond.instanceMethod yX6_leaderOf, Cond.selects RX6 yX6_leaderOf yX6_leaderOf, Cond.code yX6_leaderOf cX6_leaderOf 5 (some .int), Cond.methodLink RX6 45 yX1_copiedBy]
def wsL_law_r18 : List Cond := [Cond.methodLink RX6 48 yX6_isIn, Cond.methodLink RL 33 yX10_child, Cond.instanceMethod yX10_child, Cond.selects RX10 yX10_child yX10_child, Cond.code yX10_child cX10_child 3 (some .int), Cond.constantLong RX10 138 (5), Cond.methodLink RX10 135 yX10_isChild, Cond.instanceMethod yX10_isChild, Cond.selects RX10 yX10_isChild yX10_isChild, Cond.code yX10_isChild cX10_isChild 2 (some .boolean), Cond.methodLink RX10 128 yX10_has, Cond.static yX10_has, Cond.code yX10_has cX10_has 2 (some .boolean), Cond.methodLink RX10 131 yX10_leaderOf, Cond.instanceMethod yX10_leaderOf, Cond.selects RX10 yX10_leaderOf yX10_leaderOf, Cond.code yX10_leaderOf cX10_leaderOf 3 (some .int), Cond.methodLink RL 34 yX9_now, Cond.instanceMethod yX9_now, Cond.selects RX9 yX9_now yX9_now, Cond.code yX9_now cX9_now 2 (some .int), Cond.methodLink RX9 134 yX6_whoIsIn, Cond.instanceMethod yX6_whoIsIn, Cond.selects RX6 yX6_whoIsIn yX6_whoIsIn]
def wsL_law_r19 : List Cond := [Cond.code yX6_whoIsIn cX6_whoIsIn 1 (some .int), Cond.methodLink RX9 137 yX6_streak, Cond.instanceMethod yX6_streak, Cond.selects RX6 yX6_streak yX6_streak, Cond.code yX6_streak cX6_streak 1 (some .int), Cond.methodLink RX9 140 yX6_isFair, Cond.instanceMethod yX6_isFair, Cond.selects RX6 yX6_isFair yX6_isFair, Cond.code yX6_isFair cX6_isFair 3 (some .boolean), Cond.methodLink RX6 75 yX1_littleOnes, Cond.instanceMethod yX1_littleOnes, Cond.selects RX1 yX1_littleOnes yX1_littleOnes, Cond.code yX1_littleOnes cX1_littleOnes 1 (some .int), Cond.methodLink RX9 144 yX2_size, Cond.instanceMethod yX2_size, Cond.selects RX2 yX2_size yX2_size, Cond.code yX2_size cX2_size 1 (some .int), Cond.methodLink RL 38 yX10_now, Cond.instanceMethod yX10_now, Cond.selects RX10 yX10_now yX10_now, Cond.code yX10_now cX10_now 2 (some .int), Cond.methodLink RX10 140 yX10_fair, Cond.instanceMethod yX10_fair, Cond.selects RX10 yX10_fair yX10_fair]
def wsL_law_r20 : List Cond := [Cond.code yX10_fair cX10_fair 2 (some .int), Cond.methodLink RL 39 yX9_errs, Cond.instanceMethod yX9_errs, Cond.selects RX9 yX9_errs yX9_errs, Cond.code yX9_errs cX9_errs 3 (some .int), Cond.methodLink RX9 147 yX9_isOrder, Cond.static yX9_isOrder, Cond.code yX9_isOrder cX9_isOrder 1 (some .boolean), Cond.methodLink RX9 150 yX1_errsOf, Cond.instanceMethod yX1_errsOf, Cond.selects RX1 yX1_errsOf yX1_errsOf, Cond.code yX1_errsOf cX1_errsOf 4 (some .int), Cond.methodLink RX1 53 Lib.Math.min.name, Cond.methodLink RL 42 yX10_errs, Cond.instanceMethod yX10_errs, Cond.selects RX10 yX10_errs yX10_errs, Cond.code yX10_errs cX10_errs 3 (some .int), Cond.methodLink RX10 144 yX10_isOrder, Cond.static yX10_isOrder, Cond.code yX10_isOrder cX10_isOrder 1 (some .boolean), Cond.constantLong RX10 46 (4), Cond.methodLink RX10 147 yX10_errsOf, Cond.instanceMethod yX10_errsOf, Cond.selects RX10 yX10_errsOf yX10_errsOf]
def wsL_law_r21 : List Cond := [Cond.code yX10_errsOf cX10_errsOf 5 (some .int), Cond.methodLink RL 43 yX9_call, Cond.instanceMethod yX9_call, Cond.selects RX9 yX9_call yX9_call, Cond.code yX9_call cX9_call 2 (some .int), Cond.methodLink RX9 154 yX2_add, Cond.instanceMethod yX2_add, Cond.selects RX2 yX2_add yX2_add, Cond.code yX2_add cX2_add 3 none, Cond.methodLink RX2 22 yX2_loseOldest, Cond.instanceMethod yX2_loseOldest, Cond.selects RX2 yX2_loseOldest yX2_loseOldest, Cond.code yX2_loseOldest cX2_loseOldest 1 none, Cond.methodLink RX2 25 arraycopyName, Cond.native arraycopyName, Cond.static arraycopyName, Cond.initialized "java/lang/System", Cond.methodLink RX9 158 yX6_obey, Cond.instanceMethod yX6_obey, Cond.selects RX6 yX6_obey yX6_obey, Cond.code yX6_obey cX6_obey 4 (some .int), Cond.methodLink RX6 54 yX1_size, Cond.methodLink RX6 57 yX6_isLeader, Cond.instanceMethod yX6_isLeader]
def wsL_law_r22 : List Cond := [Cond.selects RX6 yX6_isLeader yX6_isLeader, Cond.code yX6_isLeader cX6_isLeader 2 (some .boolean), Cond.methodLink RX6 51 yX6_leaderOf, Cond.methodLink RX6 60 yX6_draw, Cond.instanceMethod yX6_draw, Cond.selects RX6 yX6_draw yX6_draw, Cond.code yX6_draw cX6_draw 1 (some .int), Cond.constant RX6 74 (1103515245), Cond.methodLink RX6 63 yX1_errsOf, Cond.methodLink RX6 67 yX6_groupOf, Cond.instanceMethod yX6_groupOf, Cond.selects RX6 yX6_groupOf yX6_groupOf, Cond.code yX6_groupOf cX6_groupOf 4 (some .int), Cond.static yX9_streakBehind, Cond.code yX9_streakBehind cX9_streakBehind 2 (some .int), Cond.methodLink RX9 265 Lib.Math.min.name, Cond.methodLink RL 46 yX10_call, Cond.instanceMethod yX10_call, Cond.selects RX10 yX10_call yX10_call, Cond.code yX10_call cX10_call 4 (some .int), Cond.constant RX10 151 (1103515245), Cond.methodLink RX10 152 yX10_ledBy, Cond.instanceMethod yX10_ledBy, Cond.selects RX10 yX10_ledBy yX10_ledBy]
def wsL_law_r23 : List Cond := [Cond.code yX10_ledBy cX10_ledBy 4 (some .int), Cond.methodLink RX10 155 yX10_remember, Cond.instanceMethod yX10_remember, Cond.selects RX10 yX10_remember yX10_remember, Cond.code yX10_remember cX10_remember 2 none, Cond.methodLink RX10 158 yX10_streakBehind, Cond.static yX10_streakBehind, Cond.code yX10_streakBehind cX10_streakBehind 2 (some .int), Cond.methodLink RL 47 yX9_comesBack, Cond.instanceMethod yX9_comesBack, Cond.selects RX9 yX9_comesBack yX9_comesBack, Cond.code yX9_comesBack cX9_comesBack 2 (some .int), Cond.methodLink RX9 161 yX6_letIn, Cond.instanceMethod yX6_letIn, Cond.selects RX6 yX6_letIn yX6_letIn, Cond.code yX6_letIn cX6_letIn 2 none, Cond.methodLink RX9 164 yX6_howManyIn, Cond.instanceMethod yX6_howManyIn, Cond.selects RX6 yX6_howManyIn yX6_howManyIn, Cond.code yX6_howManyIn cX6_howManyIn 1 (some .int), Cond.methodLink RX6 35 yJ6_bitCount_0f7a4, Cond.static yJ6_bitCount_0f7a4, Cond.initialized RJ6, Cond.code yJ6_bitCount_0f7a4 cJ6_bitCount_0f7a4 1 (some .int)]
def wsL_law_r24 : List Cond := [Cond.constant RJ6 265 (1431655765), Cond.constant RJ6 266 (858993459), Cond.constant RJ6 267 (252645135), Cond.methodLink RL 50 yX10_comesBack, Cond.instanceMethod yX10_comesBack, Cond.selects RX10 yX10_comesBack yX10_comesBack, Cond.code yX10_comesBack cX10_comesBack 2 (some .int), Cond.methodLink RX10 162 yX10_bits, Cond.static yX10_bits, Cond.code yX10_bits cX10_bits 3 (some .int), Cond.methodLink RL 51 yX9_undo, Cond.instanceMethod yX9_undo, Cond.selects RX9 yX9_undo yX9_undo, Cond.code yX9_undo cX9_undo 1 (some .int), Cond.methodLink RX9 167 yX2_dropLatest, Cond.instanceMethod yX2_dropLatest, Cond.selects RX2 yX2_dropLatest yX2_dropLatest, Cond.code yX2_dropLatest cX2_dropLatest 1 none, Cond.methodLink RX9 170 yX2_droppedIn, Cond.instanceMethod yX2_droppedIn, Cond.selects RX2 yX2_droppedIn yX2_droppedIn, Cond.code yX2_droppedIn cX2_droppedIn 1 (some .int), Cond.methodLink RX9 173 yX2_droppedStreak, Cond.instanceMethod yX2_droppedStreak]
def wsL_law_r25 : List Cond := [Cond.selects RX2 yX2_droppedStreak yX2_droppedStreak, Cond.code yX2_droppedStreak cX2_droppedStreak 1 (some .int), Cond.methodLink RX9 176 yX6_become, Cond.methodLink RL 54 yX10_undo, Cond.instanceMethod yX10_undo, Cond.selects RX10 yX10_undo yX10_undo, Cond.code yX10_undo cX10_undo 1 (some .int), Cond.methodLink RL 55 yX9_lot, Cond.instanceMethod yX9_lot, Cond.selects RX9 yX9_lot yX9_lot, Cond.code yX9_lot cX9_lot 3 (some .int), Cond.methodLink RX9 179 yX6_theLot, Cond.instanceMethod yX6_theLot, Cond.selects RX6 yX6_theLot yX6_theLot, Cond.code yX6_theLot cX6_theLot 1 (some .int), Cond.methodLink RX9 182 yX6_setLot, Cond.instanceMethod yX6_setLot, Cond.selects RX6 yX6_setLot yX6_setLot, Cond.code yX6_setLot cX6_setLot 2 none, Cond.methodLink RL 58 yX10_lot, Cond.instanceMethod yX10_lot, Cond.selects RX10 yX10_lot yX10_lot, Cond.code yX10_lot cX10_lot 3 (some .int), Cond.methodLink RL 59 yX9_falls]
def wsL_law_r26 : List Cond := [Cond.instanceMethod yX9_falls, Cond.selects RX9 yX9_falls yX9_falls, Cond.code yX9_falls cX9_falls 4 (some .long), Cond.constantLong RX9 191 (-1), Cond.methodLink RX9 185 yX1_isSet, Cond.instanceMethod yX1_isSet, Cond.selects RX1 yX1_isSet yX1_isSet, Cond.code yX1_isSet cX1_isSet 2 (some .boolean), Cond.methodLink RX1 45 yX1_everyone, Cond.methodLink RX9 188 yX9_isHalf, Cond.static yX9_isHalf, Cond.code yX9_isHalf cX9_isHalf 1 (some .boolean), Cond.methodLink RX9 193 yX0_setFalls, Cond.instanceMethod yX0_setFalls, Cond.selects RX0 yX0_setFalls yX0_setFalls, Cond.code yX0_setFalls cX0_setFalls 8 (some .long), Cond.methodLink RX0 43 yX6_whoIsIn, Cond.methodLink RX0 27 yX1_size, Cond.methodLink RX0 33 yX6_isLeader, Cond.methodLink RX0 46 yX6_groupOf, Cond.methodLink RX0 50 yX6_streak, Cond.methodLink RX0 53 yX1_errsOf, Cond.methodLink RX9 197 yX0_lower, Cond.instanceMethod yX0_lower]
def wsL_law_r27 : List Cond := [Cond.selects RX0 yX0_lower yX0_lower, Cond.code yX0_lower cX0_lower 4 (some .long), Cond.static yX9_powerOfTen, Cond.code yX9_powerOfTen cX9_powerOfTen 4 (some .long), Cond.constantLong RX9 270 (10), Cond.methodLink RX9 201 yX9_leastTerms, Cond.static yX9_leastTerms, Cond.code yX9_leastTerms cX9_leastTerms 9 (some .long), Cond.methodLink RX9 272 yX9_greatestDivisor, Cond.static yX9_greatestDivisor, Cond.code yX9_greatestDivisor cX9_greatestDivisor 11 (some .long), Cond.methodLink RL 63 yX10_falls, Cond.instanceMethod yX10_falls, Cond.selects RX10 yX10_falls yX10_falls, Cond.code yX10_falls cX10_falls 6 (some .long), Cond.fieldLink RX10 165 "SimonSaysModel" "below" "J", Cond.methodLink RX10 168 yX10_isSet, Cond.instanceMethod yX10_isSet, Cond.selects RX10 yX10_isSet yX10_isSet, Cond.code yX10_isSet cX10_isSet 2 (some .boolean), Cond.methodLink RX10 171 yX10_isPart, Cond.static yX10_isPart, Cond.code yX10_isPart cX10_isPart 1 (some .boolean), Cond.methodLink RX10 174 yX10_waysOf]
def wsL_law_r28 : List Cond := [Cond.instanceMethod yX10_waysOf, Cond.selects RX10 yX10_waysOf yX10_waysOf, Cond.code yX10_waysOf cX10_waysOf 8 (some .long), Cond.methodLink RX10 178 yX10_part, Cond.static yX10_part, Cond.code yX10_part cX10_part 11 (some .long), Cond.methodLink RL 64 yX9_many, Cond.instanceMethod yX9_many, Cond.selects RX9 yX9_many yX9_many, Cond.code yX9_many cX9_many 4 (some .long), Cond.methodLink RX9 205 yX0_numberFalls, Cond.instanceMethod yX0_numberFalls, Cond.selects RX0 yX0_numberFalls yX0_numberFalls, Cond.code yX0_numberFalls cX0_numberFalls 4 (some .long), Cond.methodLink RX0 57 yJ6_bitCount_0f7a4, Cond.methodLink RX0 62 yX0_addGroup, Cond.instanceMethod yX0_addGroup, Cond.selects RX0 yX0_addGroup yX0_addGroup, Cond.code yX0_addGroup cX0_addGroup 6 none, Cond.methodLink RL 67 yX10_many, Cond.instanceMethod yX10_many, Cond.selects RX10 yX10_many yX10_many, Cond.code yX10_many cX10_many 8 (some .long), Cond.constantLong RX10 182 (6)]
def wsL_law_r29 : List Cond := [Cond.methodLink RL 68 yX9_stays, Cond.instanceMethod yX9_stays, Cond.selects RX9 yX9_stays yX9_stays, Cond.code yX9_stays cX9_stays 4 (some .long), Cond.methodLink RX9 208 yX7_read, Cond.instanceMethod yX7_read, Cond.selects RX7 yX7_read yX7_read, Cond.code yX7_read cX7_read 5 (some .boolean), Cond.fieldLink RX7 15 "SimonSays$Row" "length" "I", Cond.methodLink RX9 212 yX0_leaderStays, Cond.instanceMethod yX0_leaderStays, Cond.selects RX0 yX0_leaderStays yX0_leaderStays, Cond.code yX0_leaderStays cX0_leaderStays 7 (some .long), Cond.methodLink RX0 66 yX7_length, Cond.instanceMethod yX7_length, Cond.selects RX7 yX7_length yX7_length, Cond.code yX7_length cX7_length 1 (some .int), Cond.methodLink RX0 71 yX7_orderAt, Cond.instanceMethod yX7_orderAt, Cond.selects RX7 yX7_orderAt yX7_orderAt, Cond.code yX7_orderAt cX7_orderAt 2 (some .int), Cond.methodLink RX9 215 yX7_length, Cond.methodLink RX9 216 yX9_powerOfTen, Cond.methodLink RL 71 yX10_stays]
def wsL_law_r30 : List Cond := [Cond.instanceMethod yX10_stays, Cond.selects RX10 yX10_stays yX10_stays, Cond.code yX10_stays cX10_stays 5 (some .long), Cond.methodLink RX10 187 yX10_ordersIn, Cond.static yX10_ordersIn, Cond.code yX10_ordersIn cX10_ordersIn 4 (some .int), Cond.methodLink RX10 190 yX10_staysOf, Cond.instanceMethod yX10_staysOf, Cond.selects RX10 yX10_staysOf yX10_staysOf, Cond.code yX10_staysOf cX10_staysOf 9 (some .long), Cond.methodLink RX10 184 yX10_orderAt, Cond.static yX10_orderAt, Cond.code yX10_orderAt cX10_orderAt 5 (some .int), Cond.methodLink RX10 194 yX10_tens, Cond.static yX10_tens, Cond.code yX10_tens cX10_tens 4 (some .long), Cond.methodLink RL 72 yX9_left, Cond.instanceMethod yX9_left, Cond.selects RX9 yX9_left yX9_left, Cond.code yX9_left cX9_left 3 (some .long), Cond.methodLink RX9 219 yX0_justOneStays, Cond.instanceMethod yX0_justOneStays, Cond.selects RX0 yX0_justOneStays yX0_justOneStays, Cond.code yX0_justOneStays cX0_justOneStays 13 (some .long)]
def wsL_law_r31 : List Cond := [Cond.methodLink RX0 78 yX0_leaderStays, Cond.methodLink RL 76 yX10_left, Cond.instanceMethod yX10_left, Cond.selects RX10 yX10_left yX10_left, Cond.code yX10_left cX10_left 6 (some .long), Cond.constantLong RX10 198 (3), Cond.methodLink RX10 200 yX10_leftOf, Cond.instanceMethod yX10_leftOf, Cond.selects RX10 yX10_leftOf yX10_leftOf, Cond.code yX10_leftOf cX10_leftOf 13 (some .long), Cond.methodLink RL 77 yX9_best, Cond.instanceMethod yX9_best, Cond.selects RX9 yX9_best yX9_best, Cond.code yX9_best cX9_best 2 (some .int), Cond.methodLink RX9 223 yX0_bestRow, Cond.instanceMethod yX0_bestRow, Cond.selects RX0 yX0_bestRow yX0_bestRow, Cond.code yX0_bestRow cX0_bestRow 9 (some .int), Cond.constantLong RX0 81 (-1), Cond.methodLink RX0 83 yX0_rowNumber, Cond.static yX0_rowNumber, Cond.code yX0_rowNumber cX0_rowNumber 4 (some .int), Cond.methodLink RX0 86 yX7_read, Cond.methodLink RX0 90 yX0_justOneStays]
def wsL_law_r32 : List Cond := [Cond.methodLink RL 80 yX10_best, Cond.instanceMethod yX10_best, Cond.selects RX10 yX10_best yX10_best, Cond.code yX10_best cX10_best 8 (some .int), Cond.methodLink RL 81 yX9_lure, Cond.instanceMethod yX9_lure, Cond.selects RX9 yX9_lure yX9_lure, Cond.code yX9_lure cX9_lure 3 (some .int), Cond.methodLink RX9 226 yX6_fewestSaidAhead, Cond.instanceMethod yX6_fewestSaidAhead, Cond.selects RX6 yX6_fewestSaidAhead yX6_fewestSaidAhead, Cond.code yX6_fewestSaidAhead cX6_fewestSaidAhead 6 (some .int), Cond.methodLink RL 84 yX10_lure, Cond.instanceMethod yX10_lure, Cond.selects RX10 yX10_lure yX10_lure, Cond.code yX10_lure cX10_lure 5 (some .int), Cond.methodLink RL 85 yX9_could, Cond.instanceMethod yX9_could, Cond.selects RX9 yX9_could yX9_could, Cond.code yX9_could cX9_could 2 (some .int), Cond.methodLink RX9 230 yX0_ordersThatCould, Cond.instanceMethod yX0_ordersThatCould, Cond.selects RX0 yX0_ordersThatCould yX0_ordersThatCould, Cond.code yX0_ordersThatCould cX0_ordersThatCould 4 (some .int)]
def wsL_law_r33 : List Cond := [Cond.methodLink RX0 94 yX0_setFalls, Cond.methodLink RL 88 yX10_could, Cond.instanceMethod yX10_could, Cond.selects RX10 yX10_could yX10_could, Cond.code yX10_could cX10_could 4 (some .int), Cond.methodLink RL 89 yX9_likeliest, Cond.instanceMethod yX9_likeliest, Cond.selects RX9 yX9_likeliest yX9_likeliest, Cond.code yX9_likeliest cX9_likeliest 2 (some .int), Cond.methodLink RX9 233 yX0_likeliestOrder, Cond.instanceMethod yX0_likeliestOrder, Cond.selects RX0 yX0_likeliestOrder yX0_likeliestOrder, Cond.code yX0_likeliestOrder cX0_likeliestOrder 8 (some .int), Cond.methodLink RL 92 yX10_likeliest, Cond.instanceMethod yX10_likeliest, Cond.selects RX10 yX10_likeliest yX10_likeliest, Cond.code yX10_likeliest cX10_likeliest 8 (some .int), Cond.methodLink RL 93 yX9_rate, Cond.instanceMethod yX9_rate, Cond.selects RX9 yX9_rate yX9_rate, Cond.code yX9_rate cX9_rate 3 (some .int), Cond.constant RX9 239 (-1000000), Cond.methodLink RX9 236 yX4_rateAs, Cond.instanceMethod yX4_rateAs]
def wsL_law_r34 : List Cond := [Cond.selects RX4 yX4_rateAs yX4_rateAs, Cond.code yX4_rateAs cX4_rateAs 3 (some .int), Cond.constant RX4 42 (-1000000), Cond.methodLink RX4 23 yX4_asChild, Cond.instanceMethod yX4_asChild, Cond.selects RX4 yX4_asChild yX4_asChild, Cond.code yX4_asChild cX4_asChild 2 (some .int), Cond.fieldLink RX4 19 "SimonSays$Kinds" "trace" "J", Cond.methodLink RX4 43 yX1_slipOf, Cond.methodLink RX4 27 yX4_asDreamer, Cond.instanceMethod yX4_asDreamer, Cond.selects RX4 yX4_asDreamer yX4_asDreamer, Cond.code yX4_asDreamer cX4_asDreamer 2 (some .int), Cond.constantLong RX4 48 (10), Cond.methodLink RX4 50 yX6_streak, Cond.methodLink RX4 30 yX4_asWatcher, Cond.instanceMethod yX4_asWatcher, Cond.selects RX4 yX4_asWatcher yX4_asWatcher, Cond.code yX4_asWatcher cX4_asWatcher 2 (some .int), Cond.constantLong RX4 56 (100), Cond.methodLink RX4 58 yX1_lateOf, Cond.methodLink RX4 33 yX4_asRunner, Cond.instanceMethod yX4_asRunner, Cond.selects RX4 yX4_asRunner yX4_asRunner]
def wsL_law_r35 : List Cond := [Cond.code yX4_asRunner cX4_asRunner 2 (some .int), Cond.constantLong RX4 61 (1000), Cond.methodLink RX4 36 yX4_asCopier, Cond.instanceMethod yX4_asCopier, Cond.selects RX4 yX4_asCopier yX4_asCopier, Cond.code yX4_asCopier cX4_asCopier 2 (some .int), Cond.constantLong RX4 63 (10000), Cond.methodLink RX4 65 yX1_howManyCopy, Cond.instanceMethod yX1_howManyCopy, Cond.selects RX1 yX1_howManyCopy yX1_howManyCopy, Cond.code yX1_howManyCopy cX1_howManyCopy 4 (some .int), Cond.methodLink RX4 39 yX4_asListener, Cond.instanceMethod yX4_asListener, Cond.selects RX4 yX4_asListener yX4_asListener, Cond.code yX4_asListener cX4_asListener 2 (some .int), Cond.constantLong RX4 68 (100000), Cond.methodLink RX4 70 yX6_howManyIn, Cond.methodLink RL 96 yX10_rate, Cond.instanceMethod yX10_rate, Cond.selects RX10 yX10_rate yX10_rate, Cond.code yX10_rate cX10_rate 6 (some .int), Cond.constant RX10 203 (-1000000), Cond.fieldLink RX10 204 "SimonSaysModel" "trace" "J", Cond.constantLong RX10 207 (11)]
def wsL_law_r36 : List Cond := [Cond.constantLong RX10 209 (101), Cond.constantLong RX10 211 (1011), Cond.constantLong RX10 213 (10101), Cond.constantLong RX10 215 (100001), Cond.methodLink RL 97 yX9_keep, Cond.instanceMethod yX9_keep, Cond.selects RX9 yX9_keep yX9_keep, Cond.code yX9_keep cX9_keep 2 (some .int), Cond.methodLink RX9 240 yX9_isImage, Cond.static yX9_isImage, Cond.code yX9_isImage cX9_isImage 1 (some .boolean), Cond.methodLink RX9 243 yX3_take, Cond.instanceMethod yX3_take, Cond.selects RX3 yX3_take yX3_take, Cond.code yX3_take cX3_take 2 none, Cond.fieldLink RX3 19 "SimonSays$Image" "in" "I", Cond.fieldLink RX3 26 "SimonSays$Image" "streak" "I", Cond.fieldLink RX3 31 "SimonSays$Image" "lot" "I", Cond.methodLink RX3 13 yX6_whoIsIn, Cond.methodLink RX3 23 yX6_streak, Cond.methodLink RX3 28 yX6_theLot, Cond.methodLink RL 100 yX10_keep, Cond.instanceMethod yX10_keep, Cond.selects RX10 yX10_keep yX10_keep]
def wsL_law_r37 : List Cond := [Cond.code yX10_keep cX10_keep 2 (some .int), Cond.methodLink RL 101 yX9_back, Cond.instanceMethod yX9_back, Cond.selects RX9 yX9_back yX9_back, Cond.code yX9_back cX9_back 2 (some .int), Cond.methodLink RX9 247 yX3_isKept, Cond.instanceMethod yX3_isKept, Cond.selects RX3 yX3_isKept yX3_isKept, Cond.code yX3_isKept cX3_isKept 1 (some .boolean), Cond.methodLink RX9 250 yX3_giveTo, Cond.instanceMethod yX3_giveTo, Cond.selects RX3 yX3_giveTo yX3_giveTo, Cond.code yX3_giveTo cX3_giveTo 2 none, Cond.methodLink RX3 34 yX6_become, Cond.methodLink RX3 38 yX6_setLot, Cond.methodLink RL 104 yX10_back, Cond.instanceMethod yX10_back, Cond.selects RX10 yX10_back yX10_back, Cond.code yX10_back cX10_back 2 (some .int), Cond.methodLink RL 105 yX9_count, Cond.instanceMethod yX9_count, Cond.selects RX9 yX9_count yX9_count, Cond.code yX9_count cX9_count 2 (some .int), Cond.methodLink RX9 253 yX1_size]
def wsL_law_r38 : List Cond := [Cond.methodLink RX9 254 yX1_littleOnes, Cond.methodLink RX9 257 yJ6_bitCount_0f7a4, Cond.methodLink RL 108 yX10_count, Cond.instanceMethod yX10_count, Cond.selects RX10 yX10_count yX10_count, Cond.code yX10_count cX10_count 2 (some .int), Cond.methodLink RL 109 yX9_trace, Cond.instanceMethod yX9_trace, Cond.selects RX9 yX9_trace yX9_trace, Cond.code yX9_trace cX9_trace 1 (some .long), Cond.methodLink RX9 262 yX4_theTrace, Cond.instanceMethod yX4_theTrace, Cond.selects RX4 yX4_theTrace yX4_theTrace, Cond.code yX4_theTrace cX4_theTrace 1 (some .long), Cond.methodLink RL 113 yX10_trace, Cond.instanceMethod yX10_trace, Cond.selects RX10 yX10_trace yX10_trace, Cond.code yX10_trace cX10_trace 1 (some .long)]
def wsL_law : List Cond := (wsL_law_r1 ++ (wsL_law_r2 ++ (wsL_law_r3 ++ (wsL_law_r4 ++ (wsL_law_r5 ++ (wsL_law_r6 ++ (wsL_law_r7 ++ (wsL_law_r8 ++ (wsL_law_r9 ++ (wsL_law_r10 ++ (wsL_law_r11 ++ (wsL_law_r12 ++ (wsL_law_r13 ++ (wsL_law_r14 ++ (wsL_law_r15 ++ (wsL_law_r16 ++ (wsL_law_r17 ++ (wsL_law_r18 ++ (wsL_law_r19 ++ (wsL_law_r20 ++ (wsL_law_r21 ++ (wsL_law_r22 ++ (wsL_law_r23 ++ (wsL_law_r24 ++ (wsL_law_r25 ++ (wsL_law_r26 ++ (wsL_law_r27 ++ (wsL_law_r28 ++ (wsL_law_r29 ++ (wsL_law_r30 ++ (wsL_law_r31 ++ (wsL_law_r32 ++ (wsL_law_r33 ++ (wsL_law_r34 ++ (wsL_law_r35 ++ (wsL_law_r36 ++ (wsL_law_r37 ++ wsL_law_r38))))))))))))))))))))))))))))))))))))) ++ wsX90 ++ wsX100 ++ wsX80 ++ wsX50 ++ wsX10 ++ wsX60 ++ wsX20 ++ wsX30 ++ wsX70 ++ wsX00 ++ wsX40 ++ ([] : List Cond)
end
section
theorem dX0_init_0 : decode cX0_init 0 = .ok (.aload_n 0, 1) := by decide +kernel
theorem dX0_init_1 : decode cX0_init 1 = .ok (.invokespecial 3, 3) := by decide +kernel
theorem dX0_init_4 : decode cX0_init 4 = .ok (.aload_n 0, 1) := by decide +kernel
theorem dX0_init_5 : decode cX0_init 5 = .ok (.aload_n 1, 1) := by decide +kernel
theorem dX0_init_6 : decode cX0_init 6 = .ok (.putfield 9, 3) := by decide +kernel
theorem dX0_init_9 : decode cX0_init 9 = .ok (.aload_n 0, 1) := by decide +kernel
theorem dX0_init_10 : decode cX0_init 10 = .ok (.aload_n 2, 1) := by decide +kernel
theorem dX0_init_11 : decode cX0_init 11 = .ok (.putfield 15, 3) := by decide +kernel
theorem dX0_init_14 : decode cX0_init 14 = .ok (.aload_n 0, 1) := by decide +kernel
theorem dX0_init_15 : decode cX0_init 15 = .ok (.aload_n 3, 1) := by decide +kernel
theorem dX0_init_16 : decode cX0_init 16 = .ok (.putfield 19, 3) := by decide +kernel
theorem dX0_init_19 : decode cX0_init 19 = .ok (.aload_n 0, 1) := by decide +kernel
theorem dX0_init_20 : decode cX0_init 20 = .ok (.bipush 7, 2) := by decide +kernel
theorem dX0_init_22 : decode cX0_init 22 = .ok (.newarray .long, 2) := by decide +kernel
theorem dX0_init_24 : decode cX0_init 24 = .ok (.putfield 23, 3) := by decide +kernel
theorem dX0_init_27 : decode cX0_init 27 = .ok (.return_, 1) := by decide +kernel
set_option maxRecDepth 20000 in
theorem ggX0_lower_X1_size : GoodIn wsX0_lower wsX1_size := goodIn_r _ [7, 8, 42, 43, 44, 45, 46] (by decide +kernel) (by decide +kernel)
set_option maxRecDepth 20000 in
theorem gX0_lower_X1_size : GoodIn wsX0_lower (wsV RX0 27 RX1 yX1_size wsX1_size) := goodIn_app (goodIn_of _ (by decide +kernel)) ggX0_lower_X1_size
set_option maxRecDepth 20000 in
theorem ggX0_lower_X6_isLeader : GoodIn wsX0_lower wsX6_isLeader := goodIn_r _ [13, 14, 15, 16, 12, 17, 18, 19, 20, 21, 22, 6, 23, 8, 24, 25, 26, 27, 28, 29, 30, 31, 32, 33, 47, 48, 49, 50, 42, 43, 44, 45, 46] (by decide +kernel) (by decide +kernel)
set_option maxRecDepth 20000 in
theorem gX0_lower_X6_isLeader : GoodIn wsX0_lower (wsV RX0 33 RX6 yX6_isLeader wsX6_isLeader) := goodIn_app (goodIn_of _ (by decide +kernel)) ggX0_lower_X6_isLeader
set_option maxRecDepth 20000 in
theorem ggX0_lower_X9_powerOfTen : GoodIn wsX0_lower wsX9_powerOfTen := goodIn_r _ [36, 37] (by decide +kernel) (by decide +kernel)
set_option maxRecDepth 20000 in
theorem gX0_lower_X9_powerOfTen_n39 : GoodIn wsX0_lower (wsX9_powerOfTen) := ggX0_lower_X9_powerOfTen
theorem dX0_lower_0 : decode cX0_lower 0 = .ok (.iconst 0, 1) := by decide +kernel
theorem dX0_lower_1 : decode cX0_lower 1 = .ok (.istore_n 2, 1) := by decide +kernel
theorem dX0_lower_2 : decode cX0_lower 2 = .ok (.iconst 0, 1) := by decide +kernel
theorem dX0_lower_3 : decode cX0_lower 3 = .ok (.istore_n 3, 1) := by decide +kernel
theorem dX0_lower_4 : decode cX0_lower 4 = .ok (.iload_n 3, 1) := by decide +kernel
theorem dX0_lower_5 : decode cX0_lower 5 = .ok (.aload_n 0, 1) := by decide +kernel
theorem dX0_lower_6 : decode cX0_lower 6 = .ok (.getfield 9, 3) := by decide +kernel
theorem dX0_lower_9 : decode cX0_lower 9 = .ok (.invokevirtual 27, 3) := by decide +kernel
theorem dX0_lower_12 : decode cX0_lower 12 = .ok (.if_icmp .ge 23, 3) := by decide +kernel
theorem dX0_lower_15 : decode cX0_lower 15 = .ok (.aload_n 0, 1) := by decide +kernel
theorem dX0_lower_16 : decode cX0_lower 16 = .ok (.getfield 15, 3) := by decide +kernel
theorem dX0_lower_19 : decode cX0_lower 19 = .ok (.iload_n 3, 1) := by decide +kernel
theorem dX0_lower_20 : decode cX0_lower 20 = .ok (.invokevirtual 33, 3) := by decide +kernel
theorem dX0_lower_23 : decode cX0_lower 23 = .ok (.ifCond .eq 6, 3) := by decide +kernel
theorem dX0_lower_26 : decode cX0_lower 26 = .ok (.iinc 2 1, 3) := by decide +kernel
theorem dX0_lower_29 : decode cX0_lower 29 = .ok (.iinc 3 1, 3) := by decide +kernel
theorem dX0_lower_32 : decode cX0_lower 32 = .ok (.goto (-28), 3) := by decide +kernel
theorem dX0_lower_35 : decode cX0_lower 35 = .ok (.iload_n 2, 1) := by decide +kernel
theorem dX0_lower_36 : decode cX0_lower 36 = .ok (.iload_n 1, 1) := by decide +kernel
theorem dX0_lower_37 : decode cX0_lower 37 = .ok (.imul, 1) := by decide +kernel
theorem dX0_lower_38 : decode cX0_lower 38 = .ok (.invokestatic 39, 3) := by decide +kernel
theorem dX0_lower_41 : decode cX0_lower 41 = .ok (.lreturn, 1) := by decide +kernel
set_option maxRecDepth 20000 in
theorem ggX0_setFalls_X6_whoIsIn : GoodIn wsX0_setFalls wsX6_whoIsIn := goodIn_r _ [7, 8, 70, 71, 72, 73] (by decide +kernel) (by decide +kernel)
set_option maxRecDepth 20000 in
theorem gX0_setFalls_X6_whoIsIn : GoodIn wsX0_setFalls (wsV RX0 43 RX6 yX6_whoIsIn wsX6_whoIsIn) := goodIn_app (goodIn_of _ (by decide +kernel)) ggX0_setFalls_X6_whoIsIn
set_option maxRecDepth 20000 in
theorem ggX0_setFalls_X1_size : GoodIn wsX0_setFalls wsX1_size := goodIn_r _ [13, 14, 74, 75, 76, 77, 78] (by decide +kernel) (by decide +kernel)
set_option maxRecDepth 20000 in
theorem gX0_setFalls_X1_size : GoodIn wsX0_setFalls (wsV RX0 27 RX1 yX1_size wsX1_size) := goodIn_app (goodIn_of _ (by decide +kernel)) ggX0_setFalls_X1_size
set_option maxRecDepth 20000 in
theorem ggX0_setFalls_X6_isLeader : GoodIn wsX0_setFalls wsX6_isLeader := goodIn_r _ [18, 19, 20, 21, 6, 22, 23, 8, 24, 25, 26, 12, 27, 14, 28, 29, 30, 31, 32, 33, 34, 35, 36, 37, 70, 71, 72, 73, 74, 75, 76, 77, 78] (by decide +kernel) (by decide +kernel)
set_option maxRecDepth 20000 in
theorem gX0_setFalls_X6_isLeader : GoodIn wsX0_setFalls (wsV RX0 33 RX6 yX6_isLeader wsX6_isLeader) := goodIn_app (goodIn_of _ (by decide +kernel)) ggX0_setFalls_X6_isLeader
set_option maxRecDepth 20000 in
theorem ggX0_setFalls_X6_groupOf : GoodIn wsX0_setFalls wsX6_groupOf := goodIn_r _ [41, 23, 42, 10, 11, 12, 13, 14, 19, 20, 21, 6, 22, 8, 24, 25, 26, 27, 28, 29, 30, 31, 32, 33, 34, 35, 36, 37, 70, 71, 72, 73, 74, 75, 76, 77, 78] (by decide +kernel) (by decide +kernel)
set_option maxRecDepth 20000 in
theorem gX0_setFalls_X6_groupOf : GoodIn wsX0_setFalls (wsV RX0 46 RX6 yX6_groupOf wsX6_groupOf) := goodIn_app (goodIn_of _ (by decide +kernel)) ggX0_setFalls_X6_groupOf
set_option maxRecDepth 20000 in
theorem ggX0_setFalls_X6_streak : GoodIn wsX0_setFalls wsX6_streak := goodIn_r _ [46, 47, 70, 71, 72, 73] (by decide +kernel) (by decide +kernel)
set_option maxRecDepth 20000 in
theorem gX0_setFalls_X6_streak : GoodIn wsX0_setFalls (wsV RX0 50 RX6 yX6_streak wsX6_streak) := goodIn_app (goodIn_of _ (by decide +kernel)) ggX0_setFalls_X6_streak
set_option maxRecDepth 20000 in
theorem ggX0_setFalls_X1_errsOf : GoodIn wsX0_setFalls wsX1_errsOf := goodIn_r _ [51, 52, 53, 54, 55, 56, 57, 58, 12, 59, 60, 37, 25, 26, 27, 14, 61, 62, 63, 64, 65, 74, 75, 76, 77, 78] (by decide +kernel) (by decide +kernel)
set_option maxRecDepth 20000 in
theorem gX0_setFalls_X1_errsOf : GoodIn wsX0_setFalls (wsV RX0 53 RX1 yX1_errsOf wsX1_errsOf) := goodIn_app (goodIn_of _ (by decide +kernel)) ggX0_setFalls_X1_errsOf
theorem dX0_setFalls_0 : decode cX0_setFalls 0 = .ok (.iload_n 2, 1) := by decide +kernel
theorem dX0_setFalls_1 : decode cX0_setFalls 1 = .ok (.aload_n 0, 1) := by decide +kernel
theorem dX0_setFalls_2 : decode cX0_setFalls 2 = .ok (.getfield 15, 3) := by decide +kernel
theorem dX0_setFalls_5 : decode cX0_setFalls 5 = .ok (.invokevirtual 43, 3) := by decide +kernel
theorem dX0_setFalls_8 : decode cX0_setFalls 8 = .ok (.iconst (-1), 1) := by decide +kernel
theorem dX0_setFalls_9 : decode cX0_setFalls 9 = .ok (.ixor, 1) := by decide +kernel
theorem dX0_setFalls_10 : decode cX0_setFalls 10 = .ok (.iand, 1) := by decide +kernel
theorem dX0_setFalls_11 : decode cX0_setFalls 11 = .ok (.ifCond .eq 5, 3) := by decide +kernel
theorem dX0_setFalls_14 : decode cX0_setFalls 14 = .ok (.lconst 0, 1) := by decide +kernel
theorem dX0_setFalls_15 : decode cX0_setFalls 15 = .ok (.lreturn, 1) := by decide +kernel
theorem dX0_setFalls_16 : decode cX0_setFalls 16 = .ok (.lconst 1, 1) := by decide +kernel
theorem dX0_setFalls_17 : decode cX0_setFalls 17 = .ok (.lstore_n 3, 1) := by decide +kernel
theorem dX0_setFalls_18 : decode cX0_setFalls 18 = .ok (.iconst 0, 1) := by decide +kernel
theorem dX0_setFalls_19 : decode cX0_setFalls 19 = .ok (.istore 5, 2) := by decide +kernel
theorem dX0_setFalls_21 : decode cX0_setFalls 21 = .ok (.iload 5, 2) := by decide +kernel
theorem dX0_setFalls_23 : decode cX0_setFalls 23 = .ok (.aload_n 0, 1) := by decide +kernel
theorem dX0_setFalls_24 : decode cX0_setFalls 24 = .ok (.getfield 9, 3) := by decide +kernel
theorem dX0_setFalls_27 : decode cX0_setFalls 27 = .ok (.invokevirtual 27, 3) := by decide +kernel
theorem dX0_setFalls_30 : decode cX0_setFalls 30 = .ok (.if_icmp .ge 89, 3) := by decide +kernel
theorem dX0_setFalls_33 : decode cX0_setFalls 33 = .ok (.aload_n 0, 1) := by decide +kernel
theorem dX0_setFalls_34 : decode cX0_setFalls 34 = .ok (.getfield 15, 3) := by decide +kernel
theorem dX0_setFalls_37 : decode cX0_setFalls 37 = .ok (.iload 5, 2) := by decide +kernel
theorem dX0_setFalls_39 : decode cX0_setFalls 39 = .ok (.invokevirtual 33, 3) := by decide +kernel
theorem dX0_setFalls_42 : decode cX0_setFalls 42 = .ok (.ifCond .eq 71, 3) := by decide +kernel
theorem dX0_setFalls_45 : decode cX0_setFalls 45 = .ok (.aload_n 0, 1) := by decide +kernel
theorem dX0_setFalls_46 : decode cX0_setFalls 46 = .ok (.getfield 15, 3) := by decide +kernel
theorem dX0_setFalls_49 : decode cX0_setFalls 49 = .ok (.iload 5, 2) := by decide +kernel
theorem dX0_setFalls_51 : decode cX0_setFalls 51 = .ok (.invokevirtual 46, 3) := by decide +kernel
theorem dX0_setFalls_54 : decode cX0_setFalls 54 = .ok (.istore 6, 2) := by decide +kernel
theorem dX0_setFalls_56 : decode cX0_setFalls 56 = .ok (.aload_n 0, 1) := by decide +kernel
theorem dX0_setFalls_57 : decode cX0_setFalls 57 = .ok (.getfield 9, 3) := by decide +kernel
theorem dX0_setFalls_60 : decode cX0_setFalls 60 = .ok (.iload 5, 2) := by decide +kernel
theorem dX0_setFalls_62 : decode cX0_setFalls 62 = .ok (.iload_n 1, 1) := by decide +kernel
theorem dX0_setFalls_63 : decode cX0_setFalls 63 = .ok (.aload_n 0, 1) := by decide +kernel
theorem dX0_setFalls_64 : decode cX0_setFalls 64 = .ok (.getfield 15, 3) := by decide +kernel
theorem dX0_setFalls_67 : decode cX0_setFalls 67 = .ok (.invokevirtual 50, 3) := by decide +kernel
theorem dX0_setFalls_70 : decode cX0_setFalls 70 = .ok (.invokevirtual 53, 3) := by decide +kernel
theorem dX0_setFalls_73 : decode cX0_setFalls 73 = .ok (.istore 7, 2) := by decide +kernel
theorem dX0_setFalls_75 : decode cX0_setFalls 75 = .ok (.iload 6, 2) := by decide +kernel
theorem dX0_setFalls_77 : decode cX0_setFalls 77 = .ok (.iload_n 2, 1) := by decide +kernel
theorem dX0_setFalls_78 : decode cX0_setFalls 78 = .ok (.iand, 1) := by decide +kernel
theorem dX0_setFalls_79 : decode cX0_setFalls 79 = .ok (.iload 6, 2) := by decide +kernel
theorem dX0_setFalls_81 : decode cX0_setFalls 81 = .ok (.if_icmp .ne 12, 3) := by decide +kernel
theorem dX0_setFalls_84 : decode cX0_setFalls 84 = .ok (.lload_n 3, 1) := by decide +kernel
theorem dX0_setFalls_85 : decode cX0_setFalls 85 = .ok (.iload 7, 2) := by decide +kernel
theorem dX0_setFalls_87 : decode cX0_setFalls 87 = .ok (.i2l, 1) := by decide +kernel
theorem dX0_setFalls_88 : decode cX0_setFalls 88 = .ok (.lmul, 1) := by decide +kernel
theorem dX0_setFalls_89 : decode cX0_setFalls 89 = .ok (.lstore_n 3, 1) := by decide +kernel
theorem dX0_setFalls_90 : decode cX0_setFalls 90 = .ok (.goto 23, 3) := by decide +kernel
theorem dX0_setFalls_93 : decode cX0_setFalls 93 = .ok (.lload_n 3, 1) := by decide +kernel
theorem dX0_setFalls_94 : decode cX0_setFalls 94 = .ok (.iload 6, 2) := by decide +kernel
theorem dX0_setFalls_96 : decode cX0_setFalls 96 = .ok (.iload_n 2, 1) := by decide +kernel
theorem dX0_setFalls_97 : decode cX0_setFalls 97 = .ok (.iand, 1) := by decide +kernel
theorem dX0_setFalls_98 : decode cX0_setFalls 98 = .ok (.ifCond .ne 12, 3) := by decide +kernel
theorem dX0_setFalls_101 : decode cX0_setFalls 101 = .ok (.bipush 10, 2) := by decide +kernel
theorem dX0_setFalls_103 : decode cX0_setFalls 103 = .ok (.iload 7, 2) := by decide +kernel
theorem dX0_setFalls_105 : decode cX0_setFalls 105 = .ok (.isub, 1) := by decide +kernel
theorem dX0_setFalls_106 : decode cX0_setFalls 106 = .ok (.i2l, 1) := by decide +kernel
theorem dX0_setFalls_107 : decode cX0_setFalls 107 = .ok (.goto 4, 3) := by decide +kernel
theorem dX0_setFalls_110 : decode cX0_setFalls 110 = .ok (.lconst 0, 1) := by decide +kernel
theorem dX0_setFalls_111 : decode cX0_setFalls 111 = .ok (.lmul, 1) := by decide +kernel
theorem dX0_setFalls_112 : decode cX0_setFalls 112 = .ok (.lstore_n 3, 1) := by decide +kernel
theorem dX0_setFalls_113 : decode cX0_setFalls 113 = .ok (.iinc 5 1, 3) := by decide +kernel
theorem dX0_setFalls_116 : decode cX0_setFalls 116 = .ok (.goto (-95), 3) := by decide +kernel
theorem dX0_setFalls_119 : decode cX0_setFalls 119 = .ok (.lload_n 3, 1) := by decide +kernel
theorem dX0_setFalls_120 : decode cX0_setFalls 120 = .ok (.lreturn, 1) := by decide +kernel
set_option maxRecDepth 20000 in
theorem ggX0_numberFalls_X1_size : GoodIn wsX0_numberFalls wsX1_size := goodIn_r _ [8, 9, 79, 80, 81, 82, 83] (by decide +kernel) (by decide +kernel)
set_option maxRecDepth 20000 in
theorem gX0_numberFalls_X1_size : GoodIn wsX0_numberFalls (wsV RX0 27 RX1 yX1_size wsX1_size) := goodIn_app (goodIn_of _ (by decide +kernel)) ggX0_numberFalls_X1_size
set_option maxRecDepth 20000 in
theorem ggX0_numberFalls_X6_isLeader : GoodIn wsX0_numberFalls wsX6_isLeader := goodIn_r _ [14, 15, 16, 17, 13, 18, 19, 20, 21, 22, 23, 7, 24, 9, 25, 26, 27, 28, 29, 30, 31, 32, 33, 34, 84, 85, 86, 87, 79, 80, 81, 82, 83] (by decide +kernel) (by decide +kernel)
set_option maxRecDepth 20000 in
theorem gX0_numberFalls_X6_isLeader : GoodIn wsX0_numberFalls (wsV RX0 33 RX6 yX6_isLeader wsX6_isLeader) := goodIn_app (goodIn_of _ (by decide +kernel)) ggX0_numberFalls_X6_isLeader
set_option maxRecDepth 20000 in
theorem ggX0_numberFalls_X6_groupOf : GoodIn wsX0_numberFalls wsX6_groupOf := goodIn_r _ [38, 19, 39, 5, 6, 7, 8, 9, 15, 16, 17, 13, 18, 20, 21, 22, 23, 24, 25, 26, 27, 28, 29, 30, 31, 32, 33, 34, 84, 85, 86, 87, 79, 80, 81, 82, 83] (by decide +kernel) (by decide +kernel)
set_option maxRecDepth 20000 in
theorem gX0_numberFalls_X6_groupOf : GoodIn wsX0_numberFalls (wsV RX0 46 RX6 yX6_groupOf wsX6_groupOf) := goodIn_app (goodIn_of _ (by decide +kernel)) ggX0_numberFalls_X6_groupOf
set_option maxRecDepth 20000 in
theorem ggX0_numberFalls_J6_bitCount_0f7a4 : GoodIn wsX0_numberFalls wsJ6_bitCount_0f7a4 := goodIn_r _ [43, 44, 45, 46] (by decide +kernel) (by decide +kernel)
set_option maxRecDepth 20000 in
theorem gX0_numberFalls_J6_bitCount_0f7a4 : GoodIn wsX0_numberFalls (va_wsS RX0 57 yJ6_bitCount_0f7a4 wsJ6_bitCount_0f7a4) := goodIn_app (goodIn_of _ (by decide +kernel)) ggX0_numberFalls_J6_bitCount_0f7a4
set_option maxRecDepth 20000 in
theorem ggX0_numberFalls_X6_streak : GoodIn wsX0_numberFalls wsX6_streak := goodIn_r _ [50, 51, 84, 85, 86, 87] (by decide +kernel) (by decide +kernel)
set_option maxRecDepth 20000 in
theorem gX0_numberFalls_X6_streak : GoodIn wsX0_numberFalls (wsV RX0 50 RX6 yX6_streak wsX6_streak) := goodIn_app (goodIn_of _ (by decide +kernel)) ggX0_numberFalls_X6_streak
set_option maxRecDepth 20000 in
theorem ggX0_numberFalls_X1_errsOf : GoodIn wsX0_numberFalls wsX1_errsOf := goodIn_r _ [55, 56, 57, 58, 59, 60, 61, 62, 7, 63, 64, 34, 22, 23, 24, 9, 65, 66, 67, 68, 69, 79, 80, 81, 82, 83] (by decide +kernel) (by decide +kernel)
set_option maxRecDepth 20000 in
theorem gX0_numberFalls_X1_errsOf : GoodIn wsX0_numberFalls (wsV RX0 53 RX1 yX1_errsOf wsX1_errsOf) := goodIn_app (goodIn_of _ (by decide +kernel)) ggX0_numberFalls_X1_errsOf
set_option maxRecDepth 20000 in
theorem ggX0_numberFalls_X0_addGroup : GoodIn wsX0_numberFalls wsX0_addGroup := goodIn_r _ [74, 1, 75, 76, 77, 78] (by decide +kernel) (by decide +kernel)
set_option maxRecDepth 20000 in
theorem gX0_numberFalls_X0_addGroup : GoodIn wsX0_numberFalls (wsV RX0 62 RX0 yX0_addGroup wsX0_addGroup) := goodIn_app (goodIn_of _ (by decide +kernel)) ggX0_numberFalls_X0_addGroup
theorem dX0_numberFalls_0 : decode cX0_numberFalls 0 = .ok (.iconst 0, 1) := by decide +kernel
theorem dX0_numberFalls_1 : decode cX0_numberFalls 1 = .ok (.istore_n 3, 1) := by decide +kernel
theorem dX0_numberFalls_2 : decode cX0_numberFalls 2 = .ok (.iload_n 3, 1) := by decide +kernel
theorem dX0_numberFalls_3 : decode cX0_numberFalls 3 = .ok (.bipush 6, 2) := by decide +kernel
theorem dX0_numberFalls_5 : decode cX0_numberFalls 5 = .ok (.if_icmp .gt 24, 3) := by decide +kernel
theorem dX0_numberFalls_8 : decode cX0_numberFalls 8 = .ok (.aload_n 0, 1) := by decide +kernel
theorem dX0_numberFalls_9 : decode cX0_numberFalls 9 = .ok (.getfield 23, 3) := by decide +kernel
theorem dX0_numberFalls_12 : decode cX0_numberFalls 12 = .ok (.iload_n 3, 1) := by decide +kernel
theorem dX0_numberFalls_13 : decode cX0_numberFalls 13 = .ok (.iload_n 3, 1) := by decide +kernel
theorem dX0_numberFalls_14 : decode cX0_numberFalls 14 = .ok (.ifCond .ne 7, 3) := by decide +kernel
theorem dX0_numberFalls_17 : decode cX0_numberFalls 17 = .ok (.lconst 1, 1) := by decide +kernel
theorem dX0_numberFalls_18 : decode cX0_numberFalls 18 = .ok (.goto 4, 3) := by decide +kernel
theorem dX0_numberFalls_21 : decode cX0_numberFalls 21 = .ok (.lconst 0, 1) := by decide +kernel
theorem dX0_numberFalls_22 : decode cX0_numberFalls 22 = .ok (.lastore, 1) := by decide +kernel
theorem dX0_numberFalls_23 : decode cX0_numberFalls 23 = .ok (.iinc 3 1, 3) := by decide +kernel
theorem dX0_numberFalls_26 : decode cX0_numberFalls 26 = .ok (.goto (-24), 3) := by decide +kernel
theorem dX0_numberFalls_29 : decode cX0_numberFalls 29 = .ok (.iconst 0, 1) := by decide +kernel
theorem dX0_numberFalls_30 : decode cX0_numberFalls 30 = .ok (.istore_n 3, 1) := by decide +kernel
theorem dX0_numberFalls_31 : decode cX0_numberFalls 31 = .ok (.iload_n 3, 1) := by decide +kernel
theorem dX0_numberFalls_32 : decode cX0_numberFalls 32 = .ok (.aload_n 0, 1) := by decide +kernel
theorem dX0_numberFalls_33 : decode cX0_numberFalls 33 = .ok (.getfield 9, 3) := by decide +kernel
theorem dX0_numberFalls_36 : decode cX0_numberFalls 36 = .ok (.invokevirtual 27, 3) := by decide +kernel
theorem dX0_numberFalls_39 : decode cX0_numberFalls 39 = .ok (.if_icmp .ge 51, 3) := by decide +kernel
theorem dX0_numberFalls_42 : decode cX0_numberFalls 42 = .ok (.aload_n 0, 1) := by decide +kernel
theorem dX0_numberFalls_43 : decode cX0_numberFalls 43 = .ok (.getfield 15, 3) := by decide +kernel
theorem dX0_numberFalls_46 : decode cX0_numberFalls 46 = .ok (.iload_n 3, 1) := by decide +kernel
theorem dX0_numberFalls_47 : decode cX0_numberFalls 47 = .ok (.invokevirtual 33, 3) := by decide +kernel
theorem dX0_numberFalls_50 : decode cX0_numberFalls 50 = .ok (.ifCond .eq 34, 3) := by decide +kernel
theorem dX0_numberFalls_53 : decode cX0_numberFalls 53 = .ok (.aload_n 0, 1) := by decide +kernel
theorem dX0_numberFalls_54 : decode cX0_numberFalls 54 = .ok (.aload_n 0, 1) := by decide +kernel
theorem dX0_numberFalls_55 : decode cX0_numberFalls 55 = .ok (.getfield 15, 3) := by decide +kernel
theorem dX0_numberFalls_58 : decode cX0_numberFalls 58 = .ok (.iload_n 3, 1) := by decide +kernel
theorem dX0_numberFalls_59 : decode cX0_numberFalls 59 = .ok (.invokevirtual 46, 3) := by decide +kernel
theorem dX0_numberFalls_62 : decode cX0_numberFalls 62 = .ok (.invokestatic 57, 3) := by decide +kernel
theorem dX0_numberFalls_65 : decode cX0_numberFalls 65 = .ok (.aload_n 0, 1) := by decide +kernel
theorem dX0_numberFalls_66 : decode cX0_numberFalls 66 = .ok (.getfield 9, 3) := by decide +kernel
theorem dX0_numberFalls_69 : decode cX0_numberFalls 69 = .ok (.iload_n 3, 1) := by decide +kernel
theorem dX0_numberFalls_70 : decode cX0_numberFalls 70 = .ok (.iload_n 1, 1) := by decide +kernel
theorem dX0_numberFalls_71 : decode cX0_numberFalls 71 = .ok (.aload_n 0, 1) := by decide +kernel
theorem dX0_numberFalls_72 : decode cX0_numberFalls 72 = .ok (.getfield 15, 3) := by decide +kernel
theorem dX0_numberFalls_75 : decode cX0_numberFalls 75 = .ok (.invokevirtual 50, 3) := by decide +kernel
theorem dX0_numberFalls_78 : decode cX0_numberFalls 78 = .ok (.invokevirtual 53, 3) := by decide +kernel
theorem dX0_numberFalls_81 : decode cX0_numberFalls 81 = .ok (.invokevirtual 62, 3) := by decide +kernel
theorem dX0_numberFalls_84 : decode cX0_numberFalls 84 = .ok (.iinc 3 1, 3) := by decide +kernel
theorem dX0_numberFalls_87 : decode cX0_numberFalls 87 = .ok (.goto (-56), 3) := by decide +kernel
theorem dX0_numberFalls_90 : decode cX0_numberFalls 90 = .ok (.iload_n 2, 1) := by decide +kernel
theorem dX0_numberFalls_91 : decode cX0_numberFalls 91 = .ok (.ifCond .lt 18, 3) := by decide +kernel
theorem dX0_numberFalls_94 : decode cX0_numberFalls 94 = .ok (.iload_n 2, 1) := by decide +kernel
theorem dX0_numberFalls_95 : decode cX0_numberFalls 95 = .ok (.bipush 6, 2) := by decide +kernel
theorem dX0_numberFalls_97 : decode cX0_numberFalls 97 = .ok (.if_icmp .gt 12, 3) := by decide +kernel
theorem dX0_numberFalls_100 : decode cX0_numberFalls 100 = .ok (.aload_n 0, 1) := by decide +kernel
theorem dX0_numberFalls_101 : decode cX0_numberFalls 101 = .ok (.getfield 23, 3) := by decide +kernel
theorem dX0_numberFalls_104 : decode cX0_numberFalls 104 = .ok (.iload_n 2, 1) := by decide +kernel
theorem dX0_numberFalls_105 : decode cX0_numberFalls 105 = .ok (.laload, 1) := by decide +kernel
theorem dX0_numberFalls_106 : decode cX0_numberFalls 106 = .ok (.goto 4, 3) := by decide +kernel
theorem dX0_numberFalls_109 : decode cX0_numberFalls 109 = .ok (.lconst 0, 1) := by decide +kernel
theorem dX0_numberFalls_110 : decode cX0_numberFalls 110 = .ok (.lreturn, 1) := by decide +kernel
theorem dX0_addGroup_0 : decode cX0_addGroup 0 = .ok (.bipush 6, 2) := by decide +kernel
theorem dX0_addGroup_2 : decode cX0_addGroup 2 = .ok (.istore_n 3, 1) := by decide +kernel
theorem dX0_addGroup_3 : decode cX0_addGroup 3 = .ok (.iload_n 3, 1) := by decide +kernel
theorem dX0_addGroup_4 : decode cX0_addGroup 4 = .ok (.ifCond .lt 52, 3) := by decide +kernel
theorem dX0_addGroup_7 : decode cX0_addGroup 7 = .ok (.iload_n 3, 1) := by decide +kernel
theorem dX0_addGroup_8 : decode cX0_addGroup 8 = .ok (.iload_n 1, 1) := by decide +kernel
theorem dX0_addGroup_9 : decode cX0_addGroup 9 = .ok (.if_icmp .lt 14, 3) := by decide +kernel
theorem dX0_addGroup_12 : decode cX0_addGroup 12 = .ok (.aload_n 0, 1) := by decide +kernel
theorem dX0_addGroup_13 : decode cX0_addGroup 13 = .ok (.getfield 23, 3) := by decide +kernel
theorem dX0_addGroup_16 : decode cX0_addGroup 16 = .ok (.iload_n 3, 1) := by decide +kernel
theorem dX0_addGroup_17 : decode cX0_addGroup 17 = .ok (.iload_n 1, 1) := by decide +kernel
theorem dX0_addGroup_18 : decode cX0_addGroup 18 = .ok (.isub, 1) := by decide +kernel
theorem dX0_addGroup_19 : decode cX0_addGroup 19 = .ok (.laload, 1) := by decide +kernel
theorem dX0_addGroup_20 : decode cX0_addGroup 20 = .ok (.goto 4, 3) := by decide +kernel
theorem dX0_addGroup_23 : decode cX0_addGroup 23 = .ok (.lconst 0, 1) := by decide +kernel
theorem dX0_addGroup_24 : decode cX0_addGroup 24 = .ok (.lstore 4, 2) := by decide +kernel
theorem dX0_addGroup_26 : decode cX0_addGroup 26 = .ok (.aload_n 0, 1) := by decide +kernel
theorem dX0_addGroup_27 : decode cX0_addGroup 27 = .ok (.getfield 23, 3) := by decide +kernel
theorem dX0_addGroup_30 : decode cX0_addGroup 30 = .ok (.iload_n 3, 1) := by decide +kernel
theorem dX0_addGroup_31 : decode cX0_addGroup 31 = .ok (.aload_n 0, 1) := by decide +kernel
theorem dX0_addGroup_32 : decode cX0_addGroup 32 = .ok (.getfield 23, 3) := by decide +kernel
theorem dX0_addGroup_35 : decode cX0_addGroup 35 = .ok (.iload_n 3, 1) := by decide +kernel
theorem dX0_addGroup_36 : decode cX0_addGroup 36 = .ok (.laload, 1) := by decide +kernel
theorem dX0_addGroup_37 : decode cX0_addGroup 37 = .ok (.bipush 10, 2) := by decide +kernel
theorem dX0_addGroup_39 : decode cX0_addGroup 39 = .ok (.iload_n 2, 1) := by decide +kernel
theorem dX0_addGroup_40 : decode cX0_addGroup 40 = .ok (.isub, 1) := by decide +kernel
theorem dX0_addGroup_41 : decode cX0_addGroup 41 = .ok (.i2l, 1) := by decide +kernel
theorem dX0_addGroup_42 : decode cX0_addGroup 42 = .ok (.lmul, 1) := by decide +kernel
theorem dX0_addGroup_43 : decode cX0_addGroup 43 = .ok (.lload 4, 2) := by decide +kernel
theorem dX0_addGroup_45 : decode cX0_addGroup 45 = .ok (.iload_n 2, 1) := by decide +kernel
theorem dX0_addGroup_46 : decode cX0_addGroup 46 = .ok (.i2l, 1) := by decide +kernel
theorem dX0_addGroup_47 : decode cX0_addGroup 47 = .ok (.lmul, 1) := by decide +kernel
theorem dX0_addGroup_48 : decode cX0_addGroup 48 = .ok (.ladd, 1) := by decide +kernel
theorem dX0_addGroup_49 : decode cX0_addGroup 49 = .ok (.lastore, 1) := by decide +kernel
theorem dX0_addGroup_50 : decode cX0_addGroup 50 = .ok (.iinc 3 (-1), 3) := by decide +kernel
theorem dX0_addGroup_53 : decode cX0_addGroup 53 = .ok (.goto (-50), 3) := by decide +kernel
theorem dX0_addGroup_56 : decode cX0_addGroup 56 = .ok (.return_, 1) := by decide +kernel
set_option maxRecDepth 20000 in
theorem ggX0_leaderStays_X6_streak : GoodIn wsX0_leaderStays wsX6_streak := goodIn_r _ [8, 9, 53, 54, 55, 56] (by decide +kernel) (by decide +kernel)
set_option maxRecDepth 20000 in
theorem gX0_leaderStays_X6_streak : GoodIn wsX0_leaderStays (wsV RX0 50 RX6 yX6_streak wsX6_streak) := goodIn_app (goodIn_of _ (by decide +kernel)) ggX0_leaderStays_X6_streak
set_option maxRecDepth 20000 in
theorem ggX0_leaderStays_X7_length : GoodIn wsX0_leaderStays wsX7_length := goodIn_r _ [14, 15, 57, 58] (by decide +kernel) (by decide +kernel)
set_option maxRecDepth 20000 in
theorem gX0_leaderStays_X7_length : GoodIn wsX0_leaderStays (wsV RX0 66 RX7 yX7_length wsX7_length) := goodIn_app (goodIn_of _ (by decide +kernel)) ggX0_leaderStays_X7_length
set_option maxRecDepth 20000 in
theorem ggX0_leaderStays_X7_orderAt : GoodIn wsX0_leaderStays wsX7_orderAt := goodIn_r _ [19, 15, 20, 57, 58] (by decide +kernel) (by decide +kernel)
set_option maxRecDepth 20000 in
theorem gX0_leaderStays_X7_orderAt : GoodIn wsX0_leaderStays (wsV RX0 71 RX7 yX7_orderAt wsX7_orderAt) := goodIn_app (goodIn_of _ (by decide +kernel)) ggX0_leaderStays_X7_orderAt
set_option maxRecDepth 20000 in
theorem ggX0_leaderStays_X1_errsOf : GoodIn wsX0_leaderStays wsX1_errsOf := goodIn_r _ [25, 26, 27, 28, 29, 30, 31, 32, 24, 33, 34, 35, 36, 37, 38, 39, 40, 41, 42, 43, 44, 59, 60, 61, 62, 63] (by decide +kernel) (by decide +kernel)
set_option maxRecDepth 20000 in
theorem gX0_leaderStays_X1_errsOf : GoodIn wsX0_leaderStays (wsV RX0 53 RX1 yX1_errsOf wsX1_errsOf) := goodIn_app (goodIn_of _ (by decide +kernel)) ggX0_leaderStays_X1_errsOf
set_option maxRecDepth 20000 in
theorem ggX0_leaderStays_X9_streakBehind : GoodIn wsX0_leaderStays wsX9_streakBehind := goodIn_r _ [47, 48, 27, 28, 29] (by decide +kernel) (by decide +kernel)
set_option maxRecDepth 20000 in
theorem gX0_leaderStays_X9_streakBehind_n74 : GoodIn wsX0_leaderStays (wsX9_streakBehind) := ggX0_leaderStays_X9_streakBehind
theorem dX0_leaderStays_0 : decode cX0_leaderStays 0 = .ok (.lconst 1, 1) := by decide +kernel
theorem dX0_leaderStays_1 : decode cX0_leaderStays 1 = .ok (.lstore_n 2, 1) := by decide +kernel
theorem dX0_leaderStays_2 : decode cX0_leaderStays 2 = .ok (.aload_n 0, 1) := by decide +kernel
theorem dX0_leaderStays_3 : decode cX0_leaderStays 3 = .ok (.getfield 15, 3) := by decide +kernel
theorem dX0_leaderStays_6 : decode cX0_leaderStays 6 = .ok (.invokevirtual 50, 3) := by decide +kernel
theorem dX0_leaderStays_9 : decode cX0_leaderStays 9 = .ok (.istore 4, 2) := by decide +kernel
theorem dX0_leaderStays_11 : decode cX0_leaderStays 11 = .ok (.iconst 0, 1) := by decide +kernel
theorem dX0_leaderStays_12 : decode cX0_leaderStays 12 = .ok (.istore 5, 2) := by decide +kernel
theorem dX0_leaderStays_14 : decode cX0_leaderStays 14 = .ok (.iload 5, 2) := by decide +kernel
theorem dX0_leaderStays_16 : decode cX0_leaderStays 16 = .ok (.aload_n 0, 1) := by decide +kernel
theorem dX0_leaderStays_17 : decode cX0_leaderStays 17 = .ok (.getfield 19, 3) := by decide +kernel
theorem dX0_leaderStays_20 : decode cX0_leaderStays 20 = .ok (.invokevirtual 66, 3) := by decide +kernel
theorem dX0_leaderStays_23 : decode cX0_leaderStays 23 = .ok (.if_icmp .ge 48, 3) := by decide +kernel
theorem dX0_leaderStays_26 : decode cX0_leaderStays 26 = .ok (.aload_n 0, 1) := by decide +kernel
theorem dX0_leaderStays_27 : decode cX0_leaderStays 27 = .ok (.getfield 19, 3) := by decide +kernel
theorem dX0_leaderStays_30 : decode cX0_leaderStays 30 = .ok (.iload 5, 2) := by decide +kernel
theorem dX0_leaderStays_32 : decode cX0_leaderStays 32 = .ok (.invokevirtual 71, 3) := by decide +kernel
theorem dX0_leaderStays_35 : decode cX0_leaderStays 35 = .ok (.istore 6, 2) := by decide +kernel
theorem dX0_leaderStays_37 : decode cX0_leaderStays 37 = .ok (.lload_n 2, 1) := by decide +kernel
theorem dX0_leaderStays_38 : decode cX0_leaderStays 38 = .ok (.bipush 10, 2) := by decide +kernel
theorem dX0_leaderStays_40 : decode cX0_leaderStays 40 = .ok (.aload_n 0, 1) := by decide +kernel
theorem dX0_leaderStays_41 : decode cX0_leaderStays 41 = .ok (.getfield 9, 3) := by decide +kernel
theorem dX0_leaderStays_44 : decode cX0_leaderStays 44 = .ok (.iload_n 1, 1) := by decide +kernel
theorem dX0_leaderStays_45 : decode cX0_leaderStays 45 = .ok (.iload 6, 2) := by decide +kernel
theorem dX0_leaderStays_47 : decode cX0_leaderStays 47 = .ok (.iload 4, 2) := by decide +kernel
theorem dX0_leaderStays_49 : decode cX0_leaderStays 49 = .ok (.invokevirtual 53, 3) := by decide +kernel
theorem dX0_leaderStays_52 : decode cX0_leaderStays 52 = .ok (.isub, 1) := by decide +kernel
theorem dX0_leaderStays_53 : decode cX0_leaderStays 53 = .ok (.i2l, 1) := by decide +kernel
theorem dX0_leaderStays_54 : decode cX0_leaderStays 54 = .ok (.lmul, 1) := by decide +kernel
theorem dX0_leaderStays_55 : decode cX0_leaderStays 55 = .ok (.lstore_n 2, 1) := by decide +kernel
theorem dX0_leaderStays_56 : decode cX0_leaderStays 56 = .ok (.iload 6, 2) := by decide +kernel
theorem dX0_leaderStays_58 : decode cX0_leaderStays 58 = .ok (.iload 4, 2) := by decide +kernel
theorem dX0_leaderStays_60 : decode cX0_leaderStays 60 = .ok (.invokestatic 74, 3) := by decide +kernel
theorem dX0_leaderStays_63 : decode cX0_leaderStays 63 = .ok (.istore 4, 2) := by decide +kernel
theorem dX0_leaderStays_65 : decode cX0_leaderStays 65 = .ok (.iinc 5 1, 3) := by decide +kernel
theorem dX0_leaderStays_68 : decode cX0_leaderStays 68 = .ok (.goto (-54), 3) := by decide +kernel
theorem dX0_leaderStays_71 : decode cX0_leaderStays 71 = .ok (.lload_n 2, 1) := by decide +kernel
theorem dX0_leaderStays_72 : decode cX0_leaderStays 72 = .ok (.lreturn, 1) := by decide +kernel
set_option maxRecDepth 20000 in
theorem ggX0_justOneStays_X7_length : GoodIn wsX0_justOneStays wsX7_length := goodIn_r _ [8, 9, 97, 98] (by decide +kernel) (by decide +kernel)
set_option maxRecDepth 20000 in
theorem gX0_justOneStays_X7_length : GoodIn wsX0_justOneStays (wsV RX0 66 RX7 yX7_length wsX7_length) := goodIn_app (goodIn_of _ (by decide +kernel)) ggX0_justOneStays_X7_length
set_option maxRecDepth 20000 in
theorem ggX0_justOneStays_X9_powerOfTen : GoodIn wsX0_justOneStays wsX9_powerOfTen := goodIn_r _ [12, 13] (by decide +kernel) (by decide +kernel)
set_option maxRecDepth 20000 in
theorem gX0_justOneStays_X9_powerOfTen_n39 : GoodIn wsX0_justOneStays (wsX9_powerOfTen) := ggX0_justOneStays_X9_powerOfTen
set_option maxRecDepth 20000 in
theorem ggX0_justOneStays_X1_size : GoodIn wsX0_justOneStays wsX1_size := goodIn_r _ [18, 19, 99, 100, 101, 102, 103] (by decide +kernel) (by decide +kernel)
set_option maxRecDepth 20000 in
theorem gX0_justOneStays_X1_size : GoodIn wsX0_justOneStays (wsV RX0 27 RX1 yX1_size wsX1_size) := goodIn_app (goodIn_of _ (by decide +kernel)) ggX0_justOneStays_X1_size
set_option maxRecDepth 20000 in
theorem ggX0_justOneStays_X6_isLeader : GoodIn wsX0_justOneStays wsX6_isLeader := goodIn_r _ [24, 25, 26, 27, 23, 28, 29, 30, 31, 32, 33, 17, 34, 19, 35, 36, 37, 38, 39, 40, 41, 42, 43, 44, 104, 105, 106, 107, 99, 100, 101, 102, 103] (by decide +kernel) (by decide +kernel)
set_option maxRecDepth 20000 in
theorem gX0_justOneStays_X6_isLeader : GoodIn wsX0_justOneStays (wsV RX0 33 RX6 yX6_isLeader wsX6_isLeader) := goodIn_app (goodIn_of _ (by decide +kernel)) ggX0_justOneStays_X6_isLeader
set_option maxRecDepth 20000 in
theorem ggX0_justOneStays_X0_leaderStays : GoodIn wsX0_justOneStays wsX0_leaderStays := goodIn_r _ [49, 3, 1, 2, 50, 51, 52, 23, 53, 54, 4, 5, 6, 7, 8, 9, 55, 56, 57, 58, 59, 60, 61, 62, 17, 63, 64, 65, 66, 67, 68, 69, 70, 71, 72, 44, 32, 33, 34, 19, 73, 74, 75, 76, 77, 78, 11, 79, 80, 93, 94, 95, 96, 104, 105, 106, 107, 97, 98, 99, 100, 101, 102, 103] (by decide +kernel) (by decide +kernel)
set_option maxRecDepth 20000 in
theorem gX0_justOneStays_X0_leaderStays : GoodIn wsX0_justOneStays (wsV RX0 78 RX0 yX0_leaderStays wsX0_leaderStays) := goodIn_app (goodIn_of _ (by decide +kernel)) ggX0_justOneStays_X0_leaderStays
set_option maxRecDepth 20000 in
theorem ggX0_justOneStays_X6_groupOf : GoodIn wsX0_justOneStays wsX6_groupOf := goodIn_r _ [84, 29, 85, 15, 16, 17, 18, 19, 25, 26, 27, 23, 28, 30, 31, 32, 33, 34, 35, 36, 37, 38, 39, 40, 41, 42, 43, 44, 104, 105, 106, 107, 99, 100, 101, 102, 103] (by decide +kernel) (by decide +kernel)
set_option maxRecDepth 20000 in
theorem gX0_justOneStays_X6_groupOf : GoodIn wsX0_justOneStays (wsV RX0 46 RX6 yX6_groupOf wsX6_groupOf) := goodIn_app (goodIn_of _ (by decide +kernel)) ggX0_justOneStays_X6_groupOf
set_option maxRecDepth 20000 in
theorem ggX0_justOneStays_J6_bitCount_0f7a4 : GoodIn wsX0_justOneStays wsJ6_bitCount_0f7a4 := goodIn_r _ [89, 90, 91, 92] (by decide +kernel) (by decide +kernel)
set_option maxRecDepth 20000 in
theorem gX0_justOneStays_J6_bitCount_0f7a4 : GoodIn wsX0_justOneStays (va_wsS RX0 57 yJ6_bitCount_0f7a4 wsJ6_bitCount_0f7a4) := goodIn_app (goodIn_of _ (by decide +kernel)) ggX0_justOneStays_J6_bitCount_0f7a4
theorem dX0_justOneStays_0 : decode cX0_justOneStays 0 = .ok (.aload_n 0, 1) := by decide +kernel
theorem dX0_justOneStays_1 : decode cX0_justOneStays 1 = .ok (.getfield 19, 3) := by decide +kernel
theorem dX0_justOneStays_4 : decode cX0_justOneStays 4 = .ok (.invokevirtual 66, 3) := by decide +kernel
theorem dX0_justOneStays_7 : decode cX0_justOneStays 7 = .ok (.invokestatic 39, 3) := by decide +kernel
theorem dX0_justOneStays_10 : decode cX0_justOneStays 10 = .ok (.lstore_n 1, 1) := by decide +kernel
theorem dX0_justOneStays_11 : decode cX0_justOneStays 11 = .ok (.lconst 1, 1) := by decide +kernel
theorem dX0_justOneStays_12 : decode cX0_justOneStays 12 = .ok (.lstore_n 3, 1) := by decide +kernel
theorem dX0_justOneStays_13 : decode cX0_justOneStays 13 = .ok (.lconst 0, 1) := by decide +kernel
theorem dX0_justOneStays_14 : decode cX0_justOneStays 14 = .ok (.lstore 5, 2) := by decide +kernel
theorem dX0_justOneStays_16 : decode cX0_justOneStays 16 = .ok (.iconst 0, 1) := by decide +kernel
theorem dX0_justOneStays_17 : decode cX0_justOneStays 17 = .ok (.istore 7, 2) := by decide +kernel
theorem dX0_justOneStays_19 : decode cX0_justOneStays 19 = .ok (.iload 7, 2) := by decide +kernel
theorem dX0_justOneStays_21 : decode cX0_justOneStays 21 = .ok (.aload_n 0, 1) := by decide +kernel
theorem dX0_justOneStays_22 : decode cX0_justOneStays 22 = .ok (.getfield 9, 3) := by decide +kernel
theorem dX0_justOneStays_25 : decode cX0_justOneStays 25 = .ok (.invokevirtual 27, 3) := by decide +kernel
theorem dX0_justOneStays_28 : decode cX0_justOneStays 28 = .ok (.if_icmp .ge 84, 3) := by decide +kernel
theorem dX0_justOneStays_31 : decode cX0_justOneStays 31 = .ok (.aload_n 0, 1) := by decide +kernel
theorem dX0_justOneStays_32 : decode cX0_justOneStays 32 = .ok (.getfield 15, 3) := by decide +kernel
theorem dX0_justOneStays_35 : decode cX0_justOneStays 35 = .ok (.iload 7, 2) := by decide +kernel
theorem dX0_justOneStays_37 : decode cX0_justOneStays 37 = .ok (.invokevirtual 33, 3) := by decide +kernel
theorem dX0_justOneStays_40 : decode cX0_justOneStays 40 = .ok (.ifCond .eq 66, 3) := by decide +kernel
theorem dX0_justOneStays_43 : decode cX0_justOneStays 43 = .ok (.aload_n 0, 1) := by decide +kernel
theorem dX0_justOneStays_44 : decode cX0_justOneStays 44 = .ok (.iload 7, 2) := by decide +kernel
theorem dX0_justOneStays_46 : decode cX0_justOneStays 46 = .ok (.invokevirtual 78, 3) := by decide +kernel
theorem dX0_justOneStays_49 : decode cX0_justOneStays 49 = .ok (.lstore 8, 2) := by decide +kernel
theorem dX0_justOneStays_51 : decode cX0_justOneStays 51 = .ok (.lload_n 1, 1) := by decide +kernel
theorem dX0_justOneStays_52 : decode cX0_justOneStays 52 = .ok (.lload 8, 2) := by decide +kernel
theorem dX0_justOneStays_54 : decode cX0_justOneStays 54 = .ok (.lsub, 1) := by decide +kernel
theorem dX0_justOneStays_55 : decode cX0_justOneStays 55 = .ok (.lstore 10, 2) := by decide +kernel
theorem dX0_justOneStays_57 : decode cX0_justOneStays 57 = .ok (.aload_n 0, 1) := by decide +kernel
theorem dX0_justOneStays_58 : decode cX0_justOneStays 58 = .ok (.getfield 15, 3) := by decide +kernel
theorem dX0_justOneStays_61 : decode cX0_justOneStays 61 = .ok (.iload 7, 2) := by decide +kernel
theorem dX0_justOneStays_63 : decode cX0_justOneStays 63 = .ok (.invokevirtual 46, 3) := by decide +kernel
theorem dX0_justOneStays_66 : decode cX0_justOneStays 66 = .ok (.invokestatic 57, 3) := by decide +kernel
theorem dX0_justOneStays_69 : decode cX0_justOneStays 69 = .ok (.iconst 1, 1) := by decide +kernel
theorem dX0_justOneStays_70 : decode cX0_justOneStays 70 = .ok (.if_icmp .ne 7, 3) := by decide +kernel
theorem dX0_justOneStays_73 : decode cX0_justOneStays 73 = .ok (.iconst 1, 1) := by decide +kernel
theorem dX0_justOneStays_74 : decode cX0_justOneStays 74 = .ok (.goto 4, 3) := by decide +kernel
theorem dX0_justOneStays_77 : decode cX0_justOneStays 77 = .ok (.iconst 0, 1) := by decide +kernel
theorem dX0_justOneStays_78 : decode cX0_justOneStays 78 = .ok (.istore 12, 2) := by decide +kernel
theorem dX0_justOneStays_80 : decode cX0_justOneStays 80 = .ok (.lload 5, 2) := by decide +kernel
theorem dX0_justOneStays_82 : decode cX0_justOneStays 82 = .ok (.lload 10, 2) := by decide +kernel
theorem dX0_justOneStays_84 : decode cX0_justOneStays 84 = .ok (.lmul, 1) := by decide +kernel
theorem dX0_justOneStays_85 : decode cX0_justOneStays 85 = .ok (.iload 12, 2) := by decide +kernel
theorem dX0_justOneStays_87 : decode cX0_justOneStays 87 = .ok (.ifCond .eq 10, 3) := by decide +kernel
theorem dX0_justOneStays_90 : decode cX0_justOneStays 90 = .ok (.lload_n 3, 1) := by decide +kernel
theorem dX0_justOneStays_91 : decode cX0_justOneStays 91 = .ok (.lload 8, 2) := by decide +kernel
theorem dX0_justOneStays_93 : decode cX0_justOneStays 93 = .ok (.lmul, 1) := by decide +kernel
theorem dX0_justOneStays_94 : decode cX0_justOneStays 94 = .ok (.goto 4, 3) := by decide +kernel
theorem dX0_justOneStays_97 : decode cX0_justOneStays 97 = .ok (.lconst 0, 1) := by decide +kernel
theorem dX0_justOneStays_98 : decode cX0_justOneStays 98 = .ok (.ladd, 1) := by decide +kernel
theorem dX0_justOneStays_99 : decode cX0_justOneStays 99 = .ok (.lstore 5, 2) := by decide +kernel
theorem dX0_justOneStays_101 : decode cX0_justOneStays 101 = .ok (.lload_n 3, 1) := by decide +kernel
theorem dX0_justOneStays_102 : decode cX0_justOneStays 102 = .ok (.lload 10, 2) := by decide +kernel
theorem dX0_justOneStays_104 : decode cX0_justOneStays 104 = .ok (.lmul, 1) := by decide +kernel
theorem dX0_justOneStays_105 : decode cX0_justOneStays 105 = .ok (.lstore_n 3, 1) := by decide +kernel
theorem dX0_justOneStays_106 : decode cX0_justOneStays 106 = .ok (.iinc 7 1, 3) := by decide +kernel
theorem dX0_justOneStays_109 : decode cX0_justOneStays 109 = .ok (.goto (-90), 3) := by decide +kernel
theorem dX0_justOneStays_112 : decode cX0_justOneStays 112 = .ok (.lload 5, 2) := by decide +kernel
theorem dX0_justOneStays_114 : decode cX0_justOneStays 114 = .ok (.lreturn, 1) := by decide +kernel
set_option maxRecDepth 20000 in
theorem ggX0_bestRow_X0_rowNumber : GoodIn wsX0_bestRow wsX0_rowNumber := goodIn_r _ [6] (by decide +kernel) (by decide +kernel)
set_option maxRecDepth 20000 in
theorem gX0_bestRow_X0_rowNumber : GoodIn wsX0_bestRow (va_wsS RX0 83 yX0_rowNumber wsX0_rowNumber) := goodIn_app (goodIn_of _ (by decide +kernel)) ggX0_bestRow_X0_rowNumber
set_option maxRecDepth 20000 in
theorem ggX0_bestRow_X7_read : GoodIn wsX0_bestRow wsX7_read := goodIn_r _ [11, 12, 13, 14, 15, 16, 111, 112] (by decide +kernel) (by decide +kernel)
set_option maxRecDepth 20000 in
theorem gX0_bestRow_X7_read : GoodIn wsX0_bestRow (wsV RX0 86 RX7 yX7_read wsX7_read) := goodIn_app (goodIn_of _ (by decide +kernel)) ggX0_bestRow_X7_read
set_option maxRecDepth 20000 in
theorem ggX0_bestRow_X0_justOneStays : GoodIn wsX0_bestRow wsX0_justOneStays := goodIn_r _ [20, 2, 21, 22, 23, 24, 25, 10, 26, 12, 27, 15, 28, 29, 30, 31, 32, 33, 34, 35, 36, 37, 38, 39, 40, 41, 42, 43, 44, 45, 46, 47, 48, 49, 50, 51, 52, 53, 54, 55, 56, 57, 58, 59, 60, 61, 62, 63, 5, 64, 65, 66, 67, 68, 69, 70, 71, 72, 73, 13, 74, 75, 76, 77, 78, 79, 80, 81, 82, 83, 84, 85, 86, 87, 88, 89, 90, 91, 92, 93, 94, 95, 96, 97, 98, 99, 100, 101, 102, 103, 104, 105, 106, 107, 108, 109, 110, 111, 112, 113, 114, 115, 116, 117, 118, 119, 120, 121] (by decide +kernel) (by decide +kernel)
set_option maxRecDepth 20000 in
theorem gX0_bestRow_X0_justOneStays : GoodIn wsX0_bestRow (wsV RX0 90 RX0 yX0_justOneStays wsX0_justOneStays) := goodIn_app (goodIn_of _ (by decide +kernel)) ggX0_bestRow_X0_justOneStays
theorem dX0_bestRow_0 : decode cX0_bestRow 0 = .ok (.iconst 0, 1) := by decide +kernel
theorem dX0_bestRow_1 : decode cX0_bestRow 1 = .ok (.istore_n 2, 1) := by decide +kernel
theorem dX0_bestRow_2 : decode cX0_bestRow 2 = .ok (.ldc2_w 81, 3) := by decide +kernel
theorem dX0_bestRow_5 : decode cX0_bestRow 5 = .ok (.lstore_n 3, 1) := by decide +kernel
theorem dX0_bestRow_6 : decode cX0_bestRow 6 = .ok (.iconst 0, 1) := by decide +kernel
theorem dX0_bestRow_7 : decode cX0_bestRow 7 = .ok (.istore 5, 2) := by decide +kernel
theorem dX0_bestRow_9 : decode cX0_bestRow 9 = .ok (.iload 5, 2) := by decide +kernel
theorem dX0_bestRow_11 : decode cX0_bestRow 11 = .ok (.iconst 1, 1) := by decide +kernel
theorem dX0_bestRow_12 : decode cX0_bestRow 12 = .ok (.iconst 2, 1) := by decide +kernel
theorem dX0_bestRow_13 : decode cX0_bestRow 13 = .ok (.iload_n 1, 1) := by decide +kernel
theorem dX0_bestRow_14 : decode cX0_bestRow 14 = .ok (.imul, 1) := by decide +kernel
theorem dX0_bestRow_15 : decode cX0_bestRow 15 = .ok (.ishl, 1) := by decide +kernel
theorem dX0_bestRow_16 : decode cX0_bestRow 16 = .ok (.if_icmp .ge 49, 3) := by decide +kernel
theorem dX0_bestRow_19 : decode cX0_bestRow 19 = .ok (.iload 5, 2) := by decide +kernel
theorem dX0_bestRow_21 : decode cX0_bestRow 21 = .ok (.iload_n 1, 1) := by decide +kernel
theorem dX0_bestRow_22 : decode cX0_bestRow 22 = .ok (.invokestatic 83, 3) := by decide +kernel
theorem dX0_bestRow_25 : decode cX0_bestRow 25 = .ok (.istore 6, 2) := by decide +kernel
theorem dX0_bestRow_27 : decode cX0_bestRow 27 = .ok (.aload_n 0, 1) := by decide +kernel
theorem dX0_bestRow_28 : decode cX0_bestRow 28 = .ok (.getfield 19, 3) := by decide +kernel
theorem dX0_bestRow_31 : decode cX0_bestRow 31 = .ok (.iload 6, 2) := by decide +kernel
theorem dX0_bestRow_33 : decode cX0_bestRow 33 = .ok (.iload_n 1, 1) := by decide +kernel
theorem dX0_bestRow_34 : decode cX0_bestRow 34 = .ok (.invokevirtual 86, 3) := by decide +kernel
theorem dX0_bestRow_37 : decode cX0_bestRow 37 = .ok (.ifCond .eq 22, 3) := by decide +kernel
theorem dX0_bestRow_40 : decode cX0_bestRow 40 = .ok (.aload_n 0, 1) := by decide +kernel
theorem dX0_bestRow_41 : decode cX0_bestRow 41 = .ok (.invokevirtual 90, 3) := by decide +kernel
theorem dX0_bestRow_44 : decode cX0_bestRow 44 = .ok (.lstore 7, 2) := by decide +kernel
theorem dX0_bestRow_46 : decode cX0_bestRow 46 = .ok (.lload 7, 2) := by decide +kernel
theorem dX0_bestRow_48 : decode cX0_bestRow 48 = .ok (.lload_n 3, 1) := by decide +kernel
theorem dX0_bestRow_49 : decode cX0_bestRow 49 = .ok (.lcmp, 1) := by decide +kernel
theorem dX0_bestRow_50 : decode cX0_bestRow 50 = .ok (.ifCond .le 9, 3) := by decide +kernel
theorem dX0_bestRow_53 : decode cX0_bestRow 53 = .ok (.lload 7, 2) := by decide +kernel
theorem dX0_bestRow_55 : decode cX0_bestRow 55 = .ok (.lstore_n 3, 1) := by decide +kernel
theorem dX0_bestRow_56 : decode cX0_bestRow 56 = .ok (.iload 6, 2) := by decide +kernel
theorem dX0_bestRow_58 : decode cX0_bestRow 58 = .ok (.istore_n 2, 1) := by decide +kernel
theorem dX0_bestRow_59 : decode cX0_bestRow 59 = .ok (.iinc 5 1, 3) := by decide +kernel
theorem dX0_bestRow_62 : decode cX0_bestRow 62 = .ok (.goto (-53), 3) := by decide +kernel
theorem dX0_bestRow_65 : decode cX0_bestRow 65 = .ok (.iload_n 2, 1) := by decide +kernel
theorem dX0_bestRow_66 : decode cX0_bestRow 66 = .ok (.ireturn, 1) := by decide +kernel
theorem dX0_rowNumber_0 : decode cX0_rowNumber 0 = .ok (.iconst 0, 1) := by decide +kernel
theorem dX0_rowNumber_1 : decode cX0_rowNumber 1 = .ok (.istore_n 2, 1) := by decide +kernel
theorem dX0_rowNumber_2 : decode cX0_rowNumber 2 = .ok (.iload_n 1, 1) := by decide +kernel
theorem dX0_rowNumber_3 : decode cX0_rowNumber 3 = .ok (.iconst 1, 1) := by decide +kernel
theorem dX0_rowNumber_4 : decode cX0_rowNumber 4 = .ok (.isub, 1) := by decide +kernel
theorem dX0_rowNumber_5 : decode cX0_rowNumber 5 = .ok (.istore_n 3, 1) := by decide +kernel
theorem dX0_rowNumber_6 : decode cX0_rowNumber 6 = .ok (.iload_n 3, 1) := by decide +kernel
theorem dX0_rowNumber_7 : decode cX0_rowNumber 7 = .ok (.ifCond .lt 24, 3) := by decide +kernel
theorem dX0_rowNumber_10 : decode cX0_rowNumber 10 = .ok (.iload_n 2, 1) := by decide +kernel
theorem dX0_rowNumber_11 : decode cX0_rowNumber 11 = .ok (.bipush 10, 2) := by decide +kernel
theorem dX0_rowNumber_13 : decode cX0_rowNumber 13 = .ok (.imul, 1) := by decide +kernel
theorem dX0_rowNumber_14 : decode cX0_rowNumber 14 = .ok (.iload_n 0, 1) := by decide +kernel
theorem dX0_rowNumber_15 : decode cX0_rowNumber 15 = .ok (.iconst 2, 1) := by decide +kernel
theorem dX0_rowNumber_16 : decode cX0_rowNumber 16 = .ok (.iload_n 3, 1) := by decide +kernel
theorem dX0_rowNumber_17 : decode cX0_rowNumber 17 = .ok (.imul, 1) := by decide +kernel
theorem dX0_rowNumber_18 : decode cX0_rowNumber 18 = .ok (.ishr, 1) := by decide +kernel
theorem dX0_rowNumber_19 : decode cX0_rowNumber 19 = .ok (.iconst 3, 1) := by decide +kernel
theorem dX0_rowNumber_20 : decode cX0_rowNumber 20 = .ok (.iand, 1) := by decide +kernel
theorem dX0_rowNumber_21 : decode cX0_rowNumber 21 = .ok (.iadd, 1) := by decide +kernel
theorem dX0_rowNumber_22 : decode cX0_rowNumber 22 = .ok (.iconst 1, 1) := by decide +kernel
theorem dX0_rowNumber_23 : decode cX0_rowNumber 23 = .ok (.iadd, 1) := by decide +kernel
theorem dX0_rowNumber_24 : decode cX0_rowNumber 24 = .ok (.istore_n 2, 1) := by decide +kernel
theorem dX0_rowNumber_25 : decode cX0_rowNumber 25 = .ok (.iinc 3 (-1), 3) := by decide +kernel
theorem dX0_rowNumber_28 : decode cX0_rowNumber 28 = .ok (.goto (-22), 3) := by decide +kernel
theorem dX0_rowNumber_31 : decode cX0_rowNumber 31 = .ok (.iload_n 2, 1) := by decide +kernel
theorem dX0_rowNumber_32 : decode cX0_rowNumber 32 = .ok (.ireturn, 1) := by decide +kernel
set_option maxRecDepth 20000 in
theorem ggX0_ordersThatCould_X0_setFalls : GoodIn wsX0_ordersThatCould wsX0_setFalls := goodIn_r _ [5, 6, 7, 8, 9, 10, 11, 12, 13, 14, 15, 16, 17, 18, 19, 20, 21, 22, 23, 24, 25, 26, 27, 28, 29, 30, 31, 32, 33, 34, 35, 36, 37, 38, 39, 40, 41, 42, 43, 44, 45, 46, 47, 48, 49, 50, 51, 52, 53, 54, 55, 56, 57, 58, 59, 60, 61, 62, 63, 64, 65, 66, 67, 68, 69, 70, 71, 72, 73, 74, 75, 76, 77, 78, 79, 80, 81, 82, 83] (by decide +kernel) (by decide +kernel)
set_option maxRecDepth 20000 in
theorem gX0_ordersThatCould_X0_setFalls : GoodIn wsX0_ordersThatCould (wsV RX0 94 RX0 yX0_setFalls wsX0_setFalls) := goodIn_app (goodIn_of _ (by decide +kernel)) ggX0_ordersThatCould_X0_setFalls
theorem dX0_ordersThatCould_0 : decode cX0_ordersThatCould 0 = .ok (.iconst 0, 1) := by decide +kernel
theorem dX0_ordersThatCould_1 : decode cX0_ordersThatCould 1 = .ok (.istore_n 2, 1) := by decide +kernel
theorem dX0_ordersThatCould_2 : decode cX0_ordersThatCould 2 = .ok (.iconst 1, 1) := by decide +kernel
theorem dX0_ordersThatCould_3 : decode cX0_ordersThatCould 3 = .ok (.istore_n 3, 1) := by decide +kernel
theorem dX0_ordersThatCould_4 : decode cX0_ordersThatCould 4 = .ok (.iload_n 3, 1) := by decide +kernel
theorem dX0_ordersThatCould_5 : decode cX0_ordersThatCould 5 = .ok (.iconst 4, 1) := by decide +kernel
theorem dX0_ordersThatCould_6 : decode cX0_ordersThatCould 6 = .ok (.if_icmp .gt 26, 3) := by decide +kernel
theorem dX0_ordersThatCould_9 : decode cX0_ordersThatCould 9 = .ok (.aload_n 0, 1) := by decide +kernel
theorem dX0_ordersThatCould_10 : decode cX0_ordersThatCould 10 = .ok (.iload_n 3, 1) := by decide +kernel
theorem dX0_ordersThatCould_11 : decode cX0_ordersThatCould 11 = .ok (.iload_n 1, 1) := by decide +kernel
theorem dX0_ordersThatCould_12 : decode cX0_ordersThatCould 12 = .ok (.invokevirtual 94, 3) := by decide +kernel
theorem dX0_ordersThatCould_15 : decode cX0_ordersThatCould 15 = .ok (.lconst 0, 1) := by decide +kernel
theorem dX0_ordersThatCould_16 : decode cX0_ordersThatCould 16 = .ok (.lcmp, 1) := by decide +kernel
theorem dX0_ordersThatCould_17 : decode cX0_ordersThatCould 17 = .ok (.ifCond .le 9, 3) := by decide +kernel
theorem dX0_ordersThatCould_20 : decode cX0_ordersThatCould 20 = .ok (.iload_n 2, 1) := by decide +kernel
theorem dX0_ordersThatCould_21 : decode cX0_ordersThatCould 21 = .ok (.iconst 1, 1) := by decide +kernel
theorem dX0_ordersThatCould_22 : decode cX0_ordersThatCould 22 = .ok (.iload_n 3, 1) := by decide +kernel
theorem dX0_ordersThatCould_23 : decode cX0_ordersThatCould 23 = .ok (.ishl, 1) := by decide +kernel
theorem dX0_ordersThatCould_24 : decode cX0_ordersThatCould 24 = .ok (.ior, 1) := by decide +kernel
theorem dX0_ordersThatCould_25 : decode cX0_ordersThatCould 25 = .ok (.istore_n 2, 1) := by decide +kernel
theorem dX0_ordersThatCould_26 : decode cX0_ordersThatCould 26 = .ok (.iinc 3 1, 3) := by decide +kernel
theorem dX0_ordersThatCould_29 : decode cX0_ordersThatCould 29 = .ok (.goto (-25), 3) := by decide +kernel
theorem dX0_ordersThatCould_32 : decode cX0_ordersThatCould 32 = .ok (.iload_n 2, 1) := by decide +kernel
theorem dX0_ordersThatCould_33 : decode cX0_ordersThatCould 33 = .ok (.ireturn, 1) := by decide +kernel
set_option maxRecDepth 20000 in
theorem ggX0_likeliestOrder_X0_setFalls : GoodIn wsX0_likeliestOrder wsX0_setFalls := goodIn_r _ [5, 6, 7, 8, 9, 10, 11, 12, 13, 14, 15, 16, 17, 18, 19, 20, 21, 22, 23, 24, 25, 26, 27, 28, 29, 30, 31, 32, 33, 34, 35, 36, 37, 38, 39, 40, 41, 42, 43, 44, 45, 46, 47, 48, 49, 50, 51, 52, 53, 54, 55, 56, 57, 58, 59, 60, 61, 62, 63, 64, 65, 66, 67, 68, 69, 70, 71, 72, 73, 74, 75, 76, 77, 78, 79, 80, 81, 82, 83] (by decide +kernel) (by decide +kernel)
set_option maxRecDepth 20000 in
theorem gX0_likeliestOrder_X0_setFalls : GoodIn wsX0_likeliestOrder (wsV RX0 94 RX0 yX0_setFalls wsX0_setFalls) := goodIn_app (goodIn_of _ (by decide +kernel)) ggX0_likeliestOrder_X0_setFalls
theorem dX0_likeliestOrder_0 : decode cX0_likeliestOrder 0 = .ok (.bipush (-9), 2) := by decide +kernel
theorem dX0_likeliestOrder_2 : decode cX0_likeliestOrder 2 = .ok (.istore_n 2, 1) := by decide +kernel
theorem dX0_likeliestOrder_3 : decode cX0_likeliestOrder 3 = .ok (.lconst 0, 1) := by decide +kernel
theorem dX0_likeliestOrder_4 : decode cX0_likeliestOrder 4 = .ok (.lstore_n 3, 1) := by decide +kernel
theorem dX0_likeliestOrder_5 : decode cX0_likeliestOrder 5 = .ok (.iconst 1, 1) := by decide +kernel
theorem dX0_likeliestOrder_6 : decode cX0_likeliestOrder 6 = .ok (.istore 5, 2) := by decide +kernel
theorem dX0_likeliestOrder_8 : decode cX0_likeliestOrder 8 = .ok (.iload 5, 2) := by decide +kernel
theorem dX0_likeliestOrder_10 : decode cX0_likeliestOrder 10 = .ok (.iconst 4, 1) := by decide +kernel
theorem dX0_likeliestOrder_11 : decode cX0_likeliestOrder 11 = .ok (.if_icmp .gt 31, 3) := by decide +kernel
theorem dX0_likeliestOrder_14 : decode cX0_likeliestOrder 14 = .ok (.aload_n 0, 1) := by decide +kernel
theorem dX0_likeliestOrder_15 : decode cX0_likeliestOrder 15 = .ok (.iload 5, 2) := by decide +kernel
theorem dX0_likeliestOrder_17 : decode cX0_likeliestOrder 17 = .ok (.iload_n 1, 1) := by decide +kernel
theorem dX0_likeliestOrder_18 : decode cX0_likeliestOrder 18 = .ok (.invokevirtual 94, 3) := by decide +kernel
theorem dX0_likeliestOrder_21 : decode cX0_likeliestOrder 21 = .ok (.lstore 6, 2) := by decide +kernel
theorem dX0_likeliestOrder_23 : decode cX0_likeliestOrder 23 = .ok (.lload 6, 2) := by decide +kernel
theorem dX0_likeliestOrder_25 : decode cX0_likeliestOrder 25 = .ok (.lload_n 3, 1) := by decide +kernel
theorem dX0_likeliestOrder_26 : decode cX0_likeliestOrder 26 = .ok (.lcmp, 1) := by decide +kernel
theorem dX0_likeliestOrder_27 : decode cX0_likeliestOrder 27 = .ok (.ifCond .le 9, 3) := by decide +kernel
theorem dX0_likeliestOrder_30 : decode cX0_likeliestOrder 30 = .ok (.lload 6, 2) := by decide +kernel
theorem dX0_likeliestOrder_32 : decode cX0_likeliestOrder 32 = .ok (.lstore_n 3, 1) := by decide +kernel
theorem dX0_likeliestOrder_33 : decode cX0_likeliestOrder 33 = .ok (.iload 5, 2) := by decide +kernel
theorem dX0_likeliestOrder_35 : decode cX0_likeliestOrder 35 = .ok (.istore_n 2, 1) := by decide +kernel
theorem dX0_likeliestOrder_36 : decode cX0_likeliestOrder 36 = .ok (.iinc 5 1, 3) := by decide +kernel
theorem dX0_likeliestOrder_39 : decode cX0_likeliestOrder 39 = .ok (.goto (-31), 3) := by decide +kernel
theorem dX0_likeliestOrder_42 : decode cX0_likeliestOrder 42 = .ok (.iload_n 2, 1) := by decide +kernel
theorem dX0_likeliestOrder_43 : decode cX0_likeliestOrder 43 = .ok (.ireturn, 1) := by decide +kernel
end
section
theorem dX1_init_0 : decode cX1_init 0 = .ok (.aload_n 0, 1) := by decide +kernel
theorem dX1_init_1 : decode cX1_init 1 = .ok (.invokespecial 3, 3) := by decide +kernel
theorem dX1_init_4 : decode cX1_init 4 = .ok (.aload_n 0, 1) := by decide +kernel
theorem dX1_init_5 : decode cX1_init 5 = .ok (.bipush 6, 2) := by decide +kernel
theorem dX1_init_7 : decode cX1_init 7 = .ok (.newarray .int, 2) := by decide +kernel
theorem dX1_init_9 : decode cX1_init 9 = .ok (.putfield 9, 3) := by decide +kernel
theorem dX1_init_12 : decode cX1_init 12 = .ok (.aload_n 0, 1) := by decide +kernel
theorem dX1_init_13 : decode cX1_init 13 = .ok (.bipush 6, 2) := by decide +kernel
theorem dX1_init_15 : decode cX1_init 15 = .ok (.newarray .int, 2) := by decide +kernel
theorem dX1_init_17 : decode cX1_init 17 = .ok (.putfield 15, 3) := by decide +kernel
theorem dX1_init_20 : decode cX1_init 20 = .ok (.aload_n 0, 1) := by decide +kernel
theorem dX1_init_21 : decode cX1_init 21 = .ok (.bipush 6, 2) := by decide +kernel
theorem dX1_init_23 : decode cX1_init 23 = .ok (.newarray .int, 2) := by decide +kernel
theorem dX1_init_25 : decode cX1_init 25 = .ok (.putfield 18, 3) := by decide +kernel
theorem dX1_init_28 : decode cX1_init 28 = .ok (.return_, 1) := by decide +kernel
theorem dX1_forget_0 : decode cX1_forget 0 = .ok (.aload_n 0, 1) := by decide +kernel
theorem dX1_forget_1 : decode cX1_forget 1 = .ok (.iconst 0, 1) := by decide +kernel
theorem dX1_forget_2 : decode cX1_forget 2 = .ok (.putfield 21, 3) := by decide +kernel
theorem dX1_forget_5 : decode cX1_forget 5 = .ok (.aload_n 0, 1) := by decide +kernel
theorem dX1_forget_6 : decode cX1_forget 6 = .ok (.iconst 0, 1) := by decide +kernel
theorem dX1_forget_7 : decode cX1_forget 7 = .ok (.putfield 25, 3) := by decide +kernel
theorem dX1_forget_10 : decode cX1_forget 10 = .ok (.return_, 1) := by decide +kernel
theorem dX1_add_0 : decode cX1_add 0 = .ok (.aload_n 0, 1) := by decide +kernel
theorem dX1_add_1 : decode cX1_add 1 = .ok (.getfield 21, 3) := by decide +kernel
theorem dX1_add_4 : decode cX1_add 4 = .ok (.bipush 6, 2) := by decide +kernel
theorem dX1_add_6 : decode cX1_add 6 = .ok (.if_icmp .ge 43, 3) := by decide +kernel
theorem dX1_add_9 : decode cX1_add 9 = .ok (.aload_n 0, 1) := by decide +kernel
theorem dX1_add_10 : decode cX1_add 10 = .ok (.getfield 9, 3) := by decide +kernel
theorem dX1_add_13 : decode cX1_add 13 = .ok (.aload_n 0, 1) := by decide +kernel
theorem dX1_add_14 : decode cX1_add 14 = .ok (.getfield 21, 3) := by decide +kernel
theorem dX1_add_17 : decode cX1_add 17 = .ok (.iload_n 1, 1) := by decide +kernel
theorem dX1_add_18 : decode cX1_add 18 = .ok (.iastore, 1) := by decide +kernel
theorem dX1_add_19 : decode cX1_add 19 = .ok (.aload_n 0, 1) := by decide +kernel
theorem dX1_add_20 : decode cX1_add 20 = .ok (.getfield 15, 3) := by decide +kernel
theorem dX1_add_23 : decode cX1_add 23 = .ok (.aload_n 0, 1) := by decide +kernel
theorem dX1_add_24 : decode cX1_add 24 = .ok (.getfield 21, 3) := by decide +kernel
theorem dX1_add_27 : decode cX1_add 27 = .ok (.iload_n 2, 1) := by decide +kernel
theorem dX1_add_28 : decode cX1_add 28 = .ok (.iastore, 1) := by decide +kernel
theorem dX1_add_29 : decode cX1_add 29 = .ok (.aload_n 0, 1) := by decide +kernel
theorem dX1_add_30 : decode cX1_add 30 = .ok (.getfield 18, 3) := by decide +kernel
theorem dX1_add_33 : decode cX1_add 33 = .ok (.aload_n 0, 1) := by decide +kernel
theorem dX1_add_34 : decode cX1_add 34 = .ok (.getfield 21, 3) := by decide +kernel
theorem dX1_add_37 : decode cX1_add 37 = .ok (.iload_n 3, 1) := by decide +kernel
theorem dX1_add_38 : decode cX1_add 38 = .ok (.iastore, 1) := by decide +kernel
theorem dX1_add_39 : decode cX1_add 39 = .ok (.aload_n 0, 1) := by decide +kernel
theorem dX1_add_40 : decode cX1_add 40 = .ok (.dup, 1) := by decide +kernel
theorem dX1_add_41 : decode cX1_add 41 = .ok (.getfield 21, 3) := by decide +kernel
theorem dX1_add_44 : decode cX1_add 44 = .ok (.iconst 1, 1) := by decide +kernel
theorem dX1_add_45 : decode cX1_add 45 = .ok (.iadd, 1) := by decide +kernel
theorem dX1_add_46 : decode cX1_add 46 = .ok (.putfield 21, 3) := by decide +kernel
theorem dX1_add_49 : decode cX1_add 49 = .ok (.return_, 1) := by decide +kernel
theorem dX1_makeLittle_0 : decode cX1_makeLittle 0 = .ok (.aload_n 0, 1) := by decide +kernel
theorem dX1_makeLittle_1 : decode cX1_makeLittle 1 = .ok (.dup, 1) := by decide +kernel
theorem dX1_makeLittle_2 : decode cX1_makeLittle 2 = .ok (.getfield 25, 3) := by decide +kernel
theorem dX1_makeLittle_5 : decode cX1_makeLittle 5 = .ok (.iconst 1, 1) := by decide +kernel
theorem dX1_makeLittle_6 : decode cX1_makeLittle 6 = .ok (.iload_n 1, 1) := by decide +kernel
theorem dX1_makeLittle_7 : decode cX1_makeLittle 7 = .ok (.ishl, 1) := by decide +kernel
theorem dX1_makeLittle_8 : decode cX1_makeLittle 8 = .ok (.ior, 1) := by decide +kernel
theorem dX1_makeLittle_9 : decode cX1_makeLittle 9 = .ok (.putfield 25, 3) := by decide +kernel
theorem dX1_makeLittle_12 : decode cX1_makeLittle 12 = .ok (.return_, 1) := by decide +kernel
set_option maxRecDepth 20000 in
theorem ggX1_takeOver_X1_forget : GoodIn wsX1_takeOver wsX1_forget := goodIn_r _ [7, 1, 2, 31, 32, 33, 34, 35] (by decide +kernel) (by decide +kernel)
set_option maxRecDepth 20000 in
theorem gX1_takeOver_X1_forget : GoodIn wsX1_takeOver (wsV RX1 28 RX1 yX1_forget wsX1_forget) := goodIn_app (goodIn_of _ (by decide +kernel)) ggX1_takeOver_X1_forget
set_option maxRecDepth 20000 in
theorem ggX1_takeOver_X1_slipOf : GoodIn wsX1_takeOver wsX1_slipOf := goodIn_r _ [11, 12, 13, 14, 15, 6, 16, 1, 31, 32, 33, 34, 35] (by decide +kernel) (by decide +kernel)
set_option maxRecDepth 20000 in
theorem gX1_takeOver_X1_slipOf : GoodIn wsX1_takeOver (wsV RX1 31 RX1 yX1_slipOf wsX1_slipOf) := goodIn_app (goodIn_of _ (by decide +kernel)) ggX1_takeOver_X1_slipOf
set_option maxRecDepth 20000 in
theorem ggX1_takeOver_X1_lateOf : GoodIn wsX1_takeOver wsX1_lateOf := goodIn_r _ [20, 21, 13, 14, 15, 6, 16, 1, 31, 32, 33, 34, 35] (by decide +kernel) (by decide +kernel)
set_option maxRecDepth 20000 in
theorem gX1_takeOver_X1_lateOf : GoodIn wsX1_takeOver (wsV RX1 35 RX1 yX1_lateOf wsX1_lateOf) := goodIn_app (goodIn_of _ (by decide +kernel)) ggX1_takeOver_X1_lateOf
set_option maxRecDepth 20000 in
theorem ggX1_takeOver_X1_copiedBy : GoodIn wsX1_takeOver wsX1_copiedBy := goodIn_r _ [25, 26, 13, 14, 15, 6, 16, 1, 31, 32, 33, 34, 35] (by decide +kernel) (by decide +kernel)
set_option maxRecDepth 20000 in
theorem gX1_takeOver_X1_copiedBy : GoodIn wsX1_takeOver (wsV RX1 38 RX1 yX1_copiedBy wsX1_copiedBy) := goodIn_app (goodIn_of _ (by decide +kernel)) ggX1_takeOver_X1_copiedBy
set_option maxRecDepth 20000 in
theorem ggX1_takeOver_X1_add : GoodIn wsX1_takeOver wsX1_add := goodIn_r _ [30, 1, 12, 21, 26, 31, 32, 33, 34, 35] (by decide +kernel) (by decide +kernel)
set_option maxRecDepth 20000 in
theorem gX1_takeOver_X1_add : GoodIn wsX1_takeOver (wsV RX1 41 RX1 yX1_add wsX1_add) := goodIn_app (goodIn_of _ (by decide +kernel)) ggX1_takeOver_X1_add
theorem dX1_takeOver_0 : decode cX1_takeOver 0 = .ok (.aload_n 0, 1) := by decide +kernel
theorem dX1_takeOver_1 : decode cX1_takeOver 1 = .ok (.invokevirtual 28, 3) := by decide +kernel
theorem dX1_takeOver_4 : decode cX1_takeOver 4 = .ok (.iconst 0, 1) := by decide +kernel
theorem dX1_takeOver_5 : decode cX1_takeOver 5 = .ok (.istore_n 2, 1) := by decide +kernel
theorem dX1_takeOver_6 : decode cX1_takeOver 6 = .ok (.iload_n 2, 1) := by decide +kernel
theorem dX1_takeOver_7 : decode cX1_takeOver 7 = .ok (.aload_n 1, 1) := by decide +kernel
theorem dX1_takeOver_8 : decode cX1_takeOver 8 = .ok (.getfield 21, 3) := by decide +kernel
theorem dX1_takeOver_11 : decode cX1_takeOver 11 = .ok (.if_icmp .ge 28, 3) := by decide +kernel
theorem dX1_takeOver_14 : decode cX1_takeOver 14 = .ok (.aload_n 0, 1) := by decide +kernel
theorem dX1_takeOver_15 : decode cX1_takeOver 15 = .ok (.aload_n 1, 1) := by decide +kernel
theorem dX1_takeOver_16 : decode cX1_takeOver 16 = .ok (.iload_n 2, 1) := by decide +kernel
theorem dX1_takeOver_17 : decode cX1_takeOver 17 = .ok (.invokevirtual 31, 3) := by decide +kernel
theorem dX1_takeOver_20 : decode cX1_takeOver 20 = .ok (.aload_n 1, 1) := by decide +kernel
theorem dX1_takeOver_21 : decode cX1_takeOver 21 = .ok (.iload_n 2, 1) := by decide +kernel
theorem dX1_takeOver_22 : decode cX1_takeOver 22 = .ok (.invokevirtual 35, 3) := by decide +kernel
theorem dX1_takeOver_25 : decode cX1_takeOver 25 = .ok (.aload_n 1, 1) := by decide +kernel
theorem dX1_takeOver_26 : decode cX1_takeOver 26 = .ok (.iload_n 2, 1) := by decide +kernel
theorem dX1_takeOver_27 : decode cX1_takeOver 27 = .ok (.invokevirtual 38, 3) := by decide +kernel
theorem dX1_takeOver_30 : decode cX1_takeOver 30 = .ok (.invokevirtual 41, 3) := by decide +kernel
theorem dX1_takeOver_33 : decode cX1_takeOver 33 = .ok (.iinc 2 1, 3) := by decide +kernel
theorem dX1_takeOver_36 : decode cX1_takeOver 36 = .ok (.goto (-30), 3) := by decide +kernel
theorem dX1_takeOver_39 : decode cX1_takeOver 39 = .ok (.aload_n 0, 1) := by decide +kernel
theorem dX1_takeOver_40 : decode cX1_takeOver 40 = .ok (.aload_n 1, 1) := by decide +kernel
theorem dX1_takeOver_41 : decode cX1_takeOver 41 = .ok (.getfield 25, 3) := by decide +kernel
theorem dX1_takeOver_44 : decode cX1_takeOver 44 = .ok (.putfield 25, 3) := by decide +kernel
theorem dX1_takeOver_47 : decode cX1_takeOver 47 = .ok (.return_, 1) := by decide +kernel
theorem dX1_size_0 : decode cX1_size 0 = .ok (.aload_n 0, 1) := by decide +kernel
theorem dX1_size_1 : decode cX1_size 1 = .ok (.getfield 21, 3) := by decide +kernel
theorem dX1_size_4 : decode cX1_size 4 = .ok (.ireturn, 1) := by decide +kernel
theorem dX1_littleOnes_0 : decode cX1_littleOnes 0 = .ok (.aload_n 0, 1) := by decide +kernel
theorem dX1_littleOnes_1 : decode cX1_littleOnes 1 = .ok (.getfield 25, 3) := by decide +kernel
theorem dX1_littleOnes_4 : decode cX1_littleOnes 4 = .ok (.ireturn, 1) := by decide +kernel
theorem dX1_has_0 : decode cX1_has 0 = .ok (.iload_n 1, 1) := by decide +kernel
theorem dX1_has_1 : decode cX1_has 1 = .ok (.ifCond .lt 15, 3) := by decide +kernel
theorem dX1_has_4 : decode cX1_has 4 = .ok (.iload_n 1, 1) := by decide +kernel
theorem dX1_has_5 : decode cX1_has 5 = .ok (.aload_n 0, 1) := by decide +kernel
theorem dX1_has_6 : decode cX1_has 6 = .ok (.getfield 21, 3) := by decide +kernel
theorem dX1_has_9 : decode cX1_has 9 = .ok (.if_icmp .ge 7, 3) := by decide +kernel
theorem dX1_has_12 : decode cX1_has 12 = .ok (.iconst 1, 1) := by decide +kernel
theorem dX1_has_13 : decode cX1_has 13 = .ok (.goto 4, 3) := by decide +kernel
theorem dX1_has_16 : decode cX1_has 16 = .ok (.iconst 0, 1) := by decide +kernel
theorem dX1_has_17 : decode cX1_has 17 = .ok (.ireturn, 1) := by decide +kernel
theorem dX1_everyone_0 : decode cX1_everyone 0 = .ok (.iconst 1, 1) := by decide +kernel
theorem dX1_everyone_1 : decode cX1_everyone 1 = .ok (.aload_n 0, 1) := by decide +kernel
theorem dX1_everyone_2 : decode cX1_everyone 2 = .ok (.getfield 21, 3) := by decide +kernel
theorem dX1_everyone_5 : decode cX1_everyone 5 = .ok (.ishl, 1) := by decide +kernel
theorem dX1_everyone_6 : decode cX1_everyone 6 = .ok (.iconst 1, 1) := by decide +kernel
theorem dX1_everyone_7 : decode cX1_everyone 7 = .ok (.isub, 1) := by decide +kernel
theorem dX1_everyone_8 : decode cX1_everyone 8 = .ok (.ireturn, 1) := by decide +kernel
set_option maxRecDepth 20000 in
theorem ggX1_isSet_X1_everyone : GoodIn wsX1_isSet wsX1_everyone := goodIn_r _ [5, 6, 7, 8, 9, 10, 11] (by decide +kernel) (by decide +kernel)
set_option maxRecDepth 20000 in
theorem gX1_isSet_X1_everyone : GoodIn wsX1_isSet (wsV RX1 45 RX1 yX1_everyone wsX1_everyone) := goodIn_app (goodIn_of _ (by decide +kernel)) ggX1_isSet_X1_everyone
theorem dX1_isSet_0 : decode cX1_isSet 0 = .ok (.iload_n 1, 1) := by decide +kernel
theorem dX1_isSet_1 : decode cX1_isSet 1 = .ok (.aload_n 0, 1) := by decide +kernel
theorem dX1_isSet_2 : decode cX1_isSet 2 = .ok (.invokevirtual 45, 3) := by decide +kernel
theorem dX1_isSet_5 : decode cX1_isSet 5 = .ok (.iconst (-1), 1) := by decide +kernel
theorem dX1_isSet_6 : decode cX1_isSet 6 = .ok (.ixor, 1) := by decide +kernel
theorem dX1_isSet_7 : decode cX1_isSet 7 = .ok (.iand, 1) := by decide +kernel
theorem dX1_isSet_8 : decode cX1_isSet 8 = .ok (.ifCond .ne 7, 3) := by decide +kernel
theorem dX1_isSet_11 : decode cX1_isSet 11 = .ok (.iconst 1, 1) := by decide +kernel
theorem dX1_isSet_12 : decode cX1_isSet 12 = .ok (.goto 4, 3) := by decide +kernel
theorem dX1_isSet_15 : decode cX1_isSet 15 = .ok (.iconst 0, 1) := by decide +kernel
theorem dX1_isSet_16 : decode cX1_isSet 16 = .ok (.ireturn, 1) := by decide +kernel
set_option maxRecDepth 20000 in
theorem ggX1_isLittle_X1_has : GoodIn wsX1_isLittle wsX1_has := goodIn_r _ [6, 7, 8, 9, 10, 11, 12] (by decide +kernel) (by decide +kernel)
set_option maxRecDepth 20000 in
theorem gX1_isLittle_X1_has : GoodIn wsX1_isLittle (wsV RX1 49 RX1 yX1_has wsX1_has) := goodIn_app (goodIn_of _ (by decide +kernel)) ggX1_isLittle_X1_has
theorem dX1_isLittle_0 : decode cX1_isLittle 0 = .ok (.aload_n 0, 1) := by decide +kernel
theorem dX1_isLittle_1 : decode cX1_isLittle 1 = .ok (.iload_n 1, 1) := by decide +kernel
theorem dX1_isLittle_2 : decode cX1_isLittle 2 = .ok (.invokevirtual 49, 3) := by decide +kernel
theorem dX1_isLittle_5 : decode cX1_isLittle 5 = .ok (.ifCond .eq 19, 3) := by decide +kernel
theorem dX1_isLittle_8 : decode cX1_isLittle 8 = .ok (.aload_n 0, 1) := by decide +kernel
theorem dX1_isLittle_9 : decode cX1_isLittle 9 = .ok (.getfield 25, 3) := by decide +kernel
theorem dX1_isLittle_12 : decode cX1_isLittle 12 = .ok (.iload_n 1, 1) := by decide +kernel
theorem dX1_isLittle_13 : decode cX1_isLittle 13 = .ok (.ishr, 1) := by decide +kernel
theorem dX1_isLittle_14 : decode cX1_isLittle 14 = .ok (.iconst 1, 1) := by decide +kernel
theorem dX1_isLittle_15 : decode cX1_isLittle 15 = .ok (.iand, 1) := by decide +kernel
theorem dX1_isLittle_16 : decode cX1_isLittle 16 = .ok (.iconst 1, 1) := by decide +kernel
theorem dX1_isLittle_17 : decode cX1_isLittle 17 = .ok (.if_icmp .ne 7, 3) := by decide +kernel
theorem dX1_isLittle_20 : decode cX1_isLittle 20 = .ok (.iconst 1, 1) := by decide +kernel
theorem dX1_isLittle_21 : decode cX1_isLittle 21 = .ok (.goto 4, 3) := by decide +kernel
theorem dX1_isLittle_24 : decode cX1_isLittle 24 = .ok (.iconst 0, 1) := by decide +kernel
theorem dX1_isLittle_25 : decode cX1_isLittle 25 = .ok (.ireturn, 1) := by decide +kernel
set_option maxRecDepth 20000 in
theorem ggX1_slipOf_X1_has : GoodIn wsX1_slipOf wsX1_has := goodIn_r _ [6, 7, 8, 9, 10, 11, 12] (by decide +kernel) (by decide +kernel)
set_option maxRecDepth 20000 in
theorem gX1_slipOf_X1_has : GoodIn wsX1_slipOf (wsV RX1 49 RX1 yX1_has wsX1_has) := goodIn_app (goodIn_of _ (by decide +kernel)) ggX1_slipOf_X1_has
theorem dX1_slipOf_0 : decode cX1_slipOf 0 = .ok (.aload_n 0, 1) := by decide +kernel
theorem dX1_slipOf_1 : decode cX1_slipOf 1 = .ok (.iload_n 1, 1) := by decide +kernel
theorem dX1_slipOf_2 : decode cX1_slipOf 2 = .ok (.invokevirtual 49, 3) := by decide +kernel
theorem dX1_slipOf_5 : decode cX1_slipOf 5 = .ok (.ifCond .eq 12, 3) := by decide +kernel
theorem dX1_slipOf_8 : decode cX1_slipOf 8 = .ok (.aload_n 0, 1) := by decide +kernel
theorem dX1_slipOf_9 : decode cX1_slipOf 9 = .ok (.getfield 9, 3) := by decide +kernel
theorem dX1_slipOf_12 : decode cX1_slipOf 12 = .ok (.iload_n 1, 1) := by decide +kernel
theorem dX1_slipOf_13 : decode cX1_slipOf 13 = .ok (.iaload, 1) := by decide +kernel
theorem dX1_slipOf_14 : decode cX1_slipOf 14 = .ok (.goto 4, 3) := by decide +kernel
theorem dX1_slipOf_17 : decode cX1_slipOf 17 = .ok (.iconst 0, 1) := by decide +kernel
theorem dX1_slipOf_18 : decode cX1_slipOf 18 = .ok (.ireturn, 1) := by decide +kernel
set_option maxRecDepth 20000 in
theorem ggX1_lateOf_X1_has : GoodIn wsX1_lateOf wsX1_has := goodIn_r _ [6, 7, 8, 9, 10, 11, 12] (by decide +kernel) (by decide +kernel)
set_option maxRecDepth 20000 in
theorem gX1_lateOf_X1_has : GoodIn wsX1_lateOf (wsV RX1 49 RX1 yX1_has wsX1_has) := goodIn_app (goodIn_of _ (by decide +kernel)) ggX1_lateOf_X1_has
theorem dX1_lateOf_0 : decode cX1_lateOf 0 = .ok (.aload_n 0, 1) := by decide +kernel
theorem dX1_lateOf_1 : decode cX1_lateOf 1 = .ok (.iload_n 1, 1) := by decide +kernel
theorem dX1_lateOf_2 : decode cX1_lateOf 2 = .ok (.invokevirtual 49, 3) := by decide +kernel
theorem dX1_lateOf_5 : decode cX1_lateOf 5 = .ok (.ifCond .eq 12, 3) := by decide +kernel
theorem dX1_lateOf_8 : decode cX1_lateOf 8 = .ok (.aload_n 0, 1) := by decide +kernel
theorem dX1_lateOf_9 : decode cX1_lateOf 9 = .ok (.getfield 15, 3) := by decide +kernel
theorem dX1_lateOf_12 : decode cX1_lateOf 12 = .ok (.iload_n 1, 1) := by decide +kernel
theorem dX1_lateOf_13 : decode cX1_lateOf 13 = .ok (.iaload, 1) := by decide +kernel
theorem dX1_lateOf_14 : decode cX1_lateOf 14 = .ok (.goto 4, 3) := by decide +kernel
theorem dX1_lateOf_17 : decode cX1_lateOf 17 = .ok (.iconst 0, 1) := by decide +kernel
theorem dX1_lateOf_18 : decode cX1_lateOf 18 = .ok (.ireturn, 1) := by decide +kernel
set_option maxRecDepth 20000 in
theorem ggX1_copiedBy_X1_has : GoodIn wsX1_copiedBy wsX1_has := goodIn_r _ [6, 7, 8, 9, 10, 11, 12] (by decide +kernel) (by decide +kernel)
set_option maxRecDepth 20000 in
theorem gX1_copiedBy_X1_has : GoodIn wsX1_copiedBy (wsV RX1 49 RX1 yX1_has wsX1_has) := goodIn_app (goodIn_of _ (by decide +kernel)) ggX1_copiedBy_X1_has
theorem dX1_copiedBy_0 : decode cX1_copiedBy 0 = .ok (.aload_n 0, 1) := by decide +kernel
theorem dX1_copiedBy_1 : decode cX1_copiedBy 1 = .ok (.iload_n 1, 1) := by decide +kernel
theorem dX1_copiedBy_2 : decode cX1_copiedBy 2 = .ok (.invokevirtual 49, 3) := by decide +kernel
theorem dX1_copiedBy_5 : decode cX1_copiedBy 5 = .ok (.ifCond .eq 12, 3) := by decide +kernel
theorem dX1_copiedBy_8 : decode cX1_copiedBy 8 = .ok (.aload_n 0, 1) := by decide +kernel
theorem dX1_copiedBy_9 : decode cX1_copiedBy 9 = .ok (.getfield 18, 3) := by decide +kernel
theorem dX1_copiedBy_12 : decode cX1_copiedBy 12 = .ok (.iload_n 1, 1) := by decide +kernel
theorem dX1_copiedBy_13 : decode cX1_copiedBy 13 = .ok (.iaload, 1) := by decide +kernel
theorem dX1_copiedBy_14 : decode cX1_copiedBy 14 = .ok (.goto 5, 3) := by decide +kernel
theorem dX1_copiedBy_17 : decode cX1_copiedBy 17 = .ok (.bipush 9, 2) := by decide +kernel
theorem dX1_copiedBy_19 : decode cX1_copiedBy 19 = .ok (.ireturn, 1) := by decide +kernel
set_option maxRecDepth 20000 in
theorem ggX1_howManyCopy_X1_copiedBy : GoodIn wsX1_howManyCopy wsX1_copiedBy := goodIn_r _ [6, 7, 8, 9, 10, 5, 11, 1, 12, 13, 14, 15, 16] (by decide +kernel) (by decide +kernel)
set_option maxRecDepth 20000 in
theorem gX1_howManyCopy_X1_copiedBy : GoodIn wsX1_howManyCopy (wsV RX1 38 RX1 yX1_copiedBy wsX1_copiedBy) := goodIn_app (goodIn_of _ (by decide +kernel)) ggX1_howManyCopy_X1_copiedBy
theorem dX1_howManyCopy_0 : decode cX1_howManyCopy 0 = .ok (.iconst 0, 1) := by decide +kernel
theorem dX1_howManyCopy_1 : decode cX1_howManyCopy 1 = .ok (.istore_n 2, 1) := by decide +kernel
theorem dX1_howManyCopy_2 : decode cX1_howManyCopy 2 = .ok (.iconst 0, 1) := by decide +kernel
theorem dX1_howManyCopy_3 : decode cX1_howManyCopy 3 = .ok (.istore_n 3, 1) := by decide +kernel
theorem dX1_howManyCopy_4 : decode cX1_howManyCopy 4 = .ok (.iload_n 3, 1) := by decide +kernel
theorem dX1_howManyCopy_5 : decode cX1_howManyCopy 5 = .ok (.aload_n 0, 1) := by decide +kernel
theorem dX1_howManyCopy_6 : decode cX1_howManyCopy 6 = .ok (.getfield 21, 3) := by decide +kernel
theorem dX1_howManyCopy_9 : decode cX1_howManyCopy 9 = .ok (.if_icmp .ge 21, 3) := by decide +kernel
theorem dX1_howManyCopy_12 : decode cX1_howManyCopy 12 = .ok (.aload_n 0, 1) := by decide +kernel
theorem dX1_howManyCopy_13 : decode cX1_howManyCopy 13 = .ok (.iload_n 3, 1) := by decide +kernel
theorem dX1_howManyCopy_14 : decode cX1_howManyCopy 14 = .ok (.invokevirtual 38, 3) := by decide +kernel
theorem dX1_howManyCopy_17 : decode cX1_howManyCopy 17 = .ok (.iload_n 1, 1) := by decide +kernel
theorem dX1_howManyCopy_18 : decode cX1_howManyCopy 18 = .ok (.if_icmp .ne 6, 3) := by decide +kernel
theorem dX1_howManyCopy_21 : decode cX1_howManyCopy 21 = .ok (.iinc 2 1, 3) := by decide +kernel
theorem dX1_howManyCopy_24 : decode cX1_howManyCopy 24 = .ok (.iinc 3 1, 3) := by decide +kernel
theorem dX1_howManyCopy_27 : decode cX1_howManyCopy 27 = .ok (.goto (-23), 3) := by decide +kernel
theorem dX1_howManyCopy_30 : decode cX1_howManyCopy 30 = .ok (.iload_n 2, 1) := by decide +kernel
theorem dX1_howManyCopy_31 : decode cX1_howManyCopy 31 = .ok (.ireturn, 1) := by decide +kernel
set_option maxRecDepth 20000 in
theorem ggX1_errsOf_X1_slipOf : GoodIn wsX1_errsOf wsX1_slipOf := goodIn_r _ [9, 10, 11, 12, 13, 8, 14, 15, 21, 22, 23, 24, 25] (by decide +kernel) (by decide +kernel)
set_option maxRecDepth 20000 in
theorem gX1_errsOf_X1_slipOf : GoodIn wsX1_errsOf (wsV RX1 31 RX1 yX1_slipOf wsX1_slipOf) := goodIn_app (goodIn_of _ (by decide +kernel)) ggX1_errsOf_X1_slipOf
set_option maxRecDepth 20000 in
theorem ggX1_errsOf_X1_lateOf : GoodIn wsX1_errsOf wsX1_lateOf := goodIn_r _ [19, 20, 11, 12, 13, 8, 14, 15, 21, 22, 23, 24, 25] (by decide +kernel) (by decide +kernel)
set_option maxRecDepth 20000 in
theorem gX1_errsOf_X1_lateOf : GoodIn wsX1_errsOf (wsV RX1 35 RX1 yX1_lateOf wsX1_lateOf) := goodIn_app (goodIn_of _ (by decide +kernel)) ggX1_errsOf_X1_lateOf
theorem dX1_errsOf_0 : decode cX1_errsOf 0 = .ok (.iload_n 2, 1) := by decide +kernel
theorem dX1_errsOf_1 : decode cX1_errsOf 1 = .ok (.tableswitch 66 2 4 #[27, 40, 55], 27) := by decide +kernel
theorem dX1_errsOf_28 : decode cX1_errsOf 28 = .ok (.bipush 10, 2) := by decide +kernel
theorem dX1_errsOf_30 : decode cX1_errsOf 30 = .ok (.aload_n 0, 1) := by decide +kernel
theorem dX1_errsOf_31 : decode cX1_errsOf 31 = .ok (.iload_n 1, 1) := by decide +kernel
theorem dX1_errsOf_32 : decode cX1_errsOf 32 = .ok (.invokevirtual 31, 3) := by decide +kernel
theorem dX1_errsOf_35 : decode cX1_errsOf 35 = .ok (.iload_n 3, 1) := by decide +kernel
theorem dX1_errsOf_36 : decode cX1_errsOf 36 = .ok (.iadd, 1) := by decide +kernel
theorem dX1_errsOf_37 : decode cX1_errsOf 37 = .ok (.invokestatic 53, 3) := by decide +kernel
theorem dX1_errsOf_40 : decode cX1_errsOf 40 = .ok (.ireturn, 1) := by decide +kernel
theorem dX1_errsOf_41 : decode cX1_errsOf 41 = .ok (.bipush 10, 2) := by decide +kernel
theorem dX1_errsOf_43 : decode cX1_errsOf 43 = .ok (.aload_n 0, 1) := by decide +kernel
theorem dX1_errsOf_44 : decode cX1_errsOf 44 = .ok (.iload_n 1, 1) := by decide +kernel
theorem dX1_errsOf_45 : decode cX1_errsOf 45 = .ok (.invokevirtual 31, 3) := by decide +kernel
theorem dX1_errsOf_48 : decode cX1_errsOf 48 = .ok (.iload_n 3, 1) := by decide +kernel
theorem dX1_errsOf_49 : decode cX1_errsOf 49 = .ok (.iadd, 1) := by decide +kernel
theorem dX1_errsOf_50 : decode cX1_errsOf 50 = .ok (.iconst 2, 1) := by decide +kernel
theorem dX1_errsOf_51 : decode cX1_errsOf 51 = .ok (.iadd, 1) := by decide +kernel
theorem dX1_errsOf_52 : decode cX1_errsOf 52 = .ok (.invokestatic 53, 3) := by decide +kernel
theorem dX1_errsOf_55 : decode cX1_errsOf 55 = .ok (.ireturn, 1) := by decide +kernel
theorem dX1_errsOf_56 : decode cX1_errsOf 56 = .ok (.bipush 10, 2) := by decide +kernel
theorem dX1_errsOf_58 : decode cX1_errsOf 58 = .ok (.aload_n 0, 1) := by decide +kernel
theorem dX1_errsOf_59 : decode cX1_errsOf 59 = .ok (.iload_n 1, 1) := by decide +kernel
theorem dX1_errsOf_60 : decode cX1_errsOf 60 = .ok (.invokevirtual 35, 3) := by decide +kernel
theorem dX1_errsOf_63 : decode cX1_errsOf 63 = .ok (.invokestatic 53, 3) := by decide +kernel
theorem dX1_errsOf_66 : decode cX1_errsOf 66 = .ok (.ireturn, 1) := by decide +kernel
theorem dX1_errsOf_67 : decode cX1_errsOf 67 = .ok (.iconst 0, 1) := by decide +kernel
theorem dX1_errsOf_68 : decode cX1_errsOf 68 = .ok (.ireturn, 1) := by decide +kernel
end
section
theorem dX2_init_0 : decode cX2_init 0 = .ok (.aload_n 0, 1) := by decide +kernel
theorem dX2_init_1 : decode cX2_init 1 = .ok (.invokespecial 3, 3) := by decide +kernel
theorem dX2_init_4 : decode cX2_init 4 = .ok (.aload_n 0, 1) := by decide +kernel
theorem dX2_init_5 : decode cX2_init 5 = .ok (.bipush 12, 2) := by decide +kernel
theorem dX2_init_7 : decode cX2_init 7 = .ok (.newarray .int, 2) := by decide +kernel
theorem dX2_init_9 : decode cX2_init 9 = .ok (.putfield 9, 3) := by decide +kernel
theorem dX2_init_12 : decode cX2_init 12 = .ok (.aload_n 0, 1) := by decide +kernel
theorem dX2_init_13 : decode cX2_init 13 = .ok (.bipush 12, 2) := by decide +kernel
theorem dX2_init_15 : decode cX2_init 15 = .ok (.newarray .int, 2) := by decide +kernel
theorem dX2_init_17 : decode cX2_init 17 = .ok (.putfield 15, 3) := by decide +kernel
theorem dX2_init_20 : decode cX2_init 20 = .ok (.return_, 1) := by decide +kernel
theorem dX2_size_0 : decode cX2_size 0 = .ok (.aload_n 0, 1) := by decide +kernel
theorem dX2_size_1 : decode cX2_size 1 = .ok (.getfield 18, 3) := by decide +kernel
theorem dX2_size_4 : decode cX2_size 4 = .ok (.ireturn, 1) := by decide +kernel
theorem dX2_forget_0 : decode cX2_forget 0 = .ok (.aload_n 0, 1) := by decide +kernel
theorem dX2_forget_1 : decode cX2_forget 1 = .ok (.iconst 0, 1) := by decide +kernel
theorem dX2_forget_2 : decode cX2_forget 2 = .ok (.putfield 18, 3) := by decide +kernel
theorem dX2_forget_5 : decode cX2_forget 5 = .ok (.return_, 1) := by decide +kernel
set_option maxRecDepth 20000 in
theorem ggX2_add_X2_loseOldest : GoodIn wsX2_add wsX2_loseOldest := goodIn_r _ [8, 1, 2, 9, 10, 11, 12, 3, 13, 14, 15] (by decide +kernel) (by decide +kernel)
set_option maxRecDepth 20000 in
theorem gX2_add_X2_loseOldest : GoodIn wsX2_add (wsV RX2 22 RX2 yX2_loseOldest wsX2_loseOldest) := goodIn_app (goodIn_of _ (by decide +kernel)) ggX2_add_X2_loseOldest
theorem dX2_add_0 : decode cX2_add 0 = .ok (.aload_n 0, 1) := by decide +kernel
theorem dX2_add_1 : decode cX2_add 1 = .ok (.getfield 18, 3) := by decide +kernel
theorem dX2_add_4 : decode cX2_add 4 = .ok (.bipush 12, 2) := by decide +kernel
theorem dX2_add_6 : decode cX2_add 6 = .ok (.if_icmp .lt 7, 3) := by decide +kernel
theorem dX2_add_9 : decode cX2_add 9 = .ok (.aload_n 0, 1) := by decide +kernel
theorem dX2_add_10 : decode cX2_add 10 = .ok (.invokevirtual 22, 3) := by decide +kernel
theorem dX2_add_13 : decode cX2_add 13 = .ok (.aload_n 0, 1) := by decide +kernel
theorem dX2_add_14 : decode cX2_add 14 = .ok (.getfield 9, 3) := by decide +kernel
theorem dX2_add_17 : decode cX2_add 17 = .ok (.aload_n 0, 1) := by decide +kernel
theorem dX2_add_18 : decode cX2_add 18 = .ok (.getfield 18, 3) := by decide +kernel
theorem dX2_add_21 : decode cX2_add 21 = .ok (.iload_n 1, 1) := by decide +kernel
theorem dX2_add_22 : decode cX2_add 22 = .ok (.iastore, 1) := by decide +kernel
theorem dX2_add_23 : decode cX2_add 23 = .ok (.aload_n 0, 1) := by decide +kernel
theorem dX2_add_24 : decode cX2_add 24 = .ok (.getfield 15, 3) := by decide +kernel
theorem dX2_add_27 : decode cX2_add 27 = .ok (.aload_n 0, 1) := by decide +kernel
theorem dX2_add_28 : decode cX2_add 28 = .ok (.getfield 18, 3) := by decide +kernel
theorem dX2_add_31 : decode cX2_add 31 = .ok (.iload_n 2, 1) := by decide +kernel
theorem dX2_add_32 : decode cX2_add 32 = .ok (.iastore, 1) := by decide +kernel
theorem dX2_add_33 : decode cX2_add 33 = .ok (.aload_n 0, 1) := by decide +kernel
theorem dX2_add_34 : decode cX2_add 34 = .ok (.dup, 1) := by decide +kernel
theorem dX2_add_35 : decode cX2_add 35 = .ok (.getfield 18, 3) := by decide +kernel
theorem dX2_add_38 : decode cX2_add 38 = .ok (.iconst 1, 1) := by decide +kernel
theorem dX2_add_39 : decode cX2_add 39 = .ok (.iadd, 1) := by decide +kernel
theorem dX2_add_40 : decode cX2_add 40 = .ok (.putfield 18, 3) := by decide +kernel
theorem dX2_add_43 : decode cX2_add 43 = .ok (.return_, 1) := by decide +kernel
theorem dX2_loseOldest_0 : decode cX2_loseOldest 0 = .ok (.aload_n 0, 1) := by decide +kernel
theorem dX2_loseOldest_1 : decode cX2_loseOldest 1 = .ok (.bipush 11, 2) := by decide +kernel
theorem dX2_loseOldest_3 : decode cX2_loseOldest 3 = .ok (.putfield 18, 3) := by decide +kernel
theorem dX2_loseOldest_6 : decode cX2_loseOldest 6 = .ok (.aload_n 0, 1) := by decide +kernel
theorem dX2_loseOldest_7 : decode cX2_loseOldest 7 = .ok (.getfield 9, 3) := by decide +kernel
theorem dX2_loseOldest_10 : decode cX2_loseOldest 10 = .ok (.iconst 1, 1) := by decide +kernel
theorem dX2_loseOldest_11 : decode cX2_loseOldest 11 = .ok (.aload_n 0, 1) := by decide +kernel
theorem dX2_loseOldest_12 : decode cX2_loseOldest 12 = .ok (.getfield 9, 3) := by decide +kernel
theorem dX2_loseOldest_15 : decode cX2_loseOldest 15 = .ok (.iconst 0, 1) := by decide +kernel
theorem dX2_loseOldest_16 : decode cX2_loseOldest 16 = .ok (.aload_n 0, 1) := by decide +kernel
theorem dX2_loseOldest_17 : decode cX2_loseOldest 17 = .ok (.getfield 18, 3) := by decide +kernel
theorem dX2_loseOldest_20 : decode cX2_loseOldest 20 = .ok (.invokestatic 25, 3) := by decide +kernel
theorem dX2_loseOldest_23 : decode cX2_loseOldest 23 = .ok (.aload_n 0, 1) := by decide +kernel
theorem dX2_loseOldest_24 : decode cX2_loseOldest 24 = .ok (.getfield 15, 3) := by decide +kernel
theorem dX2_loseOldest_27 : decode cX2_loseOldest 27 = .ok (.iconst 1, 1) := by decide +kernel
theorem dX2_loseOldest_28 : decode cX2_loseOldest 28 = .ok (.aload_n 0, 1) := by decide +kernel
theorem dX2_loseOldest_29 : decode cX2_loseOldest 29 = .ok (.getfield 15, 3) := by decide +kernel
theorem dX2_loseOldest_32 : decode cX2_loseOldest 32 = .ok (.iconst 0, 1) := by decide +kernel
theorem dX2_loseOldest_33 : decode cX2_loseOldest 33 = .ok (.aload_n 0, 1) := by decide +kernel
theorem dX2_loseOldest_34 : decode cX2_loseOldest 34 = .ok (.getfield 18, 3) := by decide +kernel
theorem dX2_loseOldest_37 : decode cX2_loseOldest 37 = .ok (.invokestatic 25, 3) := by decide +kernel
theorem dX2_loseOldest_40 : decode cX2_loseOldest 40 = .ok (.return_, 1) := by decide +kernel
theorem dX2_dropLatest_0 : decode cX2_dropLatest 0 = .ok (.aload_n 0, 1) := by decide +kernel
theorem dX2_dropLatest_1 : decode cX2_dropLatest 1 = .ok (.getfield 18, 3) := by decide +kernel
theorem dX2_dropLatest_4 : decode cX2_dropLatest 4 = .ok (.ifCond .le 13, 3) := by decide +kernel
theorem dX2_dropLatest_7 : decode cX2_dropLatest 7 = .ok (.aload_n 0, 1) := by decide +kernel
theorem dX2_dropLatest_8 : decode cX2_dropLatest 8 = .ok (.dup, 1) := by decide +kernel
theorem dX2_dropLatest_9 : decode cX2_dropLatest 9 = .ok (.getfield 18, 3) := by decide +kernel
theorem dX2_dropLatest_12 : decode cX2_dropLatest 12 = .ok (.iconst 1, 1) := by decide +kernel
theorem dX2_dropLatest_13 : decode cX2_dropLatest 13 = .ok (.isub, 1) := by decide +kernel
theorem dX2_dropLatest_14 : decode cX2_dropLatest 14 = .ok (.putfield 18, 3) := by decide +kernel
theorem dX2_dropLatest_17 : decode cX2_dropLatest 17 = .ok (.return_, 1) := by decide +kernel
theorem dX2_droppedIn_0 : decode cX2_droppedIn 0 = .ok (.aload_n 0, 1) := by decide +kernel
theorem dX2_droppedIn_1 : decode cX2_droppedIn 1 = .ok (.getfield 18, 3) := by decide +kernel
theorem dX2_droppedIn_4 : decode cX2_droppedIn 4 = .ok (.bipush 12, 2) := by decide +kernel
theorem dX2_droppedIn_6 : decode cX2_droppedIn 6 = .ok (.if_icmp .ge 15, 3) := by decide +kernel
theorem dX2_droppedIn_9 : decode cX2_droppedIn 9 = .ok (.aload_n 0, 1) := by decide +kernel
theorem dX2_droppedIn_10 : decode cX2_droppedIn 10 = .ok (.getfield 9, 3) := by decide +kernel
theorem dX2_droppedIn_13 : decode cX2_droppedIn 13 = .ok (.aload_n 0, 1) := by decide +kernel
theorem dX2_droppedIn_14 : decode cX2_droppedIn 14 = .ok (.getfield 18, 3) := by decide +kernel
theorem dX2_droppedIn_17 : decode cX2_droppedIn 17 = .ok (.iaload, 1) := by decide +kernel
theorem dX2_droppedIn_18 : decode cX2_droppedIn 18 = .ok (.goto 4, 3) := by decide +kernel
theorem dX2_droppedIn_21 : decode cX2_droppedIn 21 = .ok (.iconst 0, 1) := by decide +kernel
theorem dX2_droppedIn_22 : decode cX2_droppedIn 22 = .ok (.ireturn, 1) := by decide +kernel
theorem dX2_droppedStreak_0 : decode cX2_droppedStreak 0 = .ok (.aload_n 0, 1) := by decide +kernel
theorem dX2_droppedStreak_1 : decode cX2_droppedStreak 1 = .ok (.getfield 18, 3) := by decide +kernel
theorem dX2_droppedStreak_4 : decode cX2_droppedStreak 4 = .ok (.bipush 12, 2) := by decide +kernel
theorem dX2_droppedStreak_6 : decode cX2_droppedStreak 6 = .ok (.if_icmp .ge 15, 3) := by decide +kernel
theorem dX2_droppedStreak_9 : decode cX2_droppedStreak 9 = .ok (.aload_n 0, 1) := by decide +kernel
theorem dX2_droppedStreak_10 : decode cX2_droppedStreak 10 = .ok (.getfield 15, 3) := by decide +kernel
theorem dX2_droppedStreak_13 : decode cX2_droppedStreak 13 = .ok (.aload_n 0, 1) := by decide +kernel
theorem dX2_droppedStreak_14 : decode cX2_droppedStreak 14 = .ok (.getfield 18, 3) := by decide +kernel
theorem dX2_droppedStreak_17 : decode cX2_droppedStreak 17 = .ok (.iaload, 1) := by decide +kernel
theorem dX2_droppedStreak_18 : decode cX2_droppedStreak 18 = .ok (.goto 4, 3) := by decide +kernel
theorem dX2_droppedStreak_21 : decode cX2_droppedStreak 21 = .ok (.iconst 0, 1) := by decide +kernel
theorem dX2_droppedStreak_22 : decode cX2_droppedStreak 22 = .ok (.ireturn, 1) := by decide +kernel
end
section
theorem dX3_init_0 : decode cX3_init 0 = .ok (.aload_n 0, 1) := by decide +kernel
theorem dX3_init_1 : decode cX3_init 1 = .ok (.invokespecial 1, 3) := by decide +kernel
theorem dX3_init_4 : decode cX3_init 4 = .ok (.aload_n 0, 1) := by decide +kernel
theorem dX3_init_5 : decode cX3_init 5 = .ok (.iconst 0, 1) := by decide +kernel
theorem dX3_init_6 : decode cX3_init 6 = .ok (.putfield 7, 3) := by decide +kernel
theorem dX3_init_9 : decode cX3_init 9 = .ok (.return_, 1) := by decide +kernel
theorem dX3_isKept_0 : decode cX3_isKept 0 = .ok (.aload_n 0, 1) := by decide +kernel
theorem dX3_isKept_1 : decode cX3_isKept 1 = .ok (.getfield 7, 3) := by decide +kernel
theorem dX3_isKept_4 : decode cX3_isKept 4 = .ok (.ireturn, 1) := by decide +kernel
theorem dX3_forget_0 : decode cX3_forget 0 = .ok (.aload_n 0, 1) := by decide +kernel
theorem dX3_forget_1 : decode cX3_forget 1 = .ok (.iconst 0, 1) := by decide +kernel
theorem dX3_forget_2 : decode cX3_forget 2 = .ok (.putfield 7, 3) := by decide +kernel
theorem dX3_forget_5 : decode cX3_forget 5 = .ok (.return_, 1) := by decide +kernel
set_option maxRecDepth 20000 in
theorem ggX3_take_X6_whoIsIn : GoodIn wsX3_take wsX6_whoIsIn := goodIn_r _ [9, 10, 25, 26, 27, 28] (by decide +kernel) (by decide +kernel)
set_option maxRecDepth 20000 in
theorem gX3_take_X6_whoIsIn : GoodIn wsX3_take (wsV RX3 13 RX6 yX6_whoIsIn wsX6_whoIsIn) := goodIn_app (goodIn_of _ (by decide +kernel)) ggX3_take_X6_whoIsIn
set_option maxRecDepth 20000 in
theorem ggX3_take_X6_streak : GoodIn wsX3_take wsX6_streak := goodIn_r _ [14, 15, 25, 26, 27, 28] (by decide +kernel) (by decide +kernel)
set_option maxRecDepth 20000 in
theorem gX3_take_X6_streak : GoodIn wsX3_take (wsV RX3 23 RX6 yX6_streak wsX6_streak) := goodIn_app (goodIn_of _ (by decide +kernel)) ggX3_take_X6_streak
set_option maxRecDepth 20000 in
theorem ggX3_take_X6_theLot : GoodIn wsX3_take wsX6_theLot := goodIn_r _ [19, 20, 25, 26, 27, 28] (by decide +kernel) (by decide +kernel)
set_option maxRecDepth 20000 in
theorem gX3_take_X6_theLot : GoodIn wsX3_take (wsV RX3 28 RX6 yX6_theLot wsX6_theLot) := goodIn_app (goodIn_of _ (by decide +kernel)) ggX3_take_X6_theLot
theorem dX3_take_0 : decode cX3_take 0 = .ok (.aload_n 0, 1) := by decide +kernel
theorem dX3_take_1 : decode cX3_take 1 = .ok (.iconst 1, 1) := by decide +kernel
theorem dX3_take_2 : decode cX3_take 2 = .ok (.putfield 7, 3) := by decide +kernel
theorem dX3_take_5 : decode cX3_take 5 = .ok (.aload_n 0, 1) := by decide +kernel
theorem dX3_take_6 : decode cX3_take 6 = .ok (.aload_n 1, 1) := by decide +kernel
theorem dX3_take_7 : decode cX3_take 7 = .ok (.invokevirtual 13, 3) := by decide +kernel
theorem dX3_take_10 : decode cX3_take 10 = .ok (.putfield 19, 3) := by decide +kernel
theorem dX3_take_13 : decode cX3_take 13 = .ok (.aload_n 0, 1) := by decide +kernel
theorem dX3_take_14 : decode cX3_take 14 = .ok (.aload_n 1, 1) := by decide +kernel
theorem dX3_take_15 : decode cX3_take 15 = .ok (.invokevirtual 23, 3) := by decide +kernel
theorem dX3_take_18 : decode cX3_take 18 = .ok (.putfield 26, 3) := by decide +kernel
theorem dX3_take_21 : decode cX3_take 21 = .ok (.aload_n 0, 1) := by decide +kernel
theorem dX3_take_22 : decode cX3_take 22 = .ok (.aload_n 1, 1) := by decide +kernel
theorem dX3_take_23 : decode cX3_take 23 = .ok (.invokevirtual 28, 3) := by decide +kernel
theorem dX3_take_26 : decode cX3_take 26 = .ok (.putfield 31, 3) := by decide +kernel
theorem dX3_take_29 : decode cX3_take 29 = .ok (.return_, 1) := by decide +kernel
set_option maxRecDepth 20000 in
theorem ggX3_giveTo_X6_become : GoodIn wsX3_giveTo wsX6_become := goodIn_r _ [8, 9, 10, 20, 21, 22, 23] (by decide +kernel) (by decide +kernel)
set_option maxRecDepth 20000 in
theorem gX3_giveTo_X6_become : GoodIn wsX3_giveTo (wsV RX3 34 RX6 yX6_become wsX6_become) := goodIn_app (goodIn_of _ (by decide +kernel)) ggX3_giveTo_X6_become
set_option maxRecDepth 20000 in
theorem ggX3_giveTo_X6_setLot : GoodIn wsX3_giveTo wsX6_setLot := goodIn_r _ [14, 15, 20, 21, 22, 23] (by decide +kernel) (by decide +kernel)
set_option maxRecDepth 20000 in
theorem gX3_giveTo_X6_setLot : GoodIn wsX3_giveTo (wsV RX3 38 RX6 yX6_setLot wsX6_setLot) := goodIn_app (goodIn_of _ (by decide +kernel)) ggX3_giveTo_X6_setLot
theorem dX3_giveTo_0 : decode cX3_giveTo 0 = .ok (.aload_n 1, 1) := by decide +kernel
theorem dX3_giveTo_1 : decode cX3_giveTo 1 = .ok (.aload_n 0, 1) := by decide +kernel
theorem dX3_giveTo_2 : decode cX3_giveTo 2 = .ok (.getfield 19, 3) := by decide +kernel
theorem dX3_giveTo_5 : decode cX3_giveTo 5 = .ok (.aload_n 0, 1) := by decide +kernel
theorem dX3_giveTo_6 : decode cX3_giveTo 6 = .ok (.getfield 26, 3) := by decide +kernel
theorem dX3_giveTo_9 : decode cX3_giveTo 9 = .ok (.invokevirtual 34, 3) := by decide +kernel
theorem dX3_giveTo_12 : decode cX3_giveTo 12 = .ok (.aload_n 1, 1) := by decide +kernel
theorem dX3_giveTo_13 : decode cX3_giveTo 13 = .ok (.aload_n 0, 1) := by decide +kernel
theorem dX3_giveTo_14 : decode cX3_giveTo 14 = .ok (.getfield 31, 3) := by decide +kernel
theorem dX3_giveTo_17 : decode cX3_giveTo 17 = .ok (.invokevirtual 38, 3) := by decide +kernel
theorem dX3_giveTo_20 : decode cX3_giveTo 20 = .ok (.return_, 1) := by decide +kernel
end
section
theorem dX4_init_0 : decode cX4_init 0 = .ok (.aload_n 0, 1) := by decide +kernel
theorem dX4_init_1 : decode cX4_init 1 = .ok (.invokespecial 3, 3) := by decide +kernel
theorem dX4_init_4 : decode cX4_init 4 = .ok (.aload_n 0, 1) := by decide +kernel
theorem dX4_init_5 : decode cX4_init 5 = .ok (.aload_n 1, 1) := by decide +kernel
theorem dX4_init_6 : decode cX4_init 6 = .ok (.putfield 9, 3) := by decide +kernel
theorem dX4_init_9 : decode cX4_init 9 = .ok (.aload_n 0, 1) := by decide +kernel
theorem dX4_init_10 : decode cX4_init 10 = .ok (.aload_n 2, 1) := by decide +kernel
theorem dX4_init_11 : decode cX4_init 11 = .ok (.putfield 15, 3) := by decide +kernel
theorem dX4_init_14 : decode cX4_init 14 = .ok (.return_, 1) := by decide +kernel
theorem dX4_theTrace_0 : decode cX4_theTrace 0 = .ok (.aload_n 0, 1) := by decide +kernel
theorem dX4_theTrace_1 : decode cX4_theTrace 1 = .ok (.getfield 19, 3) := by decide +kernel
theorem dX4_theTrace_4 : decode cX4_theTrace 4 = .ok (.lreturn, 1) := by decide +kernel
set_option maxRecDepth 20000 in
theorem ggX4_rateAs_X4_asChild : GoodIn wsX4_rateAs wsX4_asChild := goodIn_r _ [6, 7, 8, 9, 10, 11, 12, 13, 14, 15, 16, 17, 18, 19, 78, 79, 80, 81, 82, 83, 84, 85] (by decide +kernel) (by decide +kernel)
set_option maxRecDepth 20000 in
theorem gX4_rateAs_X4_asChild : GoodIn wsX4_rateAs (wsV RX4 23 RX4 yX4_asChild wsX4_asChild) := goodIn_app (goodIn_of _ (by decide +kernel)) ggX4_rateAs_X4_asChild
set_option maxRecDepth 20000 in
theorem ggX4_rateAs_X4_asDreamer : GoodIn wsX4_rateAs wsX4_asDreamer := goodIn_r _ [23, 7, 24, 25, 2, 3, 4, 5, 6, 8, 9, 10, 11, 12, 13, 14, 15, 16, 17, 18, 19, 26, 27, 28, 29, 30, 31, 78, 79, 80, 81, 82, 83, 84, 85, 86, 87, 88, 89] (by decide +kernel) (by decide +kernel)
set_option maxRecDepth 20000 in
theorem gX4_rateAs_X4_asDreamer : GoodIn wsX4_rateAs (wsV RX4 27 RX4 yX4_asDreamer wsX4_asDreamer) := goodIn_app (goodIn_of _ (by decide +kernel)) ggX4_rateAs_X4_asDreamer
set_option maxRecDepth 20000 in
theorem ggX4_rateAs_X4_asWatcher : GoodIn wsX4_rateAs wsX4_asWatcher := goodIn_r _ [35, 7, 36, 8, 2, 3, 4, 5, 6, 9, 10, 11, 12, 13, 14, 15, 16, 17, 18, 19, 37, 38, 39, 40, 41, 78, 79, 80, 81, 82, 83, 84, 85] (by decide +kernel) (by decide +kernel)
set_option maxRecDepth 20000 in
theorem gX4_rateAs_X4_asWatcher : GoodIn wsX4_rateAs (wsV RX4 30 RX4 yX4_asWatcher wsX4_asWatcher) := goodIn_app (goodIn_of _ (by decide +kernel)) ggX4_rateAs_X4_asWatcher
set_option maxRecDepth 20000 in
theorem ggX4_rateAs_X4_asRunner : GoodIn wsX4_rateAs wsX4_asRunner := goodIn_r _ [45, 7, 46, 20, 21, 22, 5, 23, 24, 25, 2, 3, 4, 6, 8, 9, 10, 11, 12, 13, 14, 15, 16, 17, 18, 19, 26, 27, 28, 29, 30, 31, 78, 79, 80, 81, 82, 83, 84, 85, 86, 87, 88, 89] (by decide +kernel) (by decide +kernel)
set_option maxRecDepth 20000 in
theorem gX4_rateAs_X4_asRunner : GoodIn wsX4_rateAs (wsV RX4 33 RX4 yX4_asRunner wsX4_asRunner) := goodIn_app (goodIn_of _ (by decide +kernel)) ggX4_rateAs_X4_asRunner
set_option maxRecDepth 20000 in
theorem ggX4_rateAs_X4_asCopier : GoodIn wsX4_rateAs wsX4_asCopier := goodIn_r _ [50, 7, 51, 8, 32, 33, 34, 5, 35, 36, 2, 3, 4, 6, 9, 10, 11, 12, 13, 14, 15, 16, 17, 18, 19, 37, 38, 39, 40, 41, 52, 53, 54, 55, 56, 57, 58, 59, 60, 78, 79, 80, 81, 82, 83, 84, 85] (by decide +kernel) (by decide +kernel)
set_option maxRecDepth 20000 in
theorem gX4_rateAs_X4_asCopier : GoodIn wsX4_rateAs (wsV RX4 36 RX4 yX4_asCopier wsX4_asCopier) := goodIn_app (goodIn_of _ (by decide +kernel)) ggX4_rateAs_X4_asCopier
set_option maxRecDepth 20000 in
theorem ggX4_rateAs_X4_asListener : GoodIn wsX4_rateAs wsX4_asListener := goodIn_r _ [64, 7, 65, 25, 2, 3, 4, 5, 6, 8, 9, 10, 11, 12, 13, 14, 15, 16, 17, 18, 19, 66, 67, 68, 29, 69, 70, 71, 72, 73, 74, 75, 76, 77, 78, 79, 80, 81, 82, 83, 84, 85, 86, 87, 88, 89] (by decide +kernel) (by decide +kernel)
set_option maxRecDepth 20000 in
theorem gX4_rateAs_X4_asListener : GoodIn wsX4_rateAs (wsV RX4 39 RX4 yX4_asListener wsX4_asListener) := goodIn_app (goodIn_of _ (by decide +kernel)) ggX4_rateAs_X4_asListener
theorem dX4_rateAs_0 : decode cX4_rateAs 0 = .ok (.iload_n 1, 1) := by decide +kernel
theorem dX4_rateAs_1 : decode cX4_rateAs 1 = .ok (.tableswitch 75 0 5 #[39, 45, 51, 57, 63, 69], 39) := by decide +kernel
theorem dX4_rateAs_40 : decode cX4_rateAs 40 = .ok (.aload_n 0, 1) := by decide +kernel
theorem dX4_rateAs_41 : decode cX4_rateAs 41 = .ok (.iload_n 2, 1) := by decide +kernel
theorem dX4_rateAs_42 : decode cX4_rateAs 42 = .ok (.invokevirtual 23, 3) := by decide +kernel
theorem dX4_rateAs_45 : decode cX4_rateAs 45 = .ok (.ireturn, 1) := by decide +kernel
theorem dX4_rateAs_46 : decode cX4_rateAs 46 = .ok (.aload_n 0, 1) := by decide +kernel
theorem dX4_rateAs_47 : decode cX4_rateAs 47 = .ok (.iload_n 2, 1) := by decide +kernel
theorem dX4_rateAs_48 : decode cX4_rateAs 48 = .ok (.invokevirtual 27, 3) := by decide +kernel
theorem dX4_rateAs_51 : decode cX4_rateAs 51 = .ok (.ireturn, 1) := by decide +kernel
theorem dX4_rateAs_52 : decode cX4_rateAs 52 = .ok (.aload_n 0, 1) := by decide +kernel
theorem dX4_rateAs_53 : decode cX4_rateAs 53 = .ok (.iload_n 2, 1) := by decide +kernel
theorem dX4_rateAs_54 : decode cX4_rateAs 54 = .ok (.invokevirtual 30, 3) := by decide +kernel
theorem dX4_rateAs_57 : decode cX4_rateAs 57 = .ok (.ireturn, 1) := by decide +kernel
theorem dX4_rateAs_58 : decode cX4_rateAs 58 = .ok (.aload_n 0, 1) := by decide +kernel
theorem dX4_rateAs_59 : decode cX4_rateAs 59 = .ok (.iload_n 2, 1) := by decide +kernel
theorem dX4_rateAs_60 : decode cX4_rateAs 60 = .ok (.invokevirtual 33, 3) := by decide +kernel
theorem dX4_rateAs_63 : decode cX4_rateAs 63 = .ok (.ireturn, 1) := by decide +kernel
theorem dX4_rateAs_64 : decode cX4_rateAs 64 = .ok (.aload_n 0, 1) := by decide +kernel
theorem dX4_rateAs_65 : decode cX4_rateAs 65 = .ok (.iload_n 2, 1) := by decide +kernel
theorem dX4_rateAs_66 : decode cX4_rateAs 66 = .ok (.invokevirtual 36, 3) := by decide +kernel
theorem dX4_rateAs_69 : decode cX4_rateAs 69 = .ok (.ireturn, 1) := by decide +kernel
theorem dX4_rateAs_70 : decode cX4_rateAs 70 = .ok (.aload_n 0, 1) := by decide +kernel
theorem dX4_rateAs_71 : decode cX4_rateAs 71 = .ok (.iload_n 2, 1) := by decide +kernel
theorem dX4_rateAs_72 : decode cX4_rateAs 72 = .ok (.invokevirtual 39, 3) := by decide +kernel
theorem dX4_rateAs_75 : decode cX4_rateAs 75 = .ok (.ireturn, 1) := by decide +kernel
theorem dX4_rateAs_76 : decode cX4_rateAs 76 = .ok (.ldc 42, 2) := by decide +kernel
theorem dX4_rateAs_78 : decode cX4_rateAs 78 = .ok (.ireturn, 1) := by decide +kernel
set_option maxRecDepth 20000 in
theorem ggX4_asChild_X1_slipOf : GoodIn wsX4_asChild wsX1_slipOf := goodIn_r _ [7, 8, 9, 10, 11, 6, 12, 13, 17, 18, 19, 20, 21] (by decide +kernel) (by decide +kernel)
set_option maxRecDepth 20000 in
theorem gX4_asChild_X1_slipOf : GoodIn wsX4_asChild (wsV RX4 43 RX1 yX1_slipOf wsX1_slipOf) := goodIn_app (goodIn_of _ (by decide +kernel)) ggX4_asChild_X1_slipOf
theorem dX4_asChild_0 : decode cX4_asChild 0 = .ok (.aload_n 0, 1) := by decide +kernel
theorem dX4_asChild_1 : decode cX4_asChild 1 = .ok (.dup, 1) := by decide +kernel
theorem dX4_asChild_2 : decode cX4_asChild 2 = .ok (.getfield 19, 3) := by decide +kernel
theorem dX4_asChild_5 : decode cX4_asChild 5 = .ok (.lconst 1, 1) := by decide +kernel
theorem dX4_asChild_6 : decode cX4_asChild 6 = .ok (.ladd, 1) := by decide +kernel
theorem dX4_asChild_7 : decode cX4_asChild 7 = .ok (.putfield 19, 3) := by decide +kernel
theorem dX4_asChild_10 : decode cX4_asChild 10 = .ok (.aload_n 0, 1) := by decide +kernel
theorem dX4_asChild_11 : decode cX4_asChild 11 = .ok (.getfield 9, 3) := by decide +kernel
theorem dX4_asChild_14 : decode cX4_asChild 14 = .ok (.iload_n 1, 1) := by decide +kernel
theorem dX4_asChild_15 : decode cX4_asChild 15 = .ok (.invokevirtual 43, 3) := by decide +kernel
theorem dX4_asChild_18 : decode cX4_asChild 18 = .ok (.ireturn, 1) := by decide +kernel
set_option maxRecDepth 20000 in
theorem ggX4_asDreamer_X4_asChild : GoodIn wsX4_asDreamer wsX4_asChild := goodIn_r _ [8, 1, 9, 10, 11, 12, 13, 14, 15, 16, 17, 18, 19, 20, 27, 28, 29, 30, 31, 32, 33, 34] (by decide +kernel) (by decide +kernel)
set_option maxRecDepth 20000 in
theorem gX4_asDreamer_X4_asChild : GoodIn wsX4_asDreamer (wsV RX4 23 RX4 yX4_asChild wsX4_asChild) := goodIn_app (goodIn_of _ (by decide +kernel)) ggX4_asDreamer_X4_asChild
set_option maxRecDepth 20000 in
theorem ggX4_asDreamer_X6_streak : GoodIn wsX4_asDreamer wsX6_streak := goodIn_r _ [25, 26, 35, 36, 37, 38] (by decide +kernel) (by decide +kernel)
set_option maxRecDepth 20000 in
theorem gX4_asDreamer_X6_streak : GoodIn wsX4_asDreamer (wsV RX4 50 RX6 yX6_streak wsX6_streak) := goodIn_app (goodIn_of _ (by decide +kernel)) ggX4_asDreamer_X6_streak
theorem dX4_asDreamer_0 : decode cX4_asDreamer 0 = .ok (.aload_n 0, 1) := by decide +kernel
theorem dX4_asDreamer_1 : decode cX4_asDreamer 1 = .ok (.dup, 1) := by decide +kernel
theorem dX4_asDreamer_2 : decode cX4_asDreamer 2 = .ok (.getfield 19, 3) := by decide +kernel
theorem dX4_asDreamer_5 : decode cX4_asDreamer 5 = .ok (.ldc2_w 48, 3) := by decide +kernel
theorem dX4_asDreamer_8 : decode cX4_asDreamer 8 = .ok (.ladd, 1) := by decide +kernel
theorem dX4_asDreamer_9 : decode cX4_asDreamer 9 = .ok (.putfield 19, 3) := by decide +kernel
theorem dX4_asDreamer_12 : decode cX4_asDreamer 12 = .ok (.aload_n 0, 1) := by decide +kernel
theorem dX4_asDreamer_13 : decode cX4_asDreamer 13 = .ok (.iload_n 1, 1) := by decide +kernel
theorem dX4_asDreamer_14 : decode cX4_asDreamer 14 = .ok (.invokevirtual 23, 3) := by decide +kernel
theorem dX4_asDreamer_17 : decode cX4_asDreamer 17 = .ok (.aload_n 0, 1) := by decide +kernel
theorem dX4_asDreamer_18 : decode cX4_asDreamer 18 = .ok (.getfield 15, 3) := by decide +kernel
theorem dX4_asDreamer_21 : decode cX4_asDreamer 21 = .ok (.invokevirtual 50, 3) := by decide +kernel
theorem dX4_asDreamer_24 : decode cX4_asDreamer 24 = .ok (.iadd, 1) := by decide +kernel
theorem dX4_asDreamer_25 : decode cX4_asDreamer 25 = .ok (.ireturn, 1) := by decide +kernel
set_option maxRecDepth 20000 in
theorem ggX4_asWatcher_X4_asChild : GoodIn wsX4_asWatcher wsX4_asChild := goodIn_r _ [8, 1, 3, 9, 10, 11, 12, 13, 14, 15, 16, 17, 18, 19, 25, 26, 27, 28, 29, 30, 31, 32] (by decide +kernel) (by decide +kernel)
set_option maxRecDepth 20000 in
theorem gX4_asWatcher_X4_asChild : GoodIn wsX4_asWatcher (wsV RX4 23 RX4 yX4_asChild wsX4_asChild) := goodIn_app (goodIn_of _ (by decide +kernel)) ggX4_asWatcher_X4_asChild
set_option maxRecDepth 20000 in
theorem ggX4_asWatcher_X1_lateOf : GoodIn wsX4_asWatcher wsX1_lateOf := goodIn_r _ [23, 24, 15, 16, 17, 12, 18, 19, 28, 29, 30, 31, 32] (by decide +kernel) (by decide +kernel)
set_option maxRecDepth 20000 in
theorem gX4_asWatcher_X1_lateOf : GoodIn wsX4_asWatcher (wsV RX4 58 RX1 yX1_lateOf wsX1_lateOf) := goodIn_app (goodIn_of _ (by decide +kernel)) ggX4_asWatcher_X1_lateOf
theorem dX4_asWatcher_0 : decode cX4_asWatcher 0 = .ok (.aload_n 0, 1) := by decide +kernel
theorem dX4_asWatcher_1 : decode cX4_asWatcher 1 = .ok (.dup, 1) := by decide +kernel
theorem dX4_asWatcher_2 : decode cX4_asWatcher 2 = .ok (.getfield 19, 3) := by decide +kernel
theorem dX4_asWatcher_5 : decode cX4_asWatcher 5 = .ok (.ldc2_w 56, 3) := by decide +kernel
theorem dX4_asWatcher_8 : decode cX4_asWatcher 8 = .ok (.ladd, 1) := by decide +kernel
theorem dX4_asWatcher_9 : decode cX4_asWatcher 9 = .ok (.putfield 19, 3) := by decide +kernel
theorem dX4_asWatcher_12 : decode cX4_asWatcher 12 = .ok (.aload_n 0, 1) := by decide +kernel
theorem dX4_asWatcher_13 : decode cX4_asWatcher 13 = .ok (.iload_n 1, 1) := by decide +kernel
theorem dX4_asWatcher_14 : decode cX4_asWatcher 14 = .ok (.invokevirtual 23, 3) := by decide +kernel
theorem dX4_asWatcher_17 : decode cX4_asWatcher 17 = .ok (.aload_n 0, 1) := by decide +kernel
theorem dX4_asWatcher_18 : decode cX4_asWatcher 18 = .ok (.getfield 9, 3) := by decide +kernel
theorem dX4_asWatcher_21 : decode cX4_asWatcher 21 = .ok (.iload_n 1, 1) := by decide +kernel
theorem dX4_asWatcher_22 : decode cX4_asWatcher 22 = .ok (.invokevirtual 58, 3) := by decide +kernel
theorem dX4_asWatcher_25 : decode cX4_asWatcher 25 = .ok (.isub, 1) := by decide +kernel
theorem dX4_asWatcher_26 : decode cX4_asWatcher 26 = .ok (.ireturn, 1) := by decide +kernel
set_option maxRecDepth 20000 in
theorem ggX4_asRunner_X4_asDreamer : GoodIn wsX4_asRunner wsX4_asDreamer := goodIn_r _ [7, 1, 8, 9, 10, 11, 12, 6, 13, 14, 15, 16, 17, 18, 19, 20, 21, 22, 23, 24, 25, 26, 27, 28, 29, 30, 31, 32, 33, 34, 35, 36, 37, 38, 39, 40, 41, 42, 43] (by decide +kernel) (by decide +kernel)
set_option maxRecDepth 20000 in
theorem gX4_asRunner_X4_asDreamer : GoodIn wsX4_asRunner (wsV RX4 27 RX4 yX4_asDreamer wsX4_asDreamer) := goodIn_app (goodIn_of _ (by decide +kernel)) ggX4_asRunner_X4_asDreamer
theorem dX4_asRunner_0 : decode cX4_asRunner 0 = .ok (.aload_n 0, 1) := by decide +kernel
theorem dX4_asRunner_1 : decode cX4_asRunner 1 = .ok (.dup, 1) := by decide +kernel
theorem dX4_asRunner_2 : decode cX4_asRunner 2 = .ok (.getfield 19, 3) := by decide +kernel
theorem dX4_asRunner_5 : decode cX4_asRunner 5 = .ok (.ldc2_w 61, 3) := by decide +kernel
theorem dX4_asRunner_8 : decode cX4_asRunner 8 = .ok (.ladd, 1) := by decide +kernel
theorem dX4_asRunner_9 : decode cX4_asRunner 9 = .ok (.putfield 19, 3) := by decide +kernel
theorem dX4_asRunner_12 : decode cX4_asRunner 12 = .ok (.iconst 2, 1) := by decide +kernel
theorem dX4_asRunner_13 : decode cX4_asRunner 13 = .ok (.aload_n 0, 1) := by decide +kernel
theorem dX4_asRunner_14 : decode cX4_asRunner 14 = .ok (.iload_n 1, 1) := by decide +kernel
theorem dX4_asRunner_15 : decode cX4_asRunner 15 = .ok (.invokevirtual 27, 3) := by decide +kernel
theorem dX4_asRunner_18 : decode cX4_asRunner 18 = .ok (.imul, 1) := by decide +kernel
theorem dX4_asRunner_19 : decode cX4_asRunner 19 = .ok (.ireturn, 1) := by decide +kernel
set_option maxRecDepth 20000 in
theorem ggX4_asCopier_X4_asWatcher : GoodIn wsX4_asCopier wsX4_asWatcher := goodIn_r _ [8, 1, 9, 3, 10, 11, 12, 7, 13, 14, 15, 16, 17, 18, 19, 20, 21, 22, 23, 24, 25, 26, 27, 28, 29, 39, 40, 41, 42, 43, 44, 45, 46] (by decide +kernel) (by decide +kernel)
set_option maxRecDepth 20000 in
theorem gX4_asCopier_X4_asWatcher : GoodIn wsX4_asCopier (wsV RX4 30 RX4 yX4_asWatcher wsX4_asWatcher) := goodIn_app (goodIn_of _ (by decide +kernel)) ggX4_asCopier_X4_asWatcher
set_option maxRecDepth 20000 in
theorem ggX4_asCopier_X1_howManyCopy : GoodIn wsX4_asCopier wsX1_howManyCopy := goodIn_r _ [33, 24, 34, 35, 36, 17, 37, 38, 20, 21, 22, 23, 42, 43, 44, 45, 46] (by decide +kernel) (by decide +kernel)
set_option maxRecDepth 20000 in
theorem gX4_asCopier_X1_howManyCopy : GoodIn wsX4_asCopier (wsV RX4 65 RX1 yX1_howManyCopy wsX1_howManyCopy) := goodIn_app (goodIn_of _ (by decide +kernel)) ggX4_asCopier_X1_howManyCopy
theorem dX4_asCopier_0 : decode cX4_asCopier 0 = .ok (.aload_n 0, 1) := by decide +kernel
theorem dX4_asCopier_1 : decode cX4_asCopier 1 = .ok (.dup, 1) := by decide +kernel
theorem dX4_asCopier_2 : decode cX4_asCopier 2 = .ok (.getfield 19, 3) := by decide +kernel
theorem dX4_asCopier_5 : decode cX4_asCopier 5 = .ok (.ldc2_w 63, 3) := by decide +kernel
theorem dX4_asCopier_8 : decode cX4_asCopier 8 = .ok (.ladd, 1) := by decide +kernel
theorem dX4_asCopier_9 : decode cX4_asCopier 9 = .ok (.putfield 19, 3) := by decide +kernel
theorem dX4_asCopier_12 : decode cX4_asCopier 12 = .ok (.aload_n 0, 1) := by decide +kernel
theorem dX4_asCopier_13 : decode cX4_asCopier 13 = .ok (.iload_n 1, 1) := by decide +kernel
theorem dX4_asCopier_14 : decode cX4_asCopier 14 = .ok (.invokevirtual 30, 3) := by decide +kernel
theorem dX4_asCopier_17 : decode cX4_asCopier 17 = .ok (.aload_n 0, 1) := by decide +kernel
theorem dX4_asCopier_18 : decode cX4_asCopier 18 = .ok (.getfield 9, 3) := by decide +kernel
theorem dX4_asCopier_21 : decode cX4_asCopier 21 = .ok (.iload_n 1, 1) := by decide +kernel
theorem dX4_asCopier_22 : decode cX4_asCopier 22 = .ok (.invokevirtual 65, 3) := by decide +kernel
theorem dX4_asCopier_25 : decode cX4_asCopier 25 = .ok (.iadd, 1) := by decide +kernel
theorem dX4_asCopier_26 : decode cX4_asCopier 26 = .ok (.ireturn, 1) := by decide +kernel
set_option maxRecDepth 20000 in
theorem ggX4_asListener_X4_asChild : GoodIn wsX4_asListener wsX4_asChild := goodIn_r _ [8, 1, 9, 10, 11, 12, 13, 14, 15, 16, 17, 18, 19, 20, 34, 35, 36, 37, 38, 39, 40, 41] (by decide +kernel) (by decide +kernel)
set_option maxRecDepth 20000 in
theorem gX4_asListener_X4_asChild : GoodIn wsX4_asListener (wsV RX4 23 RX4 yX4_asChild wsX4_asChild) := goodIn_app (goodIn_of _ (by decide +kernel)) ggX4_asListener_X4_asChild
set_option maxRecDepth 20000 in
theorem ggX4_asListener_X6_howManyIn : GoodIn wsX4_asListener wsX6_howManyIn := goodIn_r _ [25, 26, 27, 28, 29, 30, 31, 32, 33, 42, 43, 44, 45] (by decide +kernel) (by decide +kernel)
set_option maxRecDepth 20000 in
theorem gX4_asListener_X6_howManyIn : GoodIn wsX4_asListener (wsV RX4 70 RX6 yX6_howManyIn wsX6_howManyIn) := goodIn_app (goodIn_of _ (by decide +kernel)) ggX4_asListener_X6_howManyIn
theorem dX4_asListener_0 : decode cX4_asListener 0 = .ok (.aload_n 0, 1) := by decide +kernel
theorem dX4_asListener_1 : decode cX4_asListener 1 = .ok (.dup, 1) := by decide +kernel
theorem dX4_asListener_2 : decode cX4_asListener 2 = .ok (.getfield 19, 3) := by decide +kernel
theorem dX4_asListener_5 : decode cX4_asListener 5 = .ok (.ldc2_w 68, 3) := by decide +kernel
theorem dX4_asListener_8 : decode cX4_asListener 8 = .ok (.ladd, 1) := by decide +kernel
theorem dX4_asListener_9 : decode cX4_asListener 9 = .ok (.putfield 19, 3) := by decide +kernel
theorem dX4_asListener_12 : decode cX4_asListener 12 = .ok (.aload_n 0, 1) := by decide +kernel
theorem dX4_asListener_13 : decode cX4_asListener 13 = .ok (.iload_n 1, 1) := by decide +kernel
theorem dX4_asListener_14 : decode cX4_asListener 14 = .ok (.invokevirtual 23, 3) := by decide +kernel
theorem dX4_asListener_17 : decode cX4_asListener 17 = .ok (.aload_n 0, 1) := by decide +kernel
theorem dX4_asListener_18 : decode cX4_asListener 18 = .ok (.getfield 15, 3) := by decide +kernel
theorem dX4_asListener_21 : decode cX4_asListener 21 = .ok (.invokevirtual 70, 3) := by decide +kernel
theorem dX4_asListener_24 : decode cX4_asListener 24 = .ok (.iadd, 1) := by decide +kernel
theorem dX4_asListener_25 : decode cX4_asListener 25 = .ok (.ireturn, 1) := by decide +kernel
end
section
set_option maxRecDepth 20000 in
theorem ggX5_init_X1_init : GoodIn wsX5_init wsX1_init := goodIn_r _ [11, 12, 2, 3, 13, 14, 15, 16, 23, 24, 25, 26, 27] (by decide +kernel) (by decide +kernel)
set_option maxRecDepth 20000 in
theorem gX5_init_X1_init : GoodIn wsX5_init (wsX1_init) := ggX5_init_X1_init
theorem dX5_init_0 : decode cX5_init 0 = .ok (.aload_n 0, 1) := by decide +kernel
theorem dX5_init_1 : decode cX5_init 1 = .ok (.invokespecial 3, 3) := by decide +kernel
theorem dX5_init_4 : decode cX5_init 4 = .ok (.aload_n 0, 1) := by decide +kernel
theorem dX5_init_5 : decode cX5_init 5 = .ok (.aload_n 1, 1) := by decide +kernel
theorem dX5_init_6 : decode cX5_init 6 = .ok (.putfield 9, 3) := by decide +kernel
theorem dX5_init_9 : decode cX5_init 9 = .ok (.aload_n 0, 1) := by decide +kernel
theorem dX5_init_10 : decode cX5_init 10 = .ok (.new 15, 3) := by decide +kernel
theorem dX5_init_13 : decode cX5_init 13 = .ok (.dup, 1) := by decide +kernel
theorem dX5_init_14 : decode cX5_init 14 = .ok (.invokespecial 17, 3) := by decide +kernel
theorem dX5_init_17 : decode cX5_init 17 = .ok (.putfield 18, 3) := by decide +kernel
theorem dX5_init_20 : decode cX5_init 20 = .ok (.return_, 1) := by decide +kernel
set_option maxRecDepth 20000 in
theorem ggX5_readItems_X1_forget : GoodIn wsX5_readItems wsX1_forget := goodIn_r _ [8, 9, 10, 142, 143, 144, 145, 146] (by decide +kernel) (by decide +kernel)
set_option maxRecDepth 20000 in
theorem gX5_readItems_X1_forget : GoodIn wsX5_readItems (wsV RX5 22 RX1 yX1_forget wsX1_forget) := goodIn_app (goodIn_of _ (by decide +kernel)) ggX5_readItems_X1_forget
set_option maxRecDepth 20000 in
theorem ggX5_readItems_X5_advance : GoodIn wsX5_readItems wsX5_advance := goodIn_r _ [15, 2, 16, 17, 3, 18, 19, 20, 21, 22, 23, 24, 25, 26, 27, 28, 29, 30, 14, 31, 32, 33, 34, 35, 36, 37, 38, 39, 40, 41, 42, 43, 44, 45, 46, 47, 48, 49, 50, 51, 52, 53, 54, 55, 56, 57, 58, 59, 60, 61, 62, 63, 64, 65, 66, 67, 68, 69, 70, 71, 72, 73, 74, 75, 76, 77, 78, 79, 80, 81, 82, 83, 84, 85, 86, 87, 88, 89, 90, 91, 92, 93, 94, 95, 96, 97, 98, 99, 100, 136, 137, 138, 139, 140, 141, 147, 148] (by decide +kernel) (by decide +kernel)
set_option maxRecDepth 20000 in
theorem gX5_readItems_X5_advance : GoodIn wsX5_readItems (wsV RX5 29 RX5 yX5_advance wsX5_advance) := goodIn_app (goodIn_of _ (by decide +kernel)) ggX5_readItems_X5_advance
set_option maxRecDepth 20000 in
theorem ggX5_readItems_X5_readItem : GoodIn wsX5_readItems wsX5_readItem := goodIn_r _ [104, 3, 105, 106, 107, 14, 108, 1, 96, 109, 110, 111, 7, 112, 9, 11, 12, 13, 15, 2, 16, 17, 18, 19, 20, 21, 22, 23, 24, 25, 26, 27, 28, 29, 30, 31, 32, 33, 34, 35, 36, 37, 38, 39, 40, 41, 42, 43, 44, 45, 46, 47, 48, 49, 50, 51, 52, 53, 54, 55, 56, 57, 58, 59, 60, 61, 62, 63, 64, 65, 66, 67, 68, 69, 70, 71, 72, 73, 74, 75, 76, 77, 78, 79, 80, 81, 82, 83, 84, 85, 86, 87, 88, 89, 90, 91, 92, 93, 94, 95, 97, 98, 99, 100, 113, 114, 115, 116, 117, 118, 119, 120, 121, 122, 123, 124, 125, 126, 127, 128, 129, 130, 131, 132, 133, 134, 135, 10, 136, 137, 138, 139, 140, 141, 142, 143, 144, 145, 146, 147, 148] (by decide +kernel) (by decide +kernel)
set_option maxRecDepth 20000 in
theorem gX5_readItems_X5_readItem : GoodIn wsX5_readItems (wsV RX5 35 RX5 yX5_readItem wsX5_readItem) := goodIn_app (goodIn_of _ (by decide +kernel)) ggX5_readItems_X5_readItem
theorem dX5_readItems_0 : decode cX5_readItems 0 = .ok (.aload_n 0, 1) := by decide +kernel
theorem dX5_readItems_1 : decode cX5_readItems 1 = .ok (.getfield 18, 3) := by decide +kernel
theorem dX5_readItems_4 : decode cX5_readItems 4 = .ok (.invokevirtual 22, 3) := by decide +kernel
theorem dX5_readItems_7 : decode cX5_readItems 7 = .ok (.aload_n 0, 1) := by decide +kernel
theorem dX5_readItems_8 : decode cX5_readItems 8 = .ok (.iconst 0, 1) := by decide +kernel
theorem dX5_readItems_9 : decode cX5_readItems 9 = .ok (.putfield 25, 3) := by decide +kernel
theorem dX5_readItems_12 : decode cX5_readItems 12 = .ok (.aload_n 0, 1) := by decide +kernel
theorem dX5_readItems_13 : decode cX5_readItems 13 = .ok (.invokevirtual 29, 3) := by decide +kernel
theorem dX5_readItems_16 : decode cX5_readItems 16 = .ok (.iconst 0, 1) := by decide +kernel
theorem dX5_readItems_17 : decode cX5_readItems 17 = .ok (.istore_n 1, 1) := by decide +kernel
theorem dX5_readItems_18 : decode cX5_readItems 18 = .ok (.iload_n 1, 1) := by decide +kernel
theorem dX5_readItems_19 : decode cX5_readItems 19 = .ok (.sipush 200, 3) := by decide +kernel
theorem dX5_readItems_22 : decode cX5_readItems 22 = .ok (.if_icmp .gt 27, 3) := by decide +kernel
theorem dX5_readItems_25 : decode cX5_readItems 25 = .ok (.aload_n 0, 1) := by decide +kernel
theorem dX5_readItems_26 : decode cX5_readItems 26 = .ok (.getfield 32, 3) := by decide +kernel
theorem dX5_readItems_29 : decode cX5_readItems 29 = .ok (.ifCond .ne 5, 3) := by decide +kernel
theorem dX5_readItems_32 : decode cX5_readItems 32 = .ok (.iload_n 1, 1) := by decide +kernel
theorem dX5_readItems_33 : decode cX5_readItems 33 = .ok (.ireturn, 1) := by decide +kernel
theorem dX5_readItems_34 : decode cX5_readItems 34 = .ok (.aload_n 0, 1) := by decide +kernel
theorem dX5_readItems_35 : decode cX5_readItems 35 = .ok (.invokevirtual 35, 3) := by decide +kernel
theorem dX5_readItems_38 : decode cX5_readItems 38 = .ok (.ifCond .ne 5, 3) := by decide +kernel
theorem dX5_readItems_41 : decode cX5_readItems 41 = .ok (.iconst (-1), 1) := by decide +kernel
theorem dX5_readItems_42 : decode cX5_readItems 42 = .ok (.ireturn, 1) := by decide +kernel
theorem dX5_readItems_43 : decode cX5_readItems 43 = .ok (.iinc 1 1, 3) := by decide +kernel
theorem dX5_readItems_46 : decode cX5_readItems 46 = .ok (.goto (-28), 3) := by decide +kernel
theorem dX5_readItems_49 : decode cX5_readItems 49 = .ok (.iconst (-1), 1) := by decide +kernel
theorem dX5_readItems_50 : decode cX5_readItems 50 = .ok (.ireturn, 1) := by decide +kernel
theorem dX5_fault_0 : decode cX5_fault 0 = .ok (.aload_n 0, 1) := by decide +kernel
theorem dX5_fault_1 : decode cX5_fault 1 = .ok (.getfield 39, 3) := by decide +kernel
theorem dX5_fault_4 : decode cX5_fault 4 = .ok (.ireturn, 1) := by decide +kernel
theorem dX5_found_0 : decode cX5_found 0 = .ok (.aload_n 0, 1) := by decide +kernel
theorem dX5_found_1 : decode cX5_found 1 = .ok (.getfield 18, 3) := by decide +kernel
theorem dX5_found_4 : decode cX5_found 4 = .ok (.areturn, 1) := by decide +kernel
set_option maxRecDepth 20000 in
theorem ggX5_readItem_X5_readChild : GoodIn wsX5_readItem wsX5_readChild := goodIn_r _ [6, 7, 8, 1, 9, 10, 11, 12, 13, 14, 15, 16, 17, 5, 18, 19, 20, 21, 22, 23, 24, 25, 26, 27, 28, 29, 30, 31, 32, 33, 34, 35, 36, 37, 38, 39, 40, 41, 42, 43, 44, 45, 46, 47, 48, 49, 50, 51, 52, 53, 54, 55, 56, 57, 58, 59, 60, 61, 62, 63, 64, 65, 66, 67, 68, 69, 70, 71, 72, 73, 74, 75, 76, 77, 78, 79, 80, 81, 82, 83, 84, 85, 86, 87, 88, 89, 90, 91, 92, 93, 94, 95, 96, 97, 98, 99, 100, 101, 102, 103, 104, 105, 106, 107, 108, 109, 110, 111, 112, 113, 114, 115, 116, 117, 118, 128, 129, 130, 131, 132, 133, 134, 135, 136, 137, 138, 139, 140] (by decide +kernel) (by decide +kernel)
set_option maxRecDepth 20000 in
theorem gX5_readItem_X5_readChild : GoodIn wsX5_readItem (wsV RX5 42 RX5 yX5_readChild wsX5_readChild) := goodIn_app (goodIn_of _ (by decide +kernel)) ggX5_readItem_X5_readChild
set_option maxRecDepth 20000 in
theorem ggX5_readItem_X5_readLittle : GoodIn wsX5_readItem wsX5_readLittle := goodIn_r _ [122, 1, 7, 8, 15, 16, 17, 5, 18, 19, 20, 21, 22, 23, 24, 25, 26, 27, 28, 29, 30, 31, 32, 33, 34, 35, 36, 37, 38, 39, 40, 41, 42, 43, 44, 45, 46, 47, 48, 49, 50, 51, 52, 53, 54, 55, 56, 57, 58, 59, 60, 61, 62, 63, 64, 65, 66, 67, 68, 69, 70, 71, 72, 73, 74, 75, 76, 77, 78, 79, 80, 81, 82, 83, 84, 85, 86, 87, 88, 89, 90, 91, 92, 93, 94, 95, 96, 97, 98, 99, 100, 101, 102, 103, 108, 109, 110, 12, 111, 14, 123, 124, 125, 126, 127, 128, 129, 130, 131, 132, 133, 139, 140, 134, 135, 136, 137, 138] (by decide +kernel) (by decide +kernel)
set_option maxRecDepth 20000 in
theorem gX5_readItem_X5_readLittle : GoodIn wsX5_readItem (wsV RX5 45 RX5 yX5_readLittle wsX5_readLittle) := goodIn_app (goodIn_of _ (by decide +kernel)) ggX5_readItem_X5_readLittle
theorem dX5_readItem_0 : decode cX5_readItem 0 = .ok (.aload_n 0, 1) := by decide +kernel
theorem dX5_readItem_1 : decode cX5_readItem 1 = .ok (.getfield 32, 3) := by decide +kernel
theorem dX5_readItem_4 : decode cX5_readItem 4 = .ok (.iconst 4, 1) := by decide +kernel
theorem dX5_readItem_5 : decode cX5_readItem 5 = .ok (.if_icmp .ne 8, 3) := by decide +kernel
theorem dX5_readItem_8 : decode cX5_readItem 8 = .ok (.aload_n 0, 1) := by decide +kernel
theorem dX5_readItem_9 : decode cX5_readItem 9 = .ok (.invokevirtual 42, 3) := by decide +kernel
theorem dX5_readItem_12 : decode cX5_readItem 12 = .ok (.ireturn, 1) := by decide +kernel
theorem dX5_readItem_13 : decode cX5_readItem 13 = .ok (.aload_n 0, 1) := by decide +kernel
theorem dX5_readItem_14 : decode cX5_readItem 14 = .ok (.getfield 32, 3) := by decide +kernel
theorem dX5_readItem_17 : decode cX5_readItem 17 = .ok (.iconst 5, 1) := by decide +kernel
theorem dX5_readItem_18 : decode cX5_readItem 18 = .ok (.if_icmp .ne 14, 3) := by decide +kernel
theorem dX5_readItem_21 : decode cX5_readItem 21 = .ok (.aload_n 0, 1) := by decide +kernel
theorem dX5_readItem_22 : decode cX5_readItem 22 = .ok (.invokevirtual 45, 3) := by decide +kernel
theorem dX5_readItem_25 : decode cX5_readItem 25 = .ok (.ifCond .eq 7, 3) := by decide +kernel
theorem dX5_readItem_28 : decode cX5_readItem 28 = .ok (.iconst 1, 1) := by decide +kernel
theorem dX5_readItem_29 : decode cX5_readItem 29 = .ok (.goto 4, 3) := by decide +kernel
theorem dX5_readItem_32 : decode cX5_readItem 32 = .ok (.iconst 0, 1) := by decide +kernel
theorem dX5_readItem_33 : decode cX5_readItem 33 = .ok (.ireturn, 1) := by decide +kernel
set_option maxRecDepth 20000 in
theorem ggX5_readChild_X1_size : GoodIn wsX5_readChild wsX1_size := goodIn_r _ [8, 9, 121, 122, 123, 124, 125] (by decide +kernel) (by decide +kernel)
set_option maxRecDepth 20000 in
theorem gX5_readChild_X1_size : GoodIn wsX5_readChild (wsV RX5 48 RX1 yX1_size wsX1_size) := goodIn_app (goodIn_of _ (by decide +kernel)) ggX5_readChild_X1_size
set_option maxRecDepth 20000 in
theorem ggX5_readChild_X5_advance : GoodIn wsX5_readChild wsX5_advance := goodIn_r _ [14, 15, 16, 17, 3, 18, 19, 20, 21, 22, 23, 24, 25, 26, 27, 28, 29, 30, 13, 31, 32, 33, 34, 35, 36, 37, 38, 39, 40, 41, 42, 43, 44, 45, 46, 47, 48, 49, 50, 51, 52, 53, 54, 55, 56, 57, 58, 59, 60, 61, 62, 63, 64, 65, 66, 67, 68, 69, 70, 71, 72, 73, 74, 75, 76, 77, 78, 79, 80, 81, 82, 83, 84, 85, 86, 87, 88, 89, 90, 91, 92, 93, 94, 95, 2, 96, 97, 98, 99, 115, 116, 117, 118, 119, 120, 126, 127] (by decide +kernel) (by decide +kernel)
set_option maxRecDepth 20000 in
theorem gX5_readChild_X5_advance : GoodIn wsX5_readChild (wsV RX5 29 RX5 yX5_advance wsX5_advance) := goodIn_app (goodIn_of _ (by decide +kernel)) ggX5_readChild_X5_advance
set_option maxRecDepth 20000 in
theorem ggX5_readChild_X5_isNumberUpTo : GoodIn wsX5_readChild wsX5_isNumberUpTo := goodIn_r _ [103, 3, 2, 115, 116, 117, 118, 119, 120] (by decide +kernel) (by decide +kernel)
set_option maxRecDepth 20000 in
theorem gX5_readChild_X5_isNumberUpTo : GoodIn wsX5_readChild (wsV RX5 52 RX5 yX5_isNumberUpTo wsX5_isNumberUpTo) := goodIn_app (goodIn_of _ (by decide +kernel)) ggX5_readChild_X5_isNumberUpTo
set_option maxRecDepth 20000 in
theorem ggX5_readChild_X1_has : GoodIn wsX5_readChild wsX1_has := goodIn_r _ [107, 9, 121, 122, 123, 124, 125] (by decide +kernel) (by decide +kernel)
set_option maxRecDepth 20000 in
theorem gX5_readChild_X1_has : GoodIn wsX5_readChild (wsV RX5 59 RX1 yX1_has wsX1_has) := goodIn_app (goodIn_of _ (by decide +kernel)) ggX5_readChild_X1_has
set_option maxRecDepth 20000 in
theorem ggX5_readChild_X1_add : GoodIn wsX5_readChild wsX1_add := goodIn_r _ [111, 9, 112, 113, 114, 121, 122, 123, 124, 125] (by decide +kernel) (by decide +kernel)
set_option maxRecDepth 20000 in
theorem gX5_readChild_X1_add : GoodIn wsX5_readChild (wsV RX5 62 RX1 yX1_add wsX1_add) := goodIn_app (goodIn_of _ (by decide +kernel)) ggX5_readChild_X1_add
theorem dX5_readChild_0 : decode cX5_readChild 0 = .ok (.aload_n 0, 1) := by decide +kernel
theorem dX5_readChild_1 : decode cX5_readChild 1 = .ok (.getfield 18, 3) := by decide +kernel
theorem dX5_readChild_4 : decode cX5_readChild 4 = .ok (.invokevirtual 48, 3) := by decide +kernel
theorem dX5_readChild_7 : decode cX5_readChild 7 = .ok (.bipush 6, 2) := by decide +kernel
theorem dX5_readChild_9 : decode cX5_readChild 9 = .ok (.if_icmp .lt 5, 3) := by decide +kernel
theorem dX5_readChild_12 : decode cX5_readChild 12 = .ok (.iconst 0, 1) := by decide +kernel
theorem dX5_readChild_13 : decode cX5_readChild 13 = .ok (.ireturn, 1) := by decide +kernel
theorem dX5_readChild_14 : decode cX5_readChild 14 = .ok (.aload_n 0, 1) := by decide +kernel
theorem dX5_readChild_15 : decode cX5_readChild 15 = .ok (.invokevirtual 29, 3) := by decide +kernel
theorem dX5_readChild_18 : decode cX5_readChild 18 = .ok (.aload_n 0, 1) := by decide +kernel
theorem dX5_readChild_19 : decode cX5_readChild 19 = .ok (.bipush 9, 2) := by decide +kernel
theorem dX5_readChild_21 : decode cX5_readChild 21 = .ok (.invokevirtual 52, 3) := by decide +kernel
theorem dX5_readChild_24 : decode cX5_readChild 24 = .ok (.ifCond .ne 5, 3) := by decide +kernel
theorem dX5_readChild_27 : decode cX5_readChild 27 = .ok (.iconst 0, 1) := by decide +kernel
theorem dX5_readChild_28 : decode cX5_readChild 28 = .ok (.ireturn, 1) := by decide +kernel
theorem dX5_readChild_29 : decode cX5_readChild 29 = .ok (.aload_n 0, 1) := by decide +kernel
theorem dX5_readChild_30 : decode cX5_readChild 30 = .ok (.getfield 56, 3) := by decide +kernel
theorem dX5_readChild_33 : decode cX5_readChild 33 = .ok (.istore_n 1, 1) := by decide +kernel
theorem dX5_readChild_34 : decode cX5_readChild 34 = .ok (.aload_n 0, 1) := by decide +kernel
theorem dX5_readChild_35 : decode cX5_readChild 35 = .ok (.invokevirtual 29, 3) := by decide +kernel
theorem dX5_readChild_38 : decode cX5_readChild 38 = .ok (.aload_n 0, 1) := by decide +kernel
theorem dX5_readChild_39 : decode cX5_readChild 39 = .ok (.bipush 9, 2) := by decide +kernel
theorem dX5_readChild_41 : decode cX5_readChild 41 = .ok (.invokevirtual 52, 3) := by decide +kernel
theorem dX5_readChild_44 : decode cX5_readChild 44 = .ok (.ifCond .ne 5, 3) := by decide +kernel
theorem dX5_readChild_47 : decode cX5_readChild 47 = .ok (.iconst 0, 1) := by decide +kernel
theorem dX5_readChild_48 : decode cX5_readChild 48 = .ok (.ireturn, 1) := by decide +kernel
theorem dX5_readChild_49 : decode cX5_readChild 49 = .ok (.aload_n 0, 1) := by decide +kernel
theorem dX5_readChild_50 : decode cX5_readChild 50 = .ok (.getfield 56, 3) := by decide +kernel
theorem dX5_readChild_53 : decode cX5_readChild 53 = .ok (.istore_n 2, 1) := by decide +kernel
theorem dX5_readChild_54 : decode cX5_readChild 54 = .ok (.aload_n 0, 1) := by decide +kernel
theorem dX5_readChild_55 : decode cX5_readChild 55 = .ok (.invokevirtual 29, 3) := by decide +kernel
theorem dX5_readChild_58 : decode cX5_readChild 58 = .ok (.aload_n 0, 1) := by decide +kernel
theorem dX5_readChild_59 : decode cX5_readChild 59 = .ok (.getfield 32, 3) := by decide +kernel
theorem dX5_readChild_62 : decode cX5_readChild 62 = .ok (.iconst 3, 1) := by decide +kernel
theorem dX5_readChild_63 : decode cX5_readChild 63 = .ok (.if_icmp .ne 26, 3) := by decide +kernel
theorem dX5_readChild_66 : decode cX5_readChild 66 = .ok (.aload_n 0, 1) := by decide +kernel
theorem dX5_readChild_67 : decode cX5_readChild 67 = .ok (.getfield 56, 3) := by decide +kernel
theorem dX5_readChild_70 : decode cX5_readChild 70 = .ok (.bipush 9, 2) := by decide +kernel
theorem dX5_readChild_72 : decode cX5_readChild 72 = .ok (.if_icmp .eq 19, 3) := by decide +kernel
theorem dX5_readChild_75 : decode cX5_readChild 75 = .ok (.aload_n 0, 1) := by decide +kernel
theorem dX5_readChild_76 : decode cX5_readChild 76 = .ok (.getfield 18, 3) := by decide +kernel
theorem dX5_readChild_79 : decode cX5_readChild 79 = .ok (.aload_n 0, 1) := by decide +kernel
theorem dX5_readChild_80 : decode cX5_readChild 80 = .ok (.getfield 56, 3) := by decide +kernel
theorem dX5_readChild_83 : decode cX5_readChild 83 = .ok (.invokevirtual 59, 3) := by decide +kernel
theorem dX5_readChild_86 : decode cX5_readChild 86 = .ok (.ifCond .ne 5, 3) := by decide +kernel
theorem dX5_readChild_89 : decode cX5_readChild 89 = .ok (.iconst 0, 1) := by decide +kernel
theorem dX5_readChild_90 : decode cX5_readChild 90 = .ok (.ireturn, 1) := by decide +kernel
theorem dX5_readChild_91 : decode cX5_readChild 91 = .ok (.aload_n 0, 1) := by decide +kernel
theorem dX5_readChild_92 : decode cX5_readChild 92 = .ok (.getfield 56, 3) := by decide +kernel
theorem dX5_readChild_95 : decode cX5_readChild 95 = .ok (.istore_n 3, 1) := by decide +kernel
theorem dX5_readChild_96 : decode cX5_readChild 96 = .ok (.aload_n 0, 1) := by decide +kernel
theorem dX5_readChild_97 : decode cX5_readChild 97 = .ok (.invokevirtual 29, 3) := by decide +kernel
theorem dX5_readChild_100 : decode cX5_readChild 100 = .ok (.aload_n 0, 1) := by decide +kernel
theorem dX5_readChild_101 : decode cX5_readChild 101 = .ok (.getfield 32, 3) := by decide +kernel
theorem dX5_readChild_104 : decode cX5_readChild 104 = .ok (.iconst 2, 1) := by decide +kernel
theorem dX5_readChild_105 : decode cX5_readChild 105 = .ok (.if_icmp .eq 5, 3) := by decide +kernel
theorem dX5_readChild_108 : decode cX5_readChild 108 = .ok (.iconst 0, 1) := by decide +kernel
theorem dX5_readChild_109 : decode cX5_readChild 109 = .ok (.ireturn, 1) := by decide +kernel
theorem dX5_readChild_110 : decode cX5_readChild 110 = .ok (.aload_n 0, 1) := by decide +kernel
theorem dX5_readChild_111 : decode cX5_readChild 111 = .ok (.getfield 18, 3) := by decide +kernel
theorem dX5_readChild_114 : decode cX5_readChild 114 = .ok (.iload_n 1, 1) := by decide +kernel
theorem dX5_readChild_115 : decode cX5_readChild 115 = .ok (.iload_n 2, 1) := by decide +kernel
theorem dX5_readChild_116 : decode cX5_readChild 116 = .ok (.iload_n 3, 1) := by decide +kernel
theorem dX5_readChild_117 : decode cX5_readChild 117 = .ok (.invokevirtual 62, 3) := by decide +kernel
theorem dX5_readChild_120 : decode cX5_readChild 120 = .ok (.aload_n 0, 1) := by decide +kernel
theorem dX5_readChild_121 : decode cX5_readChild 121 = .ok (.invokevirtual 29, 3) := by decide +kernel
theorem dX5_readChild_124 : decode cX5_readChild 124 = .ok (.iconst 1, 1) := by decide +kernel
theorem dX5_readChild_125 : decode cX5_readChild 125 = .ok (.ireturn, 1) := by decide +kernel
set_option maxRecDepth 20000 in
theorem ggX5_readLittle_X5_advance : GoodIn wsX5_readLittle wsX5_advance := goodIn_r _ [8, 9, 10, 11, 1, 12, 13, 14, 15, 16, 17, 18, 19, 20, 21, 22, 23, 24, 7, 25, 26, 27, 28, 29, 30, 31, 32, 33, 34, 35, 36, 37, 38, 39, 40, 41, 42, 43, 44, 45, 46, 47, 48, 49, 50, 51, 52, 53, 54, 55, 56, 57, 58, 59, 60, 61, 62, 63, 64, 65, 66, 67, 68, 69, 70, 71, 72, 73, 74, 75, 76, 77, 78, 79, 80, 81, 82, 83, 84, 85, 86, 87, 88, 89, 3, 90, 91, 92, 93, 105, 106, 107, 108, 109, 110, 111, 112] (by decide +kernel) (by decide +kernel)
set_option maxRecDepth 20000 in
theorem gX5_readLittle_X5_advance : GoodIn wsX5_readLittle (wsV RX5 29 RX5 yX5_advance wsX5_advance) := goodIn_app (goodIn_of _ (by decide +kernel)) ggX5_readLittle_X5_advance
set_option maxRecDepth 20000 in
theorem ggX5_readLittle_X1_has : GoodIn wsX5_readLittle wsX1_has := goodIn_r _ [98, 99, 113, 114, 115, 116, 117] (by decide +kernel) (by decide +kernel)
set_option maxRecDepth 20000 in
theorem gX5_readLittle_X1_has : GoodIn wsX5_readLittle (wsV RX5 59 RX1 yX1_has wsX1_has) := goodIn_app (goodIn_of _ (by decide +kernel)) ggX5_readLittle_X1_has
set_option maxRecDepth 20000 in
theorem ggX5_readLittle_X1_makeLittle : GoodIn wsX5_readLittle wsX1_makeLittle := goodIn_r _ [103, 104, 113, 114, 115, 116, 117] (by decide +kernel) (by decide +kernel)
set_option maxRecDepth 20000 in
theorem gX5_readLittle_X1_makeLittle : GoodIn wsX5_readLittle (wsV RX5 66 RX1 yX1_makeLittle wsX1_makeLittle) := goodIn_app (goodIn_of _ (by decide +kernel)) ggX5_readLittle_X1_makeLittle
theorem dX5_readLittle_0 : decode cX5_readLittle 0 = .ok (.aload_n 0, 1) := by decide +kernel
theorem dX5_readLittle_1 : decode cX5_readLittle 1 = .ok (.invokevirtual 29, 3) := by decide +kernel
theorem dX5_readLittle_4 : decode cX5_readLittle 4 = .ok (.aload_n 0, 1) := by decide +kernel
theorem dX5_readLittle_5 : decode cX5_readLittle 5 = .ok (.getfield 32, 3) := by decide +kernel
theorem dX5_readLittle_8 : decode cX5_readLittle 8 = .ok (.iconst 3, 1) := by decide +kernel
theorem dX5_readLittle_9 : decode cX5_readLittle 9 = .ok (.if_icmp .ne 17, 3) := by decide +kernel
theorem dX5_readLittle_12 : decode cX5_readLittle 12 = .ok (.aload_n 0, 1) := by decide +kernel
theorem dX5_readLittle_13 : decode cX5_readLittle 13 = .ok (.getfield 18, 3) := by decide +kernel
theorem dX5_readLittle_16 : decode cX5_readLittle 16 = .ok (.aload_n 0, 1) := by decide +kernel
theorem dX5_readLittle_17 : decode cX5_readLittle 17 = .ok (.getfield 56, 3) := by decide +kernel
theorem dX5_readLittle_20 : decode cX5_readLittle 20 = .ok (.invokevirtual 59, 3) := by decide +kernel
theorem dX5_readLittle_23 : decode cX5_readLittle 23 = .ok (.ifCond .ne 5, 3) := by decide +kernel
theorem dX5_readLittle_26 : decode cX5_readLittle 26 = .ok (.iconst 0, 1) := by decide +kernel
theorem dX5_readLittle_27 : decode cX5_readLittle 27 = .ok (.ireturn, 1) := by decide +kernel
theorem dX5_readLittle_28 : decode cX5_readLittle 28 = .ok (.aload_n 0, 1) := by decide +kernel
theorem dX5_readLittle_29 : decode cX5_readLittle 29 = .ok (.getfield 56, 3) := by decide +kernel
theorem dX5_readLittle_32 : decode cX5_readLittle 32 = .ok (.istore_n 1, 1) := by decide +kernel
theorem dX5_readLittle_33 : decode cX5_readLittle 33 = .ok (.aload_n 0, 1) := by decide +kernel
theorem dX5_readLittle_34 : decode cX5_readLittle 34 = .ok (.invokevirtual 29, 3) := by decide +kernel
theorem dX5_readLittle_37 : decode cX5_readLittle 37 = .ok (.aload_n 0, 1) := by decide +kernel
theorem dX5_readLittle_38 : decode cX5_readLittle 38 = .ok (.getfield 32, 3) := by decide +kernel
theorem dX5_readLittle_41 : decode cX5_readLittle 41 = .ok (.iconst 2, 1) := by decide +kernel
theorem dX5_readLittle_42 : decode cX5_readLittle 42 = .ok (.if_icmp .eq 5, 3) := by decide +kernel
theorem dX5_readLittle_45 : decode cX5_readLittle 45 = .ok (.iconst 0, 1) := by decide +kernel
theorem dX5_readLittle_46 : decode cX5_readLittle 46 = .ok (.ireturn, 1) := by decide +kernel
theorem dX5_readLittle_47 : decode cX5_readLittle 47 = .ok (.aload_n 0, 1) := by decide +kernel
theorem dX5_readLittle_48 : decode cX5_readLittle 48 = .ok (.getfield 18, 3) := by decide +kernel
theorem dX5_readLittle_51 : decode cX5_readLittle 51 = .ok (.iload_n 1, 1) := by decide +kernel
theorem dX5_readLittle_52 : decode cX5_readLittle 52 = .ok (.invokevirtual 66, 3) := by decide +kernel
theorem dX5_readLittle_55 : decode cX5_readLittle 55 = .ok (.aload_n 0, 1) := by decide +kernel
theorem dX5_readLittle_56 : decode cX5_readLittle 56 = .ok (.invokevirtual 29, 3) := by decide +kernel
theorem dX5_readLittle_59 : decode cX5_readLittle 59 = .ok (.iconst 1, 1) := by decide +kernel
theorem dX5_readLittle_60 : decode cX5_readLittle 60 = .ok (.ireturn, 1) := by decide +kernel
theorem dX5_isNumberUpTo_0 : decode cX5_isNumberUpTo 0 = .ok (.aload_n 0, 1) := by decide +kernel
theorem dX5_isNumberUpTo_1 : decode cX5_isNumberUpTo 1 = .ok (.getfield 32, 3) := by decide +kernel
theorem dX5_isNumberUpTo_4 : decode cX5_isNumberUpTo 4 = .ok (.iconst 3, 1) := by decide +kernel
theorem dX5_isNumberUpTo_5 : decode cX5_isNumberUpTo 5 = .ok (.if_icmp .ne 15, 3) := by decide +kernel
theorem dX5_isNumberUpTo_8 : decode cX5_isNumberUpTo 8 = .ok (.aload_n 0, 1) := by decide +kernel
theorem dX5_isNumberUpTo_9 : decode cX5_isNumberUpTo 9 = .ok (.getfield 56, 3) := by decide +kernel
theorem dX5_isNumberUpTo_12 : decode cX5_isNumberUpTo 12 = .ok (.iload_n 1, 1) := by decide +kernel
theorem dX5_isNumberUpTo_13 : decode cX5_isNumberUpTo 13 = .ok (.if_icmp .gt 7, 3) := by decide +kernel
theorem dX5_isNumberUpTo_16 : decode cX5_isNumberUpTo 16 = .ok (.iconst 1, 1) := by decide +kernel
theorem dX5_isNumberUpTo_17 : decode cX5_isNumberUpTo 17 = .ok (.goto 4, 3) := by decide +kernel
theorem dX5_isNumberUpTo_20 : decode cX5_isNumberUpTo 20 = .ok (.iconst 0, 1) := by decide +kernel
theorem dX5_isNumberUpTo_21 : decode cX5_isNumberUpTo 21 = .ok (.ireturn, 1) := by decide +kernel
set_option maxRecDepth 20000 in
theorem ggX5_advance_X8_length : GoodIn wsX5_advance wsX8_length := goodIn_r _ [9, 10, 95, 96] (by decide +kernel) (by decide +kernel)
set_option maxRecDepth 20000 in
theorem gX5_advance_X8_length : GoodIn wsX5_advance (wsV RX5 70 RX8 yX8_length wsX8_length) := goodIn_app (goodIn_of _ (by decide +kernel)) ggX5_advance_X8_length
set_option maxRecDepth 20000 in
theorem ggX5_advance_X8_byteAt : GoodIn wsX5_advance wsX8_byteAt := goodIn_r _ [14, 10, 15, 95, 96] (by decide +kernel) (by decide +kernel)
set_option maxRecDepth 20000 in
theorem gX5_advance_X8_byteAt : GoodIn wsX5_advance (wsV RX5 75 RX8 yX8_byteAt wsX8_byteAt) := goodIn_app (goodIn_of _ (by decide +kernel)) ggX5_advance_X8_byteAt
set_option maxRecDepth 20000 in
theorem ggX5_advance_X5_isLetter : GoodIn wsX5_advance wsX5_isLetter := goodIn_r _ [19] (by decide +kernel) (by decide +kernel)
set_option maxRecDepth 20000 in
theorem gX5_advance_X5_isLetter : GoodIn wsX5_advance (va_wsS RX5 79 yX5_isLetter wsX5_isLetter) := goodIn_app (goodIn_of _ (by decide +kernel)) ggX5_advance_X5_isLetter
set_option maxRecDepth 20000 in
theorem ggX5_advance_X5_advanceOverWord : GoodIn wsX5_advance wsX5_advanceOverWord := goodIn_r _ [23, 1, 3, 4, 5, 6, 7, 8, 9, 10, 11, 12, 13, 14, 15, 16, 17, 18, 19, 24, 25, 26, 27, 2, 28, 29, 30, 31, 32, 33, 34, 35, 36, 37, 38, 39, 40, 41, 42, 43, 44, 45, 46, 47, 48, 49, 50, 51, 52, 53, 54, 55, 56, 57, 58, 59, 60, 61, 62, 63, 64, 65, 66, 67, 68, 69, 70, 71, 72, 73, 74, 75, 76, 89, 90, 91, 92, 93, 94, 95, 96] (by decide +kernel) (by decide +kernel)
set_option maxRecDepth 20000 in
theorem gX5_advance_X5_advanceOverWord : GoodIn wsX5_advance (wsV RX5 82 RX5 yX5_advanceOverWord wsX5_advanceOverWord) := goodIn_app (goodIn_of _ (by decide +kernel)) ggX5_advance_X5_advanceOverWord
set_option maxRecDepth 20000 in
theorem ggX5_advance_X5_isDigit : GoodIn wsX5_advance wsX5_isDigit := goodIn_r _ [79] (by decide +kernel) (by decide +kernel)
set_option maxRecDepth 20000 in
theorem gX5_advance_X5_isDigit : GoodIn wsX5_advance (va_wsS RX5 85 yX5_isDigit wsX5_isDigit) := goodIn_app (goodIn_of _ (by decide +kernel)) ggX5_advance_X5_isDigit
set_option maxRecDepth 20000 in
theorem ggX5_advance_X5_advanceOverNumber : GoodIn wsX5_advance wsX5_advanceOverNumber := goodIn_r _ [83, 3, 2, 84, 1, 85, 86, 87, 88, 4, 11, 12, 13, 8, 14, 10, 15, 5, 6, 7, 9, 77, 78, 18, 79, 89, 90, 91, 92, 93, 94, 95, 96] (by decide +kernel) (by decide +kernel)
set_option maxRecDepth 20000 in
theorem gX5_advance_X5_advanceOverNumber : GoodIn wsX5_advance (wsV RX5 88 RX5 yX5_advanceOverNumber wsX5_advanceOverNumber) := goodIn_app (goodIn_of _ (by decide +kernel)) ggX5_advance_X5_advanceOverNumber
theorem dX5_advance_0 : decode cX5_advance 0 = .ok (.aload_n 0, 1) := by decide +kernel
theorem dX5_advance_1 : decode cX5_advance 1 = .ok (.aload_n 0, 1) := by decide +kernel
theorem dX5_advance_2 : decode cX5_advance 2 = .ok (.getfield 25, 3) := by decide +kernel
theorem dX5_advance_5 : decode cX5_advance 5 = .ok (.putfield 39, 3) := by decide +kernel
theorem dX5_advance_8 : decode cX5_advance 8 = .ok (.aload_n 0, 1) := by decide +kernel
theorem dX5_advance_9 : decode cX5_advance 9 = .ok (.getfield 39, 3) := by decide +kernel
theorem dX5_advance_12 : decode cX5_advance 12 = .ok (.aload_n 0, 1) := by decide +kernel
theorem dX5_advance_13 : decode cX5_advance 13 = .ok (.getfield 9, 3) := by decide +kernel
theorem dX5_advance_16 : decode cX5_advance 16 = .ok (.invokevirtual 70, 3) := by decide +kernel
theorem dX5_advance_19 : decode cX5_advance 19 = .ok (.if_icmp .ge 32, 3) := by decide +kernel
theorem dX5_advance_22 : decode cX5_advance 22 = .ok (.aload_n 0, 1) := by decide +kernel
theorem dX5_advance_23 : decode cX5_advance 23 = .ok (.getfield 9, 3) := by decide +kernel
theorem dX5_advance_26 : decode cX5_advance 26 = .ok (.aload_n 0, 1) := by decide +kernel
theorem dX5_advance_27 : decode cX5_advance 27 = .ok (.getfield 39, 3) := by decide +kernel
theorem dX5_advance_30 : decode cX5_advance 30 = .ok (.invokevirtual 75, 3) := by decide +kernel
theorem dX5_advance_33 : decode cX5_advance 33 = .ok (.bipush 32, 2) := by decide +kernel
theorem dX5_advance_35 : decode cX5_advance 35 = .ok (.if_icmp .ne 16, 3) := by decide +kernel
theorem dX5_advance_38 : decode cX5_advance 38 = .ok (.aload_n 0, 1) := by decide +kernel
theorem dX5_advance_39 : decode cX5_advance 39 = .ok (.dup, 1) := by decide +kernel
theorem dX5_advance_40 : decode cX5_advance 40 = .ok (.getfield 39, 3) := by decide +kernel
theorem dX5_advance_43 : decode cX5_advance 43 = .ok (.iconst 1, 1) := by decide +kernel
theorem dX5_advance_44 : decode cX5_advance 44 = .ok (.iadd, 1) := by decide +kernel
theorem dX5_advance_45 : decode cX5_advance 45 = .ok (.putfield 39, 3) := by decide +kernel
theorem dX5_advance_48 : decode cX5_advance 48 = .ok (.goto (-40), 3) := by decide +kernel
theorem dX5_advance_51 : decode cX5_advance 51 = .ok (.aload_n 0, 1) := by decide +kernel
theorem dX5_advance_52 : decode cX5_advance 52 = .ok (.aload_n 0, 1) := by decide +kernel
theorem dX5_advance_53 : decode cX5_advance 53 = .ok (.getfield 39, 3) := by decide +kernel
theorem dX5_advance_56 : decode cX5_advance 56 = .ok (.iconst 1, 1) := by decide +kernel
theorem dX5_advance_57 : decode cX5_advance 57 = .ok (.iadd, 1) := by decide +kernel
theorem dX5_advance_58 : decode cX5_advance 58 = .ok (.putfield 25, 3) := by decide +kernel
theorem dX5_advance_61 : decode cX5_advance 61 = .ok (.aload_n 0, 1) := by decide +kernel
theorem dX5_advance_62 : decode cX5_advance 62 = .ok (.getfield 9, 3) := by decide +kernel
theorem dX5_advance_65 : decode cX5_advance 65 = .ok (.aload_n 0, 1) := by decide +kernel
theorem dX5_advance_66 : decode cX5_advance 66 = .ok (.getfield 39, 3) := by decide +kernel
theorem dX5_advance_69 : decode cX5_advance 69 = .ok (.invokevirtual 75, 3) := by decide +kernel
theorem dX5_advance_72 : decode cX5_advance 72 = .ok (.istore_n 1, 1) := by decide +kernel
theorem dX5_advance_73 : decode cX5_advance 73 = .ok (.iload_n 1, 1) := by decide +kernel
theorem dX5_advance_74 : decode cX5_advance 74 = .ok (.ifCond .ge 11, 3) := by decide +kernel
theorem dX5_advance_77 : decode cX5_advance 77 = .ok (.aload_n 0, 1) := by decide +kernel
theorem dX5_advance_78 : decode cX5_advance 78 = .ok (.iconst 0, 1) := by decide +kernel
theorem dX5_advance_79 : decode cX5_advance 79 = .ok (.putfield 32, 3) := by decide +kernel
theorem dX5_advance_82 : decode cX5_advance 82 = .ok (.goto 46, 3) := by decide +kernel
theorem dX5_advance_85 : decode cX5_advance 85 = .ok (.iload_n 1, 1) := by decide +kernel
theorem dX5_advance_86 : decode cX5_advance 86 = .ok (.invokestatic 79, 3) := by decide +kernel
theorem dX5_advance_89 : decode cX5_advance 89 = .ok (.ifCond .eq 10, 3) := by decide +kernel
theorem dX5_advance_92 : decode cX5_advance 92 = .ok (.aload_n 0, 1) := by decide +kernel
theorem dX5_advance_93 : decode cX5_advance 93 = .ok (.invokevirtual 82, 3) := by decide +kernel
theorem dX5_advance_96 : decode cX5_advance 96 = .ok (.goto 32, 3) := by decide +kernel
theorem dX5_advance_99 : decode cX5_advance 99 = .ok (.iload_n 1, 1) := by decide +kernel
theorem dX5_advance_100 : decode cX5_advance 100 = .ok (.invokestatic 85, 3) := by decide +kernel
theorem dX5_advance_103 : decode cX5_advance 103 = .ok (.ifCond .eq 10, 3) := by decide +kernel
theorem dX5_advance_106 : decode cX5_advance 106 = .ok (.aload_n 0, 1) := by decide +kernel
theorem dX5_advance_107 : decode cX5_advance 107 = .ok (.invokevirtual 88, 3) := by decide +kernel
theorem dX5_advance_110 : decode cX5_advance 110 = .ok (.goto 18, 3) := by decide +kernel
theorem dX5_advance_113 : decode cX5_advance 113 = .ok (.aload_n 0, 1) := by decide +kernel
theorem dX5_advance_114 : decode cX5_advance 114 = .ok (.iload_n 1, 1) := by decide +kernel
theorem dX5_advance_115 : decode cX5_advance 115 = .ok (.bipush 59, 2) := by decide +kernel
theorem dX5_advance_117 : decode cX5_advance 117 = .ok (.if_icmp .ne 7, 3) := by decide +kernel
theorem dX5_advance_120 : decode cX5_advance 120 = .ok (.iconst 2, 1) := by decide +kernel
theorem dX5_advance_121 : decode cX5_advance 121 = .ok (.goto 4, 3) := by decide +kernel
theorem dX5_advance_124 : decode cX5_advance 124 = .ok (.iconst 1, 1) := by decide +kernel
theorem dX5_advance_125 : decode cX5_advance 125 = .ok (.putfield 32, 3) := by decide +kernel
theorem dX5_advance_128 : decode cX5_advance 128 = .ok (.return_, 1) := by decide +kernel
set_option maxRecDepth 20000 in
theorem ggX5_advanceOverWord_X8_length : GoodIn wsX5_advanceOverWord wsX8_length := goodIn_r _ [8, 9, 79, 80] (by decide +kernel) (by decide +kernel)
set_option maxRecDepth 20000 in
theorem gX5_advanceOverWord_X8_length : GoodIn wsX5_advanceOverWord (wsV RX5 70 RX8 yX8_length wsX8_length) := goodIn_app (goodIn_of _ (by decide +kernel)) ggX5_advanceOverWord_X8_length
set_option maxRecDepth 20000 in
theorem ggX5_advanceOverWord_X8_byteAt : GoodIn wsX5_advanceOverWord wsX8_byteAt := goodIn_r _ [13, 9, 14, 79, 80] (by decide +kernel) (by decide +kernel)
set_option maxRecDepth 20000 in
theorem gX5_advanceOverWord_X8_byteAt : GoodIn wsX5_advanceOverWord (wsV RX5 75 RX8 yX8_byteAt wsX8_byteAt) := goodIn_app (goodIn_of _ (by decide +kernel)) ggX5_advanceOverWord_X8_byteAt
set_option maxRecDepth 20000 in
theorem ggX5_advanceOverWord_X5_isLetter : GoodIn wsX5_advanceOverWord wsX5_isLetter := goodIn_r _ [18] (by decide +kernel) (by decide +kernel)
set_option maxRecDepth 20000 in
theorem gX5_advanceOverWord_X5_isLetter : GoodIn wsX5_advanceOverWord (va_wsS RX5 79 yX5_isLetter wsX5_isLetter) := goodIn_app (goodIn_of _ (by decide +kernel)) ggX5_advanceOverWord_X5_isLetter
set_option maxRecDepth 20000 in
theorem ggX5_advanceOverWord_X5_spells : GoodIn wsX5_advanceOverWord wsX5_spells := goodIn_r _ [22, 1, 23, 2, 24, 25, 26, 27, 28, 29, 30, 31, 32, 33, 34, 35, 10, 11, 12, 7, 13, 9, 14, 36, 37, 38, 39, 40, 41, 42, 43, 44, 45, 46, 47, 48, 49, 50, 51, 52, 53, 54, 55, 56, 57, 58, 59, 60, 61, 62, 63, 64, 65, 66, 67, 68, 69, 70, 71, 72, 73, 74, 75, 76, 77, 78, 79, 80] (by decide +kernel) (by decide +kernel)
set_option maxRecDepth 20000 in
theorem gX5_advanceOverWord_X5_spells : GoodIn wsX5_advanceOverWord (wsV RX5 93 RX5 yX5_spells wsX5_spells) := goodIn_app (goodIn_of _ (by decide +kernel)) ggX5_advanceOverWord_X5_spells
theorem dX5_advanceOverWord_0 : decode cX5_advanceOverWord 0 = .ok (.aload_n 0, 1) := by decide +kernel
theorem dX5_advanceOverWord_1 : decode cX5_advanceOverWord 1 = .ok (.getfield 25, 3) := by decide +kernel
theorem dX5_advanceOverWord_4 : decode cX5_advanceOverWord 4 = .ok (.aload_n 0, 1) := by decide +kernel
theorem dX5_advanceOverWord_5 : decode cX5_advanceOverWord 5 = .ok (.getfield 9, 3) := by decide +kernel
theorem dX5_advanceOverWord_8 : decode cX5_advanceOverWord 8 = .ok (.invokevirtual 70, 3) := by decide +kernel
theorem dX5_advanceOverWord_11 : decode cX5_advanceOverWord 11 = .ok (.if_icmp .ge 33, 3) := by decide +kernel
theorem dX5_advanceOverWord_14 : decode cX5_advanceOverWord 14 = .ok (.aload_n 0, 1) := by decide +kernel
theorem dX5_advanceOverWord_15 : decode cX5_advanceOverWord 15 = .ok (.getfield 9, 3) := by decide +kernel
theorem dX5_advanceOverWord_18 : decode cX5_advanceOverWord 18 = .ok (.aload_n 0, 1) := by decide +kernel
theorem dX5_advanceOverWord_19 : decode cX5_advanceOverWord 19 = .ok (.getfield 25, 3) := by decide +kernel
theorem dX5_advanceOverWord_22 : decode cX5_advanceOverWord 22 = .ok (.invokevirtual 75, 3) := by decide +kernel
theorem dX5_advanceOverWord_25 : decode cX5_advanceOverWord 25 = .ok (.invokestatic 79, 3) := by decide +kernel
theorem dX5_advanceOverWord_28 : decode cX5_advanceOverWord 28 = .ok (.ifCond .eq 16, 3) := by decide +kernel
theorem dX5_advanceOverWord_31 : decode cX5_advanceOverWord 31 = .ok (.aload_n 0, 1) := by decide +kernel
theorem dX5_advanceOverWord_32 : decode cX5_advanceOverWord 32 = .ok (.dup, 1) := by decide +kernel
theorem dX5_advanceOverWord_33 : decode cX5_advanceOverWord 33 = .ok (.getfield 25, 3) := by decide +kernel
theorem dX5_advanceOverWord_36 : decode cX5_advanceOverWord 36 = .ok (.iconst 1, 1) := by decide +kernel
theorem dX5_advanceOverWord_37 : decode cX5_advanceOverWord 37 = .ok (.iadd, 1) := by decide +kernel
theorem dX5_advanceOverWord_38 : decode cX5_advanceOverWord 38 = .ok (.putfield 25, 3) := by decide +kernel
theorem dX5_advanceOverWord_41 : decode cX5_advanceOverWord 41 = .ok (.goto (-41), 3) := by decide +kernel
theorem dX5_advanceOverWord_44 : decode cX5_advanceOverWord 44 = .ok (.aload_n 0, 1) := by decide +kernel
theorem dX5_advanceOverWord_45 : decode cX5_advanceOverWord 45 = .ok (.ldc 91, 2) := by decide +kernel
theorem dX5_advanceOverWord_47 : decode cX5_advanceOverWord 47 = .ok (.invokevirtual 93, 3) := by decide +kernel
theorem dX5_advanceOverWord_50 : decode cX5_advanceOverWord 50 = .ok (.ifCond .eq 11, 3) := by decide +kernel
theorem dX5_advanceOverWord_53 : decode cX5_advanceOverWord 53 = .ok (.aload_n 0, 1) := by decide +kernel
theorem dX5_advanceOverWord_54 : decode cX5_advanceOverWord 54 = .ok (.iconst 4, 1) := by decide +kernel
theorem dX5_advanceOverWord_55 : decode cX5_advanceOverWord 55 = .ok (.putfield 32, 3) := by decide +kernel
theorem dX5_advanceOverWord_58 : decode cX5_advanceOverWord 58 = .ok (.goto 21, 3) := by decide +kernel
theorem dX5_advanceOverWord_61 : decode cX5_advanceOverWord 61 = .ok (.aload_n 0, 1) := by decide +kernel
theorem dX5_advanceOverWord_62 : decode cX5_advanceOverWord 62 = .ok (.aload_n 0, 1) := by decide +kernel
theorem dX5_advanceOverWord_63 : decode cX5_advanceOverWord 63 = .ok (.ldc 97, 2) := by decide +kernel
theorem dX5_advanceOverWord_65 : decode cX5_advanceOverWord 65 = .ok (.invokevirtual 93, 3) := by decide +kernel
theorem dX5_advanceOverWord_68 : decode cX5_advanceOverWord 68 = .ok (.ifCond .eq 7, 3) := by decide +kernel
theorem dX5_advanceOverWord_71 : decode cX5_advanceOverWord 71 = .ok (.iconst 5, 1) := by decide +kernel
theorem dX5_advanceOverWord_72 : decode cX5_advanceOverWord 72 = .ok (.goto 4, 3) := by decide +kernel
theorem dX5_advanceOverWord_75 : decode cX5_advanceOverWord 75 = .ok (.iconst 1, 1) := by decide +kernel
theorem dX5_advanceOverWord_76 : decode cX5_advanceOverWord 76 = .ok (.putfield 32, 3) := by decide +kernel
theorem dX5_advanceOverWord_79 : decode cX5_advanceOverWord 79 = .ok (.return_, 1) := by decide +kernel
set_option maxRecDepth 20000 in
theorem ggX5_advanceOverNumber_X8_byteAt : GoodIn wsX5_advanceOverNumber wsX8_byteAt := goodIn_r _ [14, 15, 16, 31, 32] (by decide +kernel) (by decide +kernel)
set_option maxRecDepth 20000 in
theorem gX5_advanceOverNumber_X8_byteAt : GoodIn wsX5_advanceOverNumber (wsV RX5 75 RX8 yX8_byteAt wsX8_byteAt) := goodIn_app (goodIn_of _ (by decide +kernel)) ggX5_advanceOverNumber_X8_byteAt
set_option maxRecDepth 20000 in
theorem ggX5_advanceOverNumber_X8_length : GoodIn wsX5_advanceOverNumber wsX8_length := goodIn_r _ [20, 15, 31, 32] (by decide +kernel) (by decide +kernel)
set_option maxRecDepth 20000 in
theorem gX5_advanceOverNumber_X8_length : GoodIn wsX5_advanceOverNumber (wsV RX5 70 RX8 yX8_length wsX8_length) := goodIn_app (goodIn_of _ (by decide +kernel)) ggX5_advanceOverNumber_X8_length
set_option maxRecDepth 20000 in
theorem ggX5_advanceOverNumber_X5_isDigit : GoodIn wsX5_advanceOverNumber wsX5_isDigit := goodIn_r _ [24] (by decide +kernel) (by decide +kernel)
set_option maxRecDepth 20000 in
theorem gX5_advanceOverNumber_X5_isDigit : GoodIn wsX5_advanceOverNumber (va_wsS RX5 85 yX5_isDigit wsX5_isDigit) := goodIn_app (goodIn_of _ (by decide +kernel)) ggX5_advanceOverNumber_X5_isDigit
theorem dX5_advanceOverNumber_0 : decode cX5_advanceOverNumber 0 = .ok (.aload_n 0, 1) := by decide +kernel
theorem dX5_advanceOverNumber_1 : decode cX5_advanceOverNumber 1 = .ok (.getfield 9, 3) := by decide +kernel
theorem dX5_advanceOverNumber_4 : decode cX5_advanceOverNumber 4 = .ok (.aload_n 0, 1) := by decide +kernel
theorem dX5_advanceOverNumber_5 : decode cX5_advanceOverNumber 5 = .ok (.getfield 39, 3) := by decide +kernel
theorem dX5_advanceOverNumber_8 : decode cX5_advanceOverNumber 8 = .ok (.invokevirtual 75, 3) := by decide +kernel
theorem dX5_advanceOverNumber_11 : decode cX5_advanceOverNumber 11 = .ok (.istore_n 1, 1) := by decide +kernel
theorem dX5_advanceOverNumber_12 : decode cX5_advanceOverNumber 12 = .ok (.aload_n 0, 1) := by decide +kernel
theorem dX5_advanceOverNumber_13 : decode cX5_advanceOverNumber 13 = .ok (.iload_n 1, 1) := by decide +kernel
theorem dX5_advanceOverNumber_14 : decode cX5_advanceOverNumber 14 = .ok (.bipush 48, 2) := by decide +kernel
theorem dX5_advanceOverNumber_16 : decode cX5_advanceOverNumber 16 = .ok (.isub, 1) := by decide +kernel
theorem dX5_advanceOverNumber_17 : decode cX5_advanceOverNumber 17 = .ok (.putfield 56, 3) := by decide +kernel
theorem dX5_advanceOverNumber_20 : decode cX5_advanceOverNumber 20 = .ok (.aload_n 0, 1) := by decide +kernel
theorem dX5_advanceOverNumber_21 : decode cX5_advanceOverNumber 21 = .ok (.getfield 25, 3) := by decide +kernel
theorem dX5_advanceOverNumber_24 : decode cX5_advanceOverNumber 24 = .ok (.aload_n 0, 1) := by decide +kernel
theorem dX5_advanceOverNumber_25 : decode cX5_advanceOverNumber 25 = .ok (.getfield 9, 3) := by decide +kernel
theorem dX5_advanceOverNumber_28 : decode cX5_advanceOverNumber 28 = .ok (.invokevirtual 70, 3) := by decide +kernel
theorem dX5_advanceOverNumber_31 : decode cX5_advanceOverNumber 31 = .ok (.if_icmp .ge 64, 3) := by decide +kernel
theorem dX5_advanceOverNumber_34 : decode cX5_advanceOverNumber 34 = .ok (.aload_n 0, 1) := by decide +kernel
theorem dX5_advanceOverNumber_35 : decode cX5_advanceOverNumber 35 = .ok (.getfield 9, 3) := by decide +kernel
theorem dX5_advanceOverNumber_38 : decode cX5_advanceOverNumber 38 = .ok (.aload_n 0, 1) := by decide +kernel
theorem dX5_advanceOverNumber_39 : decode cX5_advanceOverNumber 39 = .ok (.getfield 25, 3) := by decide +kernel
theorem dX5_advanceOverNumber_42 : decode cX5_advanceOverNumber 42 = .ok (.invokevirtual 75, 3) := by decide +kernel
theorem dX5_advanceOverNumber_45 : decode cX5_advanceOverNumber 45 = .ok (.invokestatic 85, 3) := by decide +kernel
theorem dX5_advanceOverNumber_48 : decode cX5_advanceOverNumber 48 = .ok (.ifCond .eq 47, 3) := by decide +kernel
theorem dX5_advanceOverNumber_51 : decode cX5_advanceOverNumber 51 = .ok (.aload_n 0, 1) := by decide +kernel
theorem dX5_advanceOverNumber_52 : decode cX5_advanceOverNumber 52 = .ok (.bipush 100, 2) := by decide +kernel
theorem dX5_advanceOverNumber_54 : decode cX5_advanceOverNumber 54 = .ok (.aload_n 0, 1) := by decide +kernel
theorem dX5_advanceOverNumber_55 : decode cX5_advanceOverNumber 55 = .ok (.getfield 56, 3) := by decide +kernel
theorem dX5_advanceOverNumber_58 : decode cX5_advanceOverNumber 58 = .ok (.bipush 10, 2) := by decide +kernel
theorem dX5_advanceOverNumber_60 : decode cX5_advanceOverNumber 60 = .ok (.imul, 1) := by decide +kernel
theorem dX5_advanceOverNumber_61 : decode cX5_advanceOverNumber 61 = .ok (.aload_n 0, 1) := by decide +kernel
theorem dX5_advanceOverNumber_62 : decode cX5_advanceOverNumber 62 = .ok (.getfield 9, 3) := by decide +kernel
theorem dX5_advanceOverNumber_65 : decode cX5_advanceOverNumber 65 = .ok (.aload_n 0, 1) := by decide +kernel
theorem dX5_advanceOverNumber_66 : decode cX5_advanceOverNumber 66 = .ok (.getfield 25, 3) := by decide +kernel
theorem dX5_advanceOverNumber_69 : decode cX5_advanceOverNumber 69 = .ok (.invokevirtual 75, 3) := by decide +kernel
theorem dX5_advanceOverNumber_72 : decode cX5_advanceOverNumber 72 = .ok (.iadd, 1) := by decide +kernel
theorem dX5_advanceOverNumber_73 : decode cX5_advanceOverNumber 73 = .ok (.bipush 48, 2) := by decide +kernel
theorem dX5_advanceOverNumber_75 : decode cX5_advanceOverNumber 75 = .ok (.isub, 1) := by decide +kernel
theorem dX5_advanceOverNumber_76 : decode cX5_advanceOverNumber 76 = .ok (.invokestatic 99, 3) := by decide +kernel
theorem dX5_advanceOverNumber_79 : decode cX5_advanceOverNumber 79 = .ok (.putfield 56, 3) := by decide +kernel
theorem dX5_advanceOverNumber_82 : decode cX5_advanceOverNumber 82 = .ok (.aload_n 0, 1) := by decide +kernel
theorem dX5_advanceOverNumber_83 : decode cX5_advanceOverNumber 83 = .ok (.dup, 1) := by decide +kernel
theorem dX5_advanceOverNumber_84 : decode cX5_advanceOverNumber 84 = .ok (.getfield 25, 3) := by decide +kernel
theorem dX5_advanceOverNumber_87 : decode cX5_advanceOverNumber 87 = .ok (.iconst 1, 1) := by decide +kernel
theorem dX5_advanceOverNumber_88 : decode cX5_advanceOverNumber 88 = .ok (.iadd, 1) := by decide +kernel
theorem dX5_advanceOverNumber_89 : decode cX5_advanceOverNumber 89 = .ok (.putfield 25, 3) := by decide +kernel
theorem dX5_advanceOverNumber_92 : decode cX5_advanceOverNumber 92 = .ok (.goto (-72), 3) := by decide +kernel
theorem dX5_advanceOverNumber_95 : decode cX5_advanceOverNumber 95 = .ok (.iload_n 1, 1) := by decide +kernel
theorem dX5_advanceOverNumber_96 : decode cX5_advanceOverNumber 96 = .ok (.bipush 48, 2) := by decide +kernel
theorem dX5_advanceOverNumber_98 : decode cX5_advanceOverNumber 98 = .ok (.if_icmp .ne 20, 3) := by decide +kernel
theorem dX5_advanceOverNumber_101 : decode cX5_advanceOverNumber 101 = .ok (.aload_n 0, 1) := by decide +kernel
theorem dX5_advanceOverNumber_102 : decode cX5_advanceOverNumber 102 = .ok (.getfield 25, 3) := by decide +kernel
theorem dX5_advanceOverNumber_105 : decode cX5_advanceOverNumber 105 = .ok (.aload_n 0, 1) := by decide +kernel
theorem dX5_advanceOverNumber_106 : decode cX5_advanceOverNumber 106 = .ok (.getfield 39, 3) := by decide +kernel
theorem dX5_advanceOverNumber_109 : decode cX5_advanceOverNumber 109 = .ok (.isub, 1) := by decide +kernel
theorem dX5_advanceOverNumber_110 : decode cX5_advanceOverNumber 110 = .ok (.iconst 1, 1) := by decide +kernel
theorem dX5_advanceOverNumber_111 : decode cX5_advanceOverNumber 111 = .ok (.if_icmp .le 7, 3) := by decide +kernel
theorem dX5_advanceOverNumber_114 : decode cX5_advanceOverNumber 114 = .ok (.iconst 1, 1) := by decide +kernel
theorem dX5_advanceOverNumber_115 : decode cX5_advanceOverNumber 115 = .ok (.goto 4, 3) := by decide +kernel
theorem dX5_advanceOverNumber_118 : decode cX5_advanceOverNumber 118 = .ok (.iconst 0, 1) := by decide +kernel
theorem dX5_advanceOverNumber_119 : decode cX5_advanceOverNumber 119 = .ok (.istore_n 2, 1) := by decide +kernel
theorem dX5_advanceOverNumber_120 : decode cX5_advanceOverNumber 120 = .ok (.aload_n 0, 1) := by decide +kernel
theorem dX5_advanceOverNumber_121 : decode cX5_advanceOverNumber 121 = .ok (.aload_n 0, 1) := by decide +kernel
theorem dX5_advanceOverNumber_122 : decode cX5_advanceOverNumber 122 = .ok (.getfield 56, 3) := by decide +kernel
theorem dX5_advanceOverNumber_125 : decode cX5_advanceOverNumber 125 = .ok (.bipush 99, 2) := by decide +kernel
theorem dX5_advanceOverNumber_127 : decode cX5_advanceOverNumber 127 = .ok (.if_icmp .gt 7, 3) := by decide +kernel
theorem dX5_advanceOverNumber_130 : decode cX5_advanceOverNumber 130 = .ok (.iload_n 2, 1) := by decide +kernel
theorem dX5_advanceOverNumber_131 : decode cX5_advanceOverNumber 131 = .ok (.ifCond .eq 7, 3) := by decide +kernel
theorem dX5_advanceOverNumber_134 : decode cX5_advanceOverNumber 134 = .ok (.iconst 1, 1) := by decide +kernel
theorem dX5_advanceOverNumber_135 : decode cX5_advanceOverNumber 135 = .ok (.goto 4, 3) := by decide +kernel
theorem dX5_advanceOverNumber_138 : decode cX5_advanceOverNumber 138 = .ok (.iconst 3, 1) := by decide +kernel
theorem dX5_advanceOverNumber_139 : decode cX5_advanceOverNumber 139 = .ok (.putfield 32, 3) := by decide +kernel
theorem dX5_advanceOverNumber_142 : decode cX5_advanceOverNumber 142 = .ok (.return_, 1) := by decide +kernel
set_option maxRecDepth 20000 in
theorem ggX5_spells_J0_length_8abf5 : GoodIn wsX5_spells wsJ0_length_8abf5 := goodIn_r _ [8, 9, 10, 11, 12, 7, 13, 14, 15] (by decide +kernel) (by decide +kernel)
set_option maxRecDepth 20000 in
theorem gX5_spells_J0_length_8abf5 : GoodIn wsX5_spells (wsV RX5 105 RJ0 yJ0_length_8abf5 wsJ0_length_8abf5) := goodIn_app (goodIn_of _ (by decide +kernel)) ggX5_spells_J0_length_8abf5
set_option maxRecDepth 20000 in
theorem ggX5_spells_X8_byteAt : GoodIn wsX5_spells wsX8_byteAt := goodIn_r _ [20, 21, 22, 66, 67] (by decide +kernel) (by decide +kernel)
set_option maxRecDepth 20000 in
theorem gX5_spells_X8_byteAt : GoodIn wsX5_spells (wsV RX5 75 RX8 yX8_byteAt wsX8_byteAt) := goodIn_app (goodIn_of _ (by decide +kernel)) ggX5_spells_X8_byteAt
set_option maxRecDepth 20000 in
theorem ggX5_spells_J0_charAt_5068e : GoodIn wsX5_spells wsJ0_charAt_5068e := goodIn_r _ [26, 9, 27, 28, 29, 7, 30, 14, 15, 31, 32, 33, 34, 35, 36, 37, 38, 39, 40, 41, 42, 43, 44, 45, 46, 47, 48, 49, 50, 51, 52, 53, 54, 55, 56, 57, 58, 59] (by decide +kernel) (by decide +kernel)
set_option maxRecDepth 20000 in
theorem gX5_spells_J0_charAt_5068e : GoodIn wsX5_spells (wsV RX5 108 RJ0 yJ0_charAt_5068e wsJ0_charAt_5068e) := goodIn_app (goodIn_of _ (by decide +kernel)) ggX5_spells_J0_charAt_5068e
theorem dX5_spells_0 : decode cX5_spells 0 = .ok (.aload_n 0, 1) := by decide +kernel
theorem dX5_spells_1 : decode cX5_spells 1 = .ok (.getfield 25, 3) := by decide +kernel
theorem dX5_spells_4 : decode cX5_spells 4 = .ok (.aload_n 0, 1) := by decide +kernel
theorem dX5_spells_5 : decode cX5_spells 5 = .ok (.getfield 39, 3) := by decide +kernel
theorem dX5_spells_8 : decode cX5_spells 8 = .ok (.isub, 1) := by decide +kernel
theorem dX5_spells_9 : decode cX5_spells 9 = .ok (.aload_n 1, 1) := by decide +kernel
theorem dX5_spells_10 : decode cX5_spells 10 = .ok (.invokevirtual 105, 3) := by decide +kernel
theorem dX5_spells_13 : decode cX5_spells 13 = .ok (.if_icmp .eq 5, 3) := by decide +kernel
theorem dX5_spells_16 : decode cX5_spells 16 = .ok (.iconst 0, 1) := by decide +kernel
theorem dX5_spells_17 : decode cX5_spells 17 = .ok (.ireturn, 1) := by decide +kernel
theorem dX5_spells_18 : decode cX5_spells 18 = .ok (.iconst 0, 1) := by decide +kernel
theorem dX5_spells_19 : decode cX5_spells 19 = .ok (.istore_n 2, 1) := by decide +kernel
theorem dX5_spells_20 : decode cX5_spells 20 = .ok (.iload_n 2, 1) := by decide +kernel
theorem dX5_spells_21 : decode cX5_spells 21 = .ok (.aload_n 1, 1) := by decide +kernel
theorem dX5_spells_22 : decode cX5_spells 22 = .ok (.invokevirtual 105, 3) := by decide +kernel
theorem dX5_spells_25 : decode cX5_spells 25 = .ok (.if_icmp .ge 32, 3) := by decide +kernel
theorem dX5_spells_28 : decode cX5_spells 28 = .ok (.aload_n 0, 1) := by decide +kernel
theorem dX5_spells_29 : decode cX5_spells 29 = .ok (.getfield 9, 3) := by decide +kernel
theorem dX5_spells_32 : decode cX5_spells 32 = .ok (.aload_n 0, 1) := by decide +kernel
theorem dX5_spells_33 : decode cX5_spells 33 = .ok (.getfield 39, 3) := by decide +kernel
theorem dX5_spells_36 : decode cX5_spells 36 = .ok (.iload_n 2, 1) := by decide +kernel
theorem dX5_spells_37 : decode cX5_spells 37 = .ok (.iadd, 1) := by decide +kernel
theorem dX5_spells_38 : decode cX5_spells 38 = .ok (.invokevirtual 75, 3) := by decide +kernel
theorem dX5_spells_41 : decode cX5_spells 41 = .ok (.aload_n 1, 1) := by decide +kernel
theorem dX5_spells_42 : decode cX5_spells 42 = .ok (.iload_n 2, 1) := by decide +kernel
theorem dX5_spells_43 : decode cX5_spells 43 = .ok (.invokevirtual 108, 3) := by decide +kernel
theorem dX5_spells_46 : decode cX5_spells 46 = .ok (.if_icmp .eq 5, 3) := by decide +kernel
theorem dX5_spells_49 : decode cX5_spells 49 = .ok (.iconst 0, 1) := by decide +kernel
theorem dX5_spells_50 : decode cX5_spells 50 = .ok (.ireturn, 1) := by decide +kernel
theorem dX5_spells_51 : decode cX5_spells 51 = .ok (.iinc 2 1, 3) := by decide +kernel
theorem dX5_spells_54 : decode cX5_spells 54 = .ok (.goto (-34), 3) := by decide +kernel
theorem dX5_spells_57 : decode cX5_spells 57 = .ok (.iconst 1, 1) := by decide +kernel
theorem dX5_spells_58 : decode cX5_spells 58 = .ok (.ireturn, 1) := by decide +kernel
theorem dX5_isLetter_0 : decode cX5_isLetter 0 = .ok (.iload_n 0, 1) := by decide +kernel
theorem dX5_isLetter_1 : decode cX5_isLetter 1 = .ok (.bipush 97, 2) := by decide +kernel
theorem dX5_isLetter_3 : decode cX5_isLetter 3 = .ok (.if_icmp .lt 13, 3) := by decide +kernel
theorem dX5_isLetter_6 : decode cX5_isLetter 6 = .ok (.iload_n 0, 1) := by decide +kernel
theorem dX5_isLetter_7 : decode cX5_isLetter 7 = .ok (.bipush 122, 2) := by decide +kernel
theorem dX5_isLetter_9 : decode cX5_isLetter 9 = .ok (.if_icmp .gt 7, 3) := by decide +kernel
theorem dX5_isLetter_12 : decode cX5_isLetter 12 = .ok (.iconst 1, 1) := by decide +kernel
theorem dX5_isLetter_13 : decode cX5_isLetter 13 = .ok (.goto 4, 3) := by decide +kernel
theorem dX5_isLetter_16 : decode cX5_isLetter 16 = .ok (.iconst 0, 1) := by decide +kernel
theorem dX5_isLetter_17 : decode cX5_isLetter 17 = .ok (.ireturn, 1) := by decide +kernel
theorem dX5_isDigit_0 : decode cX5_isDigit 0 = .ok (.iload_n 0, 1) := by decide +kernel
theorem dX5_isDigit_1 : decode cX5_isDigit 1 = .ok (.bipush 48, 2) := by decide +kernel
theorem dX5_isDigit_3 : decode cX5_isDigit 3 = .ok (.if_icmp .lt 13, 3) := by decide +kernel
theorem dX5_isDigit_6 : decode cX5_isDigit 6 = .ok (.iload_n 0, 1) := by decide +kernel
theorem dX5_isDigit_7 : decode cX5_isDigit 7 = .ok (.bipush 57, 2) := by decide +kernel
theorem dX5_isDigit_9 : decode cX5_isDigit 9 = .ok (.if_icmp .gt 7, 3) := by decide +kernel
theorem dX5_isDigit_12 : decode cX5_isDigit 12 = .ok (.iconst 1, 1) := by decide +kernel
theorem dX5_isDigit_13 : decode cX5_isDigit 13 = .ok (.goto 4, 3) := by decide +kernel
theorem dX5_isDigit_16 : decode cX5_isDigit 16 = .ok (.iconst 0, 1) := by decide +kernel
theorem dX5_isDigit_17 : decode cX5_isDigit 17 = .ok (.ireturn, 1) := by decide +kernel
end
section
theorem dX6_init_0 : decode cX6_init 0 = .ok (.aload_n 0, 1) := by decide +kernel
theorem dX6_init_1 : decode cX6_init 1 = .ok (.invokespecial 3, 3) := by decide +kernel
theorem dX6_init_4 : decode cX6_init 4 = .ok (.aload_n 0, 1) := by decide +kernel
theorem dX6_init_5 : decode cX6_init 5 = .ok (.aload_n 1, 1) := by decide +kernel
theorem dX6_init_6 : decode cX6_init 6 = .ok (.putfield 9, 3) := by decide +kernel
theorem dX6_init_9 : decode cX6_init 9 = .ok (.aload_n 0, 1) := by decide +kernel
theorem dX6_init_10 : decode cX6_init 10 = .ok (.iconst 1, 1) := by decide +kernel
theorem dX6_init_11 : decode cX6_init 11 = .ok (.putfield 15, 3) := by decide +kernel
theorem dX6_init_14 : decode cX6_init 14 = .ok (.return_, 1) := by decide +kernel
set_option maxRecDepth 20000 in
theorem ggX6_startAnew_X1_everyone : GoodIn wsX6_startAnew wsX1_everyone := goodIn_r _ [6, 7, 19, 20, 21, 22, 23] (by decide +kernel) (by decide +kernel)
set_option maxRecDepth 20000 in
theorem gX6_startAnew_X1_everyone : GoodIn wsX6_startAnew (wsV RX6 19 RX1 yX1_everyone wsX1_everyone) := goodIn_app (goodIn_of _ (by decide +kernel)) ggX6_startAnew_X1_everyone
set_option maxRecDepth 20000 in
theorem ggX6_startAnew_X6_become : GoodIn wsX6_startAnew wsX6_become := goodIn_r _ [12, 13, 14, 15, 16, 17, 18] (by decide +kernel) (by decide +kernel)
set_option maxRecDepth 20000 in
theorem gX6_startAnew_X6_become : GoodIn wsX6_startAnew (wsV RX6 25 RX6 yX6_become wsX6_become) := goodIn_app (goodIn_of _ (by decide +kernel)) ggX6_startAnew_X6_become
theorem dX6_startAnew_0 : decode cX6_startAnew 0 = .ok (.aload_n 0, 1) := by decide +kernel
theorem dX6_startAnew_1 : decode cX6_startAnew 1 = .ok (.aload_n 0, 1) := by decide +kernel
theorem dX6_startAnew_2 : decode cX6_startAnew 2 = .ok (.getfield 9, 3) := by decide +kernel
theorem dX6_startAnew_5 : decode cX6_startAnew 5 = .ok (.invokevirtual 19, 3) := by decide +kernel
theorem dX6_startAnew_8 : decode cX6_startAnew 8 = .ok (.iconst 0, 1) := by decide +kernel
theorem dX6_startAnew_9 : decode cX6_startAnew 9 = .ok (.invokevirtual 25, 3) := by decide +kernel
theorem dX6_startAnew_12 : decode cX6_startAnew 12 = .ok (.return_, 1) := by decide +kernel
theorem dX6_become_0 : decode cX6_become 0 = .ok (.aload_n 0, 1) := by decide +kernel
theorem dX6_become_1 : decode cX6_become 1 = .ok (.iload_n 1, 1) := by decide +kernel
theorem dX6_become_2 : decode cX6_become 2 = .ok (.putfield 29, 3) := by decide +kernel
theorem dX6_become_5 : decode cX6_become 5 = .ok (.aload_n 0, 1) := by decide +kernel
theorem dX6_become_6 : decode cX6_become 6 = .ok (.iload_n 2, 1) := by decide +kernel
theorem dX6_become_7 : decode cX6_become 7 = .ok (.putfield 32, 3) := by decide +kernel
theorem dX6_become_10 : decode cX6_become 10 = .ok (.return_, 1) := by decide +kernel
theorem dX6_whoIsIn_0 : decode cX6_whoIsIn 0 = .ok (.aload_n 0, 1) := by decide +kernel
theorem dX6_whoIsIn_1 : decode cX6_whoIsIn 1 = .ok (.getfield 29, 3) := by decide +kernel
theorem dX6_whoIsIn_4 : decode cX6_whoIsIn 4 = .ok (.ireturn, 1) := by decide +kernel
set_option maxRecDepth 20000 in
theorem ggX6_howManyIn_J6_bitCount_0f7a4 : GoodIn wsX6_howManyIn wsJ6_bitCount_0f7a4 := goodIn_r _ [5, 6, 7, 8] (by decide +kernel) (by decide +kernel)
set_option maxRecDepth 20000 in
theorem gX6_howManyIn_J6_bitCount_0f7a4 : GoodIn wsX6_howManyIn (va_wsS RX6 35 yJ6_bitCount_0f7a4 wsJ6_bitCount_0f7a4) := goodIn_app (goodIn_of _ (by decide +kernel)) ggX6_howManyIn_J6_bitCount_0f7a4
theorem dX6_howManyIn_0 : decode cX6_howManyIn 0 = .ok (.aload_n 0, 1) := by decide +kernel
theorem dX6_howManyIn_1 : decode cX6_howManyIn 1 = .ok (.getfield 29, 3) := by decide +kernel
theorem dX6_howManyIn_4 : decode cX6_howManyIn 4 = .ok (.invokestatic 35, 3) := by decide +kernel
theorem dX6_howManyIn_7 : decode cX6_howManyIn 7 = .ok (.ireturn, 1) := by decide +kernel
theorem dX6_streak_0 : decode cX6_streak 0 = .ok (.aload_n 0, 1) := by decide +kernel
theorem dX6_streak_1 : decode cX6_streak 1 = .ok (.getfield 32, 3) := by decide +kernel
theorem dX6_streak_4 : decode cX6_streak 4 = .ok (.ireturn, 1) := by decide +kernel
theorem dX6_theLot_0 : decode cX6_theLot 0 = .ok (.aload_n 0, 1) := by decide +kernel
theorem dX6_theLot_1 : decode cX6_theLot 1 = .ok (.getfield 15, 3) := by decide +kernel
theorem dX6_theLot_4 : decode cX6_theLot 4 = .ok (.ireturn, 1) := by decide +kernel
theorem dX6_setLot_0 : decode cX6_setLot 0 = .ok (.aload_n 0, 1) := by decide +kernel
theorem dX6_setLot_1 : decode cX6_setLot 1 = .ok (.iload_n 1, 1) := by decide +kernel
theorem dX6_setLot_2 : decode cX6_setLot 2 = .ok (.putfield 15, 3) := by decide +kernel
theorem dX6_setLot_5 : decode cX6_setLot 5 = .ok (.return_, 1) := by decide +kernel
set_option maxRecDepth 20000 in
theorem ggX6_isIn_X1_has : GoodIn wsX6_isIn wsX1_has := goodIn_r _ [7, 8, 13, 14, 15, 16, 17] (by decide +kernel) (by decide +kernel)
set_option maxRecDepth 20000 in
theorem gX6_isIn_X1_has : GoodIn wsX6_isIn (wsV RX6 41 RX1 yX1_has wsX1_has) := goodIn_app (goodIn_of _ (by decide +kernel)) ggX6_isIn_X1_has
theorem dX6_isIn_0 : decode cX6_isIn 0 = .ok (.aload_n 0, 1) := by decide +kernel
theorem dX6_isIn_1 : decode cX6_isIn 1 = .ok (.getfield 9, 3) := by decide +kernel
theorem dX6_isIn_4 : decode cX6_isIn 4 = .ok (.iload_n 1, 1) := by decide +kernel
theorem dX6_isIn_5 : decode cX6_isIn 5 = .ok (.invokevirtual 41, 3) := by decide +kernel
theorem dX6_isIn_8 : decode cX6_isIn 8 = .ok (.ifCond .eq 19, 3) := by decide +kernel
theorem dX6_isIn_11 : decode cX6_isIn 11 = .ok (.aload_n 0, 1) := by decide +kernel
theorem dX6_isIn_12 : decode cX6_isIn 12 = .ok (.getfield 29, 3) := by decide +kernel
theorem dX6_isIn_15 : decode cX6_isIn 15 = .ok (.iload_n 1, 1) := by decide +kernel
theorem dX6_isIn_16 : decode cX6_isIn 16 = .ok (.ishr, 1) := by decide +kernel
theorem dX6_isIn_17 : decode cX6_isIn 17 = .ok (.iconst 1, 1) := by decide +kernel
theorem dX6_isIn_18 : decode cX6_isIn 18 = .ok (.iand, 1) := by decide +kernel
theorem dX6_isIn_19 : decode cX6_isIn 19 = .ok (.iconst 1, 1) := by decide +kernel
theorem dX6_isIn_20 : decode cX6_isIn 20 = .ok (.if_icmp .ne 7, 3) := by decide +kernel
theorem dX6_isIn_23 : decode cX6_isIn 23 = .ok (.iconst 1, 1) := by decide +kernel
theorem dX6_isIn_24 : decode cX6_isIn 24 = .ok (.goto 4, 3) := by decide +kernel
theorem dX6_isIn_27 : decode cX6_isIn 27 = .ok (.iconst 0, 1) := by decide +kernel
theorem dX6_isIn_28 : decode cX6_isIn 28 = .ok (.ireturn, 1) := by decide +kernel
theorem dX6_letIn_0 : decode cX6_letIn 0 = .ok (.aload_n 0, 1) := by decide +kernel
theorem dX6_letIn_1 : decode cX6_letIn 1 = .ok (.dup, 1) := by decide +kernel
theorem dX6_letIn_2 : decode cX6_letIn 2 = .ok (.getfield 29, 3) := by decide +kernel
theorem dX6_letIn_5 : decode cX6_letIn 5 = .ok (.iconst 1, 1) := by decide +kernel
theorem dX6_letIn_6 : decode cX6_letIn 6 = .ok (.iload_n 1, 1) := by decide +kernel
theorem dX6_letIn_7 : decode cX6_letIn 7 = .ok (.ishl, 1) := by decide +kernel
theorem dX6_letIn_8 : decode cX6_letIn 8 = .ok (.ior, 1) := by decide +kernel
theorem dX6_letIn_9 : decode cX6_letIn 9 = .ok (.putfield 29, 3) := by decide +kernel
theorem dX6_letIn_12 : decode cX6_letIn 12 = .ok (.return_, 1) := by decide +kernel
set_option maxRecDepth 20000 in
theorem ggX6_leaderOf_X1_copiedBy : GoodIn wsX6_leaderOf wsX1_copiedBy := goodIn_r _ [6, 7, 8, 9, 10, 5, 11, 12, 24, 25, 26, 27, 28] (by decide +kernel) (by decide +kernel)
set_option maxRecDepth 20000 in
theorem gX6_leaderOf_X1_copiedBy : GoodIn wsX6_leaderOf (wsV RX6 45 RX1 yX1_copiedBy wsX1_copiedBy) := goodIn_app (goodIn_of _ (by decide +kernel)) ggX6_leaderOf_X1_copiedBy
set_option maxRecDepth 20000 in
theorem ggX6_leaderOf_X6_isIn : GoodIn wsX6_leaderOf wsX6_isIn := goodIn_r _ [17, 1, 18, 19, 9, 10, 5, 11, 12, 20, 21, 22, 23, 24, 25, 26, 27, 28] (by decide +kernel) (by decide +kernel)
set_option maxRecDepth 20000 in
theorem gX6_leaderOf_X6_isIn : GoodIn wsX6_leaderOf (wsV RX6 48 RX6 yX6_isIn wsX6_isIn) := goodIn_app (goodIn_of _ (by decide +kernel)) ggX6_leaderOf_X6_isIn
theorem dX6_leaderOf_0 : decode cX6_leaderOf 0 = .ok (.iload_n 1, 1) := by decide +kernel
theorem dX6_leaderOf_1 : decode cX6_leaderOf 1 = .ok (.istore_n 2, 1) := by decide +kernel
theorem dX6_leaderOf_2 : decode cX6_leaderOf 2 = .ok (.iconst 0, 1) := by decide +kernel
theorem dX6_leaderOf_3 : decode cX6_leaderOf 3 = .ok (.istore_n 3, 1) := by decide +kernel
theorem dX6_leaderOf_4 : decode cX6_leaderOf 4 = .ok (.iload_n 3, 1) := by decide +kernel
theorem dX6_leaderOf_5 : decode cX6_leaderOf 5 = .ok (.bipush 6, 2) := by decide +kernel
theorem dX6_leaderOf_7 : decode cX6_leaderOf 7 = .ok (.if_icmp .ge 33, 3) := by decide +kernel
theorem dX6_leaderOf_10 : decode cX6_leaderOf 10 = .ok (.aload_n 0, 1) := by decide +kernel
theorem dX6_leaderOf_11 : decode cX6_leaderOf 11 = .ok (.getfield 9, 3) := by decide +kernel
theorem dX6_leaderOf_14 : decode cX6_leaderOf 14 = .ok (.iload_n 2, 1) := by decide +kernel
theorem dX6_leaderOf_15 : decode cX6_leaderOf 15 = .ok (.invokevirtual 45, 3) := by decide +kernel
theorem dX6_leaderOf_18 : decode cX6_leaderOf 18 = .ok (.istore 4, 2) := by decide +kernel
theorem dX6_leaderOf_20 : decode cX6_leaderOf 20 = .ok (.aload_n 0, 1) := by decide +kernel
theorem dX6_leaderOf_21 : decode cX6_leaderOf 21 = .ok (.iload 4, 2) := by decide +kernel
theorem dX6_leaderOf_23 : decode cX6_leaderOf 23 = .ok (.invokevirtual 48, 3) := by decide +kernel
theorem dX6_leaderOf_26 : decode cX6_leaderOf 26 = .ok (.ifCond .ne 5, 3) := by decide +kernel
theorem dX6_leaderOf_29 : decode cX6_leaderOf 29 = .ok (.iload_n 2, 1) := by decide +kernel
theorem dX6_leaderOf_30 : decode cX6_leaderOf 30 = .ok (.ireturn, 1) := by decide +kernel
theorem dX6_leaderOf_31 : decode cX6_leaderOf 31 = .ok (.iload 4, 2) := by decide +kernel
theorem dX6_leaderOf_33 : decode cX6_leaderOf 33 = .ok (.istore_n 2, 1) := by decide +kernel
theorem dX6_leaderOf_34 : decode cX6_leaderOf 34 = .ok (.iinc 3 1, 3) := by decide +kernel
theorem dX6_leaderOf_37 : decode cX6_leaderOf 37 = .ok (.goto (-33), 3) := by decide +kernel
theorem dX6_leaderOf_40 : decode cX6_leaderOf 40 = .ok (.iload_n 2, 1) := by decide +kernel
theorem dX6_leaderOf_41 : decode cX6_leaderOf 41 = .ok (.ireturn, 1) := by decide +kernel
set_option maxRecDepth 20000 in
theorem ggX6_isLeader_X6_isIn : GoodIn wsX6_isLeader wsX6_isIn := goodIn_r _ [5, 6, 7, 8, 9, 10, 11, 12, 13, 24, 25, 26, 27, 28, 29, 30, 31, 32] (by decide +kernel) (by decide +kernel)
set_option maxRecDepth 20000 in
theorem gX6_isLeader_X6_isIn : GoodIn wsX6_isLeader (wsV RX6 48 RX6 yX6_isIn wsX6_isIn) := goodIn_app (goodIn_of _ (by decide +kernel)) ggX6_isLeader_X6_isIn
set_option maxRecDepth 20000 in
theorem ggX6_isLeader_X6_leaderOf : GoodIn wsX6_isLeader wsX6_leaderOf := goodIn_r _ [17, 6, 18, 19, 20, 11, 21, 22, 23, 9, 10, 12, 13, 1, 2, 3, 4, 5, 7, 8, 24, 25, 26, 27, 28, 29, 30, 31, 32] (by decide +kernel) (by decide +kernel)
set_option maxRecDepth 20000 in
theorem gX6_isLeader_X6_leaderOf : GoodIn wsX6_isLeader (wsV RX6 51 RX6 yX6_leaderOf wsX6_leaderOf) := goodIn_app (goodIn_of _ (by decide +kernel)) ggX6_isLeader_X6_leaderOf
theorem dX6_isLeader_0 : decode cX6_isLeader 0 = .ok (.aload_n 0, 1) := by decide +kernel
theorem dX6_isLeader_1 : decode cX6_isLeader 1 = .ok (.iload_n 1, 1) := by decide +kernel
theorem dX6_isLeader_2 : decode cX6_isLeader 2 = .ok (.invokevirtual 48, 3) := by decide +kernel
theorem dX6_isLeader_5 : decode cX6_isLeader 5 = .ok (.ifCond .eq 16, 3) := by decide +kernel
theorem dX6_isLeader_8 : decode cX6_isLeader 8 = .ok (.aload_n 0, 1) := by decide +kernel
theorem dX6_isLeader_9 : decode cX6_isLeader 9 = .ok (.iload_n 1, 1) := by decide +kernel
theorem dX6_isLeader_10 : decode cX6_isLeader 10 = .ok (.invokevirtual 51, 3) := by decide +kernel
theorem dX6_isLeader_13 : decode cX6_isLeader 13 = .ok (.iload_n 1, 1) := by decide +kernel
theorem dX6_isLeader_14 : decode cX6_isLeader 14 = .ok (.if_icmp .ne 7, 3) := by decide +kernel
theorem dX6_isLeader_17 : decode cX6_isLeader 17 = .ok (.iconst 1, 1) := by decide +kernel
theorem dX6_isLeader_18 : decode cX6_isLeader 18 = .ok (.goto 4, 3) := by decide +kernel
theorem dX6_isLeader_21 : decode cX6_isLeader 21 = .ok (.iconst 0, 1) := by decide +kernel
theorem dX6_isLeader_22 : decode cX6_isLeader 22 = .ok (.ireturn, 1) := by decide +kernel
set_option maxRecDepth 20000 in
theorem ggX6_groupOf_X1_size : GoodIn wsX6_groupOf wsX1_size := goodIn_r _ [6, 7, 32, 33, 34, 35, 36] (by decide +kernel) (by decide +kernel)
set_option maxRecDepth 20000 in
theorem gX6_groupOf_X1_size : GoodIn wsX6_groupOf (wsV RX6 54 RX1 yX1_size wsX1_size) := goodIn_app (goodIn_of _ (by decide +kernel)) ggX6_groupOf_X1_size
set_option maxRecDepth 20000 in
theorem ggX6_groupOf_X6_isIn : GoodIn wsX6_groupOf wsX6_isIn := goodIn_r _ [12, 1, 13, 14, 15, 16, 5, 17, 7, 28, 29, 30, 31, 32, 33, 34, 35, 36] (by decide +kernel) (by decide +kernel)
set_option maxRecDepth 20000 in
theorem gX6_groupOf_X6_isIn : GoodIn wsX6_groupOf (wsV RX6 48 RX6 yX6_isIn wsX6_isIn) := goodIn_app (goodIn_of _ (by decide +kernel)) ggX6_groupOf_X6_isIn
set_option maxRecDepth 20000 in
theorem ggX6_groupOf_X6_leaderOf : GoodIn wsX6_groupOf wsX6_leaderOf := goodIn_r _ [21, 1, 22, 23, 24, 5, 25, 26, 27, 15, 16, 17, 7, 8, 9, 10, 11, 12, 13, 14, 28, 29, 30, 31, 32, 33, 34, 35, 36] (by decide +kernel) (by decide +kernel)
set_option maxRecDepth 20000 in
theorem gX6_groupOf_X6_leaderOf : GoodIn wsX6_groupOf (wsV RX6 51 RX6 yX6_leaderOf wsX6_leaderOf) := goodIn_app (goodIn_of _ (by decide +kernel)) ggX6_groupOf_X6_leaderOf
theorem dX6_groupOf_0 : decode cX6_groupOf 0 = .ok (.iconst 0, 1) := by decide +kernel
theorem dX6_groupOf_1 : decode cX6_groupOf 1 = .ok (.istore_n 2, 1) := by decide +kernel
theorem dX6_groupOf_2 : decode cX6_groupOf 2 = .ok (.iconst 0, 1) := by decide +kernel
theorem dX6_groupOf_3 : decode cX6_groupOf 3 = .ok (.istore_n 3, 1) := by decide +kernel
theorem dX6_groupOf_4 : decode cX6_groupOf 4 = .ok (.iload_n 3, 1) := by decide +kernel
theorem dX6_groupOf_5 : decode cX6_groupOf 5 = .ok (.aload_n 0, 1) := by decide +kernel
theorem dX6_groupOf_6 : decode cX6_groupOf 6 = .ok (.getfield 9, 3) := by decide +kernel
theorem dX6_groupOf_9 : decode cX6_groupOf 9 = .ok (.invokevirtual 54, 3) := by decide +kernel
theorem dX6_groupOf_12 : decode cX6_groupOf 12 = .ok (.if_icmp .ge 32, 3) := by decide +kernel
theorem dX6_groupOf_15 : decode cX6_groupOf 15 = .ok (.aload_n 0, 1) := by decide +kernel
theorem dX6_groupOf_16 : decode cX6_groupOf 16 = .ok (.iload_n 3, 1) := by decide +kernel
theorem dX6_groupOf_17 : decode cX6_groupOf 17 = .ok (.invokevirtual 48, 3) := by decide +kernel
theorem dX6_groupOf_20 : decode cX6_groupOf 20 = .ok (.ifCond .eq 18, 3) := by decide +kernel
theorem dX6_groupOf_23 : decode cX6_groupOf 23 = .ok (.aload_n 0, 1) := by decide +kernel
theorem dX6_groupOf_24 : decode cX6_groupOf 24 = .ok (.iload_n 3, 1) := by decide +kernel
theorem dX6_groupOf_25 : decode cX6_groupOf 25 = .ok (.invokevirtual 51, 3) := by decide +kernel
theorem dX6_groupOf_28 : decode cX6_groupOf 28 = .ok (.iload_n 1, 1) := by decide +kernel
theorem dX6_groupOf_29 : decode cX6_groupOf 29 = .ok (.if_icmp .ne 9, 3) := by decide +kernel
theorem dX6_groupOf_32 : decode cX6_groupOf 32 = .ok (.iload_n 2, 1) := by decide +kernel
theorem dX6_groupOf_33 : decode cX6_groupOf 33 = .ok (.iconst 1, 1) := by decide +kernel
theorem dX6_groupOf_34 : decode cX6_groupOf 34 = .ok (.iload_n 3, 1) := by decide +kernel
theorem dX6_groupOf_35 : decode cX6_groupOf 35 = .ok (.ishl, 1) := by decide +kernel
theorem dX6_groupOf_36 : decode cX6_groupOf 36 = .ok (.ior, 1) := by decide +kernel
theorem dX6_groupOf_37 : decode cX6_groupOf 37 = .ok (.istore_n 2, 1) := by decide +kernel
theorem dX6_groupOf_38 : decode cX6_groupOf 38 = .ok (.iinc 3 1, 3) := by decide +kernel
theorem dX6_groupOf_41 : decode cX6_groupOf 41 = .ok (.goto (-37), 3) := by decide +kernel
theorem dX6_groupOf_44 : decode cX6_groupOf 44 = .ok (.iload_n 2, 1) := by decide +kernel
theorem dX6_groupOf_45 : decode cX6_groupOf 45 = .ok (.ireturn, 1) := by decide +kernel
set_option maxRecDepth 20000 in
theorem ggX6_obey_X1_size : GoodIn wsX6_obey wsX1_size := goodIn_r _ [8, 9, 73, 74, 75, 76, 77] (by decide +kernel) (by decide +kernel)
set_option maxRecDepth 20000 in
theorem gX6_obey_X1_size : GoodIn wsX6_obey (wsV RX6 54 RX1 yX1_size wsX1_size) := goodIn_app (goodIn_of _ (by decide +kernel)) ggX6_obey_X1_size
set_option maxRecDepth 20000 in
theorem ggX6_obey_X6_isLeader : GoodIn wsX6_obey wsX6_isLeader := goodIn_r _ [14, 15, 16, 17, 13, 18, 1, 3, 19, 20, 21, 7, 22, 9, 23, 24, 25, 26, 27, 28, 29, 30, 31, 32, 69, 70, 71, 72, 73, 74, 75, 76, 77] (by decide +kernel) (by decide +kernel)
set_option maxRecDepth 20000 in
theorem gX6_obey_X6_isLeader : GoodIn wsX6_obey (wsV RX6 57 RX6 yX6_isLeader wsX6_isLeader) := goodIn_app (goodIn_of _ (by decide +kernel)) ggX6_obey_X6_isLeader
set_option maxRecDepth 20000 in
theorem ggX6_obey_X6_draw : GoodIn wsX6_obey wsX6_draw := goodIn_r _ [36, 37, 38, 69, 70, 71, 72] (by decide +kernel) (by decide +kernel)
set_option maxRecDepth 20000 in
theorem gX6_obey_X6_draw : GoodIn wsX6_obey (wsV RX6 60 RX6 yX6_draw wsX6_draw) := goodIn_app (goodIn_of _ (by decide +kernel)) ggX6_obey_X6_draw
set_option maxRecDepth 20000 in
theorem ggX6_obey_X1_errsOf : GoodIn wsX6_obey wsX1_errsOf := goodIn_r _ [42, 43, 44, 45, 46, 47, 48, 49, 7, 50, 51, 32, 20, 21, 22, 9, 52, 53, 54, 55, 56, 73, 74, 75, 76, 77] (by decide +kernel) (by decide +kernel)
set_option maxRecDepth 20000 in
theorem gX6_obey_X1_errsOf : GoodIn wsX6_obey (wsV RX6 63 RX1 yX1_errsOf wsX1_errsOf) := goodIn_app (goodIn_of _ (by decide +kernel)) ggX6_obey_X1_errsOf
set_option maxRecDepth 20000 in
theorem ggX6_obey_X6_groupOf : GoodIn wsX6_obey wsX6_groupOf := goodIn_r _ [60, 1, 4, 5, 6, 7, 8, 9, 15, 16, 17, 13, 18, 3, 19, 20, 21, 22, 23, 24, 25, 26, 27, 28, 29, 30, 31, 32, 69, 70, 71, 72, 73, 74, 75, 76, 77] (by decide +kernel) (by decide +kernel)
set_option maxRecDepth 20000 in
theorem gX6_obey_X6_groupOf : GoodIn wsX6_obey (wsV RX6 67 RX6 yX6_groupOf wsX6_groupOf) := goodIn_app (goodIn_of _ (by decide +kernel)) ggX6_obey_X6_groupOf
set_option maxRecDepth 20000 in
theorem ggX6_obey_X9_streakBehind : GoodIn wsX6_obey wsX9_streakBehind := goodIn_r _ [63, 64, 44, 45, 46] (by decide +kernel) (by decide +kernel)
set_option maxRecDepth 20000 in
theorem gX6_obey_X9_streakBehind_n70 : GoodIn wsX6_obey (wsX9_streakBehind) := ggX6_obey_X9_streakBehind
set_option maxRecDepth 20000 in
theorem ggX6_obey_X6_become : GoodIn wsX6_obey wsX6_become := goodIn_r _ [68, 3, 2, 69, 70, 71, 72] (by decide +kernel) (by decide +kernel)
set_option maxRecDepth 20000 in
theorem gX6_obey_X6_become : GoodIn wsX6_obey (wsV RX6 25 RX6 yX6_become wsX6_become) := goodIn_app (goodIn_of _ (by decide +kernel)) ggX6_obey_X6_become
theorem dX6_obey_0 : decode cX6_obey 0 = .ok (.iconst 0, 1) := by decide +kernel
theorem dX6_obey_1 : decode cX6_obey 1 = .ok (.istore_n 2, 1) := by decide +kernel
theorem dX6_obey_2 : decode cX6_obey 2 = .ok (.iconst 0, 1) := by decide +kernel
theorem dX6_obey_3 : decode cX6_obey 3 = .ok (.istore_n 3, 1) := by decide +kernel
theorem dX6_obey_4 : decode cX6_obey 4 = .ok (.iload_n 3, 1) := by decide +kernel
theorem dX6_obey_5 : decode cX6_obey 5 = .ok (.aload_n 0, 1) := by decide +kernel
theorem dX6_obey_6 : decode cX6_obey 6 = .ok (.getfield 9, 3) := by decide +kernel
theorem dX6_obey_9 : decode cX6_obey 9 = .ok (.invokevirtual 54, 3) := by decide +kernel
theorem dX6_obey_12 : decode cX6_obey 12 = .ok (.if_icmp .ge 45, 3) := by decide +kernel
theorem dX6_obey_15 : decode cX6_obey 15 = .ok (.aload_n 0, 1) := by decide +kernel
theorem dX6_obey_16 : decode cX6_obey 16 = .ok (.iload_n 3, 1) := by decide +kernel
theorem dX6_obey_17 : decode cX6_obey 17 = .ok (.invokevirtual 57, 3) := by decide +kernel
theorem dX6_obey_20 : decode cX6_obey 20 = .ok (.ifCond .eq 31, 3) := by decide +kernel
theorem dX6_obey_23 : decode cX6_obey 23 = .ok (.aload_n 0, 1) := by decide +kernel
theorem dX6_obey_24 : decode cX6_obey 24 = .ok (.invokevirtual 60, 3) := by decide +kernel
theorem dX6_obey_27 : decode cX6_obey 27 = .ok (.aload_n 0, 1) := by decide +kernel
theorem dX6_obey_28 : decode cX6_obey 28 = .ok (.getfield 9, 3) := by decide +kernel
theorem dX6_obey_31 : decode cX6_obey 31 = .ok (.iload_n 3, 1) := by decide +kernel
theorem dX6_obey_32 : decode cX6_obey 32 = .ok (.iload_n 1, 1) := by decide +kernel
theorem dX6_obey_33 : decode cX6_obey 33 = .ok (.aload_n 0, 1) := by decide +kernel
theorem dX6_obey_34 : decode cX6_obey 34 = .ok (.getfield 32, 3) := by decide +kernel
theorem dX6_obey_37 : decode cX6_obey 37 = .ok (.invokevirtual 63, 3) := by decide +kernel
theorem dX6_obey_40 : decode cX6_obey 40 = .ok (.if_icmp .ge 11, 3) := by decide +kernel
theorem dX6_obey_43 : decode cX6_obey 43 = .ok (.iload_n 2, 1) := by decide +kernel
theorem dX6_obey_44 : decode cX6_obey 44 = .ok (.aload_n 0, 1) := by decide +kernel
theorem dX6_obey_45 : decode cX6_obey 45 = .ok (.iload_n 3, 1) := by decide +kernel
theorem dX6_obey_46 : decode cX6_obey 46 = .ok (.invokevirtual 67, 3) := by decide +kernel
theorem dX6_obey_49 : decode cX6_obey 49 = .ok (.ior, 1) := by decide +kernel
theorem dX6_obey_50 : decode cX6_obey 50 = .ok (.istore_n 2, 1) := by decide +kernel
theorem dX6_obey_51 : decode cX6_obey 51 = .ok (.iinc 3 1, 3) := by decide +kernel
theorem dX6_obey_54 : decode cX6_obey 54 = .ok (.goto (-50), 3) := by decide +kernel
theorem dX6_obey_57 : decode cX6_obey 57 = .ok (.aload_n 0, 1) := by decide +kernel
theorem dX6_obey_58 : decode cX6_obey 58 = .ok (.aload_n 0, 1) := by decide +kernel
theorem dX6_obey_59 : decode cX6_obey 59 = .ok (.getfield 29, 3) := by decide +kernel
theorem dX6_obey_62 : decode cX6_obey 62 = .ok (.iload_n 2, 1) := by decide +kernel
theorem dX6_obey_63 : decode cX6_obey 63 = .ok (.iconst (-1), 1) := by decide +kernel
theorem dX6_obey_64 : decode cX6_obey 64 = .ok (.ixor, 1) := by decide +kernel
theorem dX6_obey_65 : decode cX6_obey 65 = .ok (.iand, 1) := by decide +kernel
theorem dX6_obey_66 : decode cX6_obey 66 = .ok (.iload_n 1, 1) := by decide +kernel
theorem dX6_obey_67 : decode cX6_obey 67 = .ok (.aload_n 0, 1) := by decide +kernel
theorem dX6_obey_68 : decode cX6_obey 68 = .ok (.getfield 32, 3) := by decide +kernel
theorem dX6_obey_71 : decode cX6_obey 71 = .ok (.invokestatic 70, 3) := by decide +kernel
theorem dX6_obey_74 : decode cX6_obey 74 = .ok (.invokevirtual 25, 3) := by decide +kernel
theorem dX6_obey_77 : decode cX6_obey 77 = .ok (.iload_n 2, 1) := by decide +kernel
theorem dX6_obey_78 : decode cX6_obey 78 = .ok (.ireturn, 1) := by decide +kernel
theorem dX6_draw_0 : decode cX6_draw 0 = .ok (.aload_n 0, 1) := by decide +kernel
theorem dX6_draw_1 : decode cX6_draw 1 = .ok (.aload_n 0, 1) := by decide +kernel
theorem dX6_draw_2 : decode cX6_draw 2 = .ok (.getfield 15, 3) := by decide +kernel
theorem dX6_draw_5 : decode cX6_draw 5 = .ok (.ldc 74, 2) := by decide +kernel
theorem dX6_draw_7 : decode cX6_draw 7 = .ok (.imul, 1) := by decide +kernel
theorem dX6_draw_8 : decode cX6_draw 8 = .ok (.sipush 12345, 3) := by decide +kernel
theorem dX6_draw_11 : decode cX6_draw 11 = .ok (.iadd, 1) := by decide +kernel
theorem dX6_draw_12 : decode cX6_draw 12 = .ok (.putfield 15, 3) := by decide +kernel
theorem dX6_draw_15 : decode cX6_draw 15 = .ok (.aload_n 0, 1) := by decide +kernel
theorem dX6_draw_16 : decode cX6_draw 16 = .ok (.getfield 15, 3) := by decide +kernel
theorem dX6_draw_19 : decode cX6_draw 19 = .ok (.bipush 16, 2) := by decide +kernel
theorem dX6_draw_21 : decode cX6_draw 21 = .ok (.iushr, 1) := by decide +kernel
theorem dX6_draw_22 : decode cX6_draw 22 = .ok (.bipush 10, 2) := by decide +kernel
theorem dX6_draw_24 : decode cX6_draw 24 = .ok (.irem, 1) := by decide +kernel
theorem dX6_draw_25 : decode cX6_draw 25 = .ok (.ireturn, 1) := by decide +kernel
set_option maxRecDepth 20000 in
theorem ggX6_fewestSaidAhead_X6_leaderOf : GoodIn wsX6_fewestSaidAhead wsX6_leaderOf := goodIn_r _ [7, 2, 8, 9, 10, 11, 12, 13, 14, 15, 16, 17, 18, 19, 20, 21, 6, 22, 23, 24, 47, 48, 49, 50, 51, 52, 53, 54, 55] (by decide +kernel) (by decide +kernel)
set_option maxRecDepth 20000 in
theorem gX6_fewestSaidAhead_X6_leaderOf : GoodIn wsX6_fewestSaidAhead (wsV RX6 51 RX6 yX6_leaderOf wsX6_leaderOf) := goodIn_app (goodIn_of _ (by decide +kernel)) ggX6_fewestSaidAhead_X6_leaderOf
set_option maxRecDepth 20000 in
theorem ggX6_fewestSaidAhead_X1_errsOf : GoodIn wsX6_fewestSaidAhead wsX1_errsOf := goodIn_r _ [28, 29, 30, 31, 32, 33, 34, 35, 11, 36, 37, 14, 15, 16, 17, 18, 38, 39, 40, 41, 42, 51, 52, 53, 54, 55] (by decide +kernel) (by decide +kernel)
set_option maxRecDepth 20000 in
theorem gX6_fewestSaidAhead_X1_errsOf : GoodIn wsX6_fewestSaidAhead (wsV RX6 63 RX1 yX1_errsOf wsX1_errsOf) := goodIn_app (goodIn_of _ (by decide +kernel)) ggX6_fewestSaidAhead_X1_errsOf
set_option maxRecDepth 20000 in
theorem ggX6_fewestSaidAhead_X9_streakBehind : GoodIn wsX6_fewestSaidAhead wsX9_streakBehind := goodIn_r _ [45, 46, 30, 31, 32] (by decide +kernel) (by decide +kernel)
set_option maxRecDepth 20000 in
theorem gX6_fewestSaidAhead_X9_streakBehind_n70 : GoodIn wsX6_fewestSaidAhead (wsX9_streakBehind) := ggX6_fewestSaidAhead_X9_streakBehind
theorem dX6_fewestSaidAhead_0 : decode cX6_fewestSaidAhead 0 = .ok (.aload_n 0, 1) := by decide +kernel
theorem dX6_fewestSaidAhead_1 : decode cX6_fewestSaidAhead 1 = .ok (.iload_n 1, 1) := by decide +kernel
theorem dX6_fewestSaidAhead_2 : decode cX6_fewestSaidAhead 2 = .ok (.invokevirtual 51, 3) := by decide +kernel
theorem dX6_fewestSaidAhead_5 : decode cX6_fewestSaidAhead 5 = .ok (.istore_n 3, 1) := by decide +kernel
theorem dX6_fewestSaidAhead_6 : decode cX6_fewestSaidAhead 6 = .ok (.aload_n 0, 1) := by decide +kernel
theorem dX6_fewestSaidAhead_7 : decode cX6_fewestSaidAhead 7 = .ok (.getfield 32, 3) := by decide +kernel
theorem dX6_fewestSaidAhead_10 : decode cX6_fewestSaidAhead 10 = .ok (.istore 4, 2) := by decide +kernel
theorem dX6_fewestSaidAhead_12 : decode cX6_fewestSaidAhead 12 = .ok (.iconst 0, 1) := by decide +kernel
theorem dX6_fewestSaidAhead_13 : decode cX6_fewestSaidAhead 13 = .ok (.istore 5, 2) := by decide +kernel
theorem dX6_fewestSaidAhead_15 : decode cX6_fewestSaidAhead 15 = .ok (.iload 5, 2) := by decide +kernel
theorem dX6_fewestSaidAhead_17 : decode cX6_fewestSaidAhead 17 = .ok (.bipush 9, 2) := by decide +kernel
theorem dX6_fewestSaidAhead_19 : decode cX6_fewestSaidAhead 19 = .ok (.if_icmp .gt 35, 3) := by decide +kernel
theorem dX6_fewestSaidAhead_22 : decode cX6_fewestSaidAhead 22 = .ok (.aload_n 0, 1) := by decide +kernel
theorem dX6_fewestSaidAhead_23 : decode cX6_fewestSaidAhead 23 = .ok (.getfield 9, 3) := by decide +kernel
theorem dX6_fewestSaidAhead_26 : decode cX6_fewestSaidAhead 26 = .ok (.iload_n 3, 1) := by decide +kernel
theorem dX6_fewestSaidAhead_27 : decode cX6_fewestSaidAhead 27 = .ok (.iconst 2, 1) := by decide +kernel
theorem dX6_fewestSaidAhead_28 : decode cX6_fewestSaidAhead 28 = .ok (.iload 4, 2) := by decide +kernel
theorem dX6_fewestSaidAhead_30 : decode cX6_fewestSaidAhead 30 = .ok (.invokevirtual 63, 3) := by decide +kernel
theorem dX6_fewestSaidAhead_33 : decode cX6_fewestSaidAhead 33 = .ok (.iload_n 2, 1) := by decide +kernel
theorem dX6_fewestSaidAhead_34 : decode cX6_fewestSaidAhead 34 = .ok (.if_icmp .lt 6, 3) := by decide +kernel
theorem dX6_fewestSaidAhead_37 : decode cX6_fewestSaidAhead 37 = .ok (.iload 5, 2) := by decide +kernel
theorem dX6_fewestSaidAhead_39 : decode cX6_fewestSaidAhead 39 = .ok (.ireturn, 1) := by decide +kernel
theorem dX6_fewestSaidAhead_40 : decode cX6_fewestSaidAhead 40 = .ok (.iconst 1, 1) := by decide +kernel
theorem dX6_fewestSaidAhead_41 : decode cX6_fewestSaidAhead 41 = .ok (.iload 4, 2) := by decide +kernel
theorem dX6_fewestSaidAhead_43 : decode cX6_fewestSaidAhead 43 = .ok (.invokestatic 70, 3) := by decide +kernel
theorem dX6_fewestSaidAhead_46 : decode cX6_fewestSaidAhead 46 = .ok (.istore 4, 2) := by decide +kernel
theorem dX6_fewestSaidAhead_48 : decode cX6_fewestSaidAhead 48 = .ok (.iinc 5 1, 3) := by decide +kernel
theorem dX6_fewestSaidAhead_51 : decode cX6_fewestSaidAhead 51 = .ok (.goto (-36), 3) := by decide +kernel
theorem dX6_fewestSaidAhead_54 : decode cX6_fewestSaidAhead 54 = .ok (.bipush (-9), 2) := by decide +kernel
theorem dX6_fewestSaidAhead_56 : decode cX6_fewestSaidAhead 56 = .ok (.ireturn, 1) := by decide +kernel
set_option maxRecDepth 20000 in
theorem ggX6_isFair_X1_littleOnes : GoodIn wsX6_isFair wsX1_littleOnes := goodIn_r _ [7, 8, 13, 14, 15, 16, 17] (by decide +kernel) (by decide +kernel)
set_option maxRecDepth 20000 in
theorem gX6_isFair_X1_littleOnes : GoodIn wsX6_isFair (wsV RX6 75 RX1 yX1_littleOnes wsX1_littleOnes) := goodIn_app (goodIn_of _ (by decide +kernel)) ggX6_isFair_X1_littleOnes
theorem dX6_isFair_0 : decode cX6_isFair 0 = .ok (.aload_n 0, 1) := by decide +kernel
theorem dX6_isFair_1 : decode cX6_isFair 1 = .ok (.getfield 9, 3) := by decide +kernel
theorem dX6_isFair_4 : decode cX6_isFair 4 = .ok (.invokevirtual 75, 3) := by decide +kernel
theorem dX6_isFair_7 : decode cX6_isFair 7 = .ok (.aload_n 0, 1) := by decide +kernel
theorem dX6_isFair_8 : decode cX6_isFair 8 = .ok (.getfield 29, 3) := by decide +kernel
theorem dX6_isFair_11 : decode cX6_isFair 11 = .ok (.iconst (-1), 1) := by decide +kernel
theorem dX6_isFair_12 : decode cX6_isFair 12 = .ok (.ixor, 1) := by decide +kernel
theorem dX6_isFair_13 : decode cX6_isFair 13 = .ok (.iand, 1) := by decide +kernel
theorem dX6_isFair_14 : decode cX6_isFair 14 = .ok (.istore_n 1, 1) := by decide +kernel
theorem dX6_isFair_15 : decode cX6_isFair 15 = .ok (.aload_n 0, 1) := by decide +kernel
theorem dX6_isFair_16 : decode cX6_isFair 16 = .ok (.getfield 29, 3) := by decide +kernel
theorem dX6_isFair_19 : decode cX6_isFair 19 = .ok (.aload_n 0, 1) := by decide +kernel
theorem dX6_isFair_20 : decode cX6_isFair 20 = .ok (.getfield 9, 3) := by decide +kernel
theorem dX6_isFair_23 : decode cX6_isFair 23 = .ok (.invokevirtual 75, 3) := by decide +kernel
theorem dX6_isFair_26 : decode cX6_isFair 26 = .ok (.iconst (-1), 1) := by decide +kernel
theorem dX6_isFair_27 : decode cX6_isFair 27 = .ok (.ixor, 1) := by decide +kernel
theorem dX6_isFair_28 : decode cX6_isFair 28 = .ok (.iand, 1) := by decide +kernel
theorem dX6_isFair_29 : decode cX6_isFair 29 = .ok (.istore_n 2, 1) := by decide +kernel
theorem dX6_isFair_30 : decode cX6_isFair 30 = .ok (.iload_n 1, 1) := by decide +kernel
theorem dX6_isFair_31 : decode cX6_isFair 31 = .ok (.ifCond .eq 7, 3) := by decide +kernel
theorem dX6_isFair_34 : decode cX6_isFair 34 = .ok (.iload_n 2, 1) := by decide +kernel
theorem dX6_isFair_35 : decode cX6_isFair 35 = .ok (.ifCond .ne 7, 3) := by decide +kernel
theorem dX6_isFair_38 : decode cX6_isFair 38 = .ok (.iconst 1, 1) := by decide +kernel
theorem dX6_isFair_39 : decode cX6_isFair 39 = .ok (.goto 4, 3) := by decide +kernel
theorem dX6_isFair_42 : decode cX6_isFair 42 = .ok (.iconst 0, 1) := by decide +kernel
theorem dX6_isFair_43 : decode cX6_isFair 43 = .ok (.ireturn, 1) := by decide +kernel
end
section
theorem dX7_init_0 : decode cX7_init 0 = .ok (.aload_n 0, 1) := by decide +kernel
theorem dX7_init_1 : decode cX7_init 1 = .ok (.invokespecial 3, 3) := by decide +kernel
theorem dX7_init_4 : decode cX7_init 4 = .ok (.aload_n 0, 1) := by decide +kernel
theorem dX7_init_5 : decode cX7_init 5 = .ok (.bipush 9, 2) := by decide +kernel
theorem dX7_init_7 : decode cX7_init 7 = .ok (.newarray .int, 2) := by decide +kernel
theorem dX7_init_9 : decode cX7_init 9 = .ok (.putfield 9, 3) := by decide +kernel
theorem dX7_init_12 : decode cX7_init 12 = .ok (.return_, 1) := by decide +kernel
theorem dX7_length_0 : decode cX7_length 0 = .ok (.aload_n 0, 1) := by decide +kernel
theorem dX7_length_1 : decode cX7_length 1 = .ok (.getfield 15, 3) := by decide +kernel
theorem dX7_length_4 : decode cX7_length 4 = .ok (.ireturn, 1) := by decide +kernel
set_option maxRecDepth 20000 in
theorem ggX7_read_X9_isOrder : GoodIn wsX7_read wsX9_isOrder := goodIn_r _ [5] (by decide +kernel) (by decide +kernel)
set_option maxRecDepth 20000 in
theorem gX7_read_X9_isOrder_n19 : GoodIn wsX7_read (wsX9_isOrder) := ggX7_read_X9_isOrder
theorem dX7_read_0 : decode cX7_read 0 = .ok (.iload_n 1, 1) := by decide +kernel
theorem dX7_read_1 : decode cX7_read 1 = .ok (.istore_n 3, 1) := by decide +kernel
theorem dX7_read_2 : decode cX7_read 2 = .ok (.aload_n 0, 1) := by decide +kernel
theorem dX7_read_3 : decode cX7_read 3 = .ok (.iconst 0, 1) := by decide +kernel
theorem dX7_read_4 : decode cX7_read 4 = .ok (.putfield 15, 3) := by decide +kernel
theorem dX7_read_7 : decode cX7_read 7 = .ok (.iconst 0, 1) := by decide +kernel
theorem dX7_read_8 : decode cX7_read 8 = .ok (.istore 4, 2) := by decide +kernel
theorem dX7_read_10 : decode cX7_read 10 = .ok (.iload 4, 2) := by decide +kernel
theorem dX7_read_12 : decode cX7_read 12 = .ok (.iload_n 2, 1) := by decide +kernel
theorem dX7_read_13 : decode cX7_read 13 = .ok (.if_icmp .ge 58, 3) := by decide +kernel
theorem dX7_read_16 : decode cX7_read 16 = .ok (.iload 4, 2) := by decide +kernel
theorem dX7_read_18 : decode cX7_read 18 = .ok (.bipush 9, 2) := by decide +kernel
theorem dX7_read_20 : decode cX7_read 20 = .ok (.if_icmp .ge 51, 3) := by decide +kernel
theorem dX7_read_23 : decode cX7_read 23 = .ok (.iload_n 3, 1) := by decide +kernel
theorem dX7_read_24 : decode cX7_read 24 = .ok (.ifCond .le 47, 3) := by decide +kernel
theorem dX7_read_27 : decode cX7_read 27 = .ok (.iload_n 3, 1) := by decide +kernel
theorem dX7_read_28 : decode cX7_read 28 = .ok (.bipush 10, 2) := by decide +kernel
theorem dX7_read_30 : decode cX7_read 30 = .ok (.irem, 1) := by decide +kernel
theorem dX7_read_31 : decode cX7_read 31 = .ok (.invokestatic 19, 3) := by decide +kernel
theorem dX7_read_34 : decode cX7_read 34 = .ok (.ifCond .ne 5, 3) := by decide +kernel
theorem dX7_read_37 : decode cX7_read 37 = .ok (.iconst 0, 1) := by decide +kernel
theorem dX7_read_38 : decode cX7_read 38 = .ok (.ireturn, 1) := by decide +kernel
theorem dX7_read_39 : decode cX7_read 39 = .ok (.aload_n 0, 1) := by decide +kernel
theorem dX7_read_40 : decode cX7_read 40 = .ok (.getfield 9, 3) := by decide +kernel
theorem dX7_read_43 : decode cX7_read 43 = .ok (.iload 4, 2) := by decide +kernel
theorem dX7_read_45 : decode cX7_read 45 = .ok (.iload_n 3, 1) := by decide +kernel
theorem dX7_read_46 : decode cX7_read 46 = .ok (.bipush 10, 2) := by decide +kernel
theorem dX7_read_48 : decode cX7_read 48 = .ok (.irem, 1) := by decide +kernel
theorem dX7_read_49 : decode cX7_read 49 = .ok (.iastore, 1) := by decide +kernel
theorem dX7_read_50 : decode cX7_read 50 = .ok (.iload_n 3, 1) := by decide +kernel
theorem dX7_read_51 : decode cX7_read 51 = .ok (.bipush 10, 2) := by decide +kernel
theorem dX7_read_53 : decode cX7_read 53 = .ok (.idiv, 1) := by decide +kernel
theorem dX7_read_54 : decode cX7_read 54 = .ok (.istore_n 3, 1) := by decide +kernel
theorem dX7_read_55 : decode cX7_read 55 = .ok (.aload_n 0, 1) := by decide +kernel
theorem dX7_read_56 : decode cX7_read 56 = .ok (.dup, 1) := by decide +kernel
theorem dX7_read_57 : decode cX7_read 57 = .ok (.getfield 15, 3) := by decide +kernel
theorem dX7_read_60 : decode cX7_read 60 = .ok (.iconst 1, 1) := by decide +kernel
theorem dX7_read_61 : decode cX7_read 61 = .ok (.iadd, 1) := by decide +kernel
theorem dX7_read_62 : decode cX7_read 62 = .ok (.putfield 15, 3) := by decide +kernel
theorem dX7_read_65 : decode cX7_read 65 = .ok (.iinc 4 1, 3) := by decide +kernel
theorem dX7_read_68 : decode cX7_read 68 = .ok (.goto (-58), 3) := by decide +kernel
theorem dX7_read_71 : decode cX7_read 71 = .ok (.iload_n 3, 1) := by decide +kernel
theorem dX7_read_72 : decode cX7_read 72 = .ok (.ifCond .ne 7, 3) := by decide +kernel
theorem dX7_read_75 : decode cX7_read 75 = .ok (.iconst 1, 1) := by decide +kernel
theorem dX7_read_76 : decode cX7_read 76 = .ok (.goto 4, 3) := by decide +kernel
theorem dX7_read_79 : decode cX7_read 79 = .ok (.iconst 0, 1) := by decide +kernel
theorem dX7_read_80 : decode cX7_read 80 = .ok (.ireturn, 1) := by decide +kernel
theorem dX7_orderAt_0 : decode cX7_orderAt 0 = .ok (.iload_n 1, 1) := by decide +kernel
theorem dX7_orderAt_1 : decode cX7_orderAt 1 = .ok (.ifCond .lt 27, 3) := by decide +kernel
theorem dX7_orderAt_4 : decode cX7_orderAt 4 = .ok (.iload_n 1, 1) := by decide +kernel
theorem dX7_orderAt_5 : decode cX7_orderAt 5 = .ok (.aload_n 0, 1) := by decide +kernel
theorem dX7_orderAt_6 : decode cX7_orderAt 6 = .ok (.getfield 15, 3) := by decide +kernel
theorem dX7_orderAt_9 : decode cX7_orderAt 9 = .ok (.if_icmp .ge 19, 3) := by decide +kernel
theorem dX7_orderAt_12 : decode cX7_orderAt 12 = .ok (.aload_n 0, 1) := by decide +kernel
theorem dX7_orderAt_13 : decode cX7_orderAt 13 = .ok (.getfield 9, 3) := by decide +kernel
theorem dX7_orderAt_16 : decode cX7_orderAt 16 = .ok (.aload_n 0, 1) := by decide +kernel
theorem dX7_orderAt_17 : decode cX7_orderAt 17 = .ok (.getfield 15, 3) := by decide +kernel
theorem dX7_orderAt_20 : decode cX7_orderAt 20 = .ok (.iconst 1, 1) := by decide +kernel
theorem dX7_orderAt_21 : decode cX7_orderAt 21 = .ok (.isub, 1) := by decide +kernel
theorem dX7_orderAt_22 : decode cX7_orderAt 22 = .ok (.iload_n 1, 1) := by decide +kernel
theorem dX7_orderAt_23 : decode cX7_orderAt 23 = .ok (.isub, 1) := by decide +kernel
theorem dX7_orderAt_24 : decode cX7_orderAt 24 = .ok (.iaload, 1) := by decide +kernel
theorem dX7_orderAt_25 : decode cX7_orderAt 25 = .ok (.goto 5, 3) := by decide +kernel
theorem dX7_orderAt_28 : decode cX7_orderAt 28 = .ok (.bipush (-9), 2) := by decide +kernel
theorem dX7_orderAt_30 : decode cX7_orderAt 30 = .ok (.ireturn, 1) := by decide +kernel
end
section
theorem dX8_init_0 : decode cX8_init 0 = .ok (.aload_n 0, 1) := by decide +kernel
theorem dX8_init_1 : decode cX8_init 1 = .ok (.invokespecial 3, 3) := by decide +kernel
theorem dX8_init_4 : decode cX8_init 4 = .ok (.aload_n 0, 1) := by decide +kernel
theorem dX8_init_5 : decode cX8_init 5 = .ok (.sipush 200, 3) := by decide +kernel
theorem dX8_init_8 : decode cX8_init 8 = .ok (.newarray .int, 2) := by decide +kernel
theorem dX8_init_10 : decode cX8_init 10 = .ok (.putfield 9, 3) := by decide +kernel
theorem dX8_init_13 : decode cX8_init 13 = .ok (.return_, 1) := by decide +kernel
theorem dX8_length_0 : decode cX8_length 0 = .ok (.aload_n 0, 1) := by decide +kernel
theorem dX8_length_1 : decode cX8_length 1 = .ok (.getfield 15, 3) := by decide +kernel
theorem dX8_length_4 : decode cX8_length 4 = .ok (.ireturn, 1) := by decide +kernel
theorem dX8_append_0 : decode cX8_append 0 = .ok (.aload_n 0, 1) := by decide +kernel
theorem dX8_append_1 : decode cX8_append 1 = .ok (.getfield 15, 3) := by decide +kernel
theorem dX8_append_4 : decode cX8_append 4 = .ok (.sipush 200, 3) := by decide +kernel
theorem dX8_append_7 : decode cX8_append 7 = .ok (.if_icmp .ge 23, 3) := by decide +kernel
theorem dX8_append_10 : decode cX8_append 10 = .ok (.aload_n 0, 1) := by decide +kernel
theorem dX8_append_11 : decode cX8_append 11 = .ok (.getfield 9, 3) := by decide +kernel
theorem dX8_append_14 : decode cX8_append 14 = .ok (.aload_n 0, 1) := by decide +kernel
theorem dX8_append_15 : decode cX8_append 15 = .ok (.getfield 15, 3) := by decide +kernel
theorem dX8_append_18 : decode cX8_append 18 = .ok (.iload_n 1, 1) := by decide +kernel
theorem dX8_append_19 : decode cX8_append 19 = .ok (.iastore, 1) := by decide +kernel
theorem dX8_append_20 : decode cX8_append 20 = .ok (.aload_n 0, 1) := by decide +kernel
theorem dX8_append_21 : decode cX8_append 21 = .ok (.dup, 1) := by decide +kernel
theorem dX8_append_22 : decode cX8_append 22 = .ok (.getfield 15, 3) := by decide +kernel
theorem dX8_append_25 : decode cX8_append 25 = .ok (.iconst 1, 1) := by decide +kernel
theorem dX8_append_26 : decode cX8_append 26 = .ok (.iadd, 1) := by decide +kernel
theorem dX8_append_27 : decode cX8_append 27 = .ok (.putfield 15, 3) := by decide +kernel
theorem dX8_append_30 : decode cX8_append 30 = .ok (.return_, 1) := by decide +kernel
theorem dX8_byteAt_0 : decode cX8_byteAt 0 = .ok (.iload_n 1, 1) := by decide +kernel
theorem dX8_byteAt_1 : decode cX8_byteAt 1 = .ok (.ifCond .lt 20, 3) := by decide +kernel
theorem dX8_byteAt_4 : decode cX8_byteAt 4 = .ok (.iload_n 1, 1) := by decide +kernel
theorem dX8_byteAt_5 : decode cX8_byteAt 5 = .ok (.aload_n 0, 1) := by decide +kernel
theorem dX8_byteAt_6 : decode cX8_byteAt 6 = .ok (.getfield 15, 3) := by decide +kernel
theorem dX8_byteAt_9 : decode cX8_byteAt 9 = .ok (.if_icmp .ge 12, 3) := by decide +kernel
theorem dX8_byteAt_12 : decode cX8_byteAt 12 = .ok (.aload_n 0, 1) := by decide +kernel
theorem dX8_byteAt_13 : decode cX8_byteAt 13 = .ok (.getfield 9, 3) := by decide +kernel
theorem dX8_byteAt_16 : decode cX8_byteAt 16 = .ok (.iload_n 1, 1) := by decide +kernel
theorem dX8_byteAt_17 : decode cX8_byteAt 17 = .ok (.iaload, 1) := by decide +kernel
theorem dX8_byteAt_18 : decode cX8_byteAt 18 = .ok (.goto 4, 3) := by decide +kernel
theorem dX8_byteAt_21 : decode cX8_byteAt 21 = .ok (.iconst (-1), 1) := by decide +kernel
theorem dX8_byteAt_22 : decode cX8_byteAt 22 = .ok (.ireturn, 1) := by decide +kernel
theorem dX8_drop_0 : decode cX8_drop 0 = .ok (.aload_n 0, 1) := by decide +kernel
theorem dX8_drop_1 : decode cX8_drop 1 = .ok (.iconst 0, 1) := by decide +kernel
theorem dX8_drop_2 : decode cX8_drop 2 = .ok (.putfield 15, 3) := by decide +kernel
theorem dX8_drop_5 : decode cX8_drop 5 = .ok (.return_, 1) := by decide +kernel
end
section
set_option maxRecDepth 20000 in
theorem ggX9_init_X8_init : GoodIn wsX9_init wsX8_init := goodIn_r _ [42, 43, 2, 3, 44, 45, 98, 99] (by decide +kernel) (by decide +kernel)
set_option maxRecDepth 20000 in
theorem gX9_init_X8_init : GoodIn wsX9_init (wsX8_init) := ggX9_init_X8_init
set_option maxRecDepth 20000 in
theorem ggX9_init_X5_init : GoodIn wsX9_init wsX5_init := goodIn_r _ [48, 49, 2, 3, 50, 51, 13, 14, 52, 53, 54, 55, 56, 44, 57, 58, 59, 109, 110, 111, 112, 113, 114, 115, 116, 117, 118, 119] (by decide +kernel) (by decide +kernel)
set_option maxRecDepth 20000 in
theorem gX9_init_X5_init : GoodIn wsX9_init (wsX5_init) := ggX9_init_X5_init
set_option maxRecDepth 20000 in
theorem ggX9_init_X1_init : GoodIn wsX9_init wsX1_init := goodIn_r _ [55, 56, 2, 3, 44, 57, 58, 59, 115, 116, 117, 118, 119] (by decide +kernel) (by decide +kernel)
set_option maxRecDepth 20000 in
theorem gX9_init_X1_init : GoodIn wsX9_init (wsX1_init) := ggX9_init_X1_init
set_option maxRecDepth 20000 in
theorem ggX9_init_X6_init : GoodIn wsX9_init wsX6_init := goodIn_r _ [63, 64, 2, 3, 65, 66, 120, 121, 122, 123] (by decide +kernel) (by decide +kernel)
set_option maxRecDepth 20000 in
theorem gX9_init_X6_init : GoodIn wsX9_init (wsX6_init) := ggX9_init_X6_init
set_option maxRecDepth 20000 in
theorem ggX9_init_X2_init : GoodIn wsX9_init wsX2_init := goodIn_r _ [69, 70, 2, 3, 44, 71, 72, 124, 125, 126] (by decide +kernel) (by decide +kernel)
set_option maxRecDepth 20000 in
theorem gX9_init_X2_init : GoodIn wsX9_init (wsX2_init) := ggX9_init_X2_init
set_option maxRecDepth 20000 in
theorem ggX9_init_X3_init : GoodIn wsX9_init wsX3_init := goodIn_r _ [75, 76, 2, 3, 77, 127, 128, 129, 130] (by decide +kernel) (by decide +kernel)
set_option maxRecDepth 20000 in
theorem gX9_init_X3_init : GoodIn wsX9_init (wsX3_init) := ggX9_init_X3_init
set_option maxRecDepth 20000 in
theorem ggX9_init_X7_init : GoodIn wsX9_init wsX7_init := goodIn_r _ [80, 81, 2, 3, 44, 82, 131, 132] (by decide +kernel) (by decide +kernel)
set_option maxRecDepth 20000 in
theorem gX9_init_X7_init : GoodIn wsX9_init (wsX7_init) := ggX9_init_X7_init
set_option maxRecDepth 20000 in
theorem ggX9_init_X0_init : GoodIn wsX9_init wsX0_init := goodIn_r _ [85, 86, 2, 3, 87, 88, 89, 90, 91, 133, 134, 135, 136] (by decide +kernel) (by decide +kernel)
set_option maxRecDepth 20000 in
theorem gX9_init_X0_init : GoodIn wsX9_init (wsX0_init) := ggX9_init_X0_init
set_option maxRecDepth 20000 in
theorem ggX9_init_X4_init : GoodIn wsX9_init wsX4_init := goodIn_r _ [94, 95, 2, 3, 96, 97, 137, 138, 139] (by decide +kernel) (by decide +kernel)
set_option maxRecDepth 20000 in
theorem gX9_init_X4_init : GoodIn wsX9_init (wsX4_init) := ggX9_init_X4_init
theorem dX9_init_0 : decode cX9_init 0 = .ok (.aload_n 0, 1) := by decide +kernel
theorem dX9_init_1 : decode cX9_init 1 = .ok (.invokespecial 1, 3) := by decide +kernel
theorem dX9_init_4 : decode cX9_init 4 = .ok (.aload_n 0, 1) := by decide +kernel
theorem dX9_init_5 : decode cX9_init 5 = .ok (.new 7, 3) := by decide +kernel
theorem dX9_init_8 : decode cX9_init 8 = .ok (.dup, 1) := by decide +kernel
theorem dX9_init_9 : decode cX9_init 9 = .ok (.invokespecial 9, 3) := by decide +kernel
theorem dX9_init_12 : decode cX9_init 12 = .ok (.putfield 10, 3) := by decide +kernel
theorem dX9_init_15 : decode cX9_init 15 = .ok (.aload_n 0, 1) := by decide +kernel
theorem dX9_init_16 : decode cX9_init 16 = .ok (.new 16, 3) := by decide +kernel
theorem dX9_init_19 : decode cX9_init 19 = .ok (.dup, 1) := by decide +kernel
theorem dX9_init_20 : decode cX9_init 20 = .ok (.aload_n 0, 1) := by decide +kernel
theorem dX9_init_21 : decode cX9_init 21 = .ok (.getfield 10, 3) := by decide +kernel
theorem dX9_init_24 : decode cX9_init 24 = .ok (.invokespecial 18, 3) := by decide +kernel
theorem dX9_init_27 : decode cX9_init 27 = .ok (.putfield 21, 3) := by decide +kernel
theorem dX9_init_30 : decode cX9_init 30 = .ok (.aload_n 0, 1) := by decide +kernel
theorem dX9_init_31 : decode cX9_init 31 = .ok (.new 25, 3) := by decide +kernel
theorem dX9_init_34 : decode cX9_init 34 = .ok (.dup, 1) := by decide +kernel
theorem dX9_init_35 : decode cX9_init 35 = .ok (.invokespecial 27, 3) := by decide +kernel
theorem dX9_init_38 : decode cX9_init 38 = .ok (.putfield 28, 3) := by decide +kernel
theorem dX9_init_41 : decode cX9_init 41 = .ok (.aload_n 0, 1) := by decide +kernel
theorem dX9_init_42 : decode cX9_init 42 = .ok (.new 32, 3) := by decide +kernel
theorem dX9_init_45 : decode cX9_init 45 = .ok (.dup, 1) := by decide +kernel
theorem dX9_init_46 : decode cX9_init 46 = .ok (.aload_n 0, 1) := by decide +kernel
theorem dX9_init_47 : decode cX9_init 47 = .ok (.getfield 28, 3) := by decide +kernel
theorem dX9_init_50 : decode cX9_init 50 = .ok (.invokespecial 34, 3) := by decide +kernel
theorem dX9_init_53 : decode cX9_init 53 = .ok (.putfield 37, 3) := by decide +kernel
theorem dX9_init_56 : decode cX9_init 56 = .ok (.aload_n 0, 1) := by decide +kernel
theorem dX9_init_57 : decode cX9_init 57 = .ok (.new 41, 3) := by decide +kernel
theorem dX9_init_60 : decode cX9_init 60 = .ok (.dup, 1) := by decide +kernel
theorem dX9_init_61 : decode cX9_init 61 = .ok (.invokespecial 43, 3) := by decide +kernel
theorem dX9_init_64 : decode cX9_init 64 = .ok (.putfield 44, 3) := by decide +kernel
theorem dX9_init_67 : decode cX9_init 67 = .ok (.aload_n 0, 1) := by decide +kernel
theorem dX9_init_68 : decode cX9_init 68 = .ok (.iconst 2, 1) := by decide +kernel
theorem dX9_init_69 : decode cX9_init 69 = .ok (.anewarray 48, 3) := by decide +kernel
theorem dX9_init_72 : decode cX9_init 72 = .ok (.putfield 50, 3) := by decide +kernel
theorem dX9_init_75 : decode cX9_init 75 = .ok (.iconst 0, 1) := by decide +kernel
theorem dX9_init_76 : decode cX9_init 76 = .ok (.istore_n 1, 1) := by decide +kernel
theorem dX9_init_77 : decode cX9_init 77 = .ok (.iload_n 1, 1) := by decide +kernel
theorem dX9_init_78 : decode cX9_init 78 = .ok (.iconst 2, 1) := by decide +kernel
theorem dX9_init_79 : decode cX9_init 79 = .ok (.if_icmp .ge 22, 3) := by decide +kernel
theorem dX9_init_82 : decode cX9_init 82 = .ok (.aload_n 0, 1) := by decide +kernel
theorem dX9_init_83 : decode cX9_init 83 = .ok (.getfield 50, 3) := by decide +kernel
theorem dX9_init_86 : decode cX9_init 86 = .ok (.iload_n 1, 1) := by decide +kernel
theorem dX9_init_87 : decode cX9_init 87 = .ok (.new 48, 3) := by decide +kernel
theorem dX9_init_90 : decode cX9_init 90 = .ok (.dup, 1) := by decide +kernel
theorem dX9_init_91 : decode cX9_init 91 = .ok (.invokespecial 54, 3) := by decide +kernel
theorem dX9_init_94 : decode cX9_init 94 = .ok (.aastore, 1) := by decide +kernel
theorem dX9_init_95 : decode cX9_init 95 = .ok (.iinc 1 1, 3) := by decide +kernel
theorem dX9_init_98 : decode cX9_init 98 = .ok (.goto (-21), 3) := by decide +kernel
theorem dX9_init_101 : decode cX9_init 101 = .ok (.aload_n 0, 1) := by decide +kernel
theorem dX9_init_102 : decode cX9_init 102 = .ok (.new 55, 3) := by decide +kernel
theorem dX9_init_105 : decode cX9_init 105 = .ok (.dup, 1) := by decide +kernel
theorem dX9_init_106 : decode cX9_init 106 = .ok (.invokespecial 57, 3) := by decide +kernel
theorem dX9_init_109 : decode cX9_init 109 = .ok (.putfield 58, 3) := by decide +kernel
theorem dX9_init_112 : decode cX9_init 112 = .ok (.aload_n 0, 1) := by decide +kernel
theorem dX9_init_113 : decode cX9_init 113 = .ok (.new 62, 3) := by decide +kernel
theorem dX9_init_116 : decode cX9_init 116 = .ok (.dup, 1) := by decide +kernel
theorem dX9_init_117 : decode cX9_init 117 = .ok (.aload_n 0, 1) := by decide +kernel
theorem dX9_init_118 : decode cX9_init 118 = .ok (.getfield 28, 3) := by decide +kernel
theorem dX9_init_121 : decode cX9_init 121 = .ok (.aload_n 0, 1) := by decide +kernel
theorem dX9_init_122 : decode cX9_init 122 = .ok (.getfield 37, 3) := by decide +kernel
theorem dX9_init_125 : decode cX9_init 125 = .ok (.aload_n 0, 1) := by decide +kernel
theorem dX9_init_126 : decode cX9_init 126 = .ok (.getfield 58, 3) := by decide +kernel
theorem dX9_init_129 : decode cX9_init 129 = .ok (.invokespecial 64, 3) := by decide +kernel
theorem dX9_init_132 : decode cX9_init 132 = .ok (.putfield 67, 3) := by decide +kernel
theorem dX9_init_135 : decode cX9_init 135 = .ok (.aload_n 0, 1) := by decide +kernel
theorem dX9_init_136 : decode cX9_init 136 = .ok (.new 71, 3) := by decide +kernel
theorem dX9_init_139 : decode cX9_init 139 = .ok (.dup, 1) := by decide +kernel
theorem dX9_init_140 : decode cX9_init 140 = .ok (.aload_n 0, 1) := by decide +kernel
theorem dX9_init_141 : decode cX9_init 141 = .ok (.getfield 28, 3) := by decide +kernel
theorem dX9_init_144 : decode cX9_init 144 = .ok (.aload_n 0, 1) := by decide +kernel
theorem dX9_init_145 : decode cX9_init 145 = .ok (.getfield 37, 3) := by decide +kernel
theorem dX9_init_148 : decode cX9_init 148 = .ok (.invokespecial 73, 3) := by decide +kernel
theorem dX9_init_151 : decode cX9_init 151 = .ok (.putfield 76, 3) := by decide +kernel
theorem dX9_init_154 : decode cX9_init 154 = .ok (.return_, 1) := by decide +kernel
set_option maxRecDepth 20000 in
theorem ggX9_type_X8_length : GoodIn wsX9_type wsX8_length := goodIn_r _ [6, 7, 22, 23] (by decide +kernel) (by decide +kernel)
set_option maxRecDepth 20000 in
theorem gX9_type_X8_length : GoodIn wsX9_type (wsV RX9 80 RX8 yX8_length wsX8_length) := goodIn_app (goodIn_of _ (by decide +kernel)) ggX9_type_X8_length
set_option maxRecDepth 20000 in
theorem ggX9_type_X8_append : GoodIn wsX9_type wsX8_append := goodIn_r _ [11, 7, 12, 22, 23] (by decide +kernel) (by decide +kernel)
set_option maxRecDepth 20000 in
theorem gX9_type_X8_append : GoodIn wsX9_type (wsV RX9 84 RX8 yX8_append wsX8_append) := goodIn_app (goodIn_of _ (by decide +kernel)) ggX9_type_X8_append
theorem dX9_type_0 : decode cX9_type 0 = .ok (.iload_n 3, 1) := by decide +kernel
theorem dX9_type_1 : decode cX9_type 1 = .ok (.iconst 1, 1) := by decide +kernel
theorem dX9_type_2 : decode cX9_type 2 = .ok (.if_icmp .lt 9, 3) := by decide +kernel
theorem dX9_type_5 : decode cX9_type 5 = .ok (.iload_n 3, 1) := by decide +kernel
theorem dX9_type_6 : decode cX9_type 6 = .ok (.bipush 8, 2) := by decide +kernel
theorem dX9_type_8 : decode cX9_type 8 = .ok (.if_icmp .le 5, 3) := by decide +kernel
theorem dX9_type_11 : decode cX9_type 11 = .ok (.iconst (-1), 1) := by decide +kernel
theorem dX9_type_12 : decode cX9_type 12 = .ok (.ireturn, 1) := by decide +kernel
theorem dX9_type_13 : decode cX9_type 13 = .ok (.aload_n 0, 1) := by decide +kernel
theorem dX9_type_14 : decode cX9_type 14 = .ok (.getfield 10, 3) := by decide +kernel
theorem dX9_type_17 : decode cX9_type 17 = .ok (.invokevirtual 80, 3) := by decide +kernel
theorem dX9_type_20 : decode cX9_type 20 = .ok (.iload_n 3, 1) := by decide +kernel
theorem dX9_type_21 : decode cX9_type 21 = .ok (.iadd, 1) := by decide +kernel
theorem dX9_type_22 : decode cX9_type 22 = .ok (.sipush 200, 3) := by decide +kernel
theorem dX9_type_25 : decode cX9_type 25 = .ok (.if_icmp .le 6, 3) := by decide +kernel
theorem dX9_type_28 : decode cX9_type 28 = .ok (.bipush (-3), 2) := by decide +kernel
theorem dX9_type_30 : decode cX9_type 30 = .ok (.ireturn, 1) := by decide +kernel
theorem dX9_type_31 : decode cX9_type 31 = .ok (.iload_n 3, 1) := by decide +kernel
theorem dX9_type_32 : decode cX9_type 32 = .ok (.iconst 1, 1) := by decide +kernel
theorem dX9_type_33 : decode cX9_type 33 = .ok (.isub, 1) := by decide +kernel
theorem dX9_type_34 : decode cX9_type 34 = .ok (.istore 4, 2) := by decide +kernel
theorem dX9_type_36 : decode cX9_type 36 = .ok (.iload 4, 2) := by decide +kernel
theorem dX9_type_38 : decode cX9_type 38 = .ok (.ifCond .lt 28, 3) := by decide +kernel
theorem dX9_type_41 : decode cX9_type 41 = .ok (.aload_n 0, 1) := by decide +kernel
theorem dX9_type_42 : decode cX9_type 42 = .ok (.getfield 10, 3) := by decide +kernel
theorem dX9_type_45 : decode cX9_type 45 = .ok (.lload_n 1, 1) := by decide +kernel
theorem dX9_type_46 : decode cX9_type 46 = .ok (.bipush 8, 2) := by decide +kernel
theorem dX9_type_48 : decode cX9_type 48 = .ok (.iload 4, 2) := by decide +kernel
theorem dX9_type_50 : decode cX9_type 50 = .ok (.imul, 1) := by decide +kernel
theorem dX9_type_51 : decode cX9_type 51 = .ok (.lushr, 1) := by decide +kernel
theorem dX9_type_52 : decode cX9_type 52 = .ok (.l2i, 1) := by decide +kernel
theorem dX9_type_53 : decode cX9_type 53 = .ok (.sipush 255, 3) := by decide +kernel
theorem dX9_type_56 : decode cX9_type 56 = .ok (.iand, 1) := by decide +kernel
theorem dX9_type_57 : decode cX9_type 57 = .ok (.invokevirtual 84, 3) := by decide +kernel
theorem dX9_type_60 : decode cX9_type 60 = .ok (.iinc 4 (-1), 3) := by decide +kernel
theorem dX9_type_63 : decode cX9_type 63 = .ok (.goto (-27), 3) := by decide +kernel
theorem dX9_type_66 : decode cX9_type 66 = .ok (.aload_n 0, 1) := by decide +kernel
theorem dX9_type_67 : decode cX9_type 67 = .ok (.getfield 10, 3) := by decide +kernel
theorem dX9_type_70 : decode cX9_type 70 = .ok (.invokevirtual 80, 3) := by decide +kernel
theorem dX9_type_73 : decode cX9_type 73 = .ok (.ireturn, 1) := by decide +kernel
set_option maxRecDepth 20000 in
theorem ggX9_clear_X8_length : GoodIn wsX9_clear wsX8_length := goodIn_r _ [6, 7, 21, 22] (by decide +kernel) (by decide +kernel)
set_option maxRecDepth 20000 in
theorem gX9_clear_X8_length : GoodIn wsX9_clear (wsV RX9 80 RX8 yX8_length wsX8_length) := goodIn_app (goodIn_of _ (by decide +kernel)) ggX9_clear_X8_length
set_option maxRecDepth 20000 in
theorem ggX9_clear_X8_drop : GoodIn wsX9_clear wsX8_drop := goodIn_r _ [11, 7, 21, 22] (by decide +kernel) (by decide +kernel)
set_option maxRecDepth 20000 in
theorem gX9_clear_X8_drop : GoodIn wsX9_clear (wsV RX9 88 RX8 yX8_drop wsX8_drop) := goodIn_app (goodIn_of _ (by decide +kernel)) ggX9_clear_X8_drop
theorem dX9_clear_0 : decode cX9_clear 0 = .ok (.aload_n 0, 1) := by decide +kernel
theorem dX9_clear_1 : decode cX9_clear 1 = .ok (.getfield 10, 3) := by decide +kernel
theorem dX9_clear_4 : decode cX9_clear 4 = .ok (.invokevirtual 80, 3) := by decide +kernel
theorem dX9_clear_7 : decode cX9_clear 7 = .ok (.istore_n 1, 1) := by decide +kernel
theorem dX9_clear_8 : decode cX9_clear 8 = .ok (.aload_n 0, 1) := by decide +kernel
theorem dX9_clear_9 : decode cX9_clear 9 = .ok (.getfield 10, 3) := by decide +kernel
theorem dX9_clear_12 : decode cX9_clear 12 = .ok (.invokevirtual 88, 3) := by decide +kernel
theorem dX9_clear_15 : decode cX9_clear 15 = .ok (.iload_n 1, 1) := by decide +kernel
theorem dX9_clear_16 : decode cX9_clear 16 = .ok (.ireturn, 1) := by decide +kernel
set_option maxRecDepth 20000 in
theorem ggX9_children_X5_readItems : GoodIn wsX9_children wsX5_readItems := goodIn_r _ [11, 12, 13, 14, 15, 16, 17, 18, 19, 20, 21, 22, 23, 24, 10, 25, 26, 27, 28, 29, 30, 31, 32, 33, 34, 35, 36, 37, 38, 39, 40, 41, 42, 43, 44, 45, 46, 47, 48, 49, 50, 51, 52, 53, 54, 55, 56, 57, 58, 59, 60, 61, 62, 63, 64, 65, 66, 67, 68, 69, 70, 71, 72, 73, 74, 75, 76, 77, 78, 79, 80, 81, 82, 83, 84, 85, 86, 87, 88, 89, 90, 91, 92, 93, 94, 95, 96, 97, 98, 99, 100, 101, 102, 103, 104, 105, 106, 107, 108, 109, 110, 111, 112, 113, 114, 115, 116, 117, 118, 119, 120, 121, 122, 123, 124, 125, 126, 127, 128, 129, 130, 131, 132, 133, 134, 135, 136, 137, 138, 139, 140, 141, 142, 143, 144, 145, 214, 215, 216, 217, 218, 219, 220, 221, 222, 223, 224, 225, 226] (by decide +kernel) (by decide +kernel)
set_option maxRecDepth 20000 in
theorem gX9_children_X5_readItems : GoodIn wsX9_children (wsV RX9 91 RX5 yX5_readItems wsX5_readItems) := goodIn_app (goodIn_of _ (by decide +kernel)) ggX9_children_X5_readItems
set_option maxRecDepth 20000 in
theorem ggX9_children_X5_fault : GoodIn wsX9_children wsX5_fault := goodIn_r _ [149, 26, 214, 215, 216, 217, 218, 219] (by decide +kernel) (by decide +kernel)
set_option maxRecDepth 20000 in
theorem gX9_children_X5_fault : GoodIn wsX9_children (wsV RX9 94 RX5 yX5_fault wsX5_fault) := goodIn_app (goodIn_of _ (by decide +kernel)) ggX9_children_X5_fault
set_option maxRecDepth 20000 in
theorem ggX9_children_X5_found : GoodIn wsX9_children wsX5_found := goodIn_r _ [153, 12, 214, 215, 216, 217, 218, 219] (by decide +kernel) (by decide +kernel)
set_option maxRecDepth 20000 in
theorem gX9_children_X5_found : GoodIn wsX9_children (wsV RX9 97 RX5 yX5_found wsX5_found) := goodIn_app (goodIn_of _ (by decide +kernel)) ggX9_children_X5_found
set_option maxRecDepth 20000 in
theorem ggX9_children_X1_takeOver : GoodIn wsX9_children wsX1_takeOver := goodIn_r _ [157, 20, 21, 158, 16, 17, 18, 19, 159, 160, 161, 162, 135, 163, 128, 129, 130, 164, 165, 166, 167, 136, 168, 169, 170, 171, 137, 172, 132, 133, 134, 220, 221, 222, 223, 224] (by decide +kernel) (by decide +kernel)
set_option maxRecDepth 20000 in
theorem gX9_children_X1_takeOver : GoodIn wsX9_children (wsV RX9 101 RX1 yX1_takeOver wsX1_takeOver) := goodIn_app (goodIn_of _ (by decide +kernel)) ggX9_children_X1_takeOver
set_option maxRecDepth 20000 in
theorem ggX9_children_X6_startAnew : GoodIn wsX9_children wsX6_startAnew := goodIn_r _ [177, 178, 179, 180, 181, 18, 182, 20, 183, 184, 185, 176, 186, 187, 188, 227, 228, 229, 230, 220, 221, 222, 223, 224] (by decide +kernel) (by decide +kernel)
set_option maxRecDepth 20000 in
theorem gX9_children_X6_startAnew : GoodIn wsX9_children (wsV RX9 104 RX6 yX6_startAnew wsX6_startAnew) := goodIn_app (goodIn_of _ (by decide +kernel)) ggX9_children_X6_startAnew
set_option maxRecDepth 20000 in
theorem ggX9_children_X2_forget : GoodIn wsX9_children wsX2_forget := goodIn_r _ [193, 194, 231, 232, 233] (by decide +kernel) (by decide +kernel)
set_option maxRecDepth 20000 in
theorem gX9_children_X2_forget : GoodIn wsX9_children (wsV RX9 107 RX2 yX2_forget wsX2_forget) := goodIn_app (goodIn_of _ (by decide +kernel)) ggX9_children_X2_forget
set_option maxRecDepth 20000 in
theorem ggX9_children_X3_forget : GoodIn wsX9_children wsX3_forget := goodIn_r _ [199, 200, 234, 235, 236, 237] (by decide +kernel) (by decide +kernel)
set_option maxRecDepth 20000 in
theorem gX9_children_X3_forget : GoodIn wsX9_children (wsV RX9 110 RX3 yX3_forget wsX3_forget) := goodIn_app (goodIn_of _ (by decide +kernel)) ggX9_children_X3_forget
set_option maxRecDepth 20000 in
theorem ggX9_children_X8_drop : GoodIn wsX9_children wsX8_drop := goodIn_r _ [204, 33, 225, 226] (by decide +kernel) (by decide +kernel)
set_option maxRecDepth 20000 in
theorem gX9_children_X8_drop : GoodIn wsX9_children (wsV RX9 88 RX8 yX8_drop wsX8_drop) := goodIn_app (goodIn_of _ (by decide +kernel)) ggX9_children_X8_drop
theorem dX9_children_0 : decode cX9_children 0 = .ok (.aload_n 0, 1) := by decide +kernel
theorem dX9_children_1 : decode cX9_children 1 = .ok (.getfield 21, 3) := by decide +kernel
theorem dX9_children_4 : decode cX9_children 4 = .ok (.invokevirtual 91, 3) := by decide +kernel
theorem dX9_children_7 : decode cX9_children 7 = .ok (.istore_n 1, 1) := by decide +kernel
theorem dX9_children_8 : decode cX9_children 8 = .ok (.iload_n 1, 1) := by decide +kernel
theorem dX9_children_9 : decode cX9_children 9 = .ok (.ifCond .ge 14, 3) := by decide +kernel
theorem dX9_children_12 : decode cX9_children 12 = .ok (.bipush (-10), 2) := by decide +kernel
theorem dX9_children_14 : decode cX9_children 14 = .ok (.aload_n 0, 1) := by decide +kernel
theorem dX9_children_15 : decode cX9_children 15 = .ok (.getfield 21, 3) := by decide +kernel
theorem dX9_children_18 : decode cX9_children 18 = .ok (.invokevirtual 94, 3) := by decide +kernel
theorem dX9_children_21 : decode cX9_children 21 = .ok (.isub, 1) := by decide +kernel
theorem dX9_children_22 : decode cX9_children 22 = .ok (.ireturn, 1) := by decide +kernel
theorem dX9_children_23 : decode cX9_children 23 = .ok (.aload_n 0, 1) := by decide +kernel
theorem dX9_children_24 : decode cX9_children 24 = .ok (.getfield 28, 3) := by decide +kernel
theorem dX9_children_27 : decode cX9_children 27 = .ok (.aload_n 0, 1) := by decide +kernel
theorem dX9_children_28 : decode cX9_children 28 = .ok (.getfield 21, 3) := by decide +kernel
theorem dX9_children_31 : decode cX9_children 31 = .ok (.invokevirtual 97, 3) := by decide +kernel
theorem dX9_children_34 : decode cX9_children 34 = .ok (.invokevirtual 101, 3) := by decide +kernel
theorem dX9_children_37 : decode cX9_children 37 = .ok (.aload_n 0, 1) := by decide +kernel
theorem dX9_children_38 : decode cX9_children 38 = .ok (.getfield 37, 3) := by decide +kernel
theorem dX9_children_41 : decode cX9_children 41 = .ok (.invokevirtual 104, 3) := by decide +kernel
theorem dX9_children_44 : decode cX9_children 44 = .ok (.aload_n 0, 1) := by decide +kernel
theorem dX9_children_45 : decode cX9_children 45 = .ok (.getfield 44, 3) := by decide +kernel
theorem dX9_children_48 : decode cX9_children 48 = .ok (.invokevirtual 107, 3) := by decide +kernel
theorem dX9_children_51 : decode cX9_children 51 = .ok (.iconst 0, 1) := by decide +kernel
theorem dX9_children_52 : decode cX9_children 52 = .ok (.istore_n 2, 1) := by decide +kernel
theorem dX9_children_53 : decode cX9_children 53 = .ok (.iload_n 2, 1) := by decide +kernel
theorem dX9_children_54 : decode cX9_children 54 = .ok (.iconst 2, 1) := by decide +kernel
theorem dX9_children_55 : decode cX9_children 55 = .ok (.if_icmp .ge 18, 3) := by decide +kernel
theorem dX9_children_58 : decode cX9_children 58 = .ok (.aload_n 0, 1) := by decide +kernel
theorem dX9_children_59 : decode cX9_children 59 = .ok (.getfield 50, 3) := by decide +kernel
theorem dX9_children_62 : decode cX9_children 62 = .ok (.iload_n 2, 1) := by decide +kernel
theorem dX9_children_63 : decode cX9_children 63 = .ok (.aaload, 1) := by decide +kernel
theorem dX9_children_64 : decode cX9_children 64 = .ok (.invokevirtual 110, 3) := by decide +kernel
theorem dX9_children_67 : decode cX9_children 67 = .ok (.iinc 2 1, 3) := by decide +kernel
theorem dX9_children_70 : decode cX9_children 70 = .ok (.goto (-17), 3) := by decide +kernel
theorem dX9_children_73 : decode cX9_children 73 = .ok (.aload_n 0, 1) := by decide +kernel
theorem dX9_children_74 : decode cX9_children 74 = .ok (.getfield 10, 3) := by decide +kernel
theorem dX9_children_77 : decode cX9_children 77 = .ok (.invokevirtual 88, 3) := by decide +kernel
theorem dX9_children_80 : decode cX9_children 80 = .ok (.iload_n 1, 1) := by decide +kernel
theorem dX9_children_81 : decode cX9_children 81 = .ok (.ireturn, 1) := by decide +kernel
set_option maxRecDepth 20000 in
theorem ggX9_child_X1_has : GoodIn wsX9_child wsX1_has := goodIn_r _ [7, 8, 53, 54, 55, 56, 57] (by decide +kernel) (by decide +kernel)
set_option maxRecDepth 20000 in
theorem gX9_child_X1_has : GoodIn wsX9_child (wsV RX9 111 RX1 yX1_has wsX1_has) := goodIn_app (goodIn_of _ (by decide +kernel)) ggX9_child_X1_has
set_option maxRecDepth 20000 in
theorem ggX9_child_X1_slipOf : GoodIn wsX9_child wsX1_slipOf := goodIn_r _ [12, 13, 14, 4, 5, 6, 7, 8, 53, 54, 55, 56, 57] (by decide +kernel) (by decide +kernel)
set_option maxRecDepth 20000 in
theorem gX9_child_X1_slipOf : GoodIn wsX9_child (wsV RX9 115 RX1 yX1_slipOf wsX1_slipOf) := goodIn_app (goodIn_of _ (by decide +kernel)) ggX9_child_X1_slipOf
set_option maxRecDepth 20000 in
theorem ggX9_child_X1_lateOf : GoodIn wsX9_child wsX1_lateOf := goodIn_r _ [18, 19, 14, 4, 5, 6, 7, 8, 53, 54, 55, 56, 57] (by decide +kernel) (by decide +kernel)
set_option maxRecDepth 20000 in
theorem gX9_child_X1_lateOf : GoodIn wsX9_child (wsV RX9 119 RX1 yX1_lateOf wsX1_lateOf) := goodIn_app (goodIn_of _ (by decide +kernel)) ggX9_child_X1_lateOf
set_option maxRecDepth 20000 in
theorem ggX9_child_X1_copiedBy : GoodIn wsX9_child wsX1_copiedBy := goodIn_r _ [23, 24, 14, 4, 5, 6, 7, 8, 53, 54, 55, 56, 57] (by decide +kernel) (by decide +kernel)
set_option maxRecDepth 20000 in
theorem gX9_child_X1_copiedBy : GoodIn wsX9_child (wsV RX9 122 RX1 yX1_copiedBy wsX1_copiedBy) := goodIn_app (goodIn_of _ (by decide +kernel)) ggX9_child_X1_copiedBy
set_option maxRecDepth 20000 in
theorem ggX9_child_X1_isLittle : GoodIn wsX9_child wsX1_isLittle := goodIn_r _ [28, 29, 14, 4, 5, 6, 7, 8, 53, 54, 55, 56, 57] (by decide +kernel) (by decide +kernel)
set_option maxRecDepth 20000 in
theorem gX9_child_X1_isLittle : GoodIn wsX9_child (wsV RX9 125 RX1 yX1_isLittle wsX1_isLittle) := goodIn_app (goodIn_of _ (by decide +kernel)) ggX9_child_X1_isLittle
set_option maxRecDepth 20000 in
theorem ggX9_child_X6_isIn : GoodIn wsX9_child wsX6_isIn := goodIn_r _ [34, 35, 36, 37, 4, 5, 6, 7, 8, 58, 59, 60, 61, 53, 54, 55, 56, 57] (by decide +kernel) (by decide +kernel)
set_option maxRecDepth 20000 in
theorem gX9_child_X6_isIn : GoodIn wsX9_child (wsV RX9 128 RX6 yX6_isIn wsX6_isIn) := goodIn_app (goodIn_of _ (by decide +kernel)) ggX9_child_X6_isIn
set_option maxRecDepth 20000 in
theorem ggX9_child_X6_leaderOf : GoodIn wsX9_child wsX6_leaderOf := goodIn_r _ [41, 35, 42, 21, 22, 6, 23, 24, 14, 4, 5, 7, 8, 43, 31, 32, 33, 34, 36, 37, 58, 59, 60, 61, 53, 54, 55, 56, 57] (by decide +kernel) (by decide +kernel)
set_option maxRecDepth 20000 in
theorem gX9_child_X6_leaderOf : GoodIn wsX9_child (wsV RX9 131 RX6 yX6_leaderOf wsX6_leaderOf) := goodIn_app (goodIn_of _ (by decide +kernel)) ggX9_child_X6_leaderOf
theorem dX9_child_0 : decode cX9_child 0 = .ok (.aload_n 0, 1) := by decide +kernel
theorem dX9_child_1 : decode cX9_child 1 = .ok (.getfield 28, 3) := by decide +kernel
theorem dX9_child_4 : decode cX9_child 4 = .ok (.iload_n 1, 1) := by decide +kernel
theorem dX9_child_5 : decode cX9_child 5 = .ok (.invokevirtual 111, 3) := by decide +kernel
theorem dX9_child_8 : decode cX9_child 8 = .ok (.ifCond .ne 5, 3) := by decide +kernel
theorem dX9_child_11 : decode cX9_child 11 = .ok (.iconst (-1), 1) := by decide +kernel
theorem dX9_child_12 : decode cX9_child 12 = .ok (.ireturn, 1) := by decide +kernel
theorem dX9_child_13 : decode cX9_child 13 = .ok (.iload_n 2, 1) := by decide +kernel
theorem dX9_child_14 : decode cX9_child 14 = .ok (.tableswitch 124 0 5 #[38, 47, 56, 65, 82, 99], 38) := by decide +kernel
theorem dX9_child_52 : decode cX9_child 52 = .ok (.aload_n 0, 1) := by decide +kernel
theorem dX9_child_53 : decode cX9_child 53 = .ok (.getfield 28, 3) := by decide +kernel
theorem dX9_child_56 : decode cX9_child 56 = .ok (.iload_n 1, 1) := by decide +kernel
theorem dX9_child_57 : decode cX9_child 57 = .ok (.invokevirtual 115, 3) := by decide +kernel
theorem dX9_child_60 : decode cX9_child 60 = .ok (.ireturn, 1) := by decide +kernel
theorem dX9_child_61 : decode cX9_child 61 = .ok (.aload_n 0, 1) := by decide +kernel
theorem dX9_child_62 : decode cX9_child 62 = .ok (.getfield 28, 3) := by decide +kernel
theorem dX9_child_65 : decode cX9_child 65 = .ok (.iload_n 1, 1) := by decide +kernel
theorem dX9_child_66 : decode cX9_child 66 = .ok (.invokevirtual 119, 3) := by decide +kernel
theorem dX9_child_69 : decode cX9_child 69 = .ok (.ireturn, 1) := by decide +kernel
theorem dX9_child_70 : decode cX9_child 70 = .ok (.aload_n 0, 1) := by decide +kernel
theorem dX9_child_71 : decode cX9_child 71 = .ok (.getfield 28, 3) := by decide +kernel
theorem dX9_child_74 : decode cX9_child 74 = .ok (.iload_n 1, 1) := by decide +kernel
theorem dX9_child_75 : decode cX9_child 75 = .ok (.invokevirtual 122, 3) := by decide +kernel
theorem dX9_child_78 : decode cX9_child 78 = .ok (.ireturn, 1) := by decide +kernel
theorem dX9_child_79 : decode cX9_child 79 = .ok (.aload_n 0, 1) := by decide +kernel
theorem dX9_child_80 : decode cX9_child 80 = .ok (.getfield 28, 3) := by decide +kernel
theorem dX9_child_83 : decode cX9_child 83 = .ok (.iload_n 1, 1) := by decide +kernel
theorem dX9_child_84 : decode cX9_child 84 = .ok (.invokevirtual 125, 3) := by decide +kernel
theorem dX9_child_87 : decode cX9_child 87 = .ok (.ifCond .eq 7, 3) := by decide +kernel
theorem dX9_child_90 : decode cX9_child 90 = .ok (.iconst 1, 1) := by decide +kernel
theorem dX9_child_91 : decode cX9_child 91 = .ok (.goto 4, 3) := by decide +kernel
theorem dX9_child_94 : decode cX9_child 94 = .ok (.iconst 0, 1) := by decide +kernel
theorem dX9_child_95 : decode cX9_child 95 = .ok (.ireturn, 1) := by decide +kernel
theorem dX9_child_96 : decode cX9_child 96 = .ok (.aload_n 0, 1) := by decide +kernel
theorem dX9_child_97 : decode cX9_child 97 = .ok (.getfield 37, 3) := by decide +kernel
theorem dX9_child_100 : decode cX9_child 100 = .ok (.iload_n 1, 1) := by decide +kernel
theorem dX9_child_101 : decode cX9_child 101 = .ok (.invokevirtual 128, 3) := by decide +kernel
theorem dX9_child_104 : decode cX9_child 104 = .ok (.ifCond .eq 7, 3) := by decide +kernel
theorem dX9_child_107 : decode cX9_child 107 = .ok (.iconst 1, 1) := by decide +kernel
theorem dX9_child_108 : decode cX9_child 108 = .ok (.goto 4, 3) := by decide +kernel
theorem dX9_child_111 : decode cX9_child 111 = .ok (.iconst 0, 1) := by decide +kernel
theorem dX9_child_112 : decode cX9_child 112 = .ok (.ireturn, 1) := by decide +kernel
theorem dX9_child_113 : decode cX9_child 113 = .ok (.aload_n 0, 1) := by decide +kernel
theorem dX9_child_114 : decode cX9_child 114 = .ok (.getfield 37, 3) := by decide +kernel
theorem dX9_child_117 : decode cX9_child 117 = .ok (.iload_n 1, 1) := by decide +kernel
theorem dX9_child_118 : decode cX9_child 118 = .ok (.invokevirtual 128, 3) := by decide +kernel
theorem dX9_child_121 : decode cX9_child 121 = .ok (.ifCond .eq 14, 3) := by decide +kernel
theorem dX9_child_124 : decode cX9_child 124 = .ok (.aload_n 0, 1) := by decide +kernel
theorem dX9_child_125 : decode cX9_child 125 = .ok (.getfield 37, 3) := by decide +kernel
theorem dX9_child_128 : decode cX9_child 128 = .ok (.iload_n 1, 1) := by decide +kernel
theorem dX9_child_129 : decode cX9_child 129 = .ok (.invokevirtual 131, 3) := by decide +kernel
theorem dX9_child_132 : decode cX9_child 132 = .ok (.goto 5, 3) := by decide +kernel
theorem dX9_child_135 : decode cX9_child 135 = .ok (.bipush (-9), 2) := by decide +kernel
theorem dX9_child_137 : decode cX9_child 137 = .ok (.ireturn, 1) := by decide +kernel
theorem dX9_child_138 : decode cX9_child 138 = .ok (.iconst (-1), 1) := by decide +kernel
theorem dX9_child_139 : decode cX9_child 139 = .ok (.ireturn, 1) := by decide +kernel
set_option maxRecDepth 20000 in
theorem ggX9_now_X6_whoIsIn : GoodIn wsX9_now wsX6_whoIsIn := goodIn_r _ [7, 8, 40, 41, 42, 43] (by decide +kernel) (by decide +kernel)
set_option maxRecDepth 20000 in
theorem gX9_now_X6_whoIsIn : GoodIn wsX9_now (wsV RX9 134 RX6 yX6_whoIsIn wsX6_whoIsIn) := goodIn_app (goodIn_of _ (by decide +kernel)) ggX9_now_X6_whoIsIn
set_option maxRecDepth 20000 in
theorem ggX9_now_X6_streak : GoodIn wsX9_now wsX6_streak := goodIn_r _ [12, 13, 40, 41, 42, 43] (by decide +kernel) (by decide +kernel)
set_option maxRecDepth 20000 in
theorem gX9_now_X6_streak : GoodIn wsX9_now (wsV RX9 137 RX6 yX6_streak wsX6_streak) := goodIn_app (goodIn_of _ (by decide +kernel)) ggX9_now_X6_streak
set_option maxRecDepth 20000 in
theorem ggX9_now_X6_isFair : GoodIn wsX9_now wsX6_isFair := goodIn_r _ [17, 18, 8, 19, 20, 21, 22, 23, 24, 40, 41, 42, 43, 44, 45, 46, 47, 48] (by decide +kernel) (by decide +kernel)
set_option maxRecDepth 20000 in
theorem gX9_now_X6_isFair : GoodIn wsX9_now (wsV RX9 140 RX6 yX6_isFair wsX6_isFair) := goodIn_app (goodIn_of _ (by decide +kernel)) ggX9_now_X6_isFair
set_option maxRecDepth 20000 in
theorem ggX9_now_X2_size : GoodIn wsX9_now wsX2_size := goodIn_r _ [29, 30, 49, 50, 51] (by decide +kernel) (by decide +kernel)
set_option maxRecDepth 20000 in
theorem gX9_now_X2_size : GoodIn wsX9_now (wsV RX9 144 RX2 yX2_size wsX2_size) := goodIn_app (goodIn_of _ (by decide +kernel)) ggX9_now_X2_size
theorem dX9_now_0 : decode cX9_now 0 = .ok (.iload_n 1, 1) := by decide +kernel
theorem dX9_now_1 : decode cX9_now 1 = .ok (.tableswitch 71 0 3 #[31, 39, 47, 63], 31) := by decide +kernel
theorem dX9_now_32 : decode cX9_now 32 = .ok (.aload_n 0, 1) := by decide +kernel
theorem dX9_now_33 : decode cX9_now 33 = .ok (.getfield 37, 3) := by decide +kernel
theorem dX9_now_36 : decode cX9_now 36 = .ok (.invokevirtual 134, 3) := by decide +kernel
theorem dX9_now_39 : decode cX9_now 39 = .ok (.ireturn, 1) := by decide +kernel
theorem dX9_now_40 : decode cX9_now 40 = .ok (.aload_n 0, 1) := by decide +kernel
theorem dX9_now_41 : decode cX9_now 41 = .ok (.getfield 37, 3) := by decide +kernel
theorem dX9_now_44 : decode cX9_now 44 = .ok (.invokevirtual 137, 3) := by decide +kernel
theorem dX9_now_47 : decode cX9_now 47 = .ok (.ireturn, 1) := by decide +kernel
theorem dX9_now_48 : decode cX9_now 48 = .ok (.aload_n 0, 1) := by decide +kernel
theorem dX9_now_49 : decode cX9_now 49 = .ok (.getfield 37, 3) := by decide +kernel
theorem dX9_now_52 : decode cX9_now 52 = .ok (.invokevirtual 140, 3) := by decide +kernel
theorem dX9_now_55 : decode cX9_now 55 = .ok (.ifCond .eq 7, 3) := by decide +kernel
theorem dX9_now_58 : decode cX9_now 58 = .ok (.iconst 1, 1) := by decide +kernel
theorem dX9_now_59 : decode cX9_now 59 = .ok (.goto 4, 3) := by decide +kernel
theorem dX9_now_62 : decode cX9_now 62 = .ok (.iconst 0, 1) := by decide +kernel
theorem dX9_now_63 : decode cX9_now 63 = .ok (.ireturn, 1) := by decide +kernel
theorem dX9_now_64 : decode cX9_now 64 = .ok (.aload_n 0, 1) := by decide +kernel
theorem dX9_now_65 : decode cX9_now 65 = .ok (.getfield 44, 3) := by decide +kernel
theorem dX9_now_68 : decode cX9_now 68 = .ok (.invokevirtual 144, 3) := by decide +kernel
theorem dX9_now_71 : decode cX9_now 71 = .ok (.ireturn, 1) := by decide +kernel
theorem dX9_now_72 : decode cX9_now 72 = .ok (.iconst (-1), 1) := by decide +kernel
theorem dX9_now_73 : decode cX9_now 73 = .ok (.ireturn, 1) := by decide +kernel
set_option maxRecDepth 20000 in
theorem ggX9_errs_X1_has : GoodIn wsX9_errs wsX1_has := goodIn_r _ [7, 8, 54, 55, 56, 57, 58] (by decide +kernel) (by decide +kernel)
set_option maxRecDepth 20000 in
theorem gX9_errs_X1_has : GoodIn wsX9_errs (wsV RX9 111 RX1 yX1_has wsX1_has) := goodIn_app (goodIn_of _ (by decide +kernel)) ggX9_errs_X1_has
set_option maxRecDepth 20000 in
theorem ggX9_errs_X9_isOrder : GoodIn wsX9_errs wsX9_isOrder := goodIn_r _ [12] (by decide +kernel) (by decide +kernel)
set_option maxRecDepth 20000 in
theorem gX9_errs_X9_isOrder : GoodIn wsX9_errs (va_wsS RX9 147 yX9_isOrder wsX9_isOrder) := goodIn_app (goodIn_of _ (by decide +kernel)) ggX9_errs_X9_isOrder
set_option maxRecDepth 20000 in
theorem ggX9_errs_X6_isIn : GoodIn wsX9_errs wsX6_isIn := goodIn_r _ [17, 18, 19, 20, 4, 5, 6, 7, 8, 59, 60, 61, 62, 54, 55, 56, 57, 58] (by decide +kernel) (by decide +kernel)
set_option maxRecDepth 20000 in
theorem gX9_errs_X6_isIn : GoodIn wsX9_errs (wsV RX9 128 RX6 yX6_isIn wsX6_isIn) := goodIn_app (goodIn_of _ (by decide +kernel)) ggX9_errs_X6_isIn
set_option maxRecDepth 20000 in
theorem ggX9_errs_X6_streak : GoodIn wsX9_errs wsX6_streak := goodIn_r _ [24, 25, 59, 60, 61, 62] (by decide +kernel) (by decide +kernel)
set_option maxRecDepth 20000 in
theorem gX9_errs_X6_streak : GoodIn wsX9_errs (wsV RX9 137 RX6 yX6_streak wsX6_streak) := goodIn_app (goodIn_of _ (by decide +kernel)) ggX9_errs_X6_streak
set_option maxRecDepth 20000 in
theorem ggX9_errs_X1_errsOf : GoodIn wsX9_errs wsX1_errsOf := goodIn_r _ [29, 30, 31, 32, 33, 34, 35, 36, 6, 37, 38, 39, 4, 5, 7, 8, 40, 41, 42, 43, 44, 54, 55, 56, 57, 58] (by decide +kernel) (by decide +kernel)
set_option maxRecDepth 20000 in
theorem gX9_errs_X1_errsOf : GoodIn wsX9_errs (wsV RX9 150 RX1 yX1_errsOf wsX1_errsOf) := goodIn_app (goodIn_of _ (by decide +kernel)) ggX9_errs_X1_errsOf
theorem dX9_errs_0 : decode cX9_errs 0 = .ok (.aload_n 0, 1) := by decide +kernel
theorem dX9_errs_1 : decode cX9_errs 1 = .ok (.getfield 28, 3) := by decide +kernel
theorem dX9_errs_4 : decode cX9_errs 4 = .ok (.iload_n 1, 1) := by decide +kernel
theorem dX9_errs_5 : decode cX9_errs 5 = .ok (.invokevirtual 111, 3) := by decide +kernel
theorem dX9_errs_8 : decode cX9_errs 8 = .ok (.ifCond .eq 10, 3) := by decide +kernel
theorem dX9_errs_11 : decode cX9_errs 11 = .ok (.iload_n 2, 1) := by decide +kernel
theorem dX9_errs_12 : decode cX9_errs 12 = .ok (.invokestatic 147, 3) := by decide +kernel
theorem dX9_errs_15 : decode cX9_errs 15 = .ok (.ifCond .ne 5, 3) := by decide +kernel
theorem dX9_errs_18 : decode cX9_errs 18 = .ok (.iconst (-1), 1) := by decide +kernel
theorem dX9_errs_19 : decode cX9_errs 19 = .ok (.ireturn, 1) := by decide +kernel
theorem dX9_errs_20 : decode cX9_errs 20 = .ok (.aload_n 0, 1) := by decide +kernel
theorem dX9_errs_21 : decode cX9_errs 21 = .ok (.getfield 37, 3) := by decide +kernel
theorem dX9_errs_24 : decode cX9_errs 24 = .ok (.iload_n 1, 1) := by decide +kernel
theorem dX9_errs_25 : decode cX9_errs 25 = .ok (.invokevirtual 128, 3) := by decide +kernel
theorem dX9_errs_28 : decode cX9_errs 28 = .ok (.ifCond .ne 6, 3) := by decide +kernel
theorem dX9_errs_31 : decode cX9_errs 31 = .ok (.bipush (-2), 2) := by decide +kernel
theorem dX9_errs_33 : decode cX9_errs 33 = .ok (.ireturn, 1) := by decide +kernel
theorem dX9_errs_34 : decode cX9_errs 34 = .ok (.aload_n 0, 1) := by decide +kernel
theorem dX9_errs_35 : decode cX9_errs 35 = .ok (.getfield 28, 3) := by decide +kernel
theorem dX9_errs_38 : decode cX9_errs 38 = .ok (.iload_n 1, 1) := by decide +kernel
theorem dX9_errs_39 : decode cX9_errs 39 = .ok (.iload_n 2, 1) := by decide +kernel
theorem dX9_errs_40 : decode cX9_errs 40 = .ok (.aload_n 0, 1) := by decide +kernel
theorem dX9_errs_41 : decode cX9_errs 41 = .ok (.getfield 37, 3) := by decide +kernel
theorem dX9_errs_44 : decode cX9_errs 44 = .ok (.invokevirtual 137, 3) := by decide +kernel
theorem dX9_errs_47 : decode cX9_errs 47 = .ok (.invokevirtual 150, 3) := by decide +kernel
theorem dX9_errs_50 : decode cX9_errs 50 = .ok (.ireturn, 1) := by decide +kernel
set_option maxRecDepth 20000 in
theorem ggX9_call_X9_isOrder : GoodIn wsX9_call wsX9_isOrder := goodIn_r _ [6] (by decide +kernel) (by decide +kernel)
set_option maxRecDepth 20000 in
theorem gX9_call_X9_isOrder : GoodIn wsX9_call (va_wsS RX9 147 yX9_isOrder wsX9_isOrder) := goodIn_app (goodIn_of _ (by decide +kernel)) ggX9_call_X9_isOrder
set_option maxRecDepth 20000 in
theorem ggX9_call_X6_whoIsIn : GoodIn wsX9_call wsX6_whoIsIn := goodIn_r _ [11, 12, 111, 112, 113, 114] (by decide +kernel) (by decide +kernel)
set_option maxRecDepth 20000 in
theorem gX9_call_X6_whoIsIn : GoodIn wsX9_call (wsV RX9 134 RX6 yX6_whoIsIn wsX6_whoIsIn) := goodIn_app (goodIn_of _ (by decide +kernel)) ggX9_call_X6_whoIsIn
set_option maxRecDepth 20000 in
theorem ggX9_call_X6_streak : GoodIn wsX9_call wsX6_streak := goodIn_r _ [16, 17, 111, 112, 113, 114] (by decide +kernel) (by decide +kernel)
set_option maxRecDepth 20000 in
theorem gX9_call_X6_streak : GoodIn wsX9_call (wsV RX9 137 RX6 yX6_streak wsX6_streak) := goodIn_app (goodIn_of _ (by decide +kernel)) ggX9_call_X6_streak
set_option maxRecDepth 20000 in
theorem ggX9_call_X2_add : GoodIn wsX9_call wsX2_add := goodIn_r _ [22, 23, 24, 25, 26, 27, 28, 21, 29, 30, 31, 32, 33, 115, 116, 117] (by decide +kernel) (by decide +kernel)
set_option maxRecDepth 20000 in
theorem gX9_call_X2_add : GoodIn wsX9_call (wsV RX9 154 RX2 yX2_add wsX2_add) := goodIn_app (goodIn_of _ (by decide +kernel)) ggX9_call_X2_add
set_option maxRecDepth 20000 in
theorem ggX9_call_X6_obey : GoodIn wsX9_call wsX6_obey := goodIn_r _ [37, 38, 17, 12, 39, 40, 41, 42, 43, 44, 45, 46, 47, 10, 48, 49, 50, 51, 52, 53, 54, 55, 56, 57, 58, 59, 60, 61, 62, 63, 64, 65, 66, 67, 68, 69, 70, 71, 72, 73, 74, 75, 76, 77, 78, 79, 80, 81, 82, 83, 84, 85, 86, 87, 88, 89, 90, 91, 92, 93, 94, 95, 5, 96, 97, 98, 99, 100, 101, 111, 112, 113, 114, 118, 119, 120, 121, 122] (by decide +kernel) (by decide +kernel)
set_option maxRecDepth 20000 in
theorem gX9_call_X6_obey : GoodIn wsX9_call (wsV RX9 158 RX6 yX6_obey wsX6_obey) := goodIn_app (goodIn_of _ (by decide +kernel)) ggX9_call_X6_obey
theorem dX9_call_0 : decode cX9_call 0 = .ok (.iload_n 1, 1) := by decide +kernel
theorem dX9_call_1 : decode cX9_call 1 = .ok (.invokestatic 147, 3) := by decide +kernel
theorem dX9_call_4 : decode cX9_call 4 = .ok (.ifCond .ne 5, 3) := by decide +kernel
theorem dX9_call_7 : decode cX9_call 7 = .ok (.iconst (-1), 1) := by decide +kernel
theorem dX9_call_8 : decode cX9_call 8 = .ok (.ireturn, 1) := by decide +kernel
theorem dX9_call_9 : decode cX9_call 9 = .ok (.aload_n 0, 1) := by decide +kernel
theorem dX9_call_10 : decode cX9_call 10 = .ok (.getfield 37, 3) := by decide +kernel
theorem dX9_call_13 : decode cX9_call 13 = .ok (.invokevirtual 134, 3) := by decide +kernel
theorem dX9_call_16 : decode cX9_call 16 = .ok (.ifCond .ne 6, 3) := by decide +kernel
theorem dX9_call_19 : decode cX9_call 19 = .ok (.bipush (-2), 2) := by decide +kernel
theorem dX9_call_21 : decode cX9_call 21 = .ok (.ireturn, 1) := by decide +kernel
theorem dX9_call_22 : decode cX9_call 22 = .ok (.aload_n 0, 1) := by decide +kernel
theorem dX9_call_23 : decode cX9_call 23 = .ok (.getfield 44, 3) := by decide +kernel
theorem dX9_call_26 : decode cX9_call 26 = .ok (.aload_n 0, 1) := by decide +kernel
theorem dX9_call_27 : decode cX9_call 27 = .ok (.getfield 37, 3) := by decide +kernel
theorem dX9_call_30 : decode cX9_call 30 = .ok (.invokevirtual 134, 3) := by decide +kernel
theorem dX9_call_33 : decode cX9_call 33 = .ok (.aload_n 0, 1) := by decide +kernel
theorem dX9_call_34 : decode cX9_call 34 = .ok (.getfield 37, 3) := by decide +kernel
theorem dX9_call_37 : decode cX9_call 37 = .ok (.invokevirtual 137, 3) := by decide +kernel
theorem dX9_call_40 : decode cX9_call 40 = .ok (.invokevirtual 154, 3) := by decide +kernel
theorem dX9_call_43 : decode cX9_call 43 = .ok (.aload_n 0, 1) := by decide +kernel
theorem dX9_call_44 : decode cX9_call 44 = .ok (.getfield 37, 3) := by decide +kernel
theorem dX9_call_47 : decode cX9_call 47 = .ok (.iload_n 1, 1) := by decide +kernel
theorem dX9_call_48 : decode cX9_call 48 = .ok (.invokevirtual 158, 3) := by decide +kernel
theorem dX9_call_51 : decode cX9_call 51 = .ok (.ireturn, 1) := by decide +kernel
set_option maxRecDepth 20000 in
theorem ggX9_comesBack_X1_has : GoodIn wsX9_comesBack wsX1_has := goodIn_r _ [8, 9, 67, 68, 69, 70, 71] (by decide +kernel) (by decide +kernel)
set_option maxRecDepth 20000 in
theorem gX9_comesBack_X1_has : GoodIn wsX9_comesBack (wsV RX9 111 RX1 yX1_has wsX1_has) := goodIn_app (goodIn_of _ (by decide +kernel)) ggX9_comesBack_X1_has
set_option maxRecDepth 20000 in
theorem ggX9_comesBack_X6_isIn : GoodIn wsX9_comesBack wsX6_isIn := goodIn_r _ [14, 15, 16, 17, 5, 6, 7, 8, 9, 72, 73, 74, 75, 67, 68, 69, 70, 71] (by decide +kernel) (by decide +kernel)
set_option maxRecDepth 20000 in
theorem gX9_comesBack_X6_isIn : GoodIn wsX9_comesBack (wsV RX9 128 RX6 yX6_isIn wsX6_isIn) := goodIn_app (goodIn_of _ (by decide +kernel)) ggX9_comesBack_X6_isIn
set_option maxRecDepth 20000 in
theorem ggX9_comesBack_X6_whoIsIn : GoodIn wsX9_comesBack wsX6_whoIsIn := goodIn_r _ [21, 16, 72, 73, 74, 75] (by decide +kernel) (by decide +kernel)
set_option maxRecDepth 20000 in
theorem gX9_comesBack_X6_whoIsIn : GoodIn wsX9_comesBack (wsV RX9 134 RX6 yX6_whoIsIn wsX6_whoIsIn) := goodIn_app (goodIn_of _ (by decide +kernel)) ggX9_comesBack_X6_whoIsIn
set_option maxRecDepth 20000 in
theorem ggX9_comesBack_X6_streak : GoodIn wsX9_comesBack wsX6_streak := goodIn_r _ [25, 26, 72, 73, 74, 75] (by decide +kernel) (by decide +kernel)
set_option maxRecDepth 20000 in
theorem gX9_comesBack_X6_streak : GoodIn wsX9_comesBack (wsV RX9 137 RX6 yX6_streak wsX6_streak) := goodIn_app (goodIn_of _ (by decide +kernel)) ggX9_comesBack_X6_streak
set_option maxRecDepth 20000 in
theorem ggX9_comesBack_X2_add : GoodIn wsX9_comesBack wsX2_add := goodIn_r _ [31, 32, 33, 34, 35, 36, 37, 30, 38, 39, 40, 41, 42, 76, 77, 78] (by decide +kernel) (by decide +kernel)
set_option maxRecDepth 20000 in
theorem gX9_comesBack_X2_add : GoodIn wsX9_comesBack (wsV RX9 154 RX2 yX2_add wsX2_add) := goodIn_app (goodIn_of _ (by decide +kernel)) ggX9_comesBack_X2_add
set_option maxRecDepth 20000 in
theorem ggX9_comesBack_X6_letIn : GoodIn wsX9_comesBack wsX6_letIn := goodIn_r _ [46, 16, 72, 73, 74, 75] (by decide +kernel) (by decide +kernel)
set_option maxRecDepth 20000 in
theorem gX9_comesBack_X6_letIn : GoodIn wsX9_comesBack (wsV RX9 161 RX6 yX6_letIn wsX6_letIn) := goodIn_app (goodIn_of _ (by decide +kernel)) ggX9_comesBack_X6_letIn
set_option maxRecDepth 20000 in
theorem ggX9_comesBack_X6_howManyIn : GoodIn wsX9_comesBack wsX6_howManyIn := goodIn_r _ [50, 16, 51, 52, 53, 54, 55, 56, 57, 72, 73, 74, 75] (by decide +kernel) (by decide +kernel)
set_option maxRecDepth 20000 in
theorem gX9_comesBack_X6_howManyIn : GoodIn wsX9_comesBack (wsV RX9 164 RX6 yX6_howManyIn wsX6_howManyIn) := goodIn_app (goodIn_of _ (by decide +kernel)) ggX9_comesBack_X6_howManyIn
theorem dX9_comesBack_0 : decode cX9_comesBack 0 = .ok (.aload_n 0, 1) := by decide +kernel
theorem dX9_comesBack_1 : decode cX9_comesBack 1 = .ok (.getfield 28, 3) := by decide +kernel
theorem dX9_comesBack_4 : decode cX9_comesBack 4 = .ok (.iload_n 1, 1) := by decide +kernel
theorem dX9_comesBack_5 : decode cX9_comesBack 5 = .ok (.invokevirtual 111, 3) := by decide +kernel
theorem dX9_comesBack_8 : decode cX9_comesBack 8 = .ok (.ifCond .ne 5, 3) := by decide +kernel
theorem dX9_comesBack_11 : decode cX9_comesBack 11 = .ok (.iconst (-1), 1) := by decide +kernel
theorem dX9_comesBack_12 : decode cX9_comesBack 12 = .ok (.ireturn, 1) := by decide +kernel
theorem dX9_comesBack_13 : decode cX9_comesBack 13 = .ok (.aload_n 0, 1) := by decide +kernel
theorem dX9_comesBack_14 : decode cX9_comesBack 14 = .ok (.getfield 37, 3) := by decide +kernel
theorem dX9_comesBack_17 : decode cX9_comesBack 17 = .ok (.iload_n 1, 1) := by decide +kernel
theorem dX9_comesBack_18 : decode cX9_comesBack 18 = .ok (.invokevirtual 128, 3) := by decide +kernel
theorem dX9_comesBack_21 : decode cX9_comesBack 21 = .ok (.ifCond .eq 6, 3) := by decide +kernel
theorem dX9_comesBack_24 : decode cX9_comesBack 24 = .ok (.bipush (-2), 2) := by decide +kernel
theorem dX9_comesBack_26 : decode cX9_comesBack 26 = .ok (.ireturn, 1) := by decide +kernel
theorem dX9_comesBack_27 : decode cX9_comesBack 27 = .ok (.aload_n 0, 1) := by decide +kernel
theorem dX9_comesBack_28 : decode cX9_comesBack 28 = .ok (.getfield 44, 3) := by decide +kernel
theorem dX9_comesBack_31 : decode cX9_comesBack 31 = .ok (.aload_n 0, 1) := by decide +kernel
theorem dX9_comesBack_32 : decode cX9_comesBack 32 = .ok (.getfield 37, 3) := by decide +kernel
theorem dX9_comesBack_35 : decode cX9_comesBack 35 = .ok (.invokevirtual 134, 3) := by decide +kernel
theorem dX9_comesBack_38 : decode cX9_comesBack 38 = .ok (.aload_n 0, 1) := by decide +kernel
theorem dX9_comesBack_39 : decode cX9_comesBack 39 = .ok (.getfield 37, 3) := by decide +kernel
theorem dX9_comesBack_42 : decode cX9_comesBack 42 = .ok (.invokevirtual 137, 3) := by decide +kernel
theorem dX9_comesBack_45 : decode cX9_comesBack 45 = .ok (.invokevirtual 154, 3) := by decide +kernel
theorem dX9_comesBack_48 : decode cX9_comesBack 48 = .ok (.aload_n 0, 1) := by decide +kernel
theorem dX9_comesBack_49 : decode cX9_comesBack 49 = .ok (.getfield 37, 3) := by decide +kernel
theorem dX9_comesBack_52 : decode cX9_comesBack 52 = .ok (.iload_n 1, 1) := by decide +kernel
theorem dX9_comesBack_53 : decode cX9_comesBack 53 = .ok (.invokevirtual 161, 3) := by decide +kernel
theorem dX9_comesBack_56 : decode cX9_comesBack 56 = .ok (.aload_n 0, 1) := by decide +kernel
theorem dX9_comesBack_57 : decode cX9_comesBack 57 = .ok (.getfield 37, 3) := by decide +kernel
theorem dX9_comesBack_60 : decode cX9_comesBack 60 = .ok (.invokevirtual 164, 3) := by decide +kernel
theorem dX9_comesBack_63 : decode cX9_comesBack 63 = .ok (.ireturn, 1) := by decide +kernel
set_option maxRecDepth 20000 in
theorem ggX9_undo_X2_size : GoodIn wsX9_undo wsX2_size := goodIn_r _ [7, 8, 39, 40, 41] (by decide +kernel) (by decide +kernel)
set_option maxRecDepth 20000 in
theorem gX9_undo_X2_size : GoodIn wsX9_undo (wsV RX9 144 RX2 yX2_size wsX2_size) := goodIn_app (goodIn_of _ (by decide +kernel)) ggX9_undo_X2_size
set_option maxRecDepth 20000 in
theorem ggX9_undo_X2_dropLatest : GoodIn wsX9_undo wsX2_dropLatest := goodIn_r _ [12, 8, 39, 40, 41] (by decide +kernel) (by decide +kernel)
set_option maxRecDepth 20000 in
theorem gX9_undo_X2_dropLatest : GoodIn wsX9_undo (wsV RX9 167 RX2 yX2_dropLatest wsX2_dropLatest) := goodIn_app (goodIn_of _ (by decide +kernel)) ggX9_undo_X2_dropLatest
set_option maxRecDepth 20000 in
theorem ggX9_undo_X2_droppedIn : GoodIn wsX9_undo wsX2_droppedIn := goodIn_r _ [16, 8, 17, 39, 40, 41] (by decide +kernel) (by decide +kernel)
set_option maxRecDepth 20000 in
theorem gX9_undo_X2_droppedIn : GoodIn wsX9_undo (wsV RX9 170 RX2 yX2_droppedIn wsX2_droppedIn) := goodIn_app (goodIn_of _ (by decide +kernel)) ggX9_undo_X2_droppedIn
set_option maxRecDepth 20000 in
theorem ggX9_undo_X2_droppedStreak : GoodIn wsX9_undo wsX2_droppedStreak := goodIn_r _ [21, 8, 22, 39, 40, 41] (by decide +kernel) (by decide +kernel)
set_option maxRecDepth 20000 in
theorem gX9_undo_X2_droppedStreak : GoodIn wsX9_undo (wsV RX9 173 RX2 yX2_droppedStreak wsX2_droppedStreak) := goodIn_app (goodIn_of _ (by decide +kernel)) ggX9_undo_X2_droppedStreak
set_option maxRecDepth 20000 in
theorem ggX9_undo_X6_become : GoodIn wsX9_undo wsX6_become := goodIn_r _ [27, 28, 29, 42, 43, 44, 45] (by decide +kernel) (by decide +kernel)
set_option maxRecDepth 20000 in
theorem gX9_undo_X6_become : GoodIn wsX9_undo (wsV RX9 176 RX6 yX6_become wsX6_become) := goodIn_app (goodIn_of _ (by decide +kernel)) ggX9_undo_X6_become
theorem dX9_undo_0 : decode cX9_undo 0 = .ok (.aload_n 0, 1) := by decide +kernel
theorem dX9_undo_1 : decode cX9_undo 1 = .ok (.getfield 44, 3) := by decide +kernel
theorem dX9_undo_4 : decode cX9_undo 4 = .ok (.invokevirtual 144, 3) := by decide +kernel
theorem dX9_undo_7 : decode cX9_undo 7 = .ok (.ifCond .ne 6, 3) := by decide +kernel
theorem dX9_undo_10 : decode cX9_undo 10 = .ok (.bipush (-2), 2) := by decide +kernel
theorem dX9_undo_12 : decode cX9_undo 12 = .ok (.ireturn, 1) := by decide +kernel
theorem dX9_undo_13 : decode cX9_undo 13 = .ok (.aload_n 0, 1) := by decide +kernel
theorem dX9_undo_14 : decode cX9_undo 14 = .ok (.getfield 44, 3) := by decide +kernel
theorem dX9_undo_17 : decode cX9_undo 17 = .ok (.invokevirtual 167, 3) := by decide +kernel
theorem dX9_undo_20 : decode cX9_undo 20 = .ok (.aload_n 0, 1) := by decide +kernel
theorem dX9_undo_21 : decode cX9_undo 21 = .ok (.getfield 37, 3) := by decide +kernel
theorem dX9_undo_24 : decode cX9_undo 24 = .ok (.aload_n 0, 1) := by decide +kernel
theorem dX9_undo_25 : decode cX9_undo 25 = .ok (.getfield 44, 3) := by decide +kernel
theorem dX9_undo_28 : decode cX9_undo 28 = .ok (.invokevirtual 170, 3) := by decide +kernel
theorem dX9_undo_31 : decode cX9_undo 31 = .ok (.aload_n 0, 1) := by decide +kernel
theorem dX9_undo_32 : decode cX9_undo 32 = .ok (.getfield 44, 3) := by decide +kernel
theorem dX9_undo_35 : decode cX9_undo 35 = .ok (.invokevirtual 173, 3) := by decide +kernel
theorem dX9_undo_38 : decode cX9_undo 38 = .ok (.invokevirtual 176, 3) := by decide +kernel
theorem dX9_undo_41 : decode cX9_undo 41 = .ok (.aload_n 0, 1) := by decide +kernel
theorem dX9_undo_42 : decode cX9_undo 42 = .ok (.getfield 44, 3) := by decide +kernel
theorem dX9_undo_45 : decode cX9_undo 45 = .ok (.invokevirtual 144, 3) := by decide +kernel
theorem dX9_undo_48 : decode cX9_undo 48 = .ok (.ireturn, 1) := by decide +kernel
set_option maxRecDepth 20000 in
theorem ggX9_lot_X6_theLot : GoodIn wsX9_lot wsX6_theLot := goodIn_r _ [6, 7, 21, 22, 23, 24] (by decide +kernel) (by decide +kernel)
set_option maxRecDepth 20000 in
theorem gX9_lot_X6_theLot : GoodIn wsX9_lot (wsV RX9 179 RX6 yX6_theLot wsX6_theLot) := goodIn_app (goodIn_of _ (by decide +kernel)) ggX9_lot_X6_theLot
set_option maxRecDepth 20000 in
theorem ggX9_lot_X6_setLot : GoodIn wsX9_lot wsX6_setLot := goodIn_r _ [11, 7, 21, 22, 23, 24] (by decide +kernel) (by decide +kernel)
set_option maxRecDepth 20000 in
theorem gX9_lot_X6_setLot : GoodIn wsX9_lot (wsV RX9 182 RX6 yX6_setLot wsX6_setLot) := goodIn_app (goodIn_of _ (by decide +kernel)) ggX9_lot_X6_setLot
theorem dX9_lot_0 : decode cX9_lot 0 = .ok (.aload_n 0, 1) := by decide +kernel
theorem dX9_lot_1 : decode cX9_lot 1 = .ok (.getfield 37, 3) := by decide +kernel
theorem dX9_lot_4 : decode cX9_lot 4 = .ok (.invokevirtual 179, 3) := by decide +kernel
theorem dX9_lot_7 : decode cX9_lot 7 = .ok (.istore_n 2, 1) := by decide +kernel
theorem dX9_lot_8 : decode cX9_lot 8 = .ok (.aload_n 0, 1) := by decide +kernel
theorem dX9_lot_9 : decode cX9_lot 9 = .ok (.getfield 37, 3) := by decide +kernel
theorem dX9_lot_12 : decode cX9_lot 12 = .ok (.iload_n 1, 1) := by decide +kernel
theorem dX9_lot_13 : decode cX9_lot 13 = .ok (.invokevirtual 182, 3) := by decide +kernel
theorem dX9_lot_16 : decode cX9_lot 16 = .ok (.iload_n 2, 1) := by decide +kernel
theorem dX9_lot_17 : decode cX9_lot 17 = .ok (.ireturn, 1) := by decide +kernel
set_option maxRecDepth 20000 in
theorem ggX9_falls_X9_isOrder : GoodIn wsX9_falls wsX9_isOrder := goodIn_r _ [7] (by decide +kernel) (by decide +kernel)
set_option maxRecDepth 20000 in
theorem gX9_falls_X9_isOrder : GoodIn wsX9_falls (va_wsS RX9 147 yX9_isOrder wsX9_isOrder) := goodIn_app (goodIn_of _ (by decide +kernel)) ggX9_falls_X9_isOrder
set_option maxRecDepth 20000 in
theorem ggX9_falls_X1_isSet : GoodIn wsX9_falls wsX1_isSet := goodIn_r _ [12, 13, 14, 15, 11, 16, 17, 111, 112, 113, 114, 115] (by decide +kernel) (by decide +kernel)
set_option maxRecDepth 20000 in
theorem gX9_falls_X1_isSet : GoodIn wsX9_falls (wsV RX9 185 RX1 yX1_isSet wsX1_isSet) := goodIn_app (goodIn_of _ (by decide +kernel)) ggX9_falls_X1_isSet
set_option maxRecDepth 20000 in
theorem ggX9_falls_X9_isHalf : GoodIn wsX9_falls wsX9_isHalf := goodIn_r _ [20] (by decide +kernel) (by decide +kernel)
set_option maxRecDepth 20000 in
theorem gX9_falls_X9_isHalf : GoodIn wsX9_falls (va_wsS RX9 188 yX9_isHalf wsX9_isHalf) := goodIn_app (goodIn_of _ (by decide +kernel)) ggX9_falls_X9_isHalf
set_option maxRecDepth 20000 in
theorem ggX9_falls_X0_setFalls : GoodIn wsX9_falls wsX0_setFalls := goodIn_r _ [25, 26, 27, 28, 29, 30, 31, 32, 33, 34, 35, 36, 11, 37, 17, 38, 39, 40, 41, 42, 43, 44, 45, 46, 47, 48, 49, 50, 51, 52, 53, 54, 55, 56, 57, 58, 59, 60, 61, 62, 63, 64, 65, 66, 67, 68, 69, 70, 71, 72, 73, 74, 75, 76, 77, 78, 79, 80, 81, 82, 83, 84, 85, 86, 87, 88, 116, 117, 118, 119, 120, 121, 122, 123, 111, 112, 113, 114, 115] (by decide +kernel) (by decide +kernel)
set_option maxRecDepth 20000 in
theorem gX9_falls_X0_setFalls : GoodIn wsX9_falls (wsV RX9 193 RX0 yX0_setFalls wsX0_setFalls) := goodIn_app (goodIn_of _ (by decide +kernel)) ggX9_falls_X0_setFalls
set_option maxRecDepth 20000 in
theorem ggX9_falls_X0_lower : GoodIn wsX9_falls wsX0_lower := goodIn_r _ [92, 27, 26, 34, 35, 36, 11, 37, 17, 38, 39, 40, 31, 41, 42, 43, 44, 45, 46, 33, 47, 48, 49, 50, 51, 52, 53, 54, 55, 56, 57, 58, 59, 60, 93, 6, 94, 95, 116, 117, 118, 119, 111, 112, 113, 114, 115, 120, 121, 122, 123] (by decide +kernel) (by decide +kernel)
set_option maxRecDepth 20000 in
theorem gX9_falls_X0_lower : GoodIn wsX9_falls (wsV RX9 197 RX0 yX0_lower wsX0_lower) := goodIn_app (goodIn_of _ (by decide +kernel)) ggX9_falls_X0_lower
set_option maxRecDepth 20000 in
theorem ggX9_falls_X9_leastTerms : GoodIn wsX9_falls wsX9_leastTerms := goodIn_r _ [98, 99, 100, 6, 101] (by decide +kernel) (by decide +kernel)
set_option maxRecDepth 20000 in
theorem gX9_falls_X9_leastTerms : GoodIn wsX9_falls (va_wsS RX9 201 yX9_leastTerms wsX9_leastTerms) := goodIn_app (goodIn_of _ (by decide +kernel)) ggX9_falls_X9_leastTerms
theorem dX9_falls_0 : decode cX9_falls 0 = .ok (.iload_n 1, 1) := by decide +kernel
theorem dX9_falls_1 : decode cX9_falls 1 = .ok (.invokestatic 147, 3) := by decide +kernel
theorem dX9_falls_4 : decode cX9_falls 4 = .ok (.ifCond .eq 21, 3) := by decide +kernel
theorem dX9_falls_7 : decode cX9_falls 7 = .ok (.aload_n 0, 1) := by decide +kernel
theorem dX9_falls_8 : decode cX9_falls 8 = .ok (.getfield 28, 3) := by decide +kernel
theorem dX9_falls_11 : decode cX9_falls 11 = .ok (.iload_n 2, 1) := by decide +kernel
theorem dX9_falls_12 : decode cX9_falls 12 = .ok (.invokevirtual 185, 3) := by decide +kernel
theorem dX9_falls_15 : decode cX9_falls 15 = .ok (.ifCond .eq 10, 3) := by decide +kernel
theorem dX9_falls_18 : decode cX9_falls 18 = .ok (.iload_n 3, 1) := by decide +kernel
theorem dX9_falls_19 : decode cX9_falls 19 = .ok (.invokestatic 188, 3) := by decide +kernel
theorem dX9_falls_22 : decode cX9_falls 22 = .ok (.ifCond .ne 7, 3) := by decide +kernel
theorem dX9_falls_25 : decode cX9_falls 25 = .ok (.ldc2_w 191, 3) := by decide +kernel
theorem dX9_falls_28 : decode cX9_falls 28 = .ok (.lreturn, 1) := by decide +kernel
theorem dX9_falls_29 : decode cX9_falls 29 = .ok (.aload_n 0, 1) := by decide +kernel
theorem dX9_falls_30 : decode cX9_falls 30 = .ok (.getfield 67, 3) := by decide +kernel
theorem dX9_falls_33 : decode cX9_falls 33 = .ok (.iload_n 1, 1) := by decide +kernel
theorem dX9_falls_34 : decode cX9_falls 34 = .ok (.iload_n 2, 1) := by decide +kernel
theorem dX9_falls_35 : decode cX9_falls 35 = .ok (.invokevirtual 193, 3) := by decide +kernel
theorem dX9_falls_38 : decode cX9_falls 38 = .ok (.aload_n 0, 1) := by decide +kernel
theorem dX9_falls_39 : decode cX9_falls 39 = .ok (.getfield 67, 3) := by decide +kernel
theorem dX9_falls_42 : decode cX9_falls 42 = .ok (.iconst 1, 1) := by decide +kernel
theorem dX9_falls_43 : decode cX9_falls 43 = .ok (.invokevirtual 197, 3) := by decide +kernel
theorem dX9_falls_46 : decode cX9_falls 46 = .ok (.iload_n 3, 1) := by decide +kernel
theorem dX9_falls_47 : decode cX9_falls 47 = .ok (.invokestatic 201, 3) := by decide +kernel
theorem dX9_falls_50 : decode cX9_falls 50 = .ok (.lreturn, 1) := by decide +kernel
set_option maxRecDepth 20000 in
theorem ggX9_many_X9_isOrder : GoodIn wsX9_many wsX9_isOrder := goodIn_r _ [6] (by decide +kernel) (by decide +kernel)
set_option maxRecDepth 20000 in
theorem gX9_many_X9_isOrder : GoodIn wsX9_many (va_wsS RX9 147 yX9_isOrder wsX9_isOrder) := goodIn_app (goodIn_of _ (by decide +kernel)) ggX9_many_X9_isOrder
set_option maxRecDepth 20000 in
theorem ggX9_many_X9_isHalf : GoodIn wsX9_many wsX9_isHalf := goodIn_r _ [9] (by decide +kernel) (by decide +kernel)
set_option maxRecDepth 20000 in
theorem gX9_many_X9_isHalf : GoodIn wsX9_many (va_wsS RX9 188 yX9_isHalf wsX9_isHalf) := goodIn_app (goodIn_of _ (by decide +kernel)) ggX9_many_X9_isHalf
set_option maxRecDepth 20000 in
theorem ggX9_many_X0_numberFalls : GoodIn wsX9_many wsX0_numberFalls := goodIn_r _ [14, 15, 16, 17, 18, 19, 20, 21, 22, 23, 24, 25, 26, 27, 28, 29, 30, 31, 32, 33, 34, 35, 36, 37, 38, 39, 40, 41, 42, 43, 44, 45, 46, 47, 48, 49, 50, 51, 52, 53, 54, 55, 56, 57, 58, 59, 60, 61, 62, 63, 64, 65, 66, 67, 68, 69, 70, 71, 72, 73, 74, 75, 76, 77, 78, 79, 80, 81, 82, 83, 84, 85, 86, 13, 87, 110, 111, 112, 113, 114, 115, 116, 117, 118, 119, 120, 121, 122] (by decide +kernel) (by decide +kernel)
set_option maxRecDepth 20000 in
theorem gX9_many_X0_numberFalls : GoodIn wsX9_many (wsV RX9 205 RX0 yX0_numberFalls wsX0_numberFalls) := goodIn_app (goodIn_of _ (by decide +kernel)) ggX9_many_X0_numberFalls
set_option maxRecDepth 20000 in
theorem ggX9_many_X0_lower : GoodIn wsX9_many wsX0_lower := goodIn_r _ [91, 16, 17, 18, 19, 20, 21, 22, 23, 24, 25, 26, 27, 28, 29, 30, 31, 32, 33, 34, 35, 36, 37, 38, 39, 40, 41, 42, 43, 44, 45, 46, 47, 48, 92, 5, 93, 94, 110, 111, 112, 113, 114, 115, 116, 117, 118, 119, 120, 121, 122] (by decide +kernel) (by decide +kernel)
set_option maxRecDepth 20000 in
theorem gX9_many_X0_lower : GoodIn wsX9_many (wsV RX9 197 RX0 yX0_lower wsX0_lower) := goodIn_app (goodIn_of _ (by decide +kernel)) ggX9_many_X0_lower
set_option maxRecDepth 20000 in
theorem ggX9_many_X9_leastTerms : GoodIn wsX9_many wsX9_leastTerms := goodIn_r _ [97, 98, 99, 5, 100] (by decide +kernel) (by decide +kernel)
set_option maxRecDepth 20000 in
theorem gX9_many_X9_leastTerms : GoodIn wsX9_many (va_wsS RX9 201 yX9_leastTerms wsX9_leastTerms) := goodIn_app (goodIn_of _ (by decide +kernel)) ggX9_many_X9_leastTerms
theorem dX9_many_0 : decode cX9_many 0 = .ok (.iload_n 1, 1) := by decide +kernel
theorem dX9_many_1 : decode cX9_many 1 = .ok (.invokestatic 147, 3) := by decide +kernel
theorem dX9_many_4 : decode cX9_many 4 = .ok (.ifCond .eq 20, 3) := by decide +kernel
theorem dX9_many_7 : decode cX9_many 7 = .ok (.iload_n 2, 1) := by decide +kernel
theorem dX9_many_8 : decode cX9_many 8 = .ok (.ifCond .lt 16, 3) := by decide +kernel
theorem dX9_many_11 : decode cX9_many 11 = .ok (.iload_n 2, 1) := by decide +kernel
theorem dX9_many_12 : decode cX9_many 12 = .ok (.bipush 6, 2) := by decide +kernel
theorem dX9_many_14 : decode cX9_many 14 = .ok (.if_icmp .gt 10, 3) := by decide +kernel
theorem dX9_many_17 : decode cX9_many 17 = .ok (.iload_n 3, 1) := by decide +kernel
theorem dX9_many_18 : decode cX9_many 18 = .ok (.invokestatic 188, 3) := by decide +kernel
theorem dX9_many_21 : decode cX9_many 21 = .ok (.ifCond .ne 7, 3) := by decide +kernel
theorem dX9_many_24 : decode cX9_many 24 = .ok (.ldc2_w 191, 3) := by decide +kernel
theorem dX9_many_27 : decode cX9_many 27 = .ok (.lreturn, 1) := by decide +kernel
theorem dX9_many_28 : decode cX9_many 28 = .ok (.aload_n 0, 1) := by decide +kernel
theorem dX9_many_29 : decode cX9_many 29 = .ok (.getfield 67, 3) := by decide +kernel
theorem dX9_many_32 : decode cX9_many 32 = .ok (.iload_n 1, 1) := by decide +kernel
theorem dX9_many_33 : decode cX9_many 33 = .ok (.iload_n 2, 1) := by decide +kernel
theorem dX9_many_34 : decode cX9_many 34 = .ok (.invokevirtual 205, 3) := by decide +kernel
theorem dX9_many_37 : decode cX9_many 37 = .ok (.aload_n 0, 1) := by decide +kernel
theorem dX9_many_38 : decode cX9_many 38 = .ok (.getfield 67, 3) := by decide +kernel
theorem dX9_many_41 : decode cX9_many 41 = .ok (.iconst 1, 1) := by decide +kernel
theorem dX9_many_42 : decode cX9_many 42 = .ok (.invokevirtual 197, 3) := by decide +kernel
theorem dX9_many_45 : decode cX9_many 45 = .ok (.iload_n 3, 1) := by decide +kernel
theorem dX9_many_46 : decode cX9_many 46 = .ok (.invokestatic 201, 3) := by decide +kernel
theorem dX9_many_49 : decode cX9_many 49 = .ok (.lreturn, 1) := by decide +kernel
set_option maxRecDepth 20000 in
theorem ggX9_stays_X1_has : GoodIn wsX9_stays wsX1_has := goodIn_r _ [10, 11, 106, 107, 108, 109, 110] (by decide +kernel) (by decide +kernel)
set_option maxRecDepth 20000 in
theorem gX9_stays_X1_has : GoodIn wsX9_stays (wsV RX9 111 RX1 yX1_has wsX1_has) := goodIn_app (goodIn_of _ (by decide +kernel)) ggX9_stays_X1_has
set_option maxRecDepth 20000 in
theorem ggX9_stays_X7_read : GoodIn wsX9_stays wsX7_read := goodIn_r _ [16, 17, 18, 19, 20, 21, 111, 112] (by decide +kernel) (by decide +kernel)
set_option maxRecDepth 20000 in
theorem gX9_stays_X7_read : GoodIn wsX9_stays (wsV RX9 208 RX7 yX7_read wsX7_read) := goodIn_app (goodIn_of _ (by decide +kernel)) ggX9_stays_X7_read
set_option maxRecDepth 20000 in
theorem ggX9_stays_X9_isHalf : GoodIn wsX9_stays wsX9_isHalf := goodIn_r _ [24] (by decide +kernel) (by decide +kernel)
set_option maxRecDepth 20000 in
theorem gX9_stays_X9_isHalf : GoodIn wsX9_stays (va_wsS RX9 188 yX9_isHalf wsX9_isHalf) := goodIn_app (goodIn_of _ (by decide +kernel)) ggX9_stays_X9_isHalf
set_option maxRecDepth 20000 in
theorem ggX9_stays_X6_isIn : GoodIn wsX9_stays wsX6_isIn := goodIn_r _ [29, 30, 31, 32, 7, 8, 9, 10, 11, 113, 114, 115, 116, 106, 107, 108, 109, 110] (by decide +kernel) (by decide +kernel)
set_option maxRecDepth 20000 in
theorem gX9_stays_X6_isIn : GoodIn wsX9_stays (wsV RX9 128 RX6 yX6_isIn wsX6_isIn) := goodIn_app (goodIn_of _ (by decide +kernel)) ggX9_stays_X6_isIn
set_option maxRecDepth 20000 in
theorem ggX9_stays_X9_leastTerms : GoodIn wsX9_stays wsX9_leastTerms := goodIn_r _ [35, 36, 37, 20, 38] (by decide +kernel) (by decide +kernel)
set_option maxRecDepth 20000 in
theorem gX9_stays_X9_leastTerms : GoodIn wsX9_stays (va_wsS RX9 201 yX9_leastTerms wsX9_leastTerms) := goodIn_app (goodIn_of _ (by decide +kernel)) ggX9_stays_X9_leastTerms
set_option maxRecDepth 20000 in
theorem ggX9_stays_X6_leaderOf : GoodIn wsX9_stays wsX6_leaderOf := goodIn_r _ [42, 30, 43, 44, 45, 9, 46, 47, 48, 7, 8, 10, 11, 49, 26, 27, 28, 29, 31, 32, 113, 114, 115, 116, 106, 107, 108, 109, 110] (by decide +kernel) (by decide +kernel)
set_option maxRecDepth 20000 in
theorem gX9_stays_X6_leaderOf : GoodIn wsX9_stays (wsV RX9 131 RX6 yX6_leaderOf wsX6_leaderOf) := goodIn_app (goodIn_of _ (by decide +kernel)) ggX9_stays_X6_leaderOf
set_option maxRecDepth 20000 in
theorem ggX9_stays_X0_leaderStays : GoodIn wsX9_stays wsX0_leaderStays := goodIn_r _ [54, 55, 56, 57, 58, 59, 60, 28, 61, 62, 63, 64, 65, 15, 66, 17, 67, 68, 69, 70, 18, 71, 72, 73, 9, 74, 75, 76, 77, 78, 79, 80, 81, 82, 83, 48, 7, 8, 10, 11, 84, 85, 86, 87, 88, 89, 20, 90, 91, 117, 118, 119, 120, 113, 114, 115, 116, 111, 112, 106, 107, 108, 109, 110] (by decide +kernel) (by decide +kernel)
set_option maxRecDepth 20000 in
theorem gX9_stays_X0_leaderStays : GoodIn wsX9_stays (wsV RX9 212 RX0 yX0_leaderStays wsX0_leaderStays) := goodIn_app (goodIn_of _ (by decide +kernel)) ggX9_stays_X0_leaderStays
set_option maxRecDepth 20000 in
theorem ggX9_stays_X7_length : GoodIn wsX9_stays wsX7_length := goodIn_r _ [66, 17, 111, 112] (by decide +kernel) (by decide +kernel)
set_option maxRecDepth 20000 in
theorem gX9_stays_X7_length : GoodIn wsX9_stays (wsV RX9 215 RX7 yX7_length wsX7_length) := goodIn_app (goodIn_of _ (by decide +kernel)) ggX9_stays_X7_length
set_option maxRecDepth 20000 in
theorem ggX9_stays_X9_powerOfTen : GoodIn wsX9_stays wsX9_powerOfTen := goodIn_r _ [95, 96] (by decide +kernel) (by decide +kernel)
set_option maxRecDepth 20000 in
theorem gX9_stays_X9_powerOfTen : GoodIn wsX9_stays (va_wsS RX9 216 yX9_powerOfTen wsX9_powerOfTen) := goodIn_app (goodIn_of _ (by decide +kernel)) ggX9_stays_X9_powerOfTen
theorem dX9_stays_0 : decode cX9_stays 0 = .ok (.aload_n 0, 1) := by decide +kernel
theorem dX9_stays_1 : decode cX9_stays 1 = .ok (.getfield 28, 3) := by decide +kernel
theorem dX9_stays_4 : decode cX9_stays 4 = .ok (.iload_n 1, 1) := by decide +kernel
theorem dX9_stays_5 : decode cX9_stays 5 = .ok (.invokevirtual 111, 3) := by decide +kernel
theorem dX9_stays_8 : decode cX9_stays 8 = .ok (.ifCond .eq 23, 3) := by decide +kernel
theorem dX9_stays_11 : decode cX9_stays 11 = .ok (.aload_n 0, 1) := by decide +kernel
theorem dX9_stays_12 : decode cX9_stays 12 = .ok (.getfield 58, 3) := by decide +kernel
theorem dX9_stays_15 : decode cX9_stays 15 = .ok (.iload_n 2, 1) := by decide +kernel
theorem dX9_stays_16 : decode cX9_stays 16 = .ok (.bipush 9, 2) := by decide +kernel
theorem dX9_stays_18 : decode cX9_stays 18 = .ok (.invokevirtual 208, 3) := by decide +kernel
theorem dX9_stays_21 : decode cX9_stays 21 = .ok (.ifCond .eq 10, 3) := by decide +kernel
theorem dX9_stays_24 : decode cX9_stays 24 = .ok (.iload_n 3, 1) := by decide +kernel
theorem dX9_stays_25 : decode cX9_stays 25 = .ok (.invokestatic 188, 3) := by decide +kernel
theorem dX9_stays_28 : decode cX9_stays 28 = .ok (.ifCond .ne 7, 3) := by decide +kernel
theorem dX9_stays_31 : decode cX9_stays 31 = .ok (.ldc2_w 191, 3) := by decide +kernel
theorem dX9_stays_34 : decode cX9_stays 34 = .ok (.lreturn, 1) := by decide +kernel
theorem dX9_stays_35 : decode cX9_stays 35 = .ok (.aload_n 0, 1) := by decide +kernel
theorem dX9_stays_36 : decode cX9_stays 36 = .ok (.getfield 37, 3) := by decide +kernel
theorem dX9_stays_39 : decode cX9_stays 39 = .ok (.iload_n 1, 1) := by decide +kernel
theorem dX9_stays_40 : decode cX9_stays 40 = .ok (.invokevirtual 128, 3) := by decide +kernel
theorem dX9_stays_43 : decode cX9_stays 43 = .ok (.ifCond .ne 10, 3) := by decide +kernel
theorem dX9_stays_46 : decode cX9_stays 46 = .ok (.lconst 0, 1) := by decide +kernel
theorem dX9_stays_47 : decode cX9_stays 47 = .ok (.lconst 1, 1) := by decide +kernel
theorem dX9_stays_48 : decode cX9_stays 48 = .ok (.iload_n 3, 1) := by decide +kernel
theorem dX9_stays_49 : decode cX9_stays 49 = .ok (.invokestatic 201, 3) := by decide +kernel
theorem dX9_stays_52 : decode cX9_stays 52 = .ok (.lreturn, 1) := by decide +kernel
theorem dX9_stays_53 : decode cX9_stays 53 = .ok (.aload_n 0, 1) := by decide +kernel
theorem dX9_stays_54 : decode cX9_stays 54 = .ok (.getfield 67, 3) := by decide +kernel
theorem dX9_stays_57 : decode cX9_stays 57 = .ok (.aload_n 0, 1) := by decide +kernel
theorem dX9_stays_58 : decode cX9_stays 58 = .ok (.getfield 37, 3) := by decide +kernel
theorem dX9_stays_61 : decode cX9_stays 61 = .ok (.iload_n 1, 1) := by decide +kernel
theorem dX9_stays_62 : decode cX9_stays 62 = .ok (.invokevirtual 131, 3) := by decide +kernel
theorem dX9_stays_65 : decode cX9_stays 65 = .ok (.invokevirtual 212, 3) := by decide +kernel
theorem dX9_stays_68 : decode cX9_stays 68 = .ok (.aload_n 0, 1) := by decide +kernel
theorem dX9_stays_69 : decode cX9_stays 69 = .ok (.getfield 58, 3) := by decide +kernel
theorem dX9_stays_72 : decode cX9_stays 72 = .ok (.invokevirtual 215, 3) := by decide +kernel
theorem dX9_stays_75 : decode cX9_stays 75 = .ok (.invokestatic 216, 3) := by decide +kernel
theorem dX9_stays_78 : decode cX9_stays 78 = .ok (.iload_n 3, 1) := by decide +kernel
theorem dX9_stays_79 : decode cX9_stays 79 = .ok (.invokestatic 201, 3) := by decide +kernel
theorem dX9_stays_82 : decode cX9_stays 82 = .ok (.lreturn, 1) := by decide +kernel
set_option maxRecDepth 20000 in
theorem ggX9_left_X7_read : GoodIn wsX9_left wsX7_read := goodIn_r _ [8, 9, 10, 11, 12, 13, 129, 130] (by decide +kernel) (by decide +kernel)
set_option maxRecDepth 20000 in
theorem gX9_left_X7_read : GoodIn wsX9_left (wsV RX9 208 RX7 yX7_read wsX7_read) := goodIn_app (goodIn_of _ (by decide +kernel)) ggX9_left_X7_read
set_option maxRecDepth 20000 in
theorem ggX9_left_X9_isHalf : GoodIn wsX9_left wsX9_isHalf := goodIn_r _ [16] (by decide +kernel) (by decide +kernel)
set_option maxRecDepth 20000 in
theorem gX9_left_X9_isHalf : GoodIn wsX9_left (va_wsS RX9 188 yX9_isHalf wsX9_isHalf) := goodIn_app (goodIn_of _ (by decide +kernel)) ggX9_left_X9_isHalf
set_option maxRecDepth 20000 in
theorem ggX9_left_X0_justOneStays : GoodIn wsX9_left wsX0_justOneStays := goodIn_r _ [21, 22, 23, 24, 25, 26, 27, 7, 28, 9, 29, 12, 30, 31, 32, 33, 34, 35, 36, 37, 38, 39, 40, 41, 42, 43, 44, 45, 46, 47, 48, 49, 50, 51, 52, 53, 54, 55, 56, 57, 58, 59, 60, 61, 62, 63, 64, 65, 20, 66, 67, 68, 69, 70, 71, 72, 73, 74, 75, 10, 76, 77, 78, 79, 80, 81, 82, 83, 84, 85, 86, 87, 88, 89, 90, 91, 92, 93, 94, 95, 96, 97, 98, 99, 100, 101, 102, 103, 104, 105, 106, 107, 108, 131, 132, 133, 134, 129, 130, 135, 136, 137, 138, 139, 140, 141, 142, 143] (by decide +kernel) (by decide +kernel)
set_option maxRecDepth 20000 in
theorem gX9_left_X0_justOneStays : GoodIn wsX9_left (wsV RX9 219 RX0 yX0_justOneStays wsX0_justOneStays) := goodIn_app (goodIn_of _ (by decide +kernel)) ggX9_left_X0_justOneStays
set_option maxRecDepth 20000 in
theorem ggX9_left_X7_length : GoodIn wsX9_left wsX7_length := goodIn_r _ [28, 9, 129, 130] (by decide +kernel) (by decide +kernel)
set_option maxRecDepth 20000 in
theorem gX9_left_X7_length : GoodIn wsX9_left (wsV RX9 215 RX7 yX7_length wsX7_length) := goodIn_app (goodIn_of _ (by decide +kernel)) ggX9_left_X7_length
set_option maxRecDepth 20000 in
theorem ggX9_left_X0_lower : GoodIn wsX9_left wsX0_lower := goodIn_r _ [113, 23, 24, 32, 33, 34, 35, 36, 37, 38, 39, 40, 41, 42, 43, 44, 45, 46, 47, 48, 49, 50, 51, 52, 53, 54, 55, 56, 57, 58, 59, 60, 61, 62, 29, 12, 30, 31, 131, 132, 133, 134, 135, 136, 137, 138, 139, 140, 141, 142, 143] (by decide +kernel) (by decide +kernel)
set_option maxRecDepth 20000 in
theorem gX9_left_X0_lower : GoodIn wsX9_left (wsV RX9 197 RX0 yX0_lower wsX0_lower) := goodIn_app (goodIn_of _ (by decide +kernel)) ggX9_left_X0_lower
set_option maxRecDepth 20000 in
theorem ggX9_left_X9_leastTerms : GoodIn wsX9_left wsX9_leastTerms := goodIn_r _ [116, 117, 118, 12, 119] (by decide +kernel) (by decide +kernel)
set_option maxRecDepth 20000 in
theorem gX9_left_X9_leastTerms : GoodIn wsX9_left (va_wsS RX9 201 yX9_leastTerms wsX9_leastTerms) := goodIn_app (goodIn_of _ (by decide +kernel)) ggX9_left_X9_leastTerms
theorem dX9_left_0 : decode cX9_left 0 = .ok (.aload_n 0, 1) := by decide +kernel
theorem dX9_left_1 : decode cX9_left 1 = .ok (.getfield 58, 3) := by decide +kernel
theorem dX9_left_4 : decode cX9_left 4 = .ok (.iload_n 1, 1) := by decide +kernel
theorem dX9_left_5 : decode cX9_left 5 = .ok (.iconst 3, 1) := by decide +kernel
theorem dX9_left_6 : decode cX9_left 6 = .ok (.invokevirtual 208, 3) := by decide +kernel
theorem dX9_left_9 : decode cX9_left 9 = .ok (.ifCond .eq 10, 3) := by decide +kernel
theorem dX9_left_12 : decode cX9_left 12 = .ok (.iload_n 2, 1) := by decide +kernel
theorem dX9_left_13 : decode cX9_left 13 = .ok (.invokestatic 188, 3) := by decide +kernel
theorem dX9_left_16 : decode cX9_left 16 = .ok (.ifCond .ne 7, 3) := by decide +kernel
theorem dX9_left_19 : decode cX9_left 19 = .ok (.ldc2_w 191, 3) := by decide +kernel
theorem dX9_left_22 : decode cX9_left 22 = .ok (.lreturn, 1) := by decide +kernel
theorem dX9_left_23 : decode cX9_left 23 = .ok (.aload_n 0, 1) := by decide +kernel
theorem dX9_left_24 : decode cX9_left 24 = .ok (.getfield 67, 3) := by decide +kernel
theorem dX9_left_27 : decode cX9_left 27 = .ok (.invokevirtual 219, 3) := by decide +kernel
theorem dX9_left_30 : decode cX9_left 30 = .ok (.aload_n 0, 1) := by decide +kernel
theorem dX9_left_31 : decode cX9_left 31 = .ok (.getfield 67, 3) := by decide +kernel
theorem dX9_left_34 : decode cX9_left 34 = .ok (.aload_n 0, 1) := by decide +kernel
theorem dX9_left_35 : decode cX9_left 35 = .ok (.getfield 58, 3) := by decide +kernel
theorem dX9_left_38 : decode cX9_left 38 = .ok (.invokevirtual 215, 3) := by decide +kernel
theorem dX9_left_41 : decode cX9_left 41 = .ok (.invokevirtual 197, 3) := by decide +kernel
theorem dX9_left_44 : decode cX9_left 44 = .ok (.iload_n 2, 1) := by decide +kernel
theorem dX9_left_45 : decode cX9_left 45 = .ok (.invokestatic 201, 3) := by decide +kernel
theorem dX9_left_48 : decode cX9_left 48 = .ok (.lreturn, 1) := by decide +kernel
set_option maxRecDepth 20000 in
theorem ggX9_best_X0_bestRow : GoodIn wsX9_best wsX0_bestRow := goodIn_r _ [6, 7, 8, 9, 10, 5, 11, 12, 13, 14, 15, 16, 17, 18, 19, 20, 21, 22, 23, 24, 25, 26, 27, 28, 29, 30, 31, 32, 33, 34, 35, 36, 37, 38, 39, 40, 41, 42, 43, 44, 45, 46, 47, 48, 49, 50, 51, 52, 53, 54, 55, 56, 57, 58, 59, 60, 61, 62, 63, 64, 65, 66, 67, 68, 69, 70, 71, 72, 73, 74, 75, 76, 77, 78, 79, 80, 81, 82, 83, 84, 85, 86, 87, 88, 89, 90, 91, 92, 93, 94, 95, 96, 97, 98, 99, 100, 101, 102, 103, 104, 105, 106, 107, 108, 109, 110, 111, 121, 122, 123, 124, 125, 126, 127, 128, 129, 130, 131, 132, 133, 134, 135] (by decide +kernel) (by decide +kernel)
set_option maxRecDepth 20000 in
theorem gX9_best_X0_bestRow : GoodIn wsX9_best (wsV RX9 223 RX0 yX0_bestRow wsX0_bestRow) := goodIn_app (goodIn_of _ (by decide +kernel)) ggX9_best_X0_bestRow
theorem dX9_best_0 : decode cX9_best 0 = .ok (.iload_n 1, 1) := by decide +kernel
theorem dX9_best_1 : decode cX9_best 1 = .ok (.ifCond .lt 8, 3) := by decide +kernel
theorem dX9_best_4 : decode cX9_best 4 = .ok (.iload_n 1, 1) := by decide +kernel
theorem dX9_best_5 : decode cX9_best 5 = .ok (.iconst 3, 1) := by decide +kernel
theorem dX9_best_6 : decode cX9_best 6 = .ok (.if_icmp .le 5, 3) := by decide +kernel
theorem dX9_best_9 : decode cX9_best 9 = .ok (.iconst (-1), 1) := by decide +kernel
theorem dX9_best_10 : decode cX9_best 10 = .ok (.ireturn, 1) := by decide +kernel
theorem dX9_best_11 : decode cX9_best 11 = .ok (.aload_n 0, 1) := by decide +kernel
theorem dX9_best_12 : decode cX9_best 12 = .ok (.getfield 67, 3) := by decide +kernel
theorem dX9_best_15 : decode cX9_best 15 = .ok (.iload_n 1, 1) := by decide +kernel
theorem dX9_best_16 : decode cX9_best 16 = .ok (.invokevirtual 223, 3) := by decide +kernel
theorem dX9_best_19 : decode cX9_best 19 = .ok (.ireturn, 1) := by decide +kernel
set_option maxRecDepth 20000 in
theorem ggX9_lure_X1_has : GoodIn wsX9_lure wsX1_has := goodIn_r _ [7, 8, 64, 65, 66, 67, 68] (by decide +kernel) (by decide +kernel)
set_option maxRecDepth 20000 in
theorem gX9_lure_X1_has : GoodIn wsX9_lure (wsV RX9 111 RX1 yX1_has wsX1_has) := goodIn_app (goodIn_of _ (by decide +kernel)) ggX9_lure_X1_has
set_option maxRecDepth 20000 in
theorem ggX9_lure_X6_isIn : GoodIn wsX9_lure wsX6_isIn := goodIn_r _ [13, 14, 15, 16, 4, 5, 6, 7, 8, 69, 70, 71, 72, 64, 65, 66, 67, 68] (by decide +kernel) (by decide +kernel)
set_option maxRecDepth 20000 in
theorem gX9_lure_X6_isIn : GoodIn wsX9_lure (wsV RX9 128 RX6 yX6_isIn wsX6_isIn) := goodIn_app (goodIn_of _ (by decide +kernel)) ggX9_lure_X6_isIn
set_option maxRecDepth 20000 in
theorem ggX9_lure_X6_fewestSaidAhead : GoodIn wsX9_lure wsX6_fewestSaidAhead := goodIn_r _ [20, 21, 14, 22, 23, 24, 12, 25, 26, 27, 28, 6, 29, 30, 31, 4, 5, 7, 8, 32, 10, 11, 13, 15, 16, 33, 34, 35, 36, 37, 38, 39, 40, 41, 42, 43, 44, 45, 46, 47, 48, 49, 50, 51, 52, 53, 54, 69, 70, 71, 72, 64, 65, 66, 67, 68] (by decide +kernel) (by decide +kernel)
set_option maxRecDepth 20000 in
theorem gX9_lure_X6_fewestSaidAhead : GoodIn wsX9_lure (wsV RX9 226 RX6 yX6_fewestSaidAhead wsX6_fewestSaidAhead) := goodIn_app (goodIn_of _ (by decide +kernel)) ggX9_lure_X6_fewestSaidAhead
theorem dX9_lure_0 : decode cX9_lure 0 = .ok (.aload_n 0, 1) := by decide +kernel
theorem dX9_lure_1 : decode cX9_lure 1 = .ok (.getfield 28, 3) := by decide +kernel
theorem dX9_lure_4 : decode cX9_lure 4 = .ok (.iload_n 1, 1) := by decide +kernel
theorem dX9_lure_5 : decode cX9_lure 5 = .ok (.invokevirtual 111, 3) := by decide +kernel
theorem dX9_lure_8 : decode cX9_lure 8 = .ok (.ifCond .eq 13, 3) := by decide +kernel
theorem dX9_lure_11 : decode cX9_lure 11 = .ok (.iload_n 2, 1) := by decide +kernel
theorem dX9_lure_12 : decode cX9_lure 12 = .ok (.ifCond .lt 9, 3) := by decide +kernel
theorem dX9_lure_15 : decode cX9_lure 15 = .ok (.iload_n 2, 1) := by decide +kernel
theorem dX9_lure_16 : decode cX9_lure 16 = .ok (.bipush 10, 2) := by decide +kernel
theorem dX9_lure_18 : decode cX9_lure 18 = .ok (.if_icmp .le 5, 3) := by decide +kernel
theorem dX9_lure_21 : decode cX9_lure 21 = .ok (.iconst (-1), 1) := by decide +kernel
theorem dX9_lure_22 : decode cX9_lure 22 = .ok (.ireturn, 1) := by decide +kernel
theorem dX9_lure_23 : decode cX9_lure 23 = .ok (.aload_n 0, 1) := by decide +kernel
theorem dX9_lure_24 : decode cX9_lure 24 = .ok (.getfield 37, 3) := by decide +kernel
theorem dX9_lure_27 : decode cX9_lure 27 = .ok (.iload_n 1, 1) := by decide +kernel
theorem dX9_lure_28 : decode cX9_lure 28 = .ok (.invokevirtual 128, 3) := by decide +kernel
theorem dX9_lure_31 : decode cX9_lure 31 = .ok (.ifCond .eq 15, 3) := by decide +kernel
theorem dX9_lure_34 : decode cX9_lure 34 = .ok (.aload_n 0, 1) := by decide +kernel
theorem dX9_lure_35 : decode cX9_lure 35 = .ok (.getfield 37, 3) := by decide +kernel
theorem dX9_lure_38 : decode cX9_lure 38 = .ok (.iload_n 1, 1) := by decide +kernel
theorem dX9_lure_39 : decode cX9_lure 39 = .ok (.iload_n 2, 1) := by decide +kernel
theorem dX9_lure_40 : decode cX9_lure 40 = .ok (.invokevirtual 226, 3) := by decide +kernel
theorem dX9_lure_43 : decode cX9_lure 43 = .ok (.goto 5, 3) := by decide +kernel
theorem dX9_lure_46 : decode cX9_lure 46 = .ok (.bipush (-9), 2) := by decide +kernel
theorem dX9_lure_48 : decode cX9_lure 48 = .ok (.ireturn, 1) := by decide +kernel
set_option maxRecDepth 20000 in
theorem ggX9_could_X1_isSet : GoodIn wsX9_could wsX1_isSet := goodIn_r _ [7, 8, 9, 10, 6, 11, 12, 94, 95, 96, 97, 98] (by decide +kernel) (by decide +kernel)
set_option maxRecDepth 20000 in
theorem gX9_could_X1_isSet : GoodIn wsX9_could (wsV RX9 185 RX1 yX1_isSet wsX1_isSet) := goodIn_app (goodIn_of _ (by decide +kernel)) ggX9_could_X1_isSet
set_option maxRecDepth 20000 in
theorem ggX9_could_X0_ordersThatCould : GoodIn wsX9_could wsX0_ordersThatCould := goodIn_r _ [17, 18, 19, 20, 16, 21, 22, 23, 24, 25, 26, 27, 28, 29, 30, 31, 32, 6, 33, 12, 34, 35, 36, 37, 38, 39, 40, 41, 42, 43, 44, 45, 46, 47, 48, 49, 50, 51, 52, 53, 54, 55, 56, 57, 58, 59, 60, 61, 62, 63, 64, 65, 66, 67, 68, 69, 70, 71, 72, 73, 74, 75, 76, 77, 78, 79, 80, 81, 82, 83, 84, 99, 100, 101, 102, 103, 104, 105, 106, 94, 95, 96, 97, 98] (by decide +kernel) (by decide +kernel)
set_option maxRecDepth 20000 in
theorem gX9_could_X0_ordersThatCould : GoodIn wsX9_could (wsV RX9 230 RX0 yX0_ordersThatCould wsX0_ordersThatCould) := goodIn_app (goodIn_of _ (by decide +kernel)) ggX9_could_X0_ordersThatCould
theorem dX9_could_0 : decode cX9_could 0 = .ok (.aload_n 0, 1) := by decide +kernel
theorem dX9_could_1 : decode cX9_could 1 = .ok (.getfield 28, 3) := by decide +kernel
theorem dX9_could_4 : decode cX9_could 4 = .ok (.iload_n 1, 1) := by decide +kernel
theorem dX9_could_5 : decode cX9_could 5 = .ok (.invokevirtual 185, 3) := by decide +kernel
theorem dX9_could_8 : decode cX9_could 8 = .ok (.ifCond .eq 14, 3) := by decide +kernel
theorem dX9_could_11 : decode cX9_could 11 = .ok (.aload_n 0, 1) := by decide +kernel
theorem dX9_could_12 : decode cX9_could 12 = .ok (.getfield 67, 3) := by decide +kernel
theorem dX9_could_15 : decode cX9_could 15 = .ok (.iload_n 1, 1) := by decide +kernel
theorem dX9_could_16 : decode cX9_could 16 = .ok (.invokevirtual 230, 3) := by decide +kernel
theorem dX9_could_19 : decode cX9_could 19 = .ok (.goto 4, 3) := by decide +kernel
theorem dX9_could_22 : decode cX9_could 22 = .ok (.iconst (-1), 1) := by decide +kernel
theorem dX9_could_23 : decode cX9_could 23 = .ok (.ireturn, 1) := by decide +kernel
set_option maxRecDepth 20000 in
theorem ggX9_likeliest_X1_isSet : GoodIn wsX9_likeliest wsX1_isSet := goodIn_r _ [7, 8, 9, 10, 6, 11, 12, 94, 95, 96, 97, 98] (by decide +kernel) (by decide +kernel)
set_option maxRecDepth 20000 in
theorem gX9_likeliest_X1_isSet : GoodIn wsX9_likeliest (wsV RX9 185 RX1 yX1_isSet wsX1_isSet) := goodIn_app (goodIn_of _ (by decide +kernel)) ggX9_likeliest_X1_isSet
set_option maxRecDepth 20000 in
theorem ggX9_likeliest_X0_likeliestOrder : GoodIn wsX9_likeliest wsX0_likeliestOrder := goodIn_r _ [17, 18, 19, 20, 16, 21, 22, 23, 24, 25, 26, 27, 28, 29, 30, 31, 32, 6, 33, 12, 34, 35, 36, 37, 38, 39, 40, 41, 42, 43, 44, 45, 46, 47, 48, 49, 50, 51, 52, 53, 54, 55, 56, 57, 58, 59, 60, 61, 62, 63, 64, 65, 66, 67, 68, 69, 70, 71, 72, 73, 74, 75, 76, 77, 78, 79, 80, 81, 82, 83, 84, 99, 100, 101, 102, 103, 104, 105, 106, 94, 95, 96, 97, 98] (by decide +kernel) (by decide +kernel)
set_option maxRecDepth 20000 in
theorem gX9_likeliest_X0_likeliestOrder : GoodIn wsX9_likeliest (wsV RX9 233 RX0 yX0_likeliestOrder wsX0_likeliestOrder) := goodIn_app (goodIn_of _ (by decide +kernel)) ggX9_likeliest_X0_likeliestOrder
theorem dX9_likeliest_0 : decode cX9_likeliest 0 = .ok (.aload_n 0, 1) := by decide +kernel
theorem dX9_likeliest_1 : decode cX9_likeliest 1 = .ok (.getfield 28, 3) := by decide +kernel
theorem dX9_likeliest_4 : decode cX9_likeliest 4 = .ok (.iload_n 1, 1) := by decide +kernel
theorem dX9_likeliest_5 : decode cX9_likeliest 5 = .ok (.invokevirtual 185, 3) := by decide +kernel
theorem dX9_likeliest_8 : decode cX9_likeliest 8 = .ok (.ifCond .eq 14, 3) := by decide +kernel
theorem dX9_likeliest_11 : decode cX9_likeliest 11 = .ok (.aload_n 0, 1) := by decide +kernel
theorem dX9_likeliest_12 : decode cX9_likeliest 12 = .ok (.getfield 67, 3) := by decide +kernel
theorem dX9_likeliest_15 : decode cX9_likeliest 15 = .ok (.iload_n 1, 1) := by decide +kernel
theorem dX9_likeliest_16 : decode cX9_likeliest 16 = .ok (.invokevirtual 233, 3) := by decide +kernel
theorem dX9_likeliest_19 : decode cX9_likeliest 19 = .ok (.goto 4, 3) := by decide +kernel
theorem dX9_likeliest_22 : decode cX9_likeliest 22 = .ok (.iconst (-1), 1) := by decide +kernel
theorem dX9_likeliest_23 : decode cX9_likeliest 23 = .ok (.ireturn, 1) := by decide +kernel
set_option maxRecDepth 20000 in
theorem ggX9_rate_X1_has : GoodIn wsX9_rate wsX1_has := goodIn_r _ [8, 9, 95, 96, 97, 98, 99] (by decide +kernel) (by decide +kernel)
set_option maxRecDepth 20000 in
theorem gX9_rate_X1_has : GoodIn wsX9_rate (wsV RX9 111 RX1 yX1_has wsX1_has) := goodIn_app (goodIn_of _ (by decide +kernel)) ggX9_rate_X1_has
set_option maxRecDepth 20000 in
theorem ggX9_rate_X4_rateAs : GoodIn wsX9_rate wsX4_rateAs := goodIn_r _ [14, 15, 16, 17, 18, 13, 19, 20, 21, 22, 23, 24, 7, 25, 26, 27, 5, 6, 8, 9, 28, 29, 30, 31, 32, 33, 34, 35, 36, 37, 38, 39, 40, 41, 42, 43, 44, 45, 46, 47, 48, 49, 50, 51, 52, 53, 54, 55, 56, 57, 58, 59, 60, 61, 62, 63, 64, 65, 66, 67, 68, 69, 70, 71, 72, 73, 74, 75, 76, 77, 78, 79, 80, 81, 82, 83, 84, 85, 100, 101, 102, 95, 96, 97, 98, 99, 103, 104, 105, 106] (by decide +kernel) (by decide +kernel)
set_option maxRecDepth 20000 in
theorem gX9_rate_X4_rateAs : GoodIn wsX9_rate (wsV RX9 236 RX4 yX4_rateAs wsX4_rateAs) := goodIn_app (goodIn_of _ (by decide +kernel)) ggX9_rate_X4_rateAs
theorem dX9_rate_0 : decode cX9_rate 0 = .ok (.aload_n 0, 1) := by decide +kernel
theorem dX9_rate_1 : decode cX9_rate 1 = .ok (.getfield 28, 3) := by decide +kernel
theorem dX9_rate_4 : decode cX9_rate 4 = .ok (.iload_n 2, 1) := by decide +kernel
theorem dX9_rate_5 : decode cX9_rate 5 = .ok (.invokevirtual 111, 3) := by decide +kernel
theorem dX9_rate_8 : decode cX9_rate 8 = .ok (.ifCond .eq 15, 3) := by decide +kernel
theorem dX9_rate_11 : decode cX9_rate 11 = .ok (.aload_n 0, 1) := by decide +kernel
theorem dX9_rate_12 : decode cX9_rate 12 = .ok (.getfield 76, 3) := by decide +kernel
theorem dX9_rate_15 : decode cX9_rate 15 = .ok (.iload_n 1, 1) := by decide +kernel
theorem dX9_rate_16 : decode cX9_rate 16 = .ok (.iload_n 2, 1) := by decide +kernel
theorem dX9_rate_17 : decode cX9_rate 17 = .ok (.invokevirtual 236, 3) := by decide +kernel
theorem dX9_rate_20 : decode cX9_rate 20 = .ok (.goto 5, 3) := by decide +kernel
theorem dX9_rate_23 : decode cX9_rate 23 = .ok (.ldc 239, 2) := by decide +kernel
theorem dX9_rate_25 : decode cX9_rate 25 = .ok (.ireturn, 1) := by decide +kernel
set_option maxRecDepth 20000 in
theorem ggX9_keep_X9_isImage : GoodIn wsX9_keep wsX9_isImage := goodIn_r _ [6] (by decide +kernel) (by decide +kernel)
set_option maxRecDepth 20000 in
theorem gX9_keep_X9_isImage : GoodIn wsX9_keep (va_wsS RX9 240 yX9_isImage wsX9_isImage) := goodIn_app (goodIn_of _ (by decide +kernel)) ggX9_keep_X9_isImage
set_option maxRecDepth 20000 in
theorem ggX9_keep_X3_take : GoodIn wsX9_keep wsX3_take := goodIn_r _ [11, 12, 13, 14, 15, 16, 17, 18, 19, 20, 21, 22, 23, 24, 25, 26, 27, 28, 29, 30, 31, 52, 53, 54, 55, 56, 57, 58, 59] (by decide +kernel) (by decide +kernel)
set_option maxRecDepth 20000 in
theorem gX9_keep_X3_take : GoodIn wsX9_keep (wsV RX9 243 RX3 yX3_take wsX3_take) := goodIn_app (goodIn_of _ (by decide +kernel)) ggX9_keep_X3_take
set_option maxRecDepth 20000 in
theorem ggX9_keep_X6_howManyIn : GoodIn wsX9_keep wsX6_howManyIn := goodIn_r _ [35, 21, 36, 37, 38, 39, 40, 41, 42, 56, 57, 58, 59] (by decide +kernel) (by decide +kernel)
set_option maxRecDepth 20000 in
theorem gX9_keep_X6_howManyIn : GoodIn wsX9_keep (wsV RX9 164 RX6 yX6_howManyIn wsX6_howManyIn) := goodIn_app (goodIn_of _ (by decide +kernel)) ggX9_keep_X6_howManyIn
theorem dX9_keep_0 : decode cX9_keep 0 = .ok (.iload_n 1, 1) := by decide +kernel
theorem dX9_keep_1 : decode cX9_keep 1 = .ok (.invokestatic 240, 3) := by decide +kernel
theorem dX9_keep_4 : decode cX9_keep 4 = .ok (.ifCond .ne 5, 3) := by decide +kernel
theorem dX9_keep_7 : decode cX9_keep 7 = .ok (.iconst (-1), 1) := by decide +kernel
theorem dX9_keep_8 : decode cX9_keep 8 = .ok (.ireturn, 1) := by decide +kernel
theorem dX9_keep_9 : decode cX9_keep 9 = .ok (.aload_n 0, 1) := by decide +kernel
theorem dX9_keep_10 : decode cX9_keep 10 = .ok (.getfield 50, 3) := by decide +kernel
theorem dX9_keep_13 : decode cX9_keep 13 = .ok (.iload_n 1, 1) := by decide +kernel
theorem dX9_keep_14 : decode cX9_keep 14 = .ok (.aaload, 1) := by decide +kernel
theorem dX9_keep_15 : decode cX9_keep 15 = .ok (.aload_n 0, 1) := by decide +kernel
theorem dX9_keep_16 : decode cX9_keep 16 = .ok (.getfield 37, 3) := by decide +kernel
theorem dX9_keep_19 : decode cX9_keep 19 = .ok (.invokevirtual 243, 3) := by decide +kernel
theorem dX9_keep_22 : decode cX9_keep 22 = .ok (.aload_n 0, 1) := by decide +kernel
theorem dX9_keep_23 : decode cX9_keep 23 = .ok (.getfield 37, 3) := by decide +kernel
theorem dX9_keep_26 : decode cX9_keep 26 = .ok (.invokevirtual 164, 3) := by decide +kernel
theorem dX9_keep_29 : decode cX9_keep 29 = .ok (.ireturn, 1) := by decide +kernel
set_option maxRecDepth 20000 in
theorem ggX9_back_X9_isImage : GoodIn wsX9_back wsX9_isImage := goodIn_r _ [7] (by decide +kernel) (by decide +kernel)
set_option maxRecDepth 20000 in
theorem gX9_back_X9_isImage : GoodIn wsX9_back (va_wsS RX9 240 yX9_isImage wsX9_isImage) := goodIn_app (goodIn_of _ (by decide +kernel)) ggX9_back_X9_isImage
set_option maxRecDepth 20000 in
theorem ggX9_back_X3_isKept : GoodIn wsX9_back wsX3_isKept := goodIn_r _ [12, 13, 59, 60, 61, 62] (by decide +kernel) (by decide +kernel)
set_option maxRecDepth 20000 in
theorem gX9_back_X3_isKept : GoodIn wsX9_back (wsV RX9 247 RX3 yX3_isKept wsX3_isKept) := goodIn_app (goodIn_of _ (by decide +kernel)) ggX9_back_X3_isKept
set_option maxRecDepth 20000 in
theorem ggX9_back_X3_giveTo : GoodIn wsX9_back wsX3_giveTo := goodIn_r _ [17, 18, 19, 20, 21, 22, 23, 24, 25, 26, 27, 28, 29, 30, 31, 32, 59, 60, 61, 62, 63, 64, 65, 66] (by decide +kernel) (by decide +kernel)
set_option maxRecDepth 20000 in
theorem gX9_back_X3_giveTo : GoodIn wsX9_back (wsV RX9 250 RX3 yX3_giveTo wsX3_giveTo) := goodIn_app (goodIn_of _ (by decide +kernel)) ggX9_back_X3_giveTo
set_option maxRecDepth 20000 in
theorem ggX9_back_X2_forget : GoodIn wsX9_back wsX2_forget := goodIn_r _ [37, 38, 67, 68, 69] (by decide +kernel) (by decide +kernel)
set_option maxRecDepth 20000 in
theorem gX9_back_X2_forget : GoodIn wsX9_back (wsV RX9 107 RX2 yX2_forget wsX2_forget) := goodIn_app (goodIn_of _ (by decide +kernel)) ggX9_back_X2_forget
set_option maxRecDepth 20000 in
theorem ggX9_back_X6_howManyIn : GoodIn wsX9_back wsX6_howManyIn := goodIn_r _ [42, 26, 43, 44, 45, 46, 47, 48, 49, 63, 64, 65, 66] (by decide +kernel) (by decide +kernel)
set_option maxRecDepth 20000 in
theorem gX9_back_X6_howManyIn : GoodIn wsX9_back (wsV RX9 164 RX6 yX6_howManyIn wsX6_howManyIn) := goodIn_app (goodIn_of _ (by decide +kernel)) ggX9_back_X6_howManyIn
theorem dX9_back_0 : decode cX9_back 0 = .ok (.iload_n 1, 1) := by decide +kernel
theorem dX9_back_1 : decode cX9_back 1 = .ok (.invokestatic 240, 3) := by decide +kernel
theorem dX9_back_4 : decode cX9_back 4 = .ok (.ifCond .ne 5, 3) := by decide +kernel
theorem dX9_back_7 : decode cX9_back 7 = .ok (.iconst (-1), 1) := by decide +kernel
theorem dX9_back_8 : decode cX9_back 8 = .ok (.ireturn, 1) := by decide +kernel
theorem dX9_back_9 : decode cX9_back 9 = .ok (.aload_n 0, 1) := by decide +kernel
theorem dX9_back_10 : decode cX9_back 10 = .ok (.getfield 50, 3) := by decide +kernel
theorem dX9_back_13 : decode cX9_back 13 = .ok (.iload_n 1, 1) := by decide +kernel
theorem dX9_back_14 : decode cX9_back 14 = .ok (.aaload, 1) := by decide +kernel
theorem dX9_back_15 : decode cX9_back 15 = .ok (.invokevirtual 247, 3) := by decide +kernel
theorem dX9_back_18 : decode cX9_back 18 = .ok (.ifCond .ne 6, 3) := by decide +kernel
theorem dX9_back_21 : decode cX9_back 21 = .ok (.bipush (-2), 2) := by decide +kernel
theorem dX9_back_23 : decode cX9_back 23 = .ok (.ireturn, 1) := by decide +kernel
theorem dX9_back_24 : decode cX9_back 24 = .ok (.aload_n 0, 1) := by decide +kernel
theorem dX9_back_25 : decode cX9_back 25 = .ok (.getfield 50, 3) := by decide +kernel
theorem dX9_back_28 : decode cX9_back 28 = .ok (.iload_n 1, 1) := by decide +kernel
theorem dX9_back_29 : decode cX9_back 29 = .ok (.aaload, 1) := by decide +kernel
theorem dX9_back_30 : decode cX9_back 30 = .ok (.aload_n 0, 1) := by decide +kernel
theorem dX9_back_31 : decode cX9_back 31 = .ok (.getfield 37, 3) := by decide +kernel
theorem dX9_back_34 : decode cX9_back 34 = .ok (.invokevirtual 250, 3) := by decide +kernel
theorem dX9_back_37 : decode cX9_back 37 = .ok (.aload_n 0, 1) := by decide +kernel
theorem dX9_back_38 : decode cX9_back 38 = .ok (.getfield 44, 3) := by decide +kernel
theorem dX9_back_41 : decode cX9_back 41 = .ok (.invokevirtual 107, 3) := by decide +kernel
theorem dX9_back_44 : decode cX9_back 44 = .ok (.aload_n 0, 1) := by decide +kernel
theorem dX9_back_45 : decode cX9_back 45 = .ok (.getfield 37, 3) := by decide +kernel
theorem dX9_back_48 : decode cX9_back 48 = .ok (.invokevirtual 164, 3) := by decide +kernel
theorem dX9_back_51 : decode cX9_back 51 = .ok (.ireturn, 1) := by decide +kernel
set_option maxRecDepth 20000 in
theorem ggX9_count_X1_size : GoodIn wsX9_count wsX1_size := goodIn_r _ [8, 9, 44, 45, 46, 47, 48] (by decide +kernel) (by decide +kernel)
set_option maxRecDepth 20000 in
theorem gX9_count_X1_size : GoodIn wsX9_count (wsV RX9 253 RX1 yX1_size wsX1_size) := goodIn_app (goodIn_of _ (by decide +kernel)) ggX9_count_X1_size
set_option maxRecDepth 20000 in
theorem ggX9_count_X1_littleOnes : GoodIn wsX9_count wsX1_littleOnes := goodIn_r _ [13, 14, 44, 45, 46, 47, 48] (by decide +kernel) (by decide +kernel)
set_option maxRecDepth 20000 in
theorem gX9_count_X1_littleOnes : GoodIn wsX9_count (wsV RX9 254 RX1 yX1_littleOnes wsX1_littleOnes) := goodIn_app (goodIn_of _ (by decide +kernel)) ggX9_count_X1_littleOnes
set_option maxRecDepth 20000 in
theorem ggX9_count_J6_bitCount_0f7a4 : GoodIn wsX9_count wsJ6_bitCount_0f7a4 := goodIn_r _ [18, 19, 20, 21] (by decide +kernel) (by decide +kernel)
set_option maxRecDepth 20000 in
theorem gX9_count_J6_bitCount_0f7a4 : GoodIn wsX9_count (va_wsS RX9 257 yJ6_bitCount_0f7a4 wsJ6_bitCount_0f7a4) := goodIn_app (goodIn_of _ (by decide +kernel)) ggX9_count_J6_bitCount_0f7a4
set_option maxRecDepth 20000 in
theorem ggX9_count_X6_howManyIn : GoodIn wsX9_count wsX6_howManyIn := goodIn_r _ [26, 27, 28, 16, 17, 18, 19, 20, 21, 49, 50, 51, 52] (by decide +kernel) (by decide +kernel)
set_option maxRecDepth 20000 in
theorem gX9_count_X6_howManyIn : GoodIn wsX9_count (wsV RX9 164 RX6 yX6_howManyIn wsX6_howManyIn) := goodIn_app (goodIn_of _ (by decide +kernel)) ggX9_count_X6_howManyIn
set_option maxRecDepth 20000 in
theorem ggX9_count_X8_length : GoodIn wsX9_count wsX8_length := goodIn_r _ [33, 34, 53, 54] (by decide +kernel) (by decide +kernel)
set_option maxRecDepth 20000 in
theorem gX9_count_X8_length : GoodIn wsX9_count (wsV RX9 80 RX8 yX8_length wsX8_length) := goodIn_app (goodIn_of _ (by decide +kernel)) ggX9_count_X8_length
theorem dX9_count_0 : decode cX9_count 0 = .ok (.iload_n 1, 1) := by decide +kernel
theorem dX9_count_1 : decode cX9_count 1 = .ok (.tableswitch 66 0 3 #[31, 39, 50, 58], 31) := by decide +kernel
theorem dX9_count_32 : decode cX9_count 32 = .ok (.aload_n 0, 1) := by decide +kernel
theorem dX9_count_33 : decode cX9_count 33 = .ok (.getfield 28, 3) := by decide +kernel
theorem dX9_count_36 : decode cX9_count 36 = .ok (.invokevirtual 253, 3) := by decide +kernel
theorem dX9_count_39 : decode cX9_count 39 = .ok (.ireturn, 1) := by decide +kernel
theorem dX9_count_40 : decode cX9_count 40 = .ok (.aload_n 0, 1) := by decide +kernel
theorem dX9_count_41 : decode cX9_count 41 = .ok (.getfield 28, 3) := by decide +kernel
theorem dX9_count_44 : decode cX9_count 44 = .ok (.invokevirtual 254, 3) := by decide +kernel
theorem dX9_count_47 : decode cX9_count 47 = .ok (.invokestatic 257, 3) := by decide +kernel
theorem dX9_count_50 : decode cX9_count 50 = .ok (.ireturn, 1) := by decide +kernel
theorem dX9_count_51 : decode cX9_count 51 = .ok (.aload_n 0, 1) := by decide +kernel
theorem dX9_count_52 : decode cX9_count 52 = .ok (.getfield 37, 3) := by decide +kernel
theorem dX9_count_55 : decode cX9_count 55 = .ok (.invokevirtual 164, 3) := by decide +kernel
theorem dX9_count_58 : decode cX9_count 58 = .ok (.ireturn, 1) := by decide +kernel
theorem dX9_count_59 : decode cX9_count 59 = .ok (.aload_n 0, 1) := by decide +kernel
theorem dX9_count_60 : decode cX9_count 60 = .ok (.getfield 10, 3) := by decide +kernel
theorem dX9_count_63 : decode cX9_count 63 = .ok (.invokevirtual 80, 3) := by decide +kernel
theorem dX9_count_66 : decode cX9_count 66 = .ok (.ireturn, 1) := by decide +kernel
theorem dX9_count_67 : decode cX9_count 67 = .ok (.iconst (-1), 1) := by decide +kernel
theorem dX9_count_68 : decode cX9_count 68 = .ok (.ireturn, 1) := by decide +kernel
set_option maxRecDepth 20000 in
theorem ggX9_trace_X4_theTrace : GoodIn wsX9_trace wsX4_theTrace := goodIn_r _ [6, 7, 17, 18, 19] (by decide +kernel) (by decide +kernel)
set_option maxRecDepth 20000 in
theorem gX9_trace_X4_theTrace : GoodIn wsX9_trace (wsV RX9 262 RX4 yX4_theTrace wsX4_theTrace) := goodIn_app (goodIn_of _ (by decide +kernel)) ggX9_trace_X4_theTrace
theorem dX9_trace_0 : decode cX9_trace 0 = .ok (.aload_n 0, 1) := by decide +kernel
theorem dX9_trace_1 : decode cX9_trace 1 = .ok (.getfield 76, 3) := by decide +kernel
theorem dX9_trace_4 : decode cX9_trace 4 = .ok (.invokevirtual 262, 3) := by decide +kernel
theorem dX9_trace_7 : decode cX9_trace 7 = .ok (.lreturn, 1) := by decide +kernel
theorem dX9_isOrder_0 : decode cX9_isOrder 0 = .ok (.iload_n 0, 1) := by decide +kernel
theorem dX9_isOrder_1 : decode cX9_isOrder 1 = .ok (.iconst 1, 1) := by decide +kernel
theorem dX9_isOrder_2 : decode cX9_isOrder 2 = .ok (.if_icmp .lt 12, 3) := by decide +kernel
theorem dX9_isOrder_5 : decode cX9_isOrder 5 = .ok (.iload_n 0, 1) := by decide +kernel
theorem dX9_isOrder_6 : decode cX9_isOrder 6 = .ok (.iconst 4, 1) := by decide +kernel
theorem dX9_isOrder_7 : decode cX9_isOrder 7 = .ok (.if_icmp .gt 7, 3) := by decide +kernel
theorem dX9_isOrder_10 : decode cX9_isOrder 10 = .ok (.iconst 1, 1) := by decide +kernel
theorem dX9_isOrder_11 : decode cX9_isOrder 11 = .ok (.goto 4, 3) := by decide +kernel
theorem dX9_isOrder_14 : decode cX9_isOrder 14 = .ok (.iconst 0, 1) := by decide +kernel
theorem dX9_isOrder_15 : decode cX9_isOrder 15 = .ok (.ireturn, 1) := by decide +kernel
theorem dX9_isImage_0 : decode cX9_isImage 0 = .ok (.iload_n 0, 1) := by decide +kernel
theorem dX9_isImage_1 : decode cX9_isImage 1 = .ok (.ifCond .lt 12, 3) := by decide +kernel
theorem dX9_isImage_4 : decode cX9_isImage 4 = .ok (.iload_n 0, 1) := by decide +kernel
theorem dX9_isImage_5 : decode cX9_isImage 5 = .ok (.iconst 2, 1) := by decide +kernel
theorem dX9_isImage_6 : decode cX9_isImage 6 = .ok (.if_icmp .ge 7, 3) := by decide +kernel
theorem dX9_isImage_9 : decode cX9_isImage 9 = .ok (.iconst 1, 1) := by decide +kernel
theorem dX9_isImage_10 : decode cX9_isImage 10 = .ok (.goto 4, 3) := by decide +kernel
theorem dX9_isImage_13 : decode cX9_isImage 13 = .ok (.iconst 0, 1) := by decide +kernel
theorem dX9_isImage_14 : decode cX9_isImage 14 = .ok (.ireturn, 1) := by decide +kernel
theorem dX9_isHalf_0 : decode cX9_isHalf 0 = .ok (.iload_n 0, 1) := by decide +kernel
theorem dX9_isHalf_1 : decode cX9_isHalf 1 = .ok (.ifCond .eq 8, 3) := by decide +kernel
theorem dX9_isHalf_4 : decode cX9_isHalf 4 = .ok (.iload_n 0, 1) := by decide +kernel
theorem dX9_isHalf_5 : decode cX9_isHalf 5 = .ok (.iconst 1, 1) := by decide +kernel
theorem dX9_isHalf_6 : decode cX9_isHalf 6 = .ok (.if_icmp .ne 7, 3) := by decide +kernel
theorem dX9_isHalf_9 : decode cX9_isHalf 9 = .ok (.iconst 1, 1) := by decide +kernel
theorem dX9_isHalf_10 : decode cX9_isHalf 10 = .ok (.goto 4, 3) := by decide +kernel
theorem dX9_isHalf_13 : decode cX9_isHalf 13 = .ok (.iconst 0, 1) := by decide +kernel
theorem dX9_isHalf_14 : decode cX9_isHalf 14 = .ok (.ireturn, 1) := by decide +kernel
theorem dX9_streakBehind_0 : decode cX9_streakBehind 0 = .ok (.iload_n 0, 1) := by decide +kernel
theorem dX9_streakBehind_1 : decode cX9_streakBehind 1 = .ok (.iconst 1, 1) := by decide +kernel
theorem dX9_streakBehind_2 : decode cX9_streakBehind 2 = .ok (.if_icmp .eq 8, 3) := by decide +kernel
theorem dX9_streakBehind_5 : decode cX9_streakBehind 5 = .ok (.iload_n 0, 1) := by decide +kernel
theorem dX9_streakBehind_6 : decode cX9_streakBehind 6 = .ok (.iconst 4, 1) := by decide +kernel
theorem dX9_streakBehind_7 : decode cX9_streakBehind 7 = .ok (.if_icmp .ne 14, 3) := by decide +kernel
theorem dX9_streakBehind_10 : decode cX9_streakBehind 10 = .ok (.bipush 9, 2) := by decide +kernel
theorem dX9_streakBehind_12 : decode cX9_streakBehind 12 = .ok (.iload_n 1, 1) := by decide +kernel
theorem dX9_streakBehind_13 : decode cX9_streakBehind 13 = .ok (.iconst 1, 1) := by decide +kernel
theorem dX9_streakBehind_14 : decode cX9_streakBehind 14 = .ok (.iadd, 1) := by decide +kernel
theorem dX9_streakBehind_15 : decode cX9_streakBehind 15 = .ok (.invokestatic 265, 3) := by decide +kernel
theorem dX9_streakBehind_18 : decode cX9_streakBehind 18 = .ok (.goto 4, 3) := by decide +kernel
theorem dX9_streakBehind_21 : decode cX9_streakBehind 21 = .ok (.iconst 0, 1) := by decide +kernel
theorem dX9_streakBehind_22 : decode cX9_streakBehind 22 = .ok (.ireturn, 1) := by decide +kernel
theorem dX9_powerOfTen_0 : decode cX9_powerOfTen 0 = .ok (.lconst 1, 1) := by decide +kernel
theorem dX9_powerOfTen_1 : decode cX9_powerOfTen 1 = .ok (.lstore_n 1, 1) := by decide +kernel
theorem dX9_powerOfTen_2 : decode cX9_powerOfTen 2 = .ok (.iconst 0, 1) := by decide +kernel
theorem dX9_powerOfTen_3 : decode cX9_powerOfTen 3 = .ok (.istore_n 3, 1) := by decide +kernel
theorem dX9_powerOfTen_4 : decode cX9_powerOfTen 4 = .ok (.iload_n 3, 1) := by decide +kernel
theorem dX9_powerOfTen_5 : decode cX9_powerOfTen 5 = .ok (.iload_n 0, 1) := by decide +kernel
theorem dX9_powerOfTen_6 : decode cX9_powerOfTen 6 = .ok (.if_icmp .ge 15, 3) := by decide +kernel
theorem dX9_powerOfTen_9 : decode cX9_powerOfTen 9 = .ok (.lload_n 1, 1) := by decide +kernel
theorem dX9_powerOfTen_10 : decode cX9_powerOfTen 10 = .ok (.ldc2_w 270, 3) := by decide +kernel
theorem dX9_powerOfTen_13 : decode cX9_powerOfTen 13 = .ok (.lmul, 1) := by decide +kernel
theorem dX9_powerOfTen_14 : decode cX9_powerOfTen 14 = .ok (.lstore_n 1, 1) := by decide +kernel
theorem dX9_powerOfTen_15 : decode cX9_powerOfTen 15 = .ok (.iinc 3 1, 3) := by decide +kernel
theorem dX9_powerOfTen_18 : decode cX9_powerOfTen 18 = .ok (.goto (-14), 3) := by decide +kernel
theorem dX9_powerOfTen_21 : decode cX9_powerOfTen 21 = .ok (.lload_n 1, 1) := by decide +kernel
theorem dX9_powerOfTen_22 : decode cX9_powerOfTen 22 = .ok (.lreturn, 1) := by decide +kernel
set_option maxRecDepth 20000 in
theorem ggX9_leastTerms_X9_greatestDivisor : GoodIn wsX9_leastTerms wsX9_greatestDivisor := goodIn_r _ [4] (by decide +kernel) (by decide +kernel)
set_option maxRecDepth 20000 in
theorem gX9_leastTerms_X9_greatestDivisor : GoodIn wsX9_leastTerms (va_wsS RX9 272 yX9_greatestDivisor wsX9_greatestDivisor) := goodIn_app (goodIn_of _ (by decide +kernel)) ggX9_leastTerms_X9_greatestDivisor
theorem dX9_leastTerms_0 : decode cX9_leastTerms 0 = .ok (.lload_n 0, 1) := by decide +kernel
theorem dX9_leastTerms_1 : decode cX9_leastTerms 1 = .ok (.lload_n 2, 1) := by decide +kernel
theorem dX9_leastTerms_2 : decode cX9_leastTerms 2 = .ok (.invokestatic 272, 3) := by decide +kernel
theorem dX9_leastTerms_5 : decode cX9_leastTerms 5 = .ok (.lstore 5, 2) := by decide +kernel
theorem dX9_leastTerms_7 : decode cX9_leastTerms 7 = .ok (.iload 4, 2) := by decide +kernel
theorem dX9_leastTerms_9 : decode cX9_leastTerms 9 = .ok (.ifCond .ne 7, 3) := by decide +kernel
theorem dX9_leastTerms_12 : decode cX9_leastTerms 12 = .ok (.lload_n 0, 1) := by decide +kernel
theorem dX9_leastTerms_13 : decode cX9_leastTerms 13 = .ok (.goto 4, 3) := by decide +kernel
theorem dX9_leastTerms_16 : decode cX9_leastTerms 16 = .ok (.lload_n 2, 1) := by decide +kernel
theorem dX9_leastTerms_17 : decode cX9_leastTerms 17 = .ok (.lstore 7, 2) := by decide +kernel
theorem dX9_leastTerms_19 : decode cX9_leastTerms 19 = .ok (.lload 5, 2) := by decide +kernel
theorem dX9_leastTerms_21 : decode cX9_leastTerms 21 = .ok (.lconst 1, 1) := by decide +kernel
theorem dX9_leastTerms_22 : decode cX9_leastTerms 22 = .ok (.lcmp, 1) := by decide +kernel
theorem dX9_leastTerms_23 : decode cX9_leastTerms 23 = .ok (.ifCond .le 11, 3) := by decide +kernel
theorem dX9_leastTerms_26 : decode cX9_leastTerms 26 = .ok (.lload 7, 2) := by decide +kernel
theorem dX9_leastTerms_28 : decode cX9_leastTerms 28 = .ok (.lload 5, 2) := by decide +kernel
theorem dX9_leastTerms_30 : decode cX9_leastTerms 30 = .ok (.ldiv, 1) := by decide +kernel
theorem dX9_leastTerms_31 : decode cX9_leastTerms 31 = .ok (.goto 5, 3) := by decide +kernel
theorem dX9_leastTerms_34 : decode cX9_leastTerms 34 = .ok (.lload 7, 2) := by decide +kernel
theorem dX9_leastTerms_36 : decode cX9_leastTerms 36 = .ok (.lreturn, 1) := by decide +kernel
theorem dX9_greatestDivisor_0 : decode cX9_greatestDivisor 0 = .ok (.lload_n 0, 1) := by decide +kernel
theorem dX9_greatestDivisor_1 : decode cX9_greatestDivisor 1 = .ok (.lstore 4, 2) := by decide +kernel
theorem dX9_greatestDivisor_3 : decode cX9_greatestDivisor 3 = .ok (.lload_n 2, 1) := by decide +kernel
theorem dX9_greatestDivisor_4 : decode cX9_greatestDivisor 4 = .ok (.lstore 6, 2) := by decide +kernel
theorem dX9_greatestDivisor_6 : decode cX9_greatestDivisor 6 = .ok (.iconst 0, 1) := by decide +kernel
theorem dX9_greatestDivisor_7 : decode cX9_greatestDivisor 7 = .ok (.istore 8, 2) := by decide +kernel
theorem dX9_greatestDivisor_9 : decode cX9_greatestDivisor 9 = .ok (.iload 8, 2) := by decide +kernel
theorem dX9_greatestDivisor_11 : decode cX9_greatestDivisor 11 = .ok (.sipush 200, 3) := by decide +kernel
theorem dX9_greatestDivisor_14 : decode cX9_greatestDivisor 14 = .ok (.if_icmp .ge 31, 3) := by decide +kernel
theorem dX9_greatestDivisor_17 : decode cX9_greatestDivisor 17 = .ok (.lload 6, 2) := by decide +kernel
theorem dX9_greatestDivisor_19 : decode cX9_greatestDivisor 19 = .ok (.lconst 0, 1) := by decide +kernel
theorem dX9_greatestDivisor_20 : decode cX9_greatestDivisor 20 = .ok (.lcmp, 1) := by decide +kernel
theorem dX9_greatestDivisor_21 : decode cX9_greatestDivisor 21 = .ok (.ifCond .eq 24, 3) := by decide +kernel
theorem dX9_greatestDivisor_24 : decode cX9_greatestDivisor 24 = .ok (.lload 4, 2) := by decide +kernel
theorem dX9_greatestDivisor_26 : decode cX9_greatestDivisor 26 = .ok (.lload 6, 2) := by decide +kernel
theorem dX9_greatestDivisor_28 : decode cX9_greatestDivisor 28 = .ok (.lrem, 1) := by decide +kernel
theorem dX9_greatestDivisor_29 : decode cX9_greatestDivisor 29 = .ok (.lstore 9, 2) := by decide +kernel
theorem dX9_greatestDivisor_31 : decode cX9_greatestDivisor 31 = .ok (.lload 6, 2) := by decide +kernel
theorem dX9_greatestDivisor_33 : decode cX9_greatestDivisor 33 = .ok (.lstore 4, 2) := by decide +kernel
theorem dX9_greatestDivisor_35 : decode cX9_greatestDivisor 35 = .ok (.lload 9, 2) := by decide +kernel
theorem dX9_greatestDivisor_37 : decode cX9_greatestDivisor 37 = .ok (.lstore 6, 2) := by decide +kernel
theorem dX9_greatestDivisor_39 : decode cX9_greatestDivisor 39 = .ok (.iinc 8 1, 3) := by decide +kernel
theorem dX9_greatestDivisor_42 : decode cX9_greatestDivisor 42 = .ok (.goto (-33), 3) := by decide +kernel
theorem dX9_greatestDivisor_45 : decode cX9_greatestDivisor 45 = .ok (.lload 4, 2) := by decide +kernel
theorem dX9_greatestDivisor_47 : decode cX9_greatestDivisor 47 = .ok (.lreturn, 1) := by decide +kernel
end
section
theorem dJ6_bitCount_0f7a4_0 : decode cJ6_bitCount_0f7a4 0 = .ok (.iload_n 0, 1) := by decide +kernel
theorem dJ6_bitCount_0f7a4_1 : decode cJ6_bitCount_0f7a4 1 = .ok (.iload_n 0, 1) := by decide +kernel
theorem dJ6_bitCount_0f7a4_2 : decode cJ6_bitCount_0f7a4 2 = .ok (.iconst 1, 1) := by decide +kernel
theorem dJ6_bitCount_0f7a4_3 : decode cJ6_bitCount_0f7a4 3 = .ok (.iushr, 1) := by decide +kernel
theorem dJ6_bitCount_0f7a4_4 : decode cJ6_bitCount_0f7a4 4 = .ok (.ldc_w 265, 3) := by decide +kernel
theorem dJ6_bitCount_0f7a4_7 : decode cJ6_bitCount_0f7a4 7 = .ok (.iand, 1) := by decide +kernel
theorem dJ6_bitCount_0f7a4_8 : decode cJ6_bitCount_0f7a4 8 = .ok (.isub, 1) := by decide +kernel
theorem dJ6_bitCount_0f7a4_9 : decode cJ6_bitCount_0f7a4 9 = .ok (.istore_n 0, 1) := by decide +kernel
theorem dJ6_bitCount_0f7a4_10 : decode cJ6_bitCount_0f7a4 10 = .ok (.iload_n 0, 1) := by decide +kernel
theorem dJ6_bitCount_0f7a4_11 : decode cJ6_bitCount_0f7a4 11 = .ok (.ldc_w 266, 3) := by decide +kernel
theorem dJ6_bitCount_0f7a4_14 : decode cJ6_bitCount_0f7a4 14 = .ok (.iand, 1) := by decide +kernel
theorem dJ6_bitCount_0f7a4_15 : decode cJ6_bitCount_0f7a4 15 = .ok (.iload_n 0, 1) := by decide +kernel
theorem dJ6_bitCount_0f7a4_16 : decode cJ6_bitCount_0f7a4 16 = .ok (.iconst 2, 1) := by decide +kernel
theorem dJ6_bitCount_0f7a4_17 : decode cJ6_bitCount_0f7a4 17 = .ok (.iushr, 1) := by decide +kernel
theorem dJ6_bitCount_0f7a4_18 : decode cJ6_bitCount_0f7a4 18 = .ok (.ldc_w 266, 3) := by decide +kernel
theorem dJ6_bitCount_0f7a4_21 : decode cJ6_bitCount_0f7a4 21 = .ok (.iand, 1) := by decide +kernel
theorem dJ6_bitCount_0f7a4_22 : decode cJ6_bitCount_0f7a4 22 = .ok (.iadd, 1) := by decide +kernel
theorem dJ6_bitCount_0f7a4_23 : decode cJ6_bitCount_0f7a4 23 = .ok (.istore_n 0, 1) := by decide +kernel
theorem dJ6_bitCount_0f7a4_24 : decode cJ6_bitCount_0f7a4 24 = .ok (.iload_n 0, 1) := by decide +kernel
theorem dJ6_bitCount_0f7a4_25 : decode cJ6_bitCount_0f7a4 25 = .ok (.iload_n 0, 1) := by decide +kernel
theorem dJ6_bitCount_0f7a4_26 : decode cJ6_bitCount_0f7a4 26 = .ok (.iconst 4, 1) := by decide +kernel
theorem dJ6_bitCount_0f7a4_27 : decode cJ6_bitCount_0f7a4 27 = .ok (.iushr, 1) := by decide +kernel
theorem dJ6_bitCount_0f7a4_28 : decode cJ6_bitCount_0f7a4 28 = .ok (.iadd, 1) := by decide +kernel
theorem dJ6_bitCount_0f7a4_29 : decode cJ6_bitCount_0f7a4 29 = .ok (.ldc_w 267, 3) := by decide +kernel
theorem dJ6_bitCount_0f7a4_32 : decode cJ6_bitCount_0f7a4 32 = .ok (.iand, 1) := by decide +kernel
theorem dJ6_bitCount_0f7a4_33 : decode cJ6_bitCount_0f7a4 33 = .ok (.istore_n 0, 1) := by decide +kernel
theorem dJ6_bitCount_0f7a4_34 : decode cJ6_bitCount_0f7a4 34 = .ok (.iload_n 0, 1) := by decide +kernel
theorem dJ6_bitCount_0f7a4_35 : decode cJ6_bitCount_0f7a4 35 = .ok (.iload_n 0, 1) := by decide +kernel
theorem dJ6_bitCount_0f7a4_36 : decode cJ6_bitCount_0f7a4 36 = .ok (.bipush 8, 2) := by decide +kernel
theorem dJ6_bitCount_0f7a4_38 : decode cJ6_bitCount_0f7a4 38 = .ok (.iushr, 1) := by decide +kernel
theorem dJ6_bitCount_0f7a4_39 : decode cJ6_bitCount_0f7a4 39 = .ok (.iadd, 1) := by decide +kernel
theorem dJ6_bitCount_0f7a4_40 : decode cJ6_bitCount_0f7a4 40 = .ok (.istore_n 0, 1) := by decide +kernel
theorem dJ6_bitCount_0f7a4_41 : decode cJ6_bitCount_0f7a4 41 = .ok (.iload_n 0, 1) := by decide +kernel
theorem dJ6_bitCount_0f7a4_42 : decode cJ6_bitCount_0f7a4 42 = .ok (.iload_n 0, 1) := by decide +kernel
theorem dJ6_bitCount_0f7a4_43 : decode cJ6_bitCount_0f7a4 43 = .ok (.bipush 16, 2) := by decide +kernel
theorem dJ6_bitCount_0f7a4_45 : decode cJ6_bitCount_0f7a4 45 = .ok (.iushr, 1) := by decide +kernel
theorem dJ6_bitCount_0f7a4_46 : decode cJ6_bitCount_0f7a4 46 = .ok (.iadd, 1) := by decide +kernel
theorem dJ6_bitCount_0f7a4_47 : decode cJ6_bitCount_0f7a4 47 = .ok (.istore_n 0, 1) := by decide +kernel
theorem dJ6_bitCount_0f7a4_48 : decode cJ6_bitCount_0f7a4 48 = .ok (.iload_n 0, 1) := by decide +kernel
theorem dJ6_bitCount_0f7a4_49 : decode cJ6_bitCount_0f7a4 49 = .ok (.bipush 63, 2) := by decide +kernel
theorem dJ6_bitCount_0f7a4_51 : decode cJ6_bitCount_0f7a4 51 = .ok (.iand, 1) := by decide +kernel
theorem dJ6_bitCount_0f7a4_52 : decode cJ6_bitCount_0f7a4 52 = .ok (.ireturn, 1) := by decide +kernel
theorem dJ9_min_7cf53_0 : decode cJ9_min_7cf53 0 = .ok (.iload_n 0, 1) := by decide +kernel
theorem dJ9_min_7cf53_1 : decode cJ9_min_7cf53 1 = .ok (.iload_n 1, 1) := by decide +kernel
theorem dJ9_min_7cf53_2 : decode cJ9_min_7cf53 2 = .ok (.if_icmp .gt 7, 3) := by decide +kernel
theorem dJ9_min_7cf53_5 : decode cJ9_min_7cf53 5 = .ok (.iload_n 0, 1) := by decide +kernel
theorem dJ9_min_7cf53_6 : decode cJ9_min_7cf53 6 = .ok (.goto 4, 3) := by decide +kernel
theorem dJ9_min_7cf53_9 : decode cJ9_min_7cf53 9 = .ok (.iload_n 1, 1) := by decide +kernel
theorem dJ9_min_7cf53_10 : decode cJ9_min_7cf53 10 = .ok (.ireturn, 1) := by decide +kernel
set_option maxRecDepth 20000 in
theorem ggJ0_length_8abf5_J0_coder_7d493 : GoodIn wsJ0_length_8abf5 wsJ0_coder_7d493 := goodIn_r _ [6, 7, 8] (by decide +kernel) (by decide +kernel)
set_option maxRecDepth 20000 in
theorem gJ0_length_8abf5_J0_coder_7d493 : GoodIn wsJ0_length_8abf5 (wsV RJ0 335 RJ0 yJ0_coder_7d493 wsJ0_coder_7d493) := goodIn_app (goodIn_of _ (by decide +kernel)) ggJ0_length_8abf5_J0_coder_7d493
theorem dJ0_length_8abf5_0 : decode cJ0_length_8abf5 0 = .ok (.aload_n 0, 1) := by decide +kernel
theorem dJ0_length_8abf5_1 : decode cJ0_length_8abf5 1 = .ok (.getfield 9, 3) := by decide +kernel
theorem dJ0_length_8abf5_4 : decode cJ0_length_8abf5 4 = .ok (.arraylength, 1) := by decide +kernel
theorem dJ0_length_8abf5_5 : decode cJ0_length_8abf5 5 = .ok (.aload_n 0, 1) := by decide +kernel
theorem dJ0_length_8abf5_6 : decode cJ0_length_8abf5 6 = .ok (.invokevirtual 335, 3) := by decide +kernel
theorem dJ0_length_8abf5_9 : decode cJ0_length_8abf5 9 = .ok (.ishr, 1) := by decide +kernel
theorem dJ0_length_8abf5_10 : decode cJ0_length_8abf5 10 = .ok (.ireturn, 1) := by decide +kernel
set_option maxRecDepth 20000 in
theorem ggJ0_charAt_5068e_J0_isLatin1_aae02 : GoodIn wsJ0_charAt_5068e wsJ0_isLatin1_aae02 := goodIn_r _ [6, 7, 8] (by decide +kernel) (by decide +kernel)
set_option maxRecDepth 20000 in
theorem gJ0_charAt_5068e_J0_isLatin1_aae02 : GoodIn wsJ0_charAt_5068e (wsV RJ0 492 RJ0 yJ0_isLatin1_aae02 wsJ0_isLatin1_aae02) := goodIn_app (goodIn_of _ (by decide +kernel)) ggJ0_charAt_5068e_J0_isLatin1_aae02
set_option maxRecDepth 20000 in
theorem ggJ0_charAt_5068e_J1_charAt_3b067 : GoodIn wsJ0_charAt_5068e wsJ1_charAt_3b067 := goodIn_r _ [12, 13, 14, 5, 15, 16, 17, 18, 19, 20] (by decide +kernel) (by decide +kernel)
set_option maxRecDepth 20000 in
theorem gJ0_charAt_5068e_J1_charAt_3b067 : GoodIn wsJ0_charAt_5068e (va_wsS RJ0 495 yJ1_charAt_3b067 wsJ1_charAt_3b067) := goodIn_app (goodIn_of _ (by decide +kernel)) ggJ0_charAt_5068e_J1_charAt_3b067
set_option maxRecDepth 20000 in
theorem ggJ0_charAt_5068e_J2_charAt_3b067 : GoodIn wsJ0_charAt_5068e wsJ2_charAt_3b067 := goodIn_r _ [24, 25, 26, 23, 27, 28, 29, 30, 31, 14, 5, 15, 16, 17, 18, 19, 20, 32, 33, 34, 35, 36, 37] (by decide +kernel) (by decide +kernel)
set_option maxRecDepth 20000 in
theorem gJ0_charAt_5068e_J2_charAt_3b067 : GoodIn wsJ0_charAt_5068e (va_wsS RJ0 498 yJ2_charAt_3b067 wsJ2_charAt_3b067) := goodIn_app (goodIn_of _ (by decide +kernel)) ggJ0_charAt_5068e_J2_charAt_3b067
theorem dJ0_charAt_5068e_0 : decode cJ0_charAt_5068e 0 = .ok (.aload_n 0, 1) := by decide +kernel
theorem dJ0_charAt_5068e_1 : decode cJ0_charAt_5068e 1 = .ok (.invokevirtual 492, 3) := by decide +kernel
theorem dJ0_charAt_5068e_4 : decode cJ0_charAt_5068e 4 = .ok (.ifCond .eq 12, 3) := by decide +kernel
theorem dJ0_charAt_5068e_7 : decode cJ0_charAt_5068e 7 = .ok (.aload_n 0, 1) := by decide +kernel
theorem dJ0_charAt_5068e_8 : decode cJ0_charAt_5068e 8 = .ok (.getfield 9, 3) := by decide +kernel
theorem dJ0_charAt_5068e_11 : decode cJ0_charAt_5068e 11 = .ok (.iload_n 1, 1) := by decide +kernel
theorem dJ0_charAt_5068e_12 : decode cJ0_charAt_5068e 12 = .ok (.invokestatic 495, 3) := by decide +kernel
theorem dJ0_charAt_5068e_15 : decode cJ0_charAt_5068e 15 = .ok (.ireturn, 1) := by decide +kernel
theorem dJ0_charAt_5068e_16 : decode cJ0_charAt_5068e 16 = .ok (.aload_n 0, 1) := by decide +kernel
theorem dJ0_charAt_5068e_17 : decode cJ0_charAt_5068e 17 = .ok (.getfield 9, 3) := by decide +kernel
theorem dJ0_charAt_5068e_20 : decode cJ0_charAt_5068e 20 = .ok (.iload_n 1, 1) := by decide +kernel
theorem dJ0_charAt_5068e_21 : decode cJ0_charAt_5068e 21 = .ok (.invokestatic 498, 3) := by decide +kernel
theorem dJ0_charAt_5068e_24 : decode cJ0_charAt_5068e 24 = .ok (.ireturn, 1) := by decide +kernel
theorem dJ0_coder_7d493_0 : decode cJ0_coder_7d493 0 = .ok (.getstatic 38, 3) := by decide +kernel
theorem dJ0_coder_7d493_3 : decode cJ0_coder_7d493 3 = .ok (.ifCond .eq 10, 3) := by decide +kernel
theorem dJ0_coder_7d493_6 : decode cJ0_coder_7d493 6 = .ok (.aload_n 0, 1) := by decide +kernel
theorem dJ0_coder_7d493_7 : decode cJ0_coder_7d493 7 = .ok (.getfield 15, 3) := by decide +kernel
theorem dJ0_coder_7d493_10 : decode cJ0_coder_7d493 10 = .ok (.goto 4, 3) := by decide +kernel
theorem dJ0_coder_7d493_13 : decode cJ0_coder_7d493 13 = .ok (.iconst 1, 1) := by decide +kernel
theorem dJ0_coder_7d493_14 : decode cJ0_coder_7d493 14 = .ok (.ireturn, 1) := by decide +kernel
theorem dJ0_isLatin1_aae02_0 : decode cJ0_isLatin1_aae02 0 = .ok (.getstatic 38, 3) := by decide +kernel
theorem dJ0_isLatin1_aae02_3 : decode cJ0_isLatin1_aae02 3 = .ok (.ifCond .eq 14, 3) := by decide +kernel
theorem dJ0_isLatin1_aae02_6 : decode cJ0_isLatin1_aae02 6 = .ok (.aload_n 0, 1) := by decide +kernel
theorem dJ0_isLatin1_aae02_7 : decode cJ0_isLatin1_aae02 7 = .ok (.getfield 15, 3) := by decide +kernel
theorem dJ0_isLatin1_aae02_10 : decode cJ0_isLatin1_aae02 10 = .ok (.ifCond .ne 7, 3) := by decide +kernel
theorem dJ0_isLatin1_aae02_13 : decode cJ0_isLatin1_aae02 13 = .ok (.iconst 1, 1) := by decide +kernel
theorem dJ0_isLatin1_aae02_14 : decode cJ0_isLatin1_aae02 14 = .ok (.goto 4, 3) := by decide +kernel
theorem dJ0_isLatin1_aae02_17 : decode cJ0_isLatin1_aae02 17 = .ok (.iconst 0, 1) := by decide +kernel
theorem dJ0_isLatin1_aae02_18 : decode cJ0_isLatin1_aae02 18 = .ok (.ireturn, 1) := by decide +kernel
set_option maxRecDepth 20000 in
theorem ggJ0_checkIndex_df160_J3_checkIndex_8e157 : GoodIn wsJ0_checkIndex_df160 wsJ3_checkIndex_8e157 := goodIn_r _ [5] (by decide +kernel) (by decide +kernel)
set_option maxRecDepth 20000 in
theorem gJ0_checkIndex_df160_J3_checkIndex_8e157 : GoodIn wsJ0_checkIndex_df160 (va_wsS RJ0 1059 yJ3_checkIndex_8e157 wsJ3_checkIndex_8e157) := goodIn_app (goodIn_of _ (by decide +kernel)) ggJ0_checkIndex_df160_J3_checkIndex_8e157
theorem dJ0_checkIndex_df160_0 : decode cJ0_checkIndex_df160 0 = .ok (.iload_n 0, 1) := by decide +kernel
theorem dJ0_checkIndex_df160_1 : decode cJ0_checkIndex_df160 1 = .ok (.iload_n 1, 1) := by decide +kernel
theorem dJ0_checkIndex_df160_2 : decode cJ0_checkIndex_df160 2 = .ok (.getstatic 1053, 3) := by decide +kernel
theorem dJ0_checkIndex_df160_5 : decode cJ0_checkIndex_df160 5 = .ok (.invokestatic 1059, 3) := by decide +kernel
theorem dJ0_checkIndex_df160_8 : decode cJ0_checkIndex_df160 8 = .ok (.pop, 1) := by decide +kernel
theorem dJ0_checkIndex_df160_9 : decode cJ0_checkIndex_df160 9 = .ok (.return_, 1) := by decide +kernel
set_option maxRecDepth 20000 in
theorem ggJ1_charAt_3b067_J0_checkIndex_df160 : GoodIn wsJ1_charAt_3b067 wsJ0_checkIndex_df160 := goodIn_r _ [4, 5, 6, 7, 8, 9] (by decide +kernel) (by decide +kernel)
set_option maxRecDepth 20000 in
theorem gJ1_charAt_3b067_J0_checkIndex_df160 : GoodIn wsJ1_charAt_3b067 (va_wsS RJ1 9 yJ0_checkIndex_df160 wsJ0_checkIndex_df160) := goodIn_app (goodIn_of _ (by decide +kernel)) ggJ1_charAt_3b067_J0_checkIndex_df160
theorem dJ1_charAt_3b067_0 : decode cJ1_charAt_3b067 0 = .ok (.iload_n 1, 1) := by decide +kernel
theorem dJ1_charAt_3b067_1 : decode cJ1_charAt_3b067 1 = .ok (.aload_n 0, 1) := by decide +kernel
theorem dJ1_charAt_3b067_2 : decode cJ1_charAt_3b067 2 = .ok (.arraylength, 1) := by decide +kernel
theorem dJ1_charAt_3b067_3 : decode cJ1_charAt_3b067 3 = .ok (.invokestatic 9, 3) := by decide +kernel
theorem dJ1_charAt_3b067_6 : decode cJ1_charAt_3b067 6 = .ok (.aload_n 0, 1) := by decide +kernel
theorem dJ1_charAt_3b067_7 : decode cJ1_charAt_3b067 7 = .ok (.iload_n 1, 1) := by decide +kernel
theorem dJ1_charAt_3b067_8 : decode cJ1_charAt_3b067 8 = .ok (.baload, 1) := by decide +kernel
theorem dJ1_charAt_3b067_9 : decode cJ1_charAt_3b067 9 = .ok (.sipush 255, 3) := by decide +kernel
theorem dJ1_charAt_3b067_12 : decode cJ1_charAt_3b067 12 = .ok (.iand, 1) := by decide +kernel
theorem dJ1_charAt_3b067_13 : decode cJ1_charAt_3b067 13 = .ok (.i2c, 1) := by decide +kernel
theorem dJ1_charAt_3b067_14 : decode cJ1_charAt_3b067 14 = .ok (.ireturn, 1) := by decide +kernel
set_option maxRecDepth 20000 in
theorem ggJ2_getChar_3b067_J2_length_9d52b : GoodIn wsJ2_getChar_3b067 wsJ2_length_9d52b := goodIn_r _ [7] (by decide +kernel) (by decide +kernel)
set_option maxRecDepth 20000 in
theorem gJ2_getChar_3b067_J2_length_9d52b : GoodIn wsJ2_getChar_3b067 (va_wsS RJ2 48 yJ2_length_9d52b wsJ2_length_9d52b) := goodIn_app (goodIn_of _ (by decide +kernel)) ggJ2_getChar_3b067_J2_length_9d52b
theorem dJ2_getChar_3b067_0 : decode cJ2_getChar_3b067 0 = .ok (.getstatic 44, 3) := by decide +kernel
theorem dJ2_getChar_3b067_3 : decode cJ2_getChar_3b067 3 = .ok (.ifCond .ne 25, 3) := by decide +kernel
theorem dJ2_getChar_3b067_6 : decode cJ2_getChar_3b067 6 = .ok (.iload_n 1, 1) := by decide +kernel
theorem dJ2_getChar_3b067_7 : decode cJ2_getChar_3b067 7 = .ok (.ifCond .lt 11, 3) := by decide +kernel
theorem dJ2_getChar_3b067_10 : decode cJ2_getChar_3b067 10 = .ok (.iload_n 1, 1) := by decide +kernel
theorem dJ2_getChar_3b067_11 : decode cJ2_getChar_3b067 11 = .ok (.aload_n 0, 1) := by decide +kernel
theorem dJ2_getChar_3b067_12 : decode cJ2_getChar_3b067 12 = .ok (.invokestatic 48, 3) := by decide +kernel
theorem dJ2_getChar_3b067_15 : decode cJ2_getChar_3b067 15 = .ok (.if_icmp .lt 13, 3) := by decide +kernel
theorem dJ2_getChar_3b067_18 : decode cJ2_getChar_3b067 18 = .ok (.new 52, 3) := by decide +kernel
theorem dJ2_getChar_3b067_21 : decode cJ2_getChar_3b067 21 = .ok (.dup, 1) := by decide +kernel
theorem dJ2_getChar_3b067_22 : decode cJ2_getChar_3b067 22 = .ok (.ldc 54, 2) := by decide +kernel
theorem dJ2_getChar_3b067_24 : decode cJ2_getChar_3b067 24 = .ok (.invokespecial 56, 3) := by decide +kernel
theorem dJ2_getChar_3b067_27 : decode cJ2_getChar_3b067 27 = .ok (.athrow, 1) := by decide +kernel
theorem dJ2_getChar_3b067_28 : decode cJ2_getChar_3b067 28 = .ok (.iload_n 1, 1) := by decide +kernel
theorem dJ2_getChar_3b067_29 : decode cJ2_getChar_3b067 29 = .ok (.iconst 1, 1) := by decide +kernel
theorem dJ2_getChar_3b067_30 : decode cJ2_getChar_3b067 30 = .ok (.ishl, 1) := by decide +kernel
theorem dJ2_getChar_3b067_31 : decode cJ2_getChar_3b067 31 = .ok (.istore_n 1, 1) := by decide +kernel
theorem dJ2_getChar_3b067_32 : decode cJ2_getChar_3b067 32 = .ok (.aload_n 0, 1) := by decide +kernel
theorem dJ2_getChar_3b067_33 : decode cJ2_getChar_3b067 33 = .ok (.iload_n 1, 1) := by decide +kernel
theorem dJ2_getChar_3b067_34 : decode cJ2_getChar_3b067 34 = .ok (.iinc 1 1, 3) := by decide +kernel
theorem dJ2_getChar_3b067_37 : decode cJ2_getChar_3b067 37 = .ok (.baload, 1) := by decide +kernel
theorem dJ2_getChar_3b067_38 : decode cJ2_getChar_3b067 38 = .ok (.sipush 255, 3) := by decide +kernel
theorem dJ2_getChar_3b067_41 : decode cJ2_getChar_3b067 41 = .ok (.iand, 1) := by decide +kernel
theorem dJ2_getChar_3b067_42 : decode cJ2_getChar_3b067 42 = .ok (.getstatic 59, 3) := by decide +kernel
theorem dJ2_getChar_3b067_45 : decode cJ2_getChar_3b067 45 = .ok (.ishl, 1) := by decide +kernel
theorem dJ2_getChar_3b067_46 : decode cJ2_getChar_3b067 46 = .ok (.aload_n 0, 1) := by decide +kernel
theorem dJ2_getChar_3b067_47 : decode cJ2_getChar_3b067 47 = .ok (.iload_n 1, 1) := by decide +kernel
theorem dJ2_getChar_3b067_48 : decode cJ2_getChar_3b067 48 = .ok (.baload, 1) := by decide +kernel
theorem dJ2_getChar_3b067_49 : decode cJ2_getChar_3b067 49 = .ok (.sipush 255, 3) := by decide +kernel
theorem dJ2_getChar_3b067_52 : decode cJ2_getChar_3b067 52 = .ok (.iand, 1) := by decide +kernel
theorem dJ2_getChar_3b067_53 : decode cJ2_getChar_3b067 53 = .ok (.getstatic 63, 3) := by decide +kernel
theorem dJ2_getChar_3b067_56 : decode cJ2_getChar_3b067 56 = .ok (.ishl, 1) := by decide +kernel
theorem dJ2_getChar_3b067_57 : decode cJ2_getChar_3b067 57 = .ok (.ior, 1) := by decide +kernel
theorem dJ2_getChar_3b067_58 : decode cJ2_getChar_3b067 58 = .ok (.i2c, 1) := by decide +kernel
theorem dJ2_getChar_3b067_59 : decode cJ2_getChar_3b067 59 = .ok (.ireturn, 1) := by decide +kernel
theorem dJ2_length_9d52b_0 : decode cJ2_length_9d52b 0 = .ok (.aload_n 0, 1) := by decide +kernel
theorem dJ2_length_9d52b_1 : decode cJ2_length_9d52b 1 = .ok (.arraylength, 1) := by decide +kernel
theorem dJ2_length_9d52b_2 : decode cJ2_length_9d52b 2 = .ok (.iconst 1, 1) := by decide +kernel
theorem dJ2_length_9d52b_3 : decode cJ2_length_9d52b 3 = .ok (.ishr, 1) := by decide +kernel
theorem dJ2_length_9d52b_4 : decode cJ2_length_9d52b 4 = .ok (.ireturn, 1) := by decide +kernel
set_option maxRecDepth 20000 in
theorem ggJ2_charAt_3b067_J2_checkIndex_2214a : GoodIn wsJ2_charAt_3b067 wsJ2_checkIndex_2214a := goodIn_r _ [4, 5, 6, 3, 7, 8, 9, 10, 11, 12, 13, 14, 15, 16] (by decide +kernel) (by decide +kernel)
set_option maxRecDepth 20000 in
theorem gJ2_charAt_3b067_J2_checkIndex_2214a : GoodIn wsJ2_charAt_3b067 (va_wsS RJ2 67 yJ2_checkIndex_2214a wsJ2_checkIndex_2214a) := goodIn_app (goodIn_of _ (by decide +kernel)) ggJ2_charAt_3b067_J2_checkIndex_2214a
set_option maxRecDepth 20000 in
theorem ggJ2_charAt_3b067_J2_getChar_3b067 : GoodIn wsJ2_charAt_3b067 wsJ2_getChar_3b067 := goodIn_r _ [19, 20, 21, 22, 5, 6, 3, 7] (by decide +kernel) (by decide +kernel)
set_option maxRecDepth 20000 in
theorem gJ2_charAt_3b067_J2_getChar_3b067 : GoodIn wsJ2_charAt_3b067 (va_wsS RJ2 71 yJ2_getChar_3b067 wsJ2_getChar_3b067) := goodIn_app (goodIn_of _ (by decide +kernel)) ggJ2_charAt_3b067_J2_getChar_3b067
theorem dJ2_charAt_3b067_0 : decode cJ2_charAt_3b067 0 = .ok (.iload_n 1, 1) := by decide +kernel
theorem dJ2_charAt_3b067_1 : decode cJ2_charAt_3b067 1 = .ok (.aload_n 0, 1) := by decide +kernel
theorem dJ2_charAt_3b067_2 : decode cJ2_charAt_3b067 2 = .ok (.invokestatic 67, 3) := by decide +kernel
theorem dJ2_charAt_3b067_5 : decode cJ2_charAt_3b067 5 = .ok (.aload_n 0, 1) := by decide +kernel
theorem dJ2_charAt_3b067_6 : decode cJ2_charAt_3b067 6 = .ok (.iload_n 1, 1) := by decide +kernel
theorem dJ2_charAt_3b067_7 : decode cJ2_charAt_3b067 7 = .ok (.invokestatic 71, 3) := by decide +kernel
theorem dJ2_charAt_3b067_10 : decode cJ2_charAt_3b067 10 = .ok (.ireturn, 1) := by decide +kernel
set_option maxRecDepth 20000 in
theorem ggJ2_checkIndex_2214a_J2_length_9d52b : GoodIn wsJ2_checkIndex_2214a wsJ2_length_9d52b := goodIn_r _ [4] (by decide +kernel) (by decide +kernel)
set_option maxRecDepth 20000 in
theorem gJ2_checkIndex_2214a_J2_length_9d52b : GoodIn wsJ2_checkIndex_2214a (va_wsS RJ2 48 yJ2_length_9d52b wsJ2_length_9d52b) := goodIn_app (goodIn_of _ (by decide +kernel)) ggJ2_checkIndex_2214a_J2_length_9d52b
set_option maxRecDepth 20000 in
theorem ggJ2_checkIndex_2214a_J0_checkIndex_df160 : GoodIn wsJ2_checkIndex_2214a wsJ0_checkIndex_df160 := goodIn_r _ [8, 9, 10, 11, 12, 13] (by decide +kernel) (by decide +kernel)
set_option maxRecDepth 20000 in
theorem gJ2_checkIndex_2214a_J0_checkIndex_df160 : GoodIn wsJ2_checkIndex_2214a (va_wsS RJ2 414 yJ0_checkIndex_df160 wsJ0_checkIndex_df160) := goodIn_app (goodIn_of _ (by decide +kernel)) ggJ2_checkIndex_2214a_J0_checkIndex_df160
theorem dJ2_checkIndex_2214a_0 : decode cJ2_checkIndex_2214a 0 = .ok (.iload_n 0, 1) := by decide +kernel
theorem dJ2_checkIndex_2214a_1 : decode cJ2_checkIndex_2214a 1 = .ok (.aload_n 1, 1) := by decide +kernel
theorem dJ2_checkIndex_2214a_2 : decode cJ2_checkIndex_2214a 2 = .ok (.invokestatic 48, 3) := by decide +kernel
theorem dJ2_checkIndex_2214a_5 : decode cJ2_checkIndex_2214a 5 = .ok (.invokestatic 414, 3) := by decide +kernel
theorem dJ2_checkIndex_2214a_8 : decode cJ2_checkIndex_2214a 8 = .ok (.return_, 1) := by decide +kernel
theorem dJ3_checkIndex_8e157_0 : decode cJ3_checkIndex_8e157 0 = .ok (.iload_n 0, 1) := by decide +kernel
theorem dJ3_checkIndex_8e157_1 : decode cJ3_checkIndex_8e157 1 = .ok (.ifCond .lt 8, 3) := by decide +kernel
theorem dJ3_checkIndex_8e157_4 : decode cJ3_checkIndex_8e157 4 = .ok (.iload_n 0, 1) := by decide +kernel
theorem dJ3_checkIndex_8e157_5 : decode cJ3_checkIndex_8e157 5 = .ok (.iload_n 1, 1) := by decide +kernel
theorem dJ3_checkIndex_8e157_6 : decode cJ3_checkIndex_8e157 6 = .ok (.if_icmp .lt 10, 3) := by decide +kernel
theorem dJ3_checkIndex_8e157_9 : decode cJ3_checkIndex_8e157 9 = .ok (.aload_n 2, 1) := by decide +kernel
theorem dJ3_checkIndex_8e157_10 : decode cJ3_checkIndex_8e157 10 = .ok (.iload_n 0, 1) := by decide +kernel
theorem dJ3_checkIndex_8e157_11 : decode cJ3_checkIndex_8e157 11 = .ok (.iload_n 1, 1) := by decide +kernel
theorem dJ3_checkIndex_8e157_12 : decode cJ3_checkIndex_8e157 12 = .ok (.invokestatic 95, 3) := by decide +kernel
theorem dJ3_checkIndex_8e157_15 : decode cJ3_checkIndex_8e157 15 = .ok (.athrow, 1) := by decide +kernel
theorem dJ3_checkIndex_8e157_16 : decode cJ3_checkIndex_8e157 16 = .ok (.iload_n 0, 1) := by decide +kernel
theorem dJ3_checkIndex_8e157_17 : decode cJ3_checkIndex_8e157 17 = .ok (.ireturn, 1) := by decide +kernel
end
section
/-! helper rows for the walks: the world's words, guards, ends -/
abbrev vwCl : List vw_C := [(RX0, TX0, 4), (RX1, TX1, 5), (RX2, TX2, 3), (RX3, TX3, 4), (RX4, TX4, 3), (RX5, TX5, 6), (RX6, TX6, 4), (RX7, TX7, 2), (RX8, TX8, 2), (RX9, TX9, 9), (RX10, TX10, 23)]
abbrev TYS (cI cJ cZ cO : ClassId) : List (ClassId × FieldType) := [(cI, .int), (cJ, .long), (cZ, .boolean), (cO, .object "SimonSays$Image")]
def gN (U : State) : Prop := va_Nw (.methodLinkNest RX0 39 yX9_powerOfTen "SimonSays") U ∧ va_Nw (.methodLinkNest RX0 74 yX9_streakBehind "SimonSays") U ∧ va_Nw (.methodLinkNest RX6 70 yX9_streakBehind "SimonSays") U ∧ va_Nw (.methodLinkNest RX7 19 yX9_isOrder "SimonSays") U
theorem gN.warm {s U : State} (hW : s.WarmedH U.vm) (h : gN s) : gN U := ⟨va_Nw.warmM hW h.1, va_Nw.warmM hW h.2.1, va_Nw.warmM hW h.2.2.1, va_Nw.warmM hW h.2.2.2⟩
theorem gN.same {u U : State} (hv : u.vm = U.vm) (h : gN u) : gN U := ⟨va_Nw.same rfl hv h.1, va_Nw.same rfl hv h.2.1, va_Nw.same rfl hv h.2.2.1, va_Nw.same rfl hv h.2.2.2⟩
theorem gN_X0_39 {U : State} (h : gN U) : va_Nw (.methodLinkNest RX0 39 yX9_powerOfTen "SimonSays") U := h.1
theorem gN_X0_74 {U : State} (h : gN U) : va_Nw (.methodLinkNest RX0 74 yX9_streakBehind "SimonSays") U := h.2.1
theorem gN_X6_70 {U : State} (h : gN U) : va_Nw (.methodLinkNest RX6 70 yX9_streakBehind "SimonSays") U := h.2.2.1
theorem gN_X7_19 {U : State} (h : gN U) : va_Nw (.methodLinkNest RX7 19 yX9_isOrder "SimonSays") U := h.2.2.2
def KK (D : va_G) (cI cJ cZ cO : ClassId) (U : State) : Prop := va_K D vwCl (TYS cI cJ cZ cO) U ∧ gN U
theorem KK.warm {D : va_G} {cI cJ cZ cO : ClassId} {s U : State} (hW : s.WarmedH U.vm) (h : KK D cI cJ cZ cO s) : KK D cI cJ cZ cO U := ⟨va_K.moved hW.alike h.1, gN.warm hW h.2⟩
theorem KK.call {D : va_G} {cI cJ cZ cO : ClassId} {U : State} {g : JFrame} {mk : MethodId} {a : Array Value} (h : KK D cI cJ cZ cO U) : KK D cI cJ cZ cO (U.calling g mk a) := ⟨va_K.moved (u := U) (U := U.calling g mk a) (Vm.Alike.refl U.vm) h.1, gN.same (u := U) (U := U.calling g mk a) rfl h.2⟩
theorem fb_p {D : va_G} {cI cJ cZ cO : ClassId} {av : List Value} {ws : va_W} : FrameBlind (va_Pc av (fun U => va_P D vwCl ws U.heap ∧ KK D cI cJ cZ cO U)) := fun a U g mk q => by
  obtain ⟨q0, qP, qK⟩ := q
  exact ⟨q0, qP, qK.call⟩
theorem fb_i {D : va_G} {cI cJ cZ cO : ClassId} {av : List Value} {ws ws2 : va_W} {sz : Nat} {B : Nat → Prop} : FrameBlind (va_Pc av (fun U => U.heap.size = sz ∧ va_P D vwCl ws U.heap ∧ KK D cI cJ cZ cO U ∧ va_D B ws2)) := fun a U g mk q => by
  obtain ⟨q0, q1, qP, qK, qD⟩ := q
  exact ⟨q0, q1, qP, qK.call, qD⟩
def gIn (i : Int32) (n : Nat) : Bool := decide (0 ≤ i.toInt) && decide (i.toInt < (n : Int))
theorem gIn_iff {i : Int32} {n : Nat} : gIn i n = true ↔ vp_in i n := by
  rw [vp_in_iff, gIn, Bool.and_eq_true, decide_eq_true_eq, decide_eq_true_eq]
theorem gd_in {α : Type} {i : Int32} {n : Nat} {k : Option α} {v : α} (h : (if gIn i n = true then k else none) = some v) : vp_in i n ∧ k = some v := by
  by_cases hc : gIn i n = true
  · rw [if_pos hc] at h; exact ⟨gIn_iff.mp hc, h⟩
  · rw [if_neg hc] at h; cases h
theorem gd_nz {α : Type} {y : Int32} {k : Option α} {v : α} (h : (if y = 0 then none else k) = some v) : ¬ y = 0 ∧ k = some v := by
  by_cases hc : y = 0
  · rw [if_pos hc] at h; cases h
  · rw [if_neg hc] at h; exact ⟨hc, h⟩
theorem gd_nzl {α : Type} {y : Int64} {k : Option α} {v : α} (h : (if y = 0 then none else k) = some v) : ¬ y = 0 ∧ k = some v := by
  by_cases hc : y = 0
  · rw [if_pos hc] at h; cases h
  · rw [if_neg hc] at h; exact ⟨hc, h⟩
def gCp (sp dp n : Int32) (n0 n1 : Nat) : Bool := decide (¬ sp < 0 ∧ ¬ dp < 0 ∧ ¬ n < 0 ∧ sp.toNatClampNeg + n.toNatClampNeg ≤ n0 ∧ dp.toNatClampNeg + n.toNatClampNeg ≤ n1)
theorem gd_cp {α : Type} {sp dp n : Int32} {n0 n1 : Nat} {k : Option α} {v : α} (h : (if gCp sp dp n n0 n1 = true then k else none) = some v) : (¬ sp < 0 ∧ ¬ dp < 0 ∧ ¬ n < 0 ∧ sp.toNatClampNeg + n.toNatClampNeg ≤ n0 ∧ dp.toNatClampNeg + n.toNatClampNeg ≤ n1) ∧ k = some v := by
  by_cases hc : gCp sp dp n n0 n1 = true
  · rw [if_pos hc] at h; exact ⟨of_decide_eq_true hc, h⟩
  · rw [if_neg hc] at h; cases h
theorem if_p {α : Type} {c : Prop} [Decidable c] {a b v : α} (hc : c) (h : (if c then a else b) = v) : a = v := by rw [if_pos hc] at h; exact h
theorem if_n {α : Type} {c : Prop} [Decidable c] {a b v : α} (hc : ¬ c) (h : (if c then a else b) = v) : b = v := by rw [if_neg hc] at h; exact h
theorem ns {α : Type} {v : α} (h : (none : Option α) = some v) : False := by cases h
theorem ob_some {α β : Type} {o : Option α} {k : α → Option β} {v : β} (h : Option.bind o k = some v) : ∃ y, o = some y ∧ k y = some v := by
  cases o with
  | none => cases h
  | some y => exact ⟨y, rfl, h⟩
abbrev zo (r : Int32) : Prop := r = 0 ∨ r = 1
theorem zo_nar {v : Int32} (h : zo v) : narrow .boolean (.int v) = .int v := by rcases h with rfl | rfl <;> rfl
theorem i32_nek {x : Int32} (k : Int) (y : Int32) (hk : y.toInt = k) (h : ¬ x = y) : x.toInt ≠ k := fun q => h (Int32.toInt_inj.mp (q.trans hk.symm))
def gIm (a b : Nat) : Nat → Option Nat := fun j => if j = 0 then some a else if j = 1 then some b else none
section PR
variable {p : Program} {l : Launch} {e : Env} {R : Room} {s : State} {m : MethodId} {args : Array Value} {below : List Frame} {meth : Method} {c : Code} {cc : ByteArray} {pc : Nat} {ls : Array Slot}
theorem pr_i {x v : Int32} (hx : p.tables.exec = Jvm.exec) (hb : c.code = cc) (hr : meth.sig.returnType = some .int) (hlocks : meth.locks = false) (hdg : decode cc pc = .ok (.ireturn, 1)) (h : x = v) : W p l e R s m args below meth c s.heap [] 0 0 (MQ below (vp_Si (fun r => r = v)) args s 0 0 (fun _ => False)) (F0 m pc ls [.int x]) := by
  subst h
  exact W.iret (v := x) hx hb hr (fun t ht hW => ⟨x, rfl, rfl, ht⟩) (fun q hq => by cases hq) hdg hlocks
theorem pr_z {x v : Int32} (hx : p.tables.exec = Jvm.exec) (hb : c.code = cc) (hr : meth.sig.returnType = some .boolean) (hlocks : meth.locks = false) (hdg : decode cc pc = .ok (.ireturn, 1)) (h : x = v) (hz : zo x) : W p l e R s m args below meth c s.heap [] 0 0 (MQ below (vp_Si (fun r => r = v ∧ zo r)) args s 0 0 (fun _ => False)) (F0 m pc ls [.int x]) := by
  subst h
  exact W.zret (v := x) hx hb hr (zo_nar hz) (fun t ht hW => ⟨x, rfl, ⟨rfl, hz⟩, ht⟩) (fun q hq => by cases hq) hdg hlocks
theorem pr_l {x v : Int64} (hx : p.tables.exec = Jvm.exec) (hb : c.code = cc) (hr : meth.sig.returnType = some .long) (hlocks : meth.locks = false) (hdg : decode cc pc = .ok (.lreturn, 1)) (h : x = v) : W p l e R s m args below meth c s.heap [] 0 0 (MQ below (vp_Sl (fun r => r = v)) args s 0 0 (fun _ => False)) (F0 m pc ls [.long x]) := by
  subst h
  exact W.lret (v := x) hx hb hr (fun t ht hW => ⟨x, rfl, rfl, ht⟩) (fun q hq => by cases hq) hdg hlocks
theorem pr_v (hx : p.tables.exec = Jvm.exec) (hb : c.code = cc) (hr : meth.sig.returnType = none) (hlocks : meth.locks = false) (hdg : decode cc pc = .ok (.return_, 1)) : W p l e R s m args below meth c s.heap [] 0 0 (MQ below (va_Sv (fun _ => True)) args s 0 0 (fun _ => False)) (F0 m pc ls []) :=
  W.vret hx hb hr (fun t ht hW => ⟨rfl, trivial, ht⟩) (fun q hq => by cases hq) hdg hlocks
theorem pr_r {a : Nat} {C : String} (hx : p.tables.exec = Jvm.exec) (hb : c.code = cc) (hr : meth.sig.returnType = some (.object C)) (hlocks : meth.locks = false) (hdg : decode cc pc = .ok (.areturn, 1)) : W p l e R s m args below meth c s.heap [] 0 0 (MQ below (va_Sr (fun _ => True) (fun _ => .ref a)) args s 0 0 (fun _ => False)) (F0 m pc ls [.ref a]) :=
  W.aret (v := .ref a) hx hb hr (Or.inl ⟨_, rfl⟩) (Or.inr ⟨_, rfl⟩) (fun t ht hW => ⟨0, rfl, trivial, ht⟩) (fun q hq => by cases hq) hdg hlocks
end PR
end
section
def f_X1_forget (T_size : Int32) (T_littleOnes : Int32) : Option (Int32 × Int32) := some ((0 : Int32), (0 : Int32))
set_option maxHeartbeats 8000000 in
set_option maxRecDepth 100000 in
theorem c_X1_forget (l : Launch) (D : va_G) (cI cJ cZ cO : ClassId) (aT : Nat) (aT_slips : Nat) (aT_lates : Nat) (aT_copied : Nat) (T_size : Int32) (T_littleOnes : Int32) (sz : Nat)  (y0 : Int32 × Int32) (h : f_X1_forget T_size T_littleOnes = some y0) : Met l yX1_forget wsX1_forget ({ frames := 0, cells := 0, slots := 0, locals := 0 } : Room) (va_Pc [.ref aT] (fun U => U.heap.size = sz ∧ va_P D vwCl [(aT, .inr (1, [.ref aT_slips, .ref aT_lates, .ref aT_copied, .int T_size, .int T_littleOnes]))] U.heap ∧ KK D cI cJ cZ cO U ∧ va_D (fun _ => True) [(aT, .inr (1, [.ref aT_slips, .ref aT_lates, .ref aT_copied, .int T_size, .int T_littleOnes]))])) (va_Qv (fun (_ : Unit) => True) (fun (_ : Unit) t => va_P D vwCl [(aT, .inr (1, [.ref aT_slips, .ref aT_lates, .ref aT_copied, .int y0.1, .int y0.2]))] t.heap ∧ va_D (va_A [(aT, .inr (1, [.ref aT_slips, .ref aT_lates, .ref aT_copied, .int T_size, .int T_littleOnes]))] sz) [(aT, .inr (1, [.ref aT_slips, .ref aT_lates, .ref aT_copied, .int y0.1, .int y0.2]))]) (va_A [(aT, .inr (1, [.ref aT_slips, .ref aT_lates, .ref aT_copied, .int T_size, .int T_littleOnes]))] sz)) 0 0 (va_A [(aT, .inr (1, [.ref aT_slips, .ref aT_lates, .ref aT_copied, .int T_size, .int T_littleOnes]))] sz) := by
  refine Met.ofW (cc := cX1_forget) (maxL := 1) (ret := none) (by decide) rfl ?_
  intro p e s m args below meth c s₁ B hml hv
  obtain ⟨rfl, hsz, hP, hKK, hD0⟩ := hv
  have hx := B.exec
  have hb := B.bytes
  have hr := B.returns
  have hts := atoms_spec (ws := wsX1_forget) B.pre
  have hown : s.vm.findClass RX1 = some m.cls := findClass_of_methodNamed B.named
  have hlocks := B.notSynchronized
  have hK := hKK.1
  have fl_21 := hts (.fieldLink RX1 21 "SimonSays$Children" "size" "I") (by decide +kernel)
  have fl_25 := hts (.fieldLink RX1 25 "SimonSays$Children" "littleOnes" "I") (by decide +kernel)
  have inX1 : ∀ w ∈ wsX10, w ∈ wsX1_forget := by decide +kernel
  subst hsz
  have hD := hD0.self (sz := s.heap.size)
  generalize hAe : va_A [(aT, .inr (1, [.ref aT_slips, .ref aT_lates, .ref aT_copied, .int T_size, .int T_littleOnes]))] s.heap.size = A at hD ⊢
  have hA : ∀ q : Nat, s.heap.size ≤ q → A q := fun q h => by rw [← hAe]; exact Or.inr h
  have hS : va_S A s.heap s.heap [] := va_S.rf
  have hl := lv_entry ([.ref aT]) (n := 1) (Nat.le_of_ble_eq_true rfl)
  rw [lg_entry_eq]
  generalize (lg_sl ([.ref aT]) ++ List.replicate (1 - (lg_sl ([.ref aT])).length) Slot.unset).toArray = ls at hl ⊢
  have hl : lv_has ls 1 [(0, .ref aT)] := hl
  unfold f_X1_forget at h
  refine lv_aload_n hx hb dX1_forget_0 rfl (lv_at hl 0 rfl) ?_
  refine lv_iconst (v := (0 : Int32)) hx hb dX1_forget_1 (by decide) ?_
  refine va_put (D := D) (ci := 1) (v := .int (0 : Int32)) (ty := .int) (C := RX1) (T := TX1) (N := 5) hx hb hts inX1 tyX1 tyX1_ok nmX1 hown hK hP hD hS 0 rfl rfl 3 (by decide) fl_21 (fun _ h9 => h9) rfl (by decide +kernel) rfl rfl (Nat.le_of_ble_eq_true rfl) dX1_forget_2 (fun H locs hP hD hS => ?_)
  have hP : va_P D vwCl [(aT, .inr (1, [.ref aT_slips, .ref aT_lates, .ref aT_copied, .int (0 : Int32), .int T_littleOnes]))] H := hP
  have hD : va_D A [(aT, .inr (1, [.ref aT_slips, .ref aT_lates, .ref aT_copied, .int (0 : Int32), .int T_littleOnes]))] := hD
  refine lv_aload_n hx hb dX1_forget_5 rfl (lv_at hl 0 rfl) ?_
  refine lv_iconst (v := (0 : Int32)) hx hb dX1_forget_6 (by decide) ?_
  refine va_put (D := D) (ci := 1) (v := .int (0 : Int32)) (ty := .int) (C := RX1) (T := TX1) (N := 5) hx hb hts inX1 tyX1 tyX1_ok nmX1 hown hK hP hD hS 0 rfl rfl 4 (by decide) fl_25 (fun _ h9 => h9) rfl (by decide +kernel) rfl rfl (Nat.le_of_ble_eq_true rfl) dX1_forget_7 (fun H locs hP hD hS => ?_)
  have hP : va_P D vwCl [(aT, .inr (1, [.ref aT_slips, .ref aT_lates, .ref aT_copied, .int (0 : Int32), .int (0 : Int32)]))] H := hP
  have hD : va_D A [(aT, .inr (1, [.ref aT_slips, .ref aT_lates, .ref aT_copied, .int (0 : Int32), .int (0 : Int32)]))] := hD
  have hy := Option.some.inj h
  subst hy
  exact W.vret hx hb hr (fun t ht hW => ⟨⟨(), rfl, trivial, by rw [ht]; exact hP, hD⟩, hS.F ht⟩) hS.2.2 dX1_forget_10

def f_X1_size (T_size : Int32) : Int32 := T_size
set_option maxHeartbeats 8000000 in
set_option maxRecDepth 100000 in
theorem c_X1_size (l : Launch) (D : va_G) (cI cJ cZ cO : ClassId) (aT : Nat) (aT_slips : Nat) (aT_lates : Nat) (aT_copied : Nat) (T_size : Int32) (T_littleOnes : Int32)   (y0 : Int32) (h : f_X1_size T_size = y0) : Met l yX1_size wsX1_size ({ frames := 0, cells := 0, slots := 0, locals := 0 } : Room) (va_Pc [.ref aT] (fun U => va_P D vwCl [(aT, .inr (1, [.ref aT_slips, .ref aT_lates, .ref aT_copied, .int T_size, .int T_littleOnes]))] U.heap ∧ KK D cI cJ cZ cO U)) (vp_Si (fun r => r = y0)) 0 0 (fun _ => False) := by
  refine Met.ofW (cc := cX1_size) (maxL := 1) (ret := (some .int)) (by decide) rfl ?_
  intro p e s m args below meth c s₁ B hml hv
  obtain ⟨rfl, hP, hKK⟩ := hv
  have hx := B.exec
  have hb := B.bytes
  have hr := B.returns
  have hts := atoms_spec (ws := wsX1_size) B.pre
  have hown : s.vm.findClass RX1 = some m.cls := findClass_of_methodNamed B.named
  have hlocks := B.notSynchronized
  have hK := hKK.1
  have fl_21 := hts (.fieldLink RX1 21 "SimonSays$Children" "size" "I") (by decide +kernel)
  have inX1 : ∀ w ∈ wsX10, w ∈ wsX1_size := by decide +kernel
  have hl := lv_entry ([.ref aT]) (n := 1) (Nat.le_of_ble_eq_true rfl)
  rw [lg_entry_eq]
  generalize (lg_sl ([.ref aT]) ++ List.replicate (1 - (lg_sl ([.ref aT])).length) Slot.unset).toArray = ls at hl ⊢
  have hl : lv_has ls 1 [(0, .ref aT)] := hl
  unfold f_X1_size at h
  refine lv_aload_n hx hb dX1_size_0 rfl (lv_at hl 0 rfl) ?_
  refine va_get (D := D) (ci := 1) (v := .int T_size) (C := RX1) (T := TX1) (N := 5) hx hb hts inX1 hown hK hP 0 rfl rfl 3 (by decide) fl_21 (fun _ h9 => h9) rfl dX1_size_1 ?_
  exact pr_i hx hb hr hlocks dX1_size_4 h

def f_X1_littleOnes (T_littleOnes : Int32) : Int32 := T_littleOnes
set_option maxHeartbeats 8000000 in
set_option maxRecDepth 100000 in
theorem c_X1_littleOnes (l : Launch) (D : va_G) (cI cJ cZ cO : ClassId) (aT : Nat) (aT_slips : Nat) (aT_lates : Nat) (aT_copied : Nat) (T_size : Int32) (T_littleOnes : Int32)   (y0 : Int32) (h : f_X1_littleOnes T_littleOnes = y0) : Met l yX1_littleOnes wsX1_littleOnes ({ frames := 0, cells := 0, slots := 0, locals := 0 } : Room) (va_Pc [.ref aT] (fun U => va_P D vwCl [(aT, .inr (1, [.ref aT_slips, .ref aT_lates, .ref aT_copied, .int T_size, .int T_littleOnes]))] U.heap ∧ KK D cI cJ cZ cO U)) (vp_Si (fun r => r = y0)) 0 0 (fun _ => False) := by
  refine Met.ofW (cc := cX1_littleOnes) (maxL := 1) (ret := (some .int)) (by decide) rfl ?_
  intro p e s m args below meth c s₁ B hml hv
  obtain ⟨rfl, hP, hKK⟩ := hv
  have hx := B.exec
  have hb := B.bytes
  have hr := B.returns
  have hts := atoms_spec (ws := wsX1_littleOnes) B.pre
  have hown : s.vm.findClass RX1 = some m.cls := findClass_of_methodNamed B.named
  have hlocks := B.notSynchronized
  have hK := hKK.1
  have fl_25 := hts (.fieldLink RX1 25 "SimonSays$Children" "littleOnes" "I") (by decide +kernel)
  have inX1 : ∀ w ∈ wsX10, w ∈ wsX1_littleOnes := by decide +kernel
  have hl := lv_entry ([.ref aT]) (n := 1) (Nat.le_of_ble_eq_true rfl)
  rw [lg_entry_eq]
  generalize (lg_sl ([.ref aT]) ++ List.replicate (1 - (lg_sl ([.ref aT])).length) Slot.unset).toArray = ls at hl ⊢
  have hl : lv_has ls 1 [(0, .ref aT)] := hl
  unfold f_X1_littleOnes at h
  refine lv_aload_n hx hb dX1_littleOnes_0 rfl (lv_at hl 0 rfl) ?_
  refine va_get (D := D) (ci := 1) (v := .int T_littleOnes) (C := RX1) (T := TX1) (N := 5) hx hb hts inX1 hown hK hP 0 rfl rfl 4 (by decide) fl_25 (fun _ h9 => h9) rfl dX1_littleOnes_1 ?_
  exact pr_i hx hb hr hlocks dX1_littleOnes_4 h

def f_X1_everyone (T_size : Int32) : Int32 := (((1 : Int32) <<< (T_size &&& 31)) - (1 : Int32))
set_option maxHeartbeats 8000000 in
set_option maxRecDepth 100000 in
theorem c_X1_everyone (l : Launch) (D : va_G) (cI cJ cZ cO : ClassId) (aT : Nat) (aT_slips : Nat) (aT_lates : Nat) (aT_copied : Nat) (T_size : Int32) (T_littleOnes : Int32)   (y0 : Int32) (h : f_X1_everyone T_size = y0) : Met l yX1_everyone wsX1_everyone ({ frames := 0, cells := 0, slots := 0, locals := 0 } : Room) (va_Pc [.ref aT] (fun U => va_P D vwCl [(aT, .inr (1, [.ref aT_slips, .ref aT_lates, .ref aT_copied, .int T_size, .int T_littleOnes]))] U.heap ∧ KK D cI cJ cZ cO U)) (vp_Si (fun r => r = y0)) 0 0 (fun _ => False) := by
  refine Met.ofW (cc := cX1_everyone) (maxL := 1) (ret := (some .int)) (by decide) rfl ?_
  intro p e s m args below meth c s₁ B hml hv
  obtain ⟨rfl, hP, hKK⟩ := hv
  have hx := B.exec
  have hb := B.bytes
  have hr := B.returns
  have hts := atoms_spec (ws := wsX1_everyone) B.pre
  have hown : s.vm.findClass RX1 = some m.cls := findClass_of_methodNamed B.named
  have hlocks := B.notSynchronized
  have hK := hKK.1
  have fl_21 := hts (.fieldLink RX1 21 "SimonSays$Children" "size" "I") (by decide +kernel)
  have inX1 : ∀ w ∈ wsX10, w ∈ wsX1_everyone := by decide +kernel
  have hl := lv_entry ([.ref aT]) (n := 1) (Nat.le_of_ble_eq_true rfl)
  rw [lg_entry_eq]
  generalize (lg_sl ([.ref aT]) ++ List.replicate (1 - (lg_sl ([.ref aT])).length) Slot.unset).toArray = ls at hl ⊢
  have hl : lv_has ls 1 [(0, .ref aT)] := hl
  unfold f_X1_everyone at h
  refine lv_iconst (v := (1 : Int32)) hx hb dX1_everyone_0 (by decide) ?_
  refine lv_aload_n hx hb dX1_everyone_1 rfl (lv_at hl 0 rfl) ?_
  refine va_get (D := D) (ci := 1) (v := .int T_size) (C := RX1) (T := TX1) (N := 5) hx hb hts inX1 hown hK hP 0 rfl rfl 3 (by decide) fl_21 (fun _ h9 => h9) rfl dX1_everyone_2 ?_
  refine lv_ishl hx hb dX1_everyone_5 ?_
  refine lv_iconst (v := (1 : Int32)) hx hb dX1_everyone_6 (by decide) ?_
  refine lv_isub hx hb dX1_everyone_7 ?_
  exact pr_i hx hb hr hlocks dX1_everyone_8 h

def f_X1_isSet (T_size : Int32) (p1 : Int32) : Int32 := (if (p1 &&& ((f_X1_everyone T_size) ^^^ (-1 : Int32))) = 0 then (1 : Int32) else (0 : Int32))
set_option maxHeartbeats 8000000 in
set_option maxRecDepth 100000 in
theorem c_X1_isSet (l : Launch) (D : va_G) (cI cJ cZ cO : ClassId) (aT : Nat) (aT_slips : Nat) (aT_lates : Nat) (aT_copied : Nat) (T_size : Int32) (T_littleOnes : Int32)  (p1 : Int32) (y0 : Int32) (h : f_X1_isSet T_size p1 = y0) : Met l yX1_isSet wsX1_isSet ({ frames := 1, cells := 0, slots := 0, locals := 20 } : Room) (va_Pc [.ref aT, .int p1] (fun U => va_P D vwCl [(aT, .inr (1, [.ref aT_slips, .ref aT_lates, .ref aT_copied, .int T_size, .int T_littleOnes]))] U.heap ∧ KK D cI cJ cZ cO U)) (vp_Si (fun r => r = y0 ∧ zo r)) 0 0 (fun _ => False) := by
  refine Met.ofW (cc := cX1_isSet) (maxL := 2) (ret := (some .boolean)) (by decide) rfl ?_
  intro p e s m args below meth c s₁ B hml hv
  obtain ⟨rfl, hP, hKK⟩ := hv
  have hx := B.exec
  have hb := B.bytes
  have hr := B.returns
  have hts := atoms_spec (ws := wsX1_isSet) B.pre
  have hown : s.vm.findClass RX1 = some m.cls := findClass_of_methodNamed B.named
  have hlocks := B.notSynchronized
  have hK := hKK.1
  have hl := lv_entry ([.ref aT, .int p1]) (n := 2) (Nat.le_of_ble_eq_true rfl)
  rw [lg_entry_eq]
  generalize (lg_sl ([.ref aT, .int p1]) ++ List.replicate (2 - (lg_sl ([.ref aT, .int p1])).length) Slot.unset).toArray = ls at hl ⊢
  have hl : lv_has ls 2 [(0, .ref aT), (1, .int p1)] := hl
  unfold f_X1_isSet at h
  refine lv_iload_n hx hb dX1_isSet_0 rfl (lv_at hl 1 rfl) ?_
  refine lv_aload_n hx hb dX1_isSet_1 rfl (lv_at hl 0 rfl) ?_
  have hPc : va_P D vwCl [(aT, .inr (1, [.ref aT_slips, .ref aT_lates, .ref aT_copied, .int T_size, .int T_littleOnes]))] s.heap := hP.sub [0] rfl
  refine vp_callSi (va_Run.run (va_runV (As := []) (rest := [.int p1]) ⟨hx, hb, hml, hown, hts⟩ (c_X1_everyone l D cI cJ cZ cO aT aT_slips aT_lates aT_copied T_size T_littleOnes _ rfl) (cwV 0 hts gX1_isSet_X1_everyone rfl rfl rfl (by decide +kernel) ⟨Nat.le_of_ble_eq_true rfl, Nat.le_of_ble_eq_true rfl⟩) ⟨fb_p, va_recv hK hP (ci := 1) (q0 := 0) rfl rfl, fun U hU hW => ⟨rfl, by rw [hU]; exact hPc, KK.warm hW hKK⟩⟩ rfl rfl hl.1 rfl (lv_room (Nat.le_of_ble_eq_true rfl)) dX1_isSet_2 ⟨Nat.le_of_ble_eq_true rfl, Nat.le_of_ble_eq_true rfl⟩)) (fun r hr => ?_)
  replace hr := hr.symm
  subst hr
  refine lv_iconst (v := (-1 : Int32)) hx hb dX1_isSet_5 (by decide) ?_
  refine lv_ixor hx hb dX1_isSet_6 ?_
  refine lv_iand hx hb dX1_isSet_7 ?_
  refine lv_if_ne (tgt := 15) hx hb dX1_isSet_8 (by decide) (fun c_1 => ?_) (fun c_1 => ?_)
  · replace h := if_n c_1 h
    refine lv_iconst (v := (0 : Int32)) hx hb dX1_isSet_15 (by decide) ?_
    exact pr_z hx hb hr hlocks dX1_isSet_16 h (by decide)
  · replace h := if_p c_1 h
    refine lv_iconst (v := (1 : Int32)) hx hb dX1_isSet_11 (by decide) ?_
    refine lv_goto (tgt := 16) hx hb dX1_isSet_12 (by decide) ?_
    exact pr_z hx hb hr hlocks dX1_isSet_16 h (by decide)

def f_X1_has (T_size : Int32) (p1 : Int32) : Int32 := (if p1 < 0 then (0 : Int32) else (if T_size ≤ p1 then (0 : Int32) else (1 : Int32)))
set_option maxHeartbeats 8000000 in
set_option maxRecDepth 100000 in
theorem c_X1_has (l : Launch) (D : va_G) (cI cJ cZ cO : ClassId) (aT : Nat) (aT_slips : Nat) (aT_lates : Nat) (aT_copied : Nat) (T_size : Int32) (T_littleOnes : Int32)  (p1 : Int32) (y0 : Int32) (h : f_X1_has T_size p1 = y0) : Met l yX1_has wsX1_has ({ frames := 0, cells := 0, slots := 0, locals := 0 } : Room) (va_Pc [.ref aT, .int p1] (fun U => va_P D vwCl [(aT, .inr (1, [.ref aT_slips, .ref aT_lates, .ref aT_copied, .int T_size, .int T_littleOnes]))] U.heap ∧ KK D cI cJ cZ cO U)) (vp_Si (fun r => r = y0 ∧ zo r)) 0 0 (fun _ => False) := by
  refine Met.ofW (cc := cX1_has) (maxL := 2) (ret := (some .boolean)) (by decide) rfl ?_
  intro p e s m args below meth c s₁ B hml hv
  obtain ⟨rfl, hP, hKK⟩ := hv
  have hx := B.exec
  have hb := B.bytes
  have hr := B.returns
  have hts := atoms_spec (ws := wsX1_has) B.pre
  have hown : s.vm.findClass RX1 = some m.cls := findClass_of_methodNamed B.named
  have hlocks := B.notSynchronized
  have hK := hKK.1
  have fl_21 := hts (.fieldLink RX1 21 "SimonSays$Children" "size" "I") (by decide +kernel)
  have inX1 : ∀ w ∈ wsX10, w ∈ wsX1_has := by decide +kernel
  have hl := lv_entry ([.ref aT, .int p1]) (n := 2) (Nat.le_of_ble_eq_true rfl)
  rw [lg_entry_eq]
  generalize (lg_sl ([.ref aT, .int p1]) ++ List.replicate (2 - (lg_sl ([.ref aT, .int p1])).length) Slot.unset).toArray = ls at hl ⊢
  have hl : lv_has ls 2 [(0, .ref aT), (1, .int p1)] := hl
  unfold f_X1_has at h
  refine lv_iload_n hx hb dX1_has_0 rfl (lv_at hl 1 rfl) ?_
  refine lv_if_lt (tgt := 16) hx hb dX1_has_1 (by decide) (fun c_1 => ?_) (fun c_1 => ?_)
  · replace h := if_p c_1 h
    refine lv_iconst (v := (0 : Int32)) hx hb dX1_has_16 (by decide) ?_
    exact pr_z hx hb hr hlocks dX1_has_17 h (by decide)
  · replace h := if_n c_1 h
    refine lv_iload_n hx hb dX1_has_4 rfl (lv_at hl 1 rfl) ?_
    refine lv_aload_n hx hb dX1_has_5 rfl (lv_at hl 0 rfl) ?_
    refine va_get (D := D) (ci := 1) (v := .int T_size) (C := RX1) (T := TX1) (N := 5) hx hb hts inX1 hown hK hP 0 rfl rfl 3 (by decide) fl_21 (fun _ h9 => h9) rfl dX1_has_6 ?_
    refine lv_icmp_ge (tgt := 16) hx hb dX1_has_9 (by decide) (fun c_2 => ?_) (fun c_2 => ?_)
    · replace h := if_p c_2 h
      refine lv_iconst (v := (0 : Int32)) hx hb dX1_has_16 (by decide) ?_
      exact pr_z hx hb hr hlocks dX1_has_17 h (by decide)
    · replace h := if_n c_2 h
      refine lv_iconst (v := (1 : Int32)) hx hb dX1_has_12 (by decide) ?_
      refine lv_goto (tgt := 17) hx hb dX1_has_13 (by decide) ?_
      exact pr_z hx hb hr hlocks dX1_has_17 h (by decide)

def f_X1_isLittle (T_size : Int32) (T_littleOnes : Int32) (p1 : Int32) : Int32 := (if (f_X1_has T_size p1) = 0 then (0 : Int32) else (if ((T_littleOnes >>> (p1 &&& 31)) &&& (1 : Int32)) = (1 : Int32) then (1 : Int32) else (0 : Int32)))
set_option maxHeartbeats 8000000 in
set_option maxRecDepth 100000 in
theorem c_X1_isLittle (l : Launch) (D : va_G) (cI cJ cZ cO : ClassId) (aT : Nat) (aT_slips : Nat) (aT_lates : Nat) (aT_copied : Nat) (T_size : Int32) (T_littleOnes : Int32)  (p1 : Int32) (y0 : Int32) (h : f_X1_isLittle T_size T_littleOnes p1 = y0) : Met l yX1_isLittle wsX1_isLittle ({ frames := 1, cells := 0, slots := 0, locals := 21 } : Room) (va_Pc [.ref aT, .int p1] (fun U => va_P D vwCl [(aT, .inr (1, [.ref aT_slips, .ref aT_lates, .ref aT_copied, .int T_size, .int T_littleOnes]))] U.heap ∧ KK D cI cJ cZ cO U)) (vp_Si (fun r => r = y0 ∧ zo r)) 0 0 (fun _ => False) := by
  refine Met.ofW (cc := cX1_isLittle) (maxL := 2) (ret := (some .boolean)) (by decide) rfl ?_
  intro p e s m args below meth c s₁ B hml hv
  obtain ⟨rfl, hP, hKK⟩ := hv
  have hx := B.exec
  have hb := B.bytes
  have hr := B.returns
  have hts := atoms_spec (ws := wsX1_isLittle) B.pre
  have hown : s.vm.findClass RX1 = some m.cls := findClass_of_methodNamed B.named
  have hlocks := B.notSynchronized
  have hK := hKK.1
  have fl_25 := hts (.fieldLink RX1 25 "SimonSays$Children" "littleOnes" "I") (by decide +kernel)
  have inX1 : ∀ w ∈ wsX10, w ∈ wsX1_isLittle := by decide +kernel
  have hl := lv_entry ([.ref aT, .int p1]) (n := 2) (Nat.le_of_ble_eq_true rfl)
  rw [lg_entry_eq]
  generalize (lg_sl ([.ref aT, .int p1]) ++ List.replicate (2 - (lg_sl ([.ref aT, .int p1])).length) Slot.unset).toArray = ls at hl ⊢
  have hl : lv_has ls 2 [(0, .ref aT), (1, .int p1)] := hl
  unfold f_X1_isLittle at h
  refine lv_aload_n hx hb dX1_isLittle_0 rfl (lv_at hl 0 rfl) ?_
  refine lv_iload_n hx hb dX1_isLittle_1 rfl (lv_at hl 1 rfl) ?_
  have hPc : va_P D vwCl [(aT, .inr (1, [.ref aT_slips, .ref aT_lates, .ref aT_copied, .int T_size, .int T_littleOnes]))] s.heap := hP.sub [0] rfl
  refine vp_callSi (va_Run.run (va_runV (As := [.int p1]) (rest := []) ⟨hx, hb, hml, hown, hts⟩ (c_X1_has l D cI cJ cZ cO aT aT_slips aT_lates aT_copied T_size T_littleOnes p1 _ rfl) (cwV 1 hts gX1_isLittle_X1_has rfl rfl rfl (by decide +kernel) ⟨Nat.le_of_ble_eq_true rfl, Nat.le_of_ble_eq_true rfl⟩) ⟨fb_p, va_recv hK hP (ci := 1) (q0 := 0) rfl rfl, fun U hU hW => ⟨rfl, by rw [hU]; exact hPc, KK.warm hW hKK⟩⟩ rfl rfl hl.1 rfl (lv_room (Nat.le_of_ble_eq_true rfl)) dX1_isLittle_2 ⟨Nat.le_of_ble_eq_true rfl, Nat.le_of_ble_eq_true rfl⟩)) (fun r hr => ?_)
  obtain ⟨hr, hz1⟩ := hr
  replace hr := hr.symm
  subst hr
  refine lv_if_eq (tgt := 24) hx hb dX1_isLittle_5 (by decide) (fun c_2 => ?_) (fun c_2 => ?_)
  · replace h := if_p c_2 h
    refine lv_iconst (v := (0 : Int32)) hx hb dX1_isLittle_24 (by decide) ?_
    exact pr_z hx hb hr hlocks dX1_isLittle_25 h (by decide)
  · replace h := if_n c_2 h
    refine lv_aload_n hx hb dX1_isLittle_8 rfl (lv_at hl 0 rfl) ?_
    refine va_get (D := D) (ci := 1) (v := .int T_littleOnes) (C := RX1) (T := TX1) (N := 5) hx hb hts inX1 hown hK hP 0 rfl rfl 4 (by decide) fl_25 (fun _ h9 => h9) rfl dX1_isLittle_9 ?_
    refine lv_iload_n hx hb dX1_isLittle_12 rfl (lv_at hl 1 rfl) ?_
    refine lv_ishr hx hb dX1_isLittle_13 ?_
    refine lv_iconst (v := (1 : Int32)) hx hb dX1_isLittle_14 (by decide) ?_
    refine lv_iand hx hb dX1_isLittle_15 ?_
    refine lv_iconst (v := (1 : Int32)) hx hb dX1_isLittle_16 (by decide) ?_
    refine lv_icmp_ne (tgt := 24) hx hb dX1_isLittle_17 (by decide) (fun c_3 => ?_) (fun c_3 => ?_)
    · replace h := if_n c_3 h
      refine lv_iconst (v := (0 : Int32)) hx hb dX1_isLittle_24 (by decide) ?_
      exact pr_z hx hb hr hlocks dX1_isLittle_25 h (by decide)
    · replace h := if_p c_3 h
      refine lv_iconst (v := (1 : Int32)) hx hb dX1_isLittle_20 (by decide) ?_
      refine lv_goto (tgt := 25) hx hb dX1_isLittle_21 (by decide) ?_
      exact pr_z hx hb hr hlocks dX1_isLittle_25 h (by decide)

def f_X1_slipOf (T_size : Int32) (T_slips : Nat → Int32) (p1 : Int32) : Option (Int32) := (if (f_X1_has T_size p1) = 0 then some (0 : Int32) else (if gIn p1 6 = true then some (T_slips p1.toNatClampNeg) else none))
set_option maxHeartbeats 8000000 in
set_option maxRecDepth 100000 in
theorem c_X1_slipOf (l : Launch) (D : va_G) (cI cJ cZ cO : ClassId) (aT : Nat) (aT_slips : Nat) (aT_lates : Nat) (aT_copied : Nat) (T_size : Int32) (T_littleOnes : Int32) (T_slips : Nat → Int32)  (p1 : Int32) (y0 : Int32) (h : f_X1_slipOf T_size T_slips p1 = some y0) : Met l yX1_slipOf wsX1_slipOf ({ frames := 1, cells := 0, slots := 0, locals := 21 } : Room) (va_Pc [.ref aT, .int p1] (fun U => va_P D vwCl [(aT, .inr (1, [.ref aT_slips, .ref aT_lates, .ref aT_copied, .int T_size, .int T_littleOnes])), (aT_slips, .inl (cI, 6, .inl T_slips))] U.heap ∧ KK D cI cJ cZ cO U)) (vp_Si (fun r => r = y0)) 0 0 (fun _ => False) := by
  refine Met.ofW (cc := cX1_slipOf) (maxL := 2) (ret := (some .int)) (by decide) rfl ?_
  intro p e s m args below meth c s₁ B hml hv
  obtain ⟨rfl, hP, hKK⟩ := hv
  have hx := B.exec
  have hb := B.bytes
  have hr := B.returns
  have hts := atoms_spec (ws := wsX1_slipOf) B.pre
  have hown : s.vm.findClass RX1 = some m.cls := findClass_of_methodNamed B.named
  have hlocks := B.notSynchronized
  have hK := hKK.1
  have fl_9 := hts (.fieldLink RX1 9 "SimonSays$Children" "slips" "[I") (by decide +kernel)
  have inX1 : ∀ w ∈ wsX10, w ∈ wsX1_slipOf := by decide +kernel
  have hl := lv_entry ([.ref aT, .int p1]) (n := 2) (Nat.le_of_ble_eq_true rfl)
  rw [lg_entry_eq]
  generalize (lg_sl ([.ref aT, .int p1]) ++ List.replicate (2 - (lg_sl ([.ref aT, .int p1])).length) Slot.unset).toArray = ls at hl ⊢
  have hl : lv_has ls 2 [(0, .ref aT), (1, .int p1)] := hl
  unfold f_X1_slipOf at h
  refine lv_aload_n hx hb dX1_slipOf_0 rfl (lv_at hl 0 rfl) ?_
  refine lv_iload_n hx hb dX1_slipOf_1 rfl (lv_at hl 1 rfl) ?_
  have hPc : va_P D vwCl [(aT, .inr (1, [.ref aT_slips, .ref aT_lates, .ref aT_copied, .int T_size, .int T_littleOnes]))] s.heap := hP.sub [0] rfl
  refine vp_callSi (va_Run.run (va_runV (As := [.int p1]) (rest := []) ⟨hx, hb, hml, hown, hts⟩ (c_X1_has l D cI cJ cZ cO aT aT_slips aT_lates aT_copied T_size T_littleOnes p1 _ rfl) (cwV 1 hts gX1_slipOf_X1_has rfl rfl rfl (by decide +kernel) ⟨Nat.le_of_ble_eq_true rfl, Nat.le_of_ble_eq_true rfl⟩) ⟨fb_p, va_recv hK hP (ci := 1) (q0 := 0) rfl rfl, fun U hU hW => ⟨rfl, by rw [hU]; exact hPc, KK.warm hW hKK⟩⟩ rfl rfl hl.1 rfl (lv_room (Nat.le_of_ble_eq_true rfl)) dX1_slipOf_2 ⟨Nat.le_of_ble_eq_true rfl, Nat.le_of_ble_eq_true rfl⟩)) (fun r hr => ?_)
  obtain ⟨hr, hz1⟩ := hr
  replace hr := hr.symm
  subst hr
  refine lv_if_eq (tgt := 17) hx hb dX1_slipOf_5 (by decide) (fun c_2 => ?_) (fun c_2 => ?_)
  · replace h := if_p c_2 h
    refine lv_iconst (v := (0 : Int32)) hx hb dX1_slipOf_17 (by decide) ?_
    exact pr_i hx hb hr hlocks dX1_slipOf_18 (Option.some.inj h)
  · replace h := if_n c_2 h
    refine lv_aload_n hx hb dX1_slipOf_8 rfl (lv_at hl 0 rfl) ?_
    refine va_get (D := D) (ci := 1) (v := .ref aT_slips) (C := RX1) (T := TX1) (N := 5) hx hb hts inX1 hown hK hP 0 rfl rfl 0 (by decide) fl_9 (fun _ h9 => h9) rfl dX1_slipOf_9 ?_
    refine lv_iload_n hx hb dX1_slipOf_12 rfl (lv_at hl 1 rfl) ?_
    obtain ⟨hi3, h⟩ := gd_in h
    refine va_iald hx hb hK hP 1 0 rfl rfl hi3 dX1_slipOf_13 ?_
    refine lv_goto (tgt := 18) hx hb dX1_slipOf_14 (by decide) ?_
    exact pr_i hx hb hr hlocks dX1_slipOf_18 (Option.some.inj h)

def f_X1_lateOf (T_size : Int32) (T_lates : Nat → Int32) (p1 : Int32) : Option (Int32) := (if (f_X1_has T_size p1) = 0 then some (0 : Int32) else (if gIn p1 6 = true then some (T_lates p1.toNatClampNeg) else none))
set_option maxHeartbeats 8000000 in
set_option maxRecDepth 100000 in
theorem c_X1_lateOf (l : Launch) (D : va_G) (cI cJ cZ cO : ClassId) (aT : Nat) (aT_lates : Nat) (aT_slips : Nat) (aT_copied : Nat) (T_size : Int32) (T_littleOnes : Int32) (T_lates : Nat → Int32)  (p1 : Int32) (y0 : Int32) (h : f_X1_lateOf T_size T_lates p1 = some y0) : Met l yX1_lateOf wsX1_lateOf ({ frames := 1, cells := 0, slots := 0, locals := 21 } : Room) (va_Pc [.ref aT, .int p1] (fun U => va_P D vwCl [(aT, .inr (1, [.ref aT_slips, .ref aT_lates, .ref aT_copied, .int T_size, .int T_littleOnes])), (aT_lates, .inl (cI, 6, .inl T_lates))] U.heap ∧ KK D cI cJ cZ cO U)) (vp_Si (fun r => r = y0)) 0 0 (fun _ => False) := by
  refine Met.ofW (cc := cX1_lateOf) (maxL := 2) (ret := (some .int)) (by decide) rfl ?_
  intro p e s m args below meth c s₁ B hml hv
  obtain ⟨rfl, hP, hKK⟩ := hv
  have hx := B.exec
  have hb := B.bytes
  have hr := B.returns
  have hts := atoms_spec (ws := wsX1_lateOf) B.pre
  have hown : s.vm.findClass RX1 = some m.cls := findClass_of_methodNamed B.named
  have hlocks := B.notSynchronized
  have hK := hKK.1
  have fl_15 := hts (.fieldLink RX1 15 "SimonSays$Children" "lates" "[I") (by decide +kernel)
  have inX1 : ∀ w ∈ wsX10, w ∈ wsX1_lateOf := by decide +kernel
  have hl := lv_entry ([.ref aT, .int p1]) (n := 2) (Nat.le_of_ble_eq_true rfl)
  rw [lg_entry_eq]
  generalize (lg_sl ([.ref aT, .int p1]) ++ List.replicate (2 - (lg_sl ([.ref aT, .int p1])).length) Slot.unset).toArray = ls at hl ⊢
  have hl : lv_has ls 2 [(0, .ref aT), (1, .int p1)] := hl
  unfold f_X1_lateOf at h
  refine lv_aload_n hx hb dX1_lateOf_0 rfl (lv_at hl 0 rfl) ?_
  refine lv_iload_n hx hb dX1_lateOf_1 rfl (lv_at hl 1 rfl) ?_
  have hPc : va_P D vwCl [(aT, .inr (1, [.ref aT_slips, .ref aT_lates, .ref aT_copied, .int T_size, .int T_littleOnes]))] s.heap := hP.sub [0] rfl
  refine vp_callSi (va_Run.run (va_runV (As := [.int p1]) (rest := []) ⟨hx, hb, hml, hown, hts⟩ (c_X1_has l D cI cJ cZ cO aT aT_slips aT_lates aT_copied T_size T_littleOnes p1 _ rfl) (cwV 1 hts gX1_lateOf_X1_has rfl rfl rfl (by decide +kernel) ⟨Nat.le_of_ble_eq_true rfl, Nat.le_of_ble_eq_true rfl⟩) ⟨fb_p, va_recv hK hP (ci := 1) (q0 := 0) rfl rfl, fun U hU hW => ⟨rfl, by rw [hU]; exact hPc, KK.warm hW hKK⟩⟩ rfl rfl hl.1 rfl (lv_room (Nat.le_of_ble_eq_true rfl)) dX1_lateOf_2 ⟨Nat.le_of_ble_eq_true rfl, Nat.le_of_ble_eq_true rfl⟩)) (fun r hr => ?_)
  obtain ⟨hr, hz1⟩ := hr
  replace hr := hr.symm
  subst hr
  refine lv_if_eq (tgt := 17) hx hb dX1_lateOf_5 (by decide) (fun c_2 => ?_) (fun c_2 => ?_)
  · replace h := if_p c_2 h
    refine lv_iconst (v := (0 : Int32)) hx hb dX1_lateOf_17 (by decide) ?_
    exact pr_i hx hb hr hlocks dX1_lateOf_18 (Option.some.inj h)
  · replace h := if_n c_2 h
    refine lv_aload_n hx hb dX1_lateOf_8 rfl (lv_at hl 0 rfl) ?_
    refine va_get (D := D) (ci := 1) (v := .ref aT_lates) (C := RX1) (T := TX1) (N := 5) hx hb hts inX1 hown hK hP 0 rfl rfl 1 (by decide) fl_15 (fun _ h9 => h9) rfl dX1_lateOf_9 ?_
    refine lv_iload_n hx hb dX1_lateOf_12 rfl (lv_at hl 1 rfl) ?_
    obtain ⟨hi3, h⟩ := gd_in h
    refine va_iald hx hb hK hP 1 0 rfl rfl hi3 dX1_lateOf_13 ?_
    refine lv_goto (tgt := 18) hx hb dX1_lateOf_14 (by decide) ?_
    exact pr_i hx hb hr hlocks dX1_lateOf_18 (Option.some.inj h)

def f_X1_copiedBy (T_size : Int32) (T_copied : Nat → Int32) (p1 : Int32) : Option (Int32) := (if (f_X1_has T_size p1) = 0 then some (9 : Int32) else (if gIn p1 6 = true then some (T_copied p1.toNatClampNeg) else none))
set_option maxHeartbeats 8000000 in
set_option maxRecDepth 100000 in
theorem c_X1_copiedBy (l : Launch) (D : va_G) (cI cJ cZ cO : ClassId) (aT : Nat) (aT_copied : Nat) (aT_slips : Nat) (aT_lates : Nat) (T_size : Int32) (T_littleOnes : Int32) (T_copied : Nat → Int32)  (p1 : Int32) (y0 : Int32) (h : f_X1_copiedBy T_size T_copied p1 = some y0) : Met l yX1_copiedBy wsX1_copiedBy ({ frames := 1, cells := 0, slots := 0, locals := 21 } : Room) (va_Pc [.ref aT, .int p1] (fun U => va_P D vwCl [(aT, .inr (1, [.ref aT_slips, .ref aT_lates, .ref aT_copied, .int T_size, .int T_littleOnes])), (aT_copied, .inl (cI, 6, .inl T_copied))] U.heap ∧ KK D cI cJ cZ cO U)) (vp_Si (fun r => r = y0)) 0 0 (fun _ => False) := by
  refine Met.ofW (cc := cX1_copiedBy) (maxL := 2) (ret := (some .int)) (by decide) rfl ?_
  intro p e s m args below meth c s₁ B hml hv
  obtain ⟨rfl, hP, hKK⟩ := hv
  have hx := B.exec
  have hb := B.bytes
  have hr := B.returns
  have hts := atoms_spec (ws := wsX1_copiedBy) B.pre
  have hown : s.vm.findClass RX1 = some m.cls := findClass_of_methodNamed B.named
  have hlocks := B.notSynchronized
  have hK := hKK.1
  have fl_18 := hts (.fieldLink RX1 18 "SimonSays$Children" "copied" "[I") (by decide +kernel)
  have inX1 : ∀ w ∈ wsX10, w ∈ wsX1_copiedBy := by decide +kernel
  have hl := lv_entry ([.ref aT, .int p1]) (n := 2) (Nat.le_of_ble_eq_true rfl)
  rw [lg_entry_eq]
  generalize (lg_sl ([.ref aT, .int p1]) ++ List.replicate (2 - (lg_sl ([.ref aT, .int p1])).length) Slot.unset).toArray = ls at hl ⊢
  have hl : lv_has ls 2 [(0, .ref aT), (1, .int p1)] := hl
  unfold f_X1_copiedBy at h
  refine lv_aload_n hx hb dX1_copiedBy_0 rfl (lv_at hl 0 rfl) ?_
  refine lv_iload_n hx hb dX1_copiedBy_1 rfl (lv_at hl 1 rfl) ?_
  have hPc : va_P D vwCl [(aT, .inr (1, [.ref aT_slips, .ref aT_lates, .ref aT_copied, .int T_size, .int T_littleOnes]))] s.heap := hP.sub [0] rfl
  refine vp_callSi (va_Run.run (va_runV (As := [.int p1]) (rest := []) ⟨hx, hb, hml, hown, hts⟩ (c_X1_has l D cI cJ cZ cO aT aT_slips aT_lates aT_copied T_size T_littleOnes p1 _ rfl) (cwV 1 hts gX1_copiedBy_X1_has rfl rfl rfl (by decide +kernel) ⟨Nat.le_of_ble_eq_true rfl, Nat.le_of_ble_eq_true rfl⟩) ⟨fb_p, va_recv hK hP (ci := 1) (q0 := 0) rfl rfl, fun U hU hW => ⟨rfl, by rw [hU]; exact hPc, KK.warm hW hKK⟩⟩ rfl rfl hl.1 rfl (lv_room (Nat.le_of_ble_eq_true rfl)) dX1_copiedBy_2 ⟨Nat.le_of_ble_eq_true rfl, Nat.le_of_ble_eq_true rfl⟩)) (fun r hr => ?_)
  obtain ⟨hr, hz1⟩ := hr
  replace hr := hr.symm
  subst hr
  refine lv_if_eq (tgt := 17) hx hb dX1_copiedBy_5 (by decide) (fun c_2 => ?_) (fun c_2 => ?_)
  · replace h := if_p c_2 h
    refine lv_bipush (v := (9 : Int32)) hx hb dX1_copiedBy_17 (by decide) ?_
    exact pr_i hx hb hr hlocks dX1_copiedBy_19 (Option.some.inj h)
  · replace h := if_n c_2 h
    refine lv_aload_n hx hb dX1_copiedBy_8 rfl (lv_at hl 0 rfl) ?_
    refine va_get (D := D) (ci := 1) (v := .ref aT_copied) (C := RX1) (T := TX1) (N := 5) hx hb hts inX1 hown hK hP 0 rfl rfl 2 (by decide) fl_18 (fun _ h9 => h9) rfl dX1_copiedBy_9 ?_
    refine lv_iload_n hx hb dX1_copiedBy_12 rfl (lv_at hl 1 rfl) ?_
    obtain ⟨hi3, h⟩ := gd_in h
    refine va_iald hx hb hK hP 1 0 rfl rfl hi3 dX1_copiedBy_13 ?_
    refine lv_goto (tgt := 19) hx hb dX1_copiedBy_14 (by decide) ?_
    exact pr_i hx hb hr hlocks dX1_copiedBy_19 (Option.some.inj h)

def f_X1_howManyCopy_L4 (T_size : Int32) (T_copied : Nat → Int32) : Nat → Int32 → Int32 → Int32 → Option (Int32)
  | 0, _, _, _ => none
  | n + 1, x1, x2, x3 => (if T_size ≤ x3 then some x2 else (Option.bind (f_X1_copiedBy T_size T_copied x3) (fun y2 => (if y2 = x1 then f_X1_howManyCopy_L4 T_size T_copied n x1 (x2 + (1 : Int32)) (x3 + (1 : Int32)) else f_X1_howManyCopy_L4 T_size T_copied n x1 x2 (x3 + (1 : Int32))))))
def f_X1_howManyCopy (T_size : Int32) (T_copied : Nat → Int32) (p1 : Int32) : Option (Int32) := f_X1_howManyCopy_L4 T_size T_copied 300 p1 (0 : Int32) (0 : Int32)
set_option maxHeartbeats 8000000 in
set_option maxRecDepth 100000 in
theorem c_X1_howManyCopy (l : Launch) (D : va_G) (cI cJ cZ cO : ClassId) (aT : Nat) (aT_copied : Nat) (aT_slips : Nat) (aT_lates : Nat) (T_size : Int32) (T_littleOnes : Int32) (T_copied : Nat → Int32)  (p1 : Int32) (y0 : Int32) (h : f_X1_howManyCopy T_size T_copied p1 = some y0) : Met l yX1_howManyCopy wsX1_howManyCopy ({ frames := 2, cells := 0, slots := 0, locals := 42 } : Room) (va_Pc [.ref aT, .int p1] (fun U => va_P D vwCl [(aT, .inr (1, [.ref aT_slips, .ref aT_lates, .ref aT_copied, .int T_size, .int T_littleOnes])), (aT_copied, .inl (cI, 6, .inl T_copied))] U.heap ∧ KK D cI cJ cZ cO U)) (vp_Si (fun r => r = y0)) 0 0 (fun _ => False) := by
  refine Met.ofW (cc := cX1_howManyCopy) (maxL := 4) (ret := (some .int)) (by decide) rfl ?_
  intro p e s m args below meth c s₁ B hml hv
  obtain ⟨rfl, hP, hKK⟩ := hv
  have hx := B.exec
  have hb := B.bytes
  have hr := B.returns
  have hts := atoms_spec (ws := wsX1_howManyCopy) B.pre
  have hown : s.vm.findClass RX1 = some m.cls := findClass_of_methodNamed B.named
  have hlocks := B.notSynchronized
  have hK := hKK.1
  have fl_21 := hts (.fieldLink RX1 21 "SimonSays$Children" "size" "I") (by decide +kernel)
  have inX1 : ∀ w ∈ wsX10, w ∈ wsX1_howManyCopy := by decide +kernel
  have hl := lv_entry ([.ref aT, .int p1]) (n := 4) (Nat.le_of_ble_eq_true rfl)
  rw [lg_entry_eq]
  generalize (lg_sl ([.ref aT, .int p1]) ++ List.replicate (4 - (lg_sl ([.ref aT, .int p1])).length) Slot.unset).toArray = ls at hl ⊢
  have hl : lv_has ls 4 [(0, .ref aT), (1, .int p1)] := hl
  have L4 : ∀ (n : Nat), ∀ (x1 : Int32) (x2 : Int32) (x3 : Int32), ∀ (ls : Array Slot), lv_has ls 4 [(0, .ref aT), (1, .int x1), (2, .int x2), (3, .int x3)] → f_X1_howManyCopy_L4 T_size T_copied n x1 x2 x3 = some y0 → W p l e (headSpec wsX1_howManyCopy ({ frames := 2, cells := 0, slots := 0, locals := 42 } : Room)).room s m ([.ref aT, .int p1] : List Value).toArray below meth c s.heap [] 0 0 (MQ below (vp_Si (fun r => r = y0)) ([.ref aT, .int p1] : List Value).toArray s 0 0 (fun _ => False)) (F0 m 4 ls []) := by
    intro n
    induction n with
    | zero =>
      intro x1 x2 x3 ls hl h
      exact (ns h).elim
    | succ n ih =>
      intro x1 x2 x3 ls hl h
      unfold f_X1_howManyCopy_L4 at h
      refine lv_iload_n hx hb dX1_howManyCopy_4 rfl (lv_at hl 3 rfl) ?_
      refine lv_aload_n hx hb dX1_howManyCopy_5 rfl (lv_at hl 0 rfl) ?_
      refine va_get (D := D) (ci := 1) (v := .int T_size) (C := RX1) (T := TX1) (N := 5) hx hb hts inX1 hown hK hP 0 rfl rfl 3 (by decide) fl_21 (fun _ h9 => h9) rfl dX1_howManyCopy_6 ?_
      refine lv_icmp_ge (tgt := 30) hx hb dX1_howManyCopy_9 (by decide) (fun c_1 => ?_) (fun c_1 => ?_)
      · replace h := if_p c_1 h
        refine lv_iload_n hx hb dX1_howManyCopy_30 rfl (lv_at hl 2 rfl) ?_
        exact pr_i hx hb hr hlocks dX1_howManyCopy_31 (Option.some.inj h)
      · replace h := if_n c_1 h
        refine lv_aload_n hx hb dX1_howManyCopy_12 rfl (lv_at hl 0 rfl) ?_
        refine lv_iload_n hx hb dX1_howManyCopy_13 rfl (lv_at hl 3 rfl) ?_
        obtain ⟨y2, qy2, h⟩ := ob_some h
        have hPc : va_P D vwCl [(aT, .inr (1, [.ref aT_slips, .ref aT_lates, .ref aT_copied, .int T_size, .int T_littleOnes])), (aT_copied, .inl (cI, 6, .inl T_copied))] s.heap := hP.sub [0, 1] rfl
        refine vp_callSi (va_Run.run (va_runV (As := [.int x3]) (rest := []) ⟨hx, hb, hml, hown, hts⟩ (c_X1_copiedBy l D cI cJ cZ cO aT aT_copied aT_slips aT_lates T_size T_littleOnes T_copied x3 y2 qy2) (cwV 1 hts gX1_howManyCopy_X1_copiedBy rfl rfl rfl (by decide +kernel) ⟨Nat.le_of_ble_eq_true rfl, Nat.le_of_ble_eq_true rfl⟩) ⟨fb_p, va_recv hK hP (ci := 1) (q0 := 0) rfl rfl, fun U hU hW => ⟨rfl, by rw [hU]; exact hPc, KK.warm hW hKK⟩⟩ rfl rfl hl.1 rfl (lv_room (Nat.le_of_ble_eq_true rfl)) dX1_howManyCopy_14 ⟨Nat.le_of_ble_eq_true rfl, Nat.le_of_ble_eq_true rfl⟩)) (fun r hr => ?_)
        replace hr := hr.symm
        subst hr
        refine lv_iload_n hx hb dX1_howManyCopy_17 rfl (lv_at hl 1 rfl) ?_
        refine lv_icmp_ne (tgt := 24) hx hb dX1_howManyCopy_18 (by decide) (fun c_3 => ?_) (fun c_3 => ?_)
        · replace h := if_n c_3 h
          refine lv_iinc (v := (x3 + (1 : Int32))) (lv' := [(3, .int (x3 + (1 : Int32))), (0, .ref aT), (1, .int x1), (2, .int x2)]) hx hb dX1_howManyCopy_24 hl (k := 3) rfl rfl (by decide) rfl (fun ls hl => ?_)
          refine lv_goto (tgt := 4) hx hb dX1_howManyCopy_27 (by decide) ?_
          exact ih x1 x2 (x3 + (1 : Int32)) ls (lv_sub hl [1, 2, 3, 0] rfl) h
        · replace h := if_p c_3 h
          refine lv_iinc (v := (x2 + (1 : Int32))) (lv' := [(2, .int (x2 + (1 : Int32))), (0, .ref aT), (1, .int x1), (3, .int x3)]) hx hb dX1_howManyCopy_21 hl (k := 2) rfl rfl (by decide) rfl (fun ls hl => ?_)
          refine lv_iinc (v := (x3 + (1 : Int32))) (lv' := [(3, .int (x3 + (1 : Int32))), (2, .int (x2 + (1 : Int32))), (0, .ref aT), (1, .int x1)]) hx hb dX1_howManyCopy_24 hl (k := 3) rfl rfl (by decide) rfl (fun ls hl => ?_)
          refine lv_goto (tgt := 4) hx hb dX1_howManyCopy_27 (by decide) ?_
          exact ih x1 (x2 + (1 : Int32)) (x3 + (1 : Int32)) ls (lv_sub hl [2, 3, 1, 0] rfl) h
  unfold f_X1_howManyCopy at h
  refine lv_iconst (v := (0 : Int32)) hx hb dX1_howManyCopy_0 (by decide) ?_
  refine lv_istore_n (lv' := [(2, .int (0 : Int32)), (0, .ref aT), (1, .int p1)]) hx hb dX1_howManyCopy_1 rfl hl (by decide) rfl (fun ls hl => ?_)
  refine lv_iconst (v := (0 : Int32)) hx hb dX1_howManyCopy_2 (by decide) ?_
  refine lv_istore_n (lv' := [(3, .int (0 : Int32)), (2, .int (0 : Int32)), (0, .ref aT), (1, .int p1)]) hx hb dX1_howManyCopy_3 rfl hl (by decide) rfl (fun ls hl => ?_)
  exact L4 300 p1 (0 : Int32) (0 : Int32) ls (lv_sub hl [2, 3, 1, 0] rfl) h

def f_X1_add (T_size : Int32) (T_slips : Nat → Int32) (T_lates : Nat → Int32) (T_copied : Nat → Int32) (p1 : Int32) (p2 : Int32) (p3 : Int32) : Option (Int32 × (Nat → Int32) × (Nat → Int32) × (Nat → Int32)) := (if (6 : Int32) ≤ T_size then some (T_size, T_slips, T_lates, T_copied) else (if gIn T_size 6 = true then (if gIn T_size 6 = true then (if gIn T_size 6 = true then some ((T_size + (1 : Int32)), (upd T_slips T_size.toNatClampNeg p1), (upd T_lates T_size.toNatClampNeg p2), (upd T_copied T_size.toNatClampNeg p3)) else none) else none) else none))
set_option maxHeartbeats 8000000 in
set_option maxRecDepth 100000 in
theorem c_X1_add (l : Launch) (D : va_G) (cI cJ cZ cO : ClassId) (aT : Nat) (aT_slips : Nat) (aT_lates : Nat) (aT_copied : Nat) (T_size : Int32) (T_littleOnes : Int32) (T_slips : Nat → Int32) (T_lates : Nat → Int32) (T_copied : Nat → Int32) (sz : Nat) (p1 : Int32) (p2 : Int32) (p3 : Int32) (y0 : Int32 × (Nat → Int32) × (Nat → Int32) × (Nat → Int32)) (h : f_X1_add T_size T_slips T_lates T_copied p1 p2 p3 = some y0) : Met l yX1_add wsX1_add ({ frames := 0, cells := 0, slots := 0, locals := 0 } : Room) (va_Pc [.ref aT, .int p1, .int p2, .int p3] (fun U => U.heap.size = sz ∧ va_P D vwCl [(aT, .inr (1, [.ref aT_slips, .ref aT_lates, .ref aT_copied, .int T_size, .int T_littleOnes])), (aT_slips, .inl (cI, 6, .inl T_slips)), (aT_lates, .inl (cI, 6, .inl T_lates)), (aT_copied, .inl (cI, 6, .inl T_copied))] U.heap ∧ KK D cI cJ cZ cO U ∧ va_D (fun _ => True) [(aT, .inr (1, [.ref aT_slips, .ref aT_lates, .ref aT_copied, .int T_size, .int T_littleOnes])), (aT_slips, .inl (cI, 6, .inl T_slips)), (aT_lates, .inl (cI, 6, .inl T_lates)), (aT_copied, .inl (cI, 6, .inl T_copied))])) (va_Qv (fun (_ : Unit) => True) (fun (_ : Unit) t => va_P D vwCl [(aT, .inr (1, [.ref aT_slips, .ref aT_lates, .ref aT_copied, .int y0.1, .int T_littleOnes])), (aT_slips, .inl (cI, 6, .inl y0.2.1)), (aT_lates, .inl (cI, 6, .inl y0.2.2.1)), (aT_copied, .inl (cI, 6, .inl y0.2.2.2))] t.heap ∧ va_D (va_A [(aT, .inr (1, [.ref aT_slips, .ref aT_lates, .ref aT_copied, .int T_size, .int T_littleOnes])), (aT_slips, .inl (cI, 6, .inl T_slips)), (aT_lates, .inl (cI, 6, .inl T_lates)), (aT_copied, .inl (cI, 6, .inl T_copied))] sz) [(aT, .inr (1, [.ref aT_slips, .ref aT_lates, .ref aT_copied, .int y0.1, .int T_littleOnes])), (aT_slips, .inl (cI, 6, .inl y0.2.1)), (aT_lates, .inl (cI, 6, .inl y0.2.2.1)), (aT_copied, .inl (cI, 6, .inl y0.2.2.2))]) (va_A [(aT, .inr (1, [.ref aT_slips, .ref aT_lates, .ref aT_copied, .int T_size, .int T_littleOnes])), (aT_slips, .inl (cI, 6, .inl T_slips)), (aT_lates, .inl (cI, 6, .inl T_lates)), (aT_copied, .inl (cI, 6, .inl T_copied))] sz)) 0 0 (va_A [(aT, .inr (1, [.ref aT_slips, .ref aT_lates, .ref aT_copied, .int T_size, .int T_littleOnes])), (aT_slips, .inl (cI, 6, .inl T_slips)), (aT_lates, .inl (cI, 6, .inl T_lates)), (aT_copied, .inl (cI, 6, .inl T_copied))] sz) := by
  refine Met.ofW (cc := cX1_add) (maxL := 4) (ret := none) (by decide) rfl ?_
  intro p e s m args below meth c s₁ B hml hv
  obtain ⟨rfl, hsz, hP, hKK, hD0⟩ := hv
  have hx := B.exec
  have hb := B.bytes
  have hr := B.returns
  have hts := atoms_spec (ws := wsX1_add) B.pre
  have hown : s.vm.findClass RX1 = some m.cls := findClass_of_methodNamed B.named
  have hlocks := B.notSynchronized
  have hK := hKK.1
  have fl_9 := hts (.fieldLink RX1 9 "SimonSays$Children" "slips" "[I") (by decide +kernel)
  have fl_15 := hts (.fieldLink RX1 15 "SimonSays$Children" "lates" "[I") (by decide +kernel)
  have fl_18 := hts (.fieldLink RX1 18 "SimonSays$Children" "copied" "[I") (by decide +kernel)
  have fl_21 := hts (.fieldLink RX1 21 "SimonSays$Children" "size" "I") (by decide +kernel)
  have inX1 : ∀ w ∈ wsX10, w ∈ wsX1_add := by decide +kernel
  subst hsz
  have hD := hD0.self (sz := s.heap.size)
  generalize hAe : va_A [(aT, .inr (1, [.ref aT_slips, .ref aT_lates, .ref aT_copied, .int T_size, .int T_littleOnes])), (aT_slips, .inl (cI, 6, .inl T_slips)), (aT_lates, .inl (cI, 6, .inl T_lates)), (aT_copied, .inl (cI, 6, .inl T_copied))] s.heap.size = A at hD ⊢
  have hA : ∀ q : Nat, s.heap.size ≤ q → A q := fun q h => by rw [← hAe]; exact Or.inr h
  have hS : va_S A s.heap s.heap [] := va_S.rf
  have hl := lv_entry ([.ref aT, .int p1, .int p2, .int p3]) (n := 4) (Nat.le_of_ble_eq_true rfl)
  rw [lg_entry_eq]
  generalize (lg_sl ([.ref aT, .int p1, .int p2, .int p3]) ++ List.replicate (4 - (lg_sl ([.ref aT, .int p1, .int p2, .int p3])).length) Slot.unset).toArray = ls at hl ⊢
  have hl : lv_has ls 4 [(0, .ref aT), (1, .int p1), (2, .int p2), (3, .int p3)] := hl
  unfold f_X1_add at h
  refine lv_aload_n hx hb dX1_add_0 rfl (lv_at hl 0 rfl) ?_
  refine va_get (D := D) (ci := 1) (v := .int T_size) (C := RX1) (T := TX1) (N := 5) hx hb hts inX1 hown hK hP 0 rfl rfl 3 (by decide) fl_21 (fun _ h9 => h9) rfl dX1_add_1 ?_
  refine lv_bipush (v := (6 : Int32)) hx hb dX1_add_4 (by decide) ?_
  refine lv_icmp_ge (tgt := 49) hx hb dX1_add_6 (by decide) (fun c_1 => ?_) (fun c_1 => ?_)
  · replace h := if_p c_1 h
    have hy := Option.some.inj h
    subst hy
    exact W.vret hx hb hr (fun t ht hW => ⟨⟨(), rfl, trivial, by rw [ht]; exact hP, hD⟩, hS.F ht⟩) hS.2.2 dX1_add_49
  · replace h := if_n c_1 h
    refine lv_aload_n hx hb dX1_add_9 rfl (lv_at hl 0 rfl) ?_
    refine va_get (D := D) (ci := 1) (v := .ref aT_slips) (C := RX1) (T := TX1) (N := 5) hx hb hts inX1 hown hK hP 0 rfl rfl 0 (by decide) fl_9 (fun _ h9 => h9) rfl dX1_add_10 ?_
    refine lv_aload_n hx hb dX1_add_13 rfl (lv_at hl 0 rfl) ?_
    refine va_get (D := D) (ci := 1) (v := .int T_size) (C := RX1) (T := TX1) (N := 5) hx hb hts inX1 hown hK hP 0 rfl rfl 3 (by decide) fl_21 (fun _ h9 => h9) rfl dX1_add_14 ?_
    refine lv_iload_n hx hb dX1_add_17 rfl (lv_at hl 1 rfl) ?_
    obtain ⟨hi2, h⟩ := gd_in h
    refine va_iast hx hb hK hP hD hS 1 0 rfl rfl hi2 dX1_add_18 (fun H locs hP hD hS => ?_)
    have hP : va_P D vwCl [(aT, .inr (1, [.ref aT_slips, .ref aT_lates, .ref aT_copied, .int T_size, .int T_littleOnes])), (aT_slips, .inl (cI, 6, .inl (upd T_slips T_size.toNatClampNeg p1))), (aT_lates, .inl (cI, 6, .inl T_lates)), (aT_copied, .inl (cI, 6, .inl T_copied))] H := hP
    have hD : va_D A [(aT, .inr (1, [.ref aT_slips, .ref aT_lates, .ref aT_copied, .int T_size, .int T_littleOnes])), (aT_slips, .inl (cI, 6, .inl (upd T_slips T_size.toNatClampNeg p1))), (aT_lates, .inl (cI, 6, .inl T_lates)), (aT_copied, .inl (cI, 6, .inl T_copied))] := hD
    refine lv_aload_n hx hb dX1_add_19 rfl (lv_at hl 0 rfl) ?_
    refine va_get (D := D) (ci := 1) (v := .ref aT_lates) (C := RX1) (T := TX1) (N := 5) hx hb hts inX1 hown hK hP 0 rfl rfl 1 (by decide) fl_15 (fun _ h9 => h9) rfl dX1_add_20 ?_
    refine lv_aload_n hx hb dX1_add_23 rfl (lv_at hl 0 rfl) ?_
    refine va_get (D := D) (ci := 1) (v := .int T_size) (C := RX1) (T := TX1) (N := 5) hx hb hts inX1 hown hK hP 0 rfl rfl 3 (by decide) fl_21 (fun _ h9 => h9) rfl dX1_add_24 ?_
    refine lv_iload_n hx hb dX1_add_27 rfl (lv_at hl 2 rfl) ?_
    obtain ⟨hi3, h⟩ := gd_in h
    refine va_iast hx hb hK hP hD hS 2 0 rfl rfl hi3 dX1_add_28 (fun H locs hP hD hS => ?_)
    have hP : va_P D vwCl [(aT, .inr (1, [.ref aT_slips, .ref aT_lates, .ref aT_copied, .int T_size, .int T_littleOnes])), (aT_slips, .inl (cI, 6, .inl (upd T_slips T_size.toNatClampNeg p1))), (aT_lates, .inl (cI, 6, .inl (upd T_lates T_size.toNatClampNeg p2))), (aT_copied, .inl (cI, 6, .inl T_copied))] H := hP
    have hD : va_D A [(aT, .inr (1, [.ref aT_slips, .ref aT_lates, .ref aT_copied, .int T_size, .int T_littleOnes])), (aT_slips, .inl (cI, 6, .inl (upd T_slips T_size.toNatClampNeg p1))), (aT_lates, .inl (cI, 6, .inl (upd T_lates T_size.toNatClampNeg p2))), (aT_copied, .inl (cI, 6, .inl T_copied))] := hD
    refine lv_aload_n hx hb dX1_add_29 rfl (lv_at hl 0 rfl) ?_
    refine va_get (D := D) (ci := 1) (v := .ref aT_copied) (C := RX1) (T := TX1) (N := 5) hx hb hts inX1 hown hK hP 0 rfl rfl 2 (by decide) fl_18 (fun _ h9 => h9) rfl dX1_add_30 ?_
    refine lv_aload_n hx hb dX1_add_33 rfl (lv_at hl 0 rfl) ?_
    refine va_get (D := D) (ci := 1) (v := .int T_size) (C := RX1) (T := TX1) (N := 5) hx hb hts inX1 hown hK hP 0 rfl rfl 3 (by decide) fl_21 (fun _ h9 => h9) rfl dX1_add_34 ?_
    refine lv_iload_n hx hb dX1_add_37 rfl (lv_at hl 3 rfl) ?_
    obtain ⟨hi4, h⟩ := gd_in h
    refine va_iast hx hb hK hP hD hS 3 0 rfl rfl hi4 dX1_add_38 (fun H locs hP hD hS => ?_)
    have hP : va_P D vwCl [(aT, .inr (1, [.ref aT_slips, .ref aT_lates, .ref aT_copied, .int T_size, .int T_littleOnes])), (aT_slips, .inl (cI, 6, .inl (upd T_slips T_size.toNatClampNeg p1))), (aT_lates, .inl (cI, 6, .inl (upd T_lates T_size.toNatClampNeg p2))), (aT_copied, .inl (cI, 6, .inl (upd T_copied T_size.toNatClampNeg p3)))] H := hP
    have hD : va_D A [(aT, .inr (1, [.ref aT_slips, .ref aT_lates, .ref aT_copied, .int T_size, .int T_littleOnes])), (aT_slips, .inl (cI, 6, .inl (upd T_slips T_size.toNatClampNeg p1))), (aT_lates, .inl (cI, 6, .inl (upd T_lates T_size.toNatClampNeg p2))), (aT_copied, .inl (cI, 6, .inl (upd T_copied T_size.toNatClampNeg p3)))] := hD
    refine lv_aload_n hx hb dX1_add_39 rfl (lv_at hl 0 rfl) ?_
    refine lv_dup hx hb dX1_add_40 rfl ?_
    refine va_get (D := D) (ci := 1) (v := .int T_size) (C := RX1) (T := TX1) (N := 5) hx hb hts inX1 hown hK hP 0 rfl rfl 3 (by decide) fl_21 (fun _ h9 => h9) rfl dX1_add_41 ?_
    refine lv_iconst (v := (1 : Int32)) hx hb dX1_add_44 (by decide) ?_
    refine lv_iadd hx hb dX1_add_45 ?_
    refine va_put (D := D) (ci := 1) (v := .int (T_size + (1 : Int32))) (ty := .int) (C := RX1) (T := TX1) (N := 5) hx hb hts inX1 tyX1 tyX1_ok nmX1 hown hK hP hD hS 0 rfl rfl 3 (by decide) fl_21 (fun _ h9 => h9) rfl (by decide +kernel) rfl rfl (Nat.le_of_ble_eq_true rfl) dX1_add_46 (fun H locs hP hD hS => ?_)
    have hP : va_P D vwCl [(aT, .inr (1, [.ref aT_slips, .ref aT_lates, .ref aT_copied, .int (T_size + (1 : Int32)), .int T_littleOnes])), (aT_slips, .inl (cI, 6, .inl (upd T_slips T_size.toNatClampNeg p1))), (aT_lates, .inl (cI, 6, .inl (upd T_lates T_size.toNatClampNeg p2))), (aT_copied, .inl (cI, 6, .inl (upd T_copied T_size.toNatClampNeg p3)))] H := hP
    have hD : va_D A [(aT, .inr (1, [.ref aT_slips, .ref aT_lates, .ref aT_copied, .int (T_size + (1 : Int32)), .int T_littleOnes])), (aT_slips, .inl (cI, 6, .inl (upd T_slips T_size.toNatClampNeg p1))), (aT_lates, .inl (cI, 6, .inl (upd T_lates T_size.toNatClampNeg p2))), (aT_copied, .inl (cI, 6, .inl (upd T_copied T_size.toNatClampNeg p3)))] := hD
    have hy := Option.some.inj h
    subst hy
    exact W.vret hx hb hr (fun t ht hW => ⟨⟨(), rfl, trivial, by rw [ht]; exact hP, hD⟩, hS.F ht⟩) hS.2.2 dX1_add_49

def f_X1_makeLittle (T_littleOnes : Int32) (p1 : Int32) : Option (Int32) := some (T_littleOnes ||| ((1 : Int32) <<< (p1 &&& 31)))
set_option maxHeartbeats 8000000 in
set_option maxRecDepth 100000 in
theorem c_X1_makeLittle (l : Launch) (D : va_G) (cI cJ cZ cO : ClassId) (aT : Nat) (aT_slips : Nat) (aT_lates : Nat) (aT_copied : Nat) (T_size : Int32) (T_littleOnes : Int32) (sz : Nat) (p1 : Int32) (y0 : Int32) (h : f_X1_makeLittle T_littleOnes p1 = some y0) : Met l yX1_makeLittle wsX1_makeLittle ({ frames := 0, cells := 0, slots := 0, locals := 0 } : Room) (va_Pc [.ref aT, .int p1] (fun U => U.heap.size = sz ∧ va_P D vwCl [(aT, .inr (1, [.ref aT_slips, .ref aT_lates, .ref aT_copied, .int T_size, .int T_littleOnes]))] U.heap ∧ KK D cI cJ cZ cO U ∧ va_D (fun _ => True) [(aT, .inr (1, [.ref aT_slips, .ref aT_lates, .ref aT_copied, .int T_size, .int T_littleOnes]))])) (va_Qv (fun (_ : Unit) => True) (fun (_ : Unit) t => va_P D vwCl [(aT, .inr (1, [.ref aT_slips, .ref aT_lates, .ref aT_copied, .int T_size, .int y0]))] t.heap ∧ va_D (va_A [(aT, .inr (1, [.ref aT_slips, .ref aT_lates, .ref aT_copied, .int T_size, .int T_littleOnes]))] sz) [(aT, .inr (1, [.ref aT_slips, .ref aT_lates, .ref aT_copied, .int T_size, .int y0]))]) (va_A [(aT, .inr (1, [.ref aT_slips, .ref aT_lates, .ref aT_copied, .int T_size, .int T_littleOnes]))] sz)) 0 0 (va_A [(aT, .inr (1, [.ref aT_slips, .ref aT_lates, .ref aT_copied, .int T_size, .int T_littleOnes]))] sz) := by
  refine Met.ofW (cc := cX1_makeLittle) (maxL := 2) (ret := none) (by decide) rfl ?_
  intro p e s m args below meth c s₁ B hml hv
  obtain ⟨rfl, hsz, hP, hKK, hD0⟩ := hv
  have hx := B.exec
  have hb := B.bytes
  have hr := B.returns
  have hts := atoms_spec (ws := wsX1_makeLittle) B.pre
  have hown : s.vm.findClass RX1 = some m.cls := findClass_of_methodNamed B.named
  have hlocks := B.notSynchronized
  have hK := hKK.1
  have fl_25 := hts (.fieldLink RX1 25 "SimonSays$Children" "littleOnes" "I") (by decide +kernel)
  have inX1 : ∀ w ∈ wsX10, w ∈ wsX1_makeLittle := by decide +kernel
  subst hsz
  have hD := hD0.self (sz := s.heap.size)
  generalize hAe : va_A [(aT, .inr (1, [.ref aT_slips, .ref aT_lates, .ref aT_copied, .int T_size, .int T_littleOnes]))] s.heap.size = A at hD ⊢
  have hA : ∀ q : Nat, s.heap.size ≤ q → A q := fun q h => by rw [← hAe]; exact Or.inr h
  have hS : va_S A s.heap s.heap [] := va_S.rf
  have hl := lv_entry ([.ref aT, .int p1]) (n := 2) (Nat.le_of_ble_eq_true rfl)
  rw [lg_entry_eq]
  generalize (lg_sl ([.ref aT, .int p1]) ++ List.replicate (2 - (lg_sl ([.ref aT, .int p1])).length) Slot.unset).toArray = ls at hl ⊢
  have hl : lv_has ls 2 [(0, .ref aT), (1, .int p1)] := hl
  unfold f_X1_makeLittle at h
  refine lv_aload_n hx hb dX1_makeLittle_0 rfl (lv_at hl 0 rfl) ?_
  refine lv_dup hx hb dX1_makeLittle_1 rfl ?_
  refine va_get (D := D) (ci := 1) (v := .int T_littleOnes) (C := RX1) (T := TX1) (N := 5) hx hb hts inX1 hown hK hP 0 rfl rfl 4 (by decide) fl_25 (fun _ h9 => h9) rfl dX1_makeLittle_2 ?_
  refine lv_iconst (v := (1 : Int32)) hx hb dX1_makeLittle_5 (by decide) ?_
  refine lv_iload_n hx hb dX1_makeLittle_6 rfl (lv_at hl 1 rfl) ?_
  refine lv_ishl hx hb dX1_makeLittle_7 ?_
  refine lv_ior hx hb dX1_makeLittle_8 ?_
  refine va_put (D := D) (ci := 1) (v := .int (T_littleOnes ||| ((1 : Int32) <<< (p1 &&& 31)))) (ty := .int) (C := RX1) (T := TX1) (N := 5) hx hb hts inX1 tyX1 tyX1_ok nmX1 hown hK hP hD hS 0 rfl rfl 4 (by decide) fl_25 (fun _ h9 => h9) rfl (by decide +kernel) rfl rfl (Nat.le_of_ble_eq_true rfl) dX1_makeLittle_9 (fun H locs hP hD hS => ?_)
  have hP : va_P D vwCl [(aT, .inr (1, [.ref aT_slips, .ref aT_lates, .ref aT_copied, .int T_size, .int (T_littleOnes ||| ((1 : Int32) <<< (p1 &&& 31)))]))] H := hP
  have hD : va_D A [(aT, .inr (1, [.ref aT_slips, .ref aT_lates, .ref aT_copied, .int T_size, .int (T_littleOnes ||| ((1 : Int32) <<< (p1 &&& 31)))]))] := hD
  have hy := Option.some.inj h
  subst hy
  exact W.vret hx hb hr (fun t ht hW => ⟨⟨(), rfl, trivial, by rw [ht]; exact hP, hD⟩, hS.F ht⟩) hS.2.2 dX1_makeLittle_12

def f_X1_errsOf (T_size : Int32) (T_slips : Nat → Int32) (T_lates : Nat → Int32) (p1 : Int32) (p2 : Int32) (p3 : Int32) : Option (Int32) := (if p2 = (2 : Int32) then (Option.bind (f_X1_slipOf T_size T_slips p1) (fun y1 => some (if (y1 + p3) < (10 : Int32) then (y1 + p3) else (10 : Int32)))) else (if p2 = (3 : Int32) then (Option.bind (f_X1_slipOf T_size T_slips p1) (fun y3 => some (if ((y3 + p3) + (2 : Int32)) < (10 : Int32) then ((y3 + p3) + (2 : Int32)) else (10 : Int32)))) else (if p2 = (4 : Int32) then (Option.bind (f_X1_lateOf T_size T_lates p1) (fun y5 => some (if y5 < (10 : Int32) then y5 else (10 : Int32)))) else some (0 : Int32))))
set_option maxHeartbeats 8000000 in
set_option maxRecDepth 100000 in
theorem c_X1_errsOf (l : Launch) (D : va_G) (cI cJ cZ cO : ClassId) (aT : Nat) (aT_slips : Nat) (aT_lates : Nat) (aT_copied : Nat) (T_size : Int32) (T_littleOnes : Int32) (T_slips : Nat → Int32) (T_lates : Nat → Int32)  (p1 : Int32) (p2 : Int32) (p3 : Int32) (y0 : Int32) (h : f_X1_errsOf T_size T_slips T_lates p1 p2 p3 = some y0) : Met l yX1_errsOf wsX1_errsOf ({ frames := 2, cells := 0, slots := 0, locals := 42 } : Room) (va_Pc [.ref aT, .int p1, .int p2, .int p3] (fun U => va_P D vwCl [(aT, .inr (1, [.ref aT_slips, .ref aT_lates, .ref aT_copied, .int T_size, .int T_littleOnes])), (aT_slips, .inl (cI, 6, .inl T_slips)), (aT_lates, .inl (cI, 6, .inl T_lates))] U.heap ∧ KK D cI cJ cZ cO U)) (vp_Si (fun r => r = y0)) 0 0 (fun _ => False) := by
  refine Met.ofW (cc := cX1_errsOf) (maxL := 4) (ret := (some .int)) (by decide) rfl ?_
  intro p e s m args below meth c s₁ B hml hv
  obtain ⟨rfl, hP, hKK⟩ := hv
  have hx := B.exec
  have hb := B.bytes
  have hr := B.returns
  have hts := atoms_spec (ws := wsX1_errsOf) B.pre
  have hown : s.vm.findClass RX1 = some m.cls := findClass_of_methodNamed B.named
  have hlocks := B.notSynchronized
  have hK := hKK.1
  have comin := hts (.code Lib.Math.min.name Lib.Math.min.code 2 (some .int)) (by decide +kernel)
  have inmin := hts (.initialized "java/lang/Math") (by decide +kernel)
  have mlmin53 := hts (.methodLink RX1 53 Lib.Math.min.name) (by decide +kernel)
  have stmin := hts (.static Lib.Math.min.name) (by decide +kernel)
  have hl := lv_entry ([.ref aT, .int p1, .int p2, .int p3]) (n := 4) (Nat.le_of_ble_eq_true rfl)
  rw [lg_entry_eq]
  generalize (lg_sl ([.ref aT, .int p1, .int p2, .int p3]) ++ List.replicate (4 - (lg_sl ([.ref aT, .int p1, .int p2, .int p3])).length) Slot.unset).toArray = ls at hl ⊢
  have hl : lv_has ls 4 [(0, .ref aT), (1, .int p1), (2, .int p2), (3, .int p3)] := hl
  unfold f_X1_errsOf at h
  refine lv_iload_n hx hb dX1_errsOf_0 rfl (lv_at hl 2 rfl) ?_
  by_cases s_2 : p2 = (2 : Int32)
  · replace h := if_p s_2 h
    refine lv_tableIn (off := 27) (tgt := 28) hx hb dX1_errsOf_1 (by rw [s_2]; decide) (by rw [s_2]; decide) (by rw [s_2]; decide) (by decide) ?_
    refine lv_bipush (v := (10 : Int32)) hx hb dX1_errsOf_28 (by decide) ?_
    refine lv_aload_n hx hb dX1_errsOf_30 rfl (lv_at hl 0 rfl) ?_
    refine lv_iload_n hx hb dX1_errsOf_31 rfl (lv_at hl 1 rfl) ?_
    obtain ⟨y1, qy1, h⟩ := ob_some h
    have hPc : va_P D vwCl [(aT, .inr (1, [.ref aT_slips, .ref aT_lates, .ref aT_copied, .int T_size, .int T_littleOnes])), (aT_slips, .inl (cI, 6, .inl T_slips))] s.heap := hP.sub [0, 1] rfl
    refine vp_callSi (va_Run.run (va_runV (As := [.int p1]) (rest := [.int (10 : Int32)]) ⟨hx, hb, hml, hown, hts⟩ (c_X1_slipOf l D cI cJ cZ cO aT aT_slips aT_lates aT_copied T_size T_littleOnes T_slips p1 y1 qy1) (cwV 1 hts gX1_errsOf_X1_slipOf rfl rfl rfl (by decide +kernel) ⟨Nat.le_of_ble_eq_true rfl, Nat.le_of_ble_eq_true rfl⟩) ⟨fb_p, va_recv hK hP (ci := 1) (q0 := 0) rfl rfl, fun U hU hW => ⟨rfl, by rw [hU]; exact hPc, KK.warm hW hKK⟩⟩ rfl rfl hl.1 rfl (lv_room (Nat.le_of_ble_eq_true rfl)) dX1_errsOf_32 ⟨Nat.le_of_ble_eq_true rfl, Nat.le_of_ble_eq_true rfl⟩)) (fun r hr => ?_)
    replace hr := hr.symm
    subst hr
    refine lv_iload_n hx hb dX1_errsOf_35 rfl (lv_at hl 3 rfl) ?_
    refine lv_iadd hx hb dX1_errsOf_36 ?_
    refine va_mmin hx hb (hml.trans hl.1.symm) hown mlmin53 stmin inmin comin (Nat.le_of_ble_eq_true rfl) (Nat.le_of_ble_eq_true rfl) (Nat.le_of_ble_eq_true rfl) (Nat.le_of_ble_eq_true rfl) dX1_errsOf_37 ?_
    exact pr_i hx hb hr hlocks dX1_errsOf_40 (Option.some.inj h)
  replace h := if_n s_2 h
  by_cases s_4 : p2 = (3 : Int32)
  · replace h := if_p s_4 h
    refine lv_tableIn (off := 40) (tgt := 41) hx hb dX1_errsOf_1 (by rw [s_4]; decide) (by rw [s_4]; decide) (by rw [s_4]; decide) (by decide) ?_
    refine lv_bipush (v := (10 : Int32)) hx hb dX1_errsOf_41 (by decide) ?_
    refine lv_aload_n hx hb dX1_errsOf_43 rfl (lv_at hl 0 rfl) ?_
    refine lv_iload_n hx hb dX1_errsOf_44 rfl (lv_at hl 1 rfl) ?_
    obtain ⟨y3, qy3, h⟩ := ob_some h
    have hPc : va_P D vwCl [(aT, .inr (1, [.ref aT_slips, .ref aT_lates, .ref aT_copied, .int T_size, .int T_littleOnes])), (aT_slips, .inl (cI, 6, .inl T_slips))] s.heap := hP.sub [0, 1] rfl
    refine vp_callSi (va_Run.run (va_runV (As := [.int p1]) (rest := [.int (10 : Int32)]) ⟨hx, hb, hml, hown, hts⟩ (c_X1_slipOf l D cI cJ cZ cO aT aT_slips aT_lates aT_copied T_size T_littleOnes T_slips p1 y3 qy3) (cwV 1 hts gX1_errsOf_X1_slipOf rfl rfl rfl (by decide +kernel) ⟨Nat.le_of_ble_eq_true rfl, Nat.le_of_ble_eq_true rfl⟩) ⟨fb_p, va_recv hK hP (ci := 1) (q0 := 0) rfl rfl, fun U hU hW => ⟨rfl, by rw [hU]; exact hPc, KK.warm hW hKK⟩⟩ rfl rfl hl.1 rfl (lv_room (Nat.le_of_ble_eq_true rfl)) dX1_errsOf_45 ⟨Nat.le_of_ble_eq_true rfl, Nat.le_of_ble_eq_true rfl⟩)) (fun r hr => ?_)
    replace hr := hr.symm
    subst hr
    refine lv_iload_n hx hb dX1_errsOf_48 rfl (lv_at hl 3 rfl) ?_
    refine lv_iadd hx hb dX1_errsOf_49 ?_
    refine lv_iconst (v := (2 : Int32)) hx hb dX1_errsOf_50 (by decide) ?_
    refine lv_iadd hx hb dX1_errsOf_51 ?_
    refine va_mmin hx hb (hml.trans hl.1.symm) hown mlmin53 stmin inmin comin (Nat.le_of_ble_eq_true rfl) (Nat.le_of_ble_eq_true rfl) (Nat.le_of_ble_eq_true rfl) (Nat.le_of_ble_eq_true rfl) dX1_errsOf_52 ?_
    exact pr_i hx hb hr hlocks dX1_errsOf_55 (Option.some.inj h)
  replace h := if_n s_4 h
  by_cases s_6 : p2 = (4 : Int32)
  · replace h := if_p s_6 h
    refine lv_tableIn (off := 55) (tgt := 56) hx hb dX1_errsOf_1 (by rw [s_6]; decide) (by rw [s_6]; decide) (by rw [s_6]; decide) (by decide) ?_
    refine lv_bipush (v := (10 : Int32)) hx hb dX1_errsOf_56 (by decide) ?_
    refine lv_aload_n hx hb dX1_errsOf_58 rfl (lv_at hl 0 rfl) ?_
    refine lv_iload_n hx hb dX1_errsOf_59 rfl (lv_at hl 1 rfl) ?_
    obtain ⟨y5, qy5, h⟩ := ob_some h
    have hPc : va_P D vwCl [(aT, .inr (1, [.ref aT_slips, .ref aT_lates, .ref aT_copied, .int T_size, .int T_littleOnes])), (aT_lates, .inl (cI, 6, .inl T_lates))] s.heap := hP.sub [0, 2] rfl
    refine vp_callSi (va_Run.run (va_runV (As := [.int p1]) (rest := [.int (10 : Int32)]) ⟨hx, hb, hml, hown, hts⟩ (c_X1_lateOf l D cI cJ cZ cO aT aT_lates aT_slips aT_copied T_size T_littleOnes T_lates p1 y5 qy5) (cwV 1 hts gX1_errsOf_X1_lateOf rfl rfl rfl (by decide +kernel) ⟨Nat.le_of_ble_eq_true rfl, Nat.le_of_ble_eq_true rfl⟩) ⟨fb_p, va_recv hK hP (ci := 1) (q0 := 0) rfl rfl, fun U hU hW => ⟨rfl, by rw [hU]; exact hPc, KK.warm hW hKK⟩⟩ rfl rfl hl.1 rfl (lv_room (Nat.le_of_ble_eq_true rfl)) dX1_errsOf_60 ⟨Nat.le_of_ble_eq_true rfl, Nat.le_of_ble_eq_true rfl⟩)) (fun r hr => ?_)
    replace hr := hr.symm
    subst hr
    refine va_mmin hx hb (hml.trans hl.1.symm) hown mlmin53 stmin inmin comin (Nat.le_of_ble_eq_true rfl) (Nat.le_of_ble_eq_true rfl) (Nat.le_of_ble_eq_true rfl) (Nat.le_of_ble_eq_true rfl) dX1_errsOf_63 ?_
    exact pr_i hx hb hr hlocks dX1_errsOf_66 (Option.some.inj h)
  replace h := if_n s_6 h
  refine lv_tableOut (tgt := 67) hx hb dX1_errsOf_1 (by have e2 := i32_nek (2) (2 : Int32) (by decide) s_2; have e3 := i32_nek (3) (3 : Int32) (by decide) s_4; have e4 := i32_nek (4) (4 : Int32) (by decide) s_6; omega) (by decide) ?_
  refine lv_iconst (v := (0 : Int32)) hx hb dX1_errsOf_67 (by decide) ?_
  exact pr_i hx hb hr hlocks dX1_errsOf_68 (Option.some.inj h)

def f_X1_takeOver_L6 (F_size : Int32) (F_littleOnes : Int32) (F_slips : Nat → Int32) (F_lates : Nat → Int32) (F_copied : Nat → Int32) : Nat → Int32 → Int32 → (Nat → Int32) → (Nat → Int32) → (Nat → Int32) → Int32 → Option (Int32 × Int32 × (Nat → Int32) × (Nat → Int32) × (Nat → Int32))
  | 0, _, _, _, _, _, _ => none
  | n + 1, T_size, T_littleOnes, T_slips, T_lates, T_copied, x2 => (if F_size ≤ x2 then some (T_size, F_littleOnes, T_slips, T_lates, T_copied) else (Option.bind (f_X1_slipOf F_size F_slips x2) (fun y3 => (Option.bind (f_X1_lateOf F_size F_lates x2) (fun y4 => (Option.bind (f_X1_copiedBy F_size F_copied x2) (fun y5 => (Option.bind (f_X1_add T_size T_slips T_lates T_copied y3 y4 y5) (fun y6 => f_X1_takeOver_L6 F_size F_littleOnes F_slips F_lates F_copied n y6.1 T_littleOnes y6.2.1 y6.2.2.1 y6.2.2.2 (x2 + (1 : Int32)))))))))))
def f_X1_takeOver (F_size : Int32) (F_littleOnes : Int32) (F_slips : Nat → Int32) (F_lates : Nat → Int32) (F_copied : Nat → Int32) (T_size : Int32) (T_littleOnes : Int32) (T_slips : Nat → Int32) (T_lates : Nat → Int32) (T_copied : Nat → Int32) : Option (Int32 × Int32 × (Nat → Int32) × (Nat → Int32) × (Nat → Int32)) := (Option.bind (f_X1_forget T_size T_littleOnes) (fun y1 => f_X1_takeOver_L6 F_size F_littleOnes F_slips F_lates F_copied 300 y1.1 y1.2 T_slips T_lates T_copied (0 : Int32)))
set_option maxHeartbeats 8000000 in
set_option maxRecDepth 100000 in
theorem c_X1_takeOver (l : Launch) (D : va_G) (cI cJ cZ cO : ClassId) (aF : Nat) (aF_slips : Nat) (aF_lates : Nat) (aF_copied : Nat) (aT : Nat) (aT_slips : Nat) (aT_lates : Nat) (aT_copied : Nat) (F_size : Int32) (F_littleOnes : Int32) (F_slips : Nat → Int32) (F_lates : Nat → Int32) (F_copied : Nat → Int32) (T_size : Int32) (T_littleOnes : Int32) (T_slips : Nat → Int32) (T_lates : Nat → Int32) (T_copied : Nat → Int32) (sz : Nat)  (y0 : Int32 × Int32 × (Nat → Int32) × (Nat → Int32) × (Nat → Int32)) (h : f_X1_takeOver F_size F_littleOnes F_slips F_lates F_copied T_size T_littleOnes T_slips T_lates T_copied = some y0) : Met l yX1_takeOver wsX1_takeOver ({ frames := 2, cells := 0, slots := 0, locals := 42 } : Room) (va_Pc [.ref aT, .ref aF] (fun U => U.heap.size = sz ∧ va_P D vwCl [(aF, .inr (1, [.ref aF_slips, .ref aF_lates, .ref aF_copied, .int F_size, .int F_littleOnes])), (aF_slips, .inl (cI, 6, .inl F_slips)), (aF_lates, .inl (cI, 6, .inl F_lates)), (aF_copied, .inl (cI, 6, .inl F_copied)), (aT, .inr (1, [.ref aT_slips, .ref aT_lates, .ref aT_copied, .int T_size, .int T_littleOnes])), (aT_slips, .inl (cI, 6, .inl T_slips)), (aT_lates, .inl (cI, 6, .inl T_lates)), (aT_copied, .inl (cI, 6, .inl T_copied))] U.heap ∧ KK D cI cJ cZ cO U ∧ va_D (fun _ => True) [(aF, .inr (1, [.ref aF_slips, .ref aF_lates, .ref aF_copied, .int F_size, .int F_littleOnes])), (aF_slips, .inl (cI, 6, .inl F_slips)), (aF_lates, .inl (cI, 6, .inl F_lates)), (aF_copied, .inl (cI, 6, .inl F_copied)), (aT, .inr (1, [.ref aT_slips, .ref aT_lates, .ref aT_copied, .int T_size, .int T_littleOnes])), (aT_slips, .inl (cI, 6, .inl T_slips)), (aT_lates, .inl (cI, 6, .inl T_lates)), (aT_copied, .inl (cI, 6, .inl T_copied))])) (va_Qv (fun (_ : Unit) => True) (fun (_ : Unit) t => va_P D vwCl [(aF, .inr (1, [.ref aF_slips, .ref aF_lates, .ref aF_copied, .int F_size, .int F_littleOnes])), (aF_slips, .inl (cI, 6, .inl F_slips)), (aF_lates, .inl (cI, 6, .inl F_lates)), (aF_copied, .inl (cI, 6, .inl F_copied)), (aT, .inr (1, [.ref aT_slips, .ref aT_lates, .ref aT_copied, .int y0.1, .int y0.2.1])), (aT_slips, .inl (cI, 6, .inl y0.2.2.1)), (aT_lates, .inl (cI, 6, .inl y0.2.2.2.1)), (aT_copied, .inl (cI, 6, .inl y0.2.2.2.2))] t.heap ∧ va_D (va_A [(aF, .inr (1, [.ref aF_slips, .ref aF_lates, .ref aF_copied, .int F_size, .int F_littleOnes])), (aF_slips, .inl (cI, 6, .inl F_slips)), (aF_lates, .inl (cI, 6, .inl F_lates)), (aF_copied, .inl (cI, 6, .inl F_copied)), (aT, .inr (1, [.ref aT_slips, .ref aT_lates, .ref aT_copied, .int T_size, .int T_littleOnes])), (aT_slips, .inl (cI, 6, .inl T_slips)), (aT_lates, .inl (cI, 6, .inl T_lates)), (aT_copied, .inl (cI, 6, .inl T_copied))] sz) [(aF, .inr (1, [.ref aF_slips, .ref aF_lates, .ref aF_copied, .int F_size, .int F_littleOnes])), (aF_slips, .inl (cI, 6, .inl F_slips)), (aF_lates, .inl (cI, 6, .inl F_lates)), (aF_copied, .inl (cI, 6, .inl F_copied)), (aT, .inr (1, [.ref aT_slips, .ref aT_lates, .ref aT_copied, .int y0.1, .int y0.2.1])), (aT_slips, .inl (cI, 6, .inl y0.2.2.1)), (aT_lates, .inl (cI, 6, .inl y0.2.2.2.1)), (aT_copied, .inl (cI, 6, .inl y0.2.2.2.2))]) (va_A [(aF, .inr (1, [.ref aF_slips, .ref aF_lates, .ref aF_copied, .int F_size, .int F_littleOnes])), (aF_slips, .inl (cI, 6, .inl F_slips)), (aF_lates, .inl (cI, 6, .inl F_lates)), (aF_copied, .inl (cI, 6, .inl F_copied)), (aT, .inr (1, [.ref aT_slips, .ref aT_lates, .ref aT_copied, .int T_size, .int T_littleOnes])), (aT_slips, .inl (cI, 6, .inl T_slips)), (aT_lates, .inl (cI, 6, .inl T_lates)), (aT_copied, .inl (cI, 6, .inl T_copied))] sz)) 0 0 (va_A [(aF, .inr (1, [.ref aF_slips, .ref aF_lates, .ref aF_copied, .int F_size, .int F_littleOnes])), (aF_slips, .inl (cI, 6, .inl F_slips)), (aF_lates, .inl (cI, 6, .inl F_lates)), (aF_copied, .inl (cI, 6, .inl F_copied)), (aT, .inr (1, [.ref aT_slips, .ref aT_lates, .ref aT_copied, .int T_size, .int T_littleOnes])), (aT_slips, .inl (cI, 6, .inl T_slips)), (aT_lates, .inl (cI, 6, .inl T_lates)), (aT_copied, .inl (cI, 6, .inl T_copied))] sz) := by
  refine Met.ofW (cc := cX1_takeOver) (maxL := 3) (ret := none) (by decide) rfl ?_
  intro p e s m args below meth c s₁ B hml hv
  obtain ⟨rfl, hsz, hP, hKK, hD0⟩ := hv
  have hx := B.exec
  have hb := B.bytes
  have hr := B.returns
  have hts := atoms_spec (ws := wsX1_takeOver) B.pre
  have hown : s.vm.findClass RX1 = some m.cls := findClass_of_methodNamed B.named
  have hlocks := B.notSynchronized
  have hK := hKK.1
  have fl_21 := hts (.fieldLink RX1 21 "SimonSays$Children" "size" "I") (by decide +kernel)
  have fl_25 := hts (.fieldLink RX1 25 "SimonSays$Children" "littleOnes" "I") (by decide +kernel)
  have inX1 : ∀ w ∈ wsX10, w ∈ wsX1_takeOver := by decide +kernel
  subst hsz
  have hD := hD0.self (sz := s.heap.size)
  generalize hAe : va_A [(aF, .inr (1, [.ref aF_slips, .ref aF_lates, .ref aF_copied, .int F_size, .int F_littleOnes])), (aF_slips, .inl (cI, 6, .inl F_slips)), (aF_lates, .inl (cI, 6, .inl F_lates)), (aF_copied, .inl (cI, 6, .inl F_copied)), (aT, .inr (1, [.ref aT_slips, .ref aT_lates, .ref aT_copied, .int T_size, .int T_littleOnes])), (aT_slips, .inl (cI, 6, .inl T_slips)), (aT_lates, .inl (cI, 6, .inl T_lates)), (aT_copied, .inl (cI, 6, .inl T_copied))] s.heap.size = A at hD ⊢
  have hA : ∀ q : Nat, s.heap.size ≤ q → A q := fun q h => by rw [← hAe]; exact Or.inr h
  have hS : va_S A s.heap s.heap [] := va_S.rf
  have hl := lv_entry ([.ref aT, .ref aF]) (n := 3) (Nat.le_of_ble_eq_true rfl)
  rw [lg_entry_eq]
  generalize (lg_sl ([.ref aT, .ref aF]) ++ List.replicate (3 - (lg_sl ([.ref aT, .ref aF])).length) Slot.unset).toArray = ls at hl ⊢
  have hl : lv_has ls 3 [(0, .ref aT), (1, .ref aF)] := hl
  have L6 : ∀ (n : Nat), ∀ (T_size : Int32) (T_littleOnes : Int32) (T_slips : Nat → Int32) (T_lates : Nat → Int32) (T_copied : Nat → Int32) (x2 : Int32), ∀ (H : Heap) (locs : List Loc), va_P D vwCl [(aF, .inr (1, [.ref aF_slips, .ref aF_lates, .ref aF_copied, .int F_size, .int F_littleOnes])), (aF_slips, .inl (cI, 6, .inl F_slips)), (aF_lates, .inl (cI, 6, .inl F_lates)), (aF_copied, .inl (cI, 6, .inl F_copied)), (aT, .inr (1, [.ref aT_slips, .ref aT_lates, .ref aT_copied, .int T_size, .int T_littleOnes])), (aT_slips, .inl (cI, 6, .inl T_slips)), (aT_lates, .inl (cI, 6, .inl T_lates)), (aT_copied, .inl (cI, 6, .inl T_copied))] H → va_D A [(aF, .inr (1, [.ref aF_slips, .ref aF_lates, .ref aF_copied, .int F_size, .int F_littleOnes])), (aF_slips, .inl (cI, 6, .inl F_slips)), (aF_lates, .inl (cI, 6, .inl F_lates)), (aF_copied, .inl (cI, 6, .inl F_copied)), (aT, .inr (1, [.ref aT_slips, .ref aT_lates, .ref aT_copied, .int T_size, .int T_littleOnes])), (aT_slips, .inl (cI, 6, .inl T_slips)), (aT_lates, .inl (cI, 6, .inl T_lates)), (aT_copied, .inl (cI, 6, .inl T_copied))] → va_S A s.heap H locs → ∀ (ls : Array Slot), lv_has ls 3 [(0, .ref aT), (1, .ref aF), (2, .int x2)] → f_X1_takeOver_L6 F_size F_littleOnes F_slips F_lates F_copied n T_size T_littleOnes T_slips T_lates T_copied x2 = some y0 → W p l e (headSpec wsX1_takeOver ({ frames := 2, cells := 0, slots := 0, locals := 42 } : Room)).room s m ([.ref aT, .ref aF] : List Value).toArray below meth c H locs 0 0 (MQ below (va_Qv (fun (_ : Unit) => True) (fun (_ : Unit) t => va_P D vwCl [(aF, .inr (1, [.ref aF_slips, .ref aF_lates, .ref aF_copied, .int F_size, .int F_littleOnes])), (aF_slips, .inl (cI, 6, .inl F_slips)), (aF_lates, .inl (cI, 6, .inl F_lates)), (aF_copied, .inl (cI, 6, .inl F_copied)), (aT, .inr (1, [.ref aT_slips, .ref aT_lates, .ref aT_copied, .int y0.1, .int y0.2.1])), (aT_slips, .inl (cI, 6, .inl y0.2.2.1)), (aT_lates, .inl (cI, 6, .inl y0.2.2.2.1)), (aT_copied, .inl (cI, 6, .inl y0.2.2.2.2))] t.heap ∧ va_D A [(aF, .inr (1, [.ref aF_slips, .ref aF_lates, .ref aF_copied, .int F_size, .int F_littleOnes])), (aF_slips, .inl (cI, 6, .inl F_slips)), (aF_lates, .inl (cI, 6, .inl F_lates)), (aF_copied, .inl (cI, 6, .inl F_copied)), (aT, .inr (1, [.ref aT_slips, .ref aT_lates, .ref aT_copied, .int y0.1, .int y0.2.1])), (aT_slips, .inl (cI, 6, .inl y0.2.2.1)), (aT_lates, .inl (cI, 6, .inl y0.2.2.2.1)), (aT_copied, .inl (cI, 6, .inl y0.2.2.2.2))]) A) ([.ref aT, .ref aF] : List Value).toArray s 0 0 A) (F0 m 6 ls []) := by
    intro n
    induction n with
    | zero =>
      intro T_size T_littleOnes T_slips T_lates T_copied x2 H locs hP hD hS ls hl h
      exact (ns h).elim
    | succ n ih =>
      intro T_size T_littleOnes T_slips T_lates T_copied x2 H locs hP hD hS ls hl h
      unfold f_X1_takeOver_L6 at h
      refine lv_iload_n hx hb dX1_takeOver_6 rfl (lv_at hl 2 rfl) ?_
      refine lv_aload_n hx hb dX1_takeOver_7 rfl (lv_at hl 1 rfl) ?_
      refine va_get (D := D) (ci := 1) (v := .int F_size) (C := RX1) (T := TX1) (N := 5) hx hb hts inX1 hown hK hP 0 rfl rfl 3 (by decide) fl_21 (fun _ h9 => h9) rfl dX1_takeOver_8 ?_
      refine lv_icmp_ge (tgt := 39) hx hb dX1_takeOver_11 (by decide) (fun c_2 => ?_) (fun c_2 => ?_)
      · replace h := if_p c_2 h
        refine lv_aload_n hx hb dX1_takeOver_39 rfl (lv_at hl 0 rfl) ?_
        refine lv_aload_n hx hb dX1_takeOver_40 rfl (lv_at hl 1 rfl) ?_
        refine va_get (D := D) (ci := 1) (v := .int F_littleOnes) (C := RX1) (T := TX1) (N := 5) hx hb hts inX1 hown hK hP 0 rfl rfl 4 (by decide) fl_25 (fun _ h9 => h9) rfl dX1_takeOver_41 ?_
        refine va_put (D := D) (ci := 1) (v := .int F_littleOnes) (ty := .int) (C := RX1) (T := TX1) (N := 5) hx hb hts inX1 tyX1 tyX1_ok nmX1 hown hK hP hD hS 4 rfl rfl 4 (by decide) fl_25 (fun _ h9 => h9) rfl (by decide +kernel) rfl rfl (Nat.le_of_ble_eq_true rfl) dX1_takeOver_44 (fun H locs hP hD hS => ?_)
        have hP : va_P D vwCl [(aF, .inr (1, [.ref aF_slips, .ref aF_lates, .ref aF_copied, .int F_size, .int F_littleOnes])), (aF_slips, .inl (cI, 6, .inl F_slips)), (aF_lates, .inl (cI, 6, .inl F_lates)), (aF_copied, .inl (cI, 6, .inl F_copied)), (aT, .inr (1, [.ref aT_slips, .ref aT_lates, .ref aT_copied, .int T_size, .int F_littleOnes])), (aT_slips, .inl (cI, 6, .inl T_slips)), (aT_lates, .inl (cI, 6, .inl T_lates)), (aT_copied, .inl (cI, 6, .inl T_copied))] H := hP
        have hD : va_D A [(aF, .inr (1, [.ref aF_slips, .ref aF_lates, .ref aF_copied, .int F_size, .int F_littleOnes])), (aF_slips, .inl (cI, 6, .inl F_slips)), (aF_lates, .inl (cI, 6, .inl F_lates)), (aF_copied, .inl (cI, 6, .inl F_copied)), (aT, .inr (1, [.ref aT_slips, .ref aT_lates, .ref aT_copied, .int T_size, .int F_littleOnes])), (aT_slips, .inl (cI, 6, .inl T_slips)), (aT_lates, .inl (cI, 6, .inl T_lates)), (aT_copied, .inl (cI, 6, .inl T_copied))] := hD
        have hy := Option.some.inj h
        subst hy
        exact W.vret hx hb hr (fun t ht hW => ⟨⟨(), rfl, trivial, by rw [ht]; exact hP, hD⟩, hS.F ht⟩) hS.2.2 dX1_takeOver_47
      · replace h := if_n c_2 h
        refine lv_aload_n hx hb dX1_takeOver_14 rfl (lv_at hl 0 rfl) ?_
        refine lv_aload_n hx hb dX1_takeOver_15 rfl (lv_at hl 1 rfl) ?_
        refine lv_iload_n hx hb dX1_takeOver_16 rfl (lv_at hl 2 rfl) ?_
        obtain ⟨y3, qy3, h⟩ := ob_some h
        have hPc : va_P D vwCl [(aF, .inr (1, [.ref aF_slips, .ref aF_lates, .ref aF_copied, .int F_size, .int F_littleOnes])), (aF_slips, .inl (cI, 6, .inl F_slips))] H := hP.sub [0, 1] rfl
        refine vp_callSi (va_Run.run (va_runV (As := [.int x2]) (rest := [.ref aT]) ⟨hx, hb, hml, hown, hts⟩ (c_X1_slipOf l D cI cJ cZ cO aF aF_slips aF_lates aF_copied F_size F_littleOnes F_slips x2 y3 qy3) (cwV 1 hts gX1_takeOver_X1_slipOf rfl rfl rfl (by decide +kernel) ⟨Nat.le_of_ble_eq_true rfl, Nat.le_of_ble_eq_true rfl⟩) ⟨fb_p, va_recv hK hP (ci := 1) (q0 := 0) rfl rfl, fun U hU hW => ⟨rfl, by rw [hU]; exact hPc, KK.warm hW hKK⟩⟩ rfl rfl hl.1 rfl (lv_room (Nat.le_of_ble_eq_true rfl)) dX1_takeOver_17 ⟨Nat.le_of_ble_eq_true rfl, Nat.le_of_ble_eq_true rfl⟩)) (fun r hr => ?_)
        replace hr := hr.symm
        subst hr
        refine lv_aload_n hx hb dX1_takeOver_20 rfl (lv_at hl 1 rfl) ?_
        refine lv_iload_n hx hb dX1_takeOver_21 rfl (lv_at hl 2 rfl) ?_
        obtain ⟨y4, qy4, h⟩ := ob_some h
        have hPc : va_P D vwCl [(aF, .inr (1, [.ref aF_slips, .ref aF_lates, .ref aF_copied, .int F_size, .int F_littleOnes])), (aF_lates, .inl (cI, 6, .inl F_lates))] H := hP.sub [0, 2] rfl
        refine vp_callSi (va_Run.run (va_runV (As := [.int x2]) (rest := [.int y3, .ref aT]) ⟨hx, hb, hml, hown, hts⟩ (c_X1_lateOf l D cI cJ cZ cO aF aF_lates aF_slips aF_copied F_size F_littleOnes F_lates x2 y4 qy4) (cwV 1 hts gX1_takeOver_X1_lateOf rfl rfl rfl (by decide +kernel) ⟨Nat.le_of_ble_eq_true rfl, Nat.le_of_ble_eq_true rfl⟩) ⟨fb_p, va_recv hK hP (ci := 1) (q0 := 0) rfl rfl, fun U hU hW => ⟨rfl, by rw [hU]; exact hPc, KK.warm hW hKK⟩⟩ rfl rfl hl.1 rfl (lv_room (Nat.le_of_ble_eq_true rfl)) dX1_takeOver_22 ⟨Nat.le_of_ble_eq_true rfl, Nat.le_of_ble_eq_true rfl⟩)) (fun r hr => ?_)
        replace hr := hr.symm
        subst hr
        refine lv_aload_n hx hb dX1_takeOver_25 rfl (lv_at hl 1 rfl) ?_
        refine lv_iload_n hx hb dX1_takeOver_26 rfl (lv_at hl 2 rfl) ?_
        obtain ⟨y5, qy5, h⟩ := ob_some h
        have hPc : va_P D vwCl [(aF, .inr (1, [.ref aF_slips, .ref aF_lates, .ref aF_copied, .int F_size, .int F_littleOnes])), (aF_copied, .inl (cI, 6, .inl F_copied))] H := hP.sub [0, 3] rfl
        refine vp_callSi (va_Run.run (va_runV (As := [.int x2]) (rest := [.int y4, .int y3, .ref aT]) ⟨hx, hb, hml, hown, hts⟩ (c_X1_copiedBy l D cI cJ cZ cO aF aF_copied aF_slips aF_lates F_size F_littleOnes F_copied x2 y5 qy5) (cwV 1 hts gX1_takeOver_X1_copiedBy rfl rfl rfl (by decide +kernel) ⟨Nat.le_of_ble_eq_true rfl, Nat.le_of_ble_eq_true rfl⟩) ⟨fb_p, va_recv hK hP (ci := 1) (q0 := 0) rfl rfl, fun U hU hW => ⟨rfl, by rw [hU]; exact hPc, KK.warm hW hKK⟩⟩ rfl rfl hl.1 rfl (lv_room (Nat.le_of_ble_eq_true rfl)) dX1_takeOver_27 ⟨Nat.le_of_ble_eq_true rfl, Nat.le_of_ble_eq_true rfl⟩)) (fun r hr => ?_)
        replace hr := hr.symm
        subst hr
        obtain ⟨y6, qy6, h⟩ := ob_some h
        have hPc : va_P D vwCl [(aT, .inr (1, [.ref aT_slips, .ref aT_lates, .ref aT_copied, .int T_size, .int T_littleOnes])), (aT_slips, .inl (cI, 6, .inl T_slips)), (aT_lates, .inl (cI, 6, .inl T_lates)), (aT_copied, .inl (cI, 6, .inl T_copied))] H := hP.sub [4, 5, 6, 7] rfl
        have hDc : va_D A [(aT, .inr (1, [.ref aT_slips, .ref aT_lates, .ref aT_copied, .int T_size, .int T_littleOnes])), (aT_slips, .inl (cI, 6, .inl T_slips)), (aT_lates, .inl (cI, 6, .inl T_lates)), (aT_copied, .inl (cI, 6, .inl T_copied))] := hD.sub [4, 5, 6, 7] (by decide) rfl
        have hFc := va_free (wc := [(aT, .inr (1, [.ref aT_slips, .ref aT_lates, .ref aT_copied, .int T_size, .int T_littleOnes])), (aT_slips, .inl (cI, 6, .inl T_slips)), (aT_lates, .inl (cI, 6, .inl T_lates)), (aT_copied, .inl (cI, 6, .inl T_copied))]) hD hS hA [4, 5, 6, 7] rfl
        refine va_callv (va_runV (As := [.int y3, .int y4, .int y5]) (rest := []) ⟨hx, hb, hml, hown, hts⟩ (c_X1_add l D cI cJ cZ cO aT aT_slips aT_lates aT_copied T_size T_littleOnes T_slips T_lates T_copied H.size y3 y4 y5 y6 qy6) (cwV 3 hts gX1_takeOver_X1_add rfl rfl rfl (by decide +kernel) ⟨Nat.le_of_ble_eq_true rfl, Nat.le_of_ble_eq_true rfl⟩) ⟨fb_i, va_recv hK hP (ci := 1) (q0 := 4) rfl rfl, fun U hU hW => ⟨rfl, by rw [hU], by rw [hU]; exact hPc, KK.warm hW hKK, hDc.weaken (fun _ _ _ _ => trivial)⟩⟩ rfl rfl hl.1 rfl (lv_room (Nat.le_of_ble_eq_true rfl)) dX1_takeOver_30 ⟨Nat.le_of_ble_eq_true rfl, Nat.le_of_ble_eq_true rfl⟩) hS (fun q _ h => hFc q h) hFc (fun u t H1 locs ht hvm hw hB hz1 hk1 hS => ?_)
        obtain ⟨hP1, hD1⟩ := hB
        rw [ht] at hP1
        obtain ⟨hP, hD⟩ := va_join (wr := [(aF, .inr (1, [.ref aF_slips, .ref aF_lates, .ref aF_copied, .int F_size, .int F_littleOnes])), (aF_slips, .inl (cI, 6, .inl F_slips)), (aF_lates, .inl (cI, 6, .inl F_lates)), (aF_copied, .inl (cI, 6, .inl F_copied))]) (w1 := [(aT, .inr (1, [.ref aT_slips, .ref aT_lates, .ref aT_copied, .int y6.1, .int T_littleOnes])), (aT_slips, .inl (cI, 6, .inl y6.2.1)), (aT_lates, .inl (cI, 6, .inl y6.2.2.1)), (aT_copied, .inl (cI, 6, .inl y6.2.2.2))]) hP hD [4, 5, 6, 7] [0, 1, 2, 3] rfl rfl (by decide) (by decide) hk1 hFc hP1 hD1
        generalize H1 = H at hP hS ⊢
        have hP : va_P D vwCl [(aF, .inr (1, [.ref aF_slips, .ref aF_lates, .ref aF_copied, .int F_size, .int F_littleOnes])), (aF_slips, .inl (cI, 6, .inl F_slips)), (aF_lates, .inl (cI, 6, .inl F_lates)), (aF_copied, .inl (cI, 6, .inl F_copied)), (aT, .inr (1, [.ref aT_slips, .ref aT_lates, .ref aT_copied, .int y6.1, .int T_littleOnes])), (aT_slips, .inl (cI, 6, .inl y6.2.1)), (aT_lates, .inl (cI, 6, .inl y6.2.2.1)), (aT_copied, .inl (cI, 6, .inl y6.2.2.2))] H := hP.sub [0, 1, 2, 3, 4, 5, 6, 7] rfl
        have hD : va_D A [(aF, .inr (1, [.ref aF_slips, .ref aF_lates, .ref aF_copied, .int F_size, .int F_littleOnes])), (aF_slips, .inl (cI, 6, .inl F_slips)), (aF_lates, .inl (cI, 6, .inl F_lates)), (aF_copied, .inl (cI, 6, .inl F_copied)), (aT, .inr (1, [.ref aT_slips, .ref aT_lates, .ref aT_copied, .int y6.1, .int T_littleOnes])), (aT_slips, .inl (cI, 6, .inl y6.2.1)), (aT_lates, .inl (cI, 6, .inl y6.2.2.1)), (aT_copied, .inl (cI, 6, .inl y6.2.2.2))] := hD.sub [0, 1, 2, 3, 4, 5, 6, 7] (by decide) rfl
        refine lv_iinc (v := (x2 + (1 : Int32))) (lv' := [(2, .int (x2 + (1 : Int32))), (0, .ref aT), (1, .ref aF)]) hx hb dX1_takeOver_33 hl (k := 2) rfl rfl (by decide) rfl (fun ls hl => ?_)
        refine lv_goto (tgt := 6) hx hb dX1_takeOver_36 (by decide) ?_
        exact ih y6.1 T_littleOnes y6.2.1 y6.2.2.1 y6.2.2.2 (x2 + (1 : Int32)) _ _ hP hD hS ls (lv_sub hl [1, 2, 0] rfl) h
  unfold f_X1_takeOver at h
  refine lv_aload_n hx hb dX1_takeOver_0 rfl (lv_at hl 0 rfl) ?_
  obtain ⟨y1, qy1, h⟩ := ob_some h
  have hPc : va_P D vwCl [(aT, .inr (1, [.ref aT_slips, .ref aT_lates, .ref aT_copied, .int T_size, .int T_littleOnes]))] s.heap := hP.sub [4] rfl
  have hDc : va_D A [(aT, .inr (1, [.ref aT_slips, .ref aT_lates, .ref aT_copied, .int T_size, .int T_littleOnes]))] := hD.sub [4] (by decide) rfl
  have hFc := va_free (wc := [(aT, .inr (1, [.ref aT_slips, .ref aT_lates, .ref aT_copied, .int T_size, .int T_littleOnes]))]) hD hS hA [4] rfl
  refine va_callv (va_runV (As := []) (rest := []) ⟨hx, hb, hml, hown, hts⟩ (c_X1_forget l D cI cJ cZ cO aT aT_slips aT_lates aT_copied T_size T_littleOnes s.heap.size y1 qy1) (cwV 0 hts gX1_takeOver_X1_forget rfl rfl rfl (by decide +kernel) ⟨Nat.le_of_ble_eq_true rfl, Nat.le_of_ble_eq_true rfl⟩) ⟨fb_i, va_recv hK hP (ci := 1) (q0 := 4) rfl rfl, fun U hU hW => ⟨rfl, by rw [hU], by rw [hU]; exact hPc, KK.warm hW hKK, hDc.weaken (fun _ _ _ _ => trivial)⟩⟩ rfl rfl hl.1 rfl (lv_room (Nat.le_of_ble_eq_true rfl)) dX1_takeOver_1 ⟨Nat.le_of_ble_eq_true rfl, Nat.le_of_ble_eq_true rfl⟩) hS (fun q _ h => hFc q h) hFc (fun u t H1 locs ht hvm hw hB hz1 hk1 hS => ?_)
  obtain ⟨hP1, hD1⟩ := hB
  rw [ht] at hP1
  obtain ⟨hP, hD⟩ := va_join (wr := [(aF, .inr (1, [.ref aF_slips, .ref aF_lates, .ref aF_copied, .int F_size, .int F_littleOnes])), (aF_slips, .inl (cI, 6, .inl F_slips)), (aF_lates, .inl (cI, 6, .inl F_lates)), (aF_copied, .inl (cI, 6, .inl F_copied)), (aT_slips, .inl (cI, 6, .inl T_slips)), (aT_lates, .inl (cI, 6, .inl T_lates)), (aT_copied, .inl (cI, 6, .inl T_copied))]) (w1 := [(aT, .inr (1, [.ref aT_slips, .ref aT_lates, .ref aT_copied, .int y1.1, .int y1.2]))]) hP hD [4] [0, 1, 2, 3, 5, 6, 7] rfl rfl (by decide) (by decide) hk1 hFc hP1 hD1
  generalize H1 = H at hP hS ⊢
  have hP : va_P D vwCl [(aF, .inr (1, [.ref aF_slips, .ref aF_lates, .ref aF_copied, .int F_size, .int F_littleOnes])), (aF_slips, .inl (cI, 6, .inl F_slips)), (aF_lates, .inl (cI, 6, .inl F_lates)), (aF_copied, .inl (cI, 6, .inl F_copied)), (aT, .inr (1, [.ref aT_slips, .ref aT_lates, .ref aT_copied, .int y1.1, .int y1.2])), (aT_slips, .inl (cI, 6, .inl T_slips)), (aT_lates, .inl (cI, 6, .inl T_lates)), (aT_copied, .inl (cI, 6, .inl T_copied))] H := hP.sub [0, 1, 2, 3, 7, 4, 5, 6] rfl
  have hD : va_D A [(aF, .inr (1, [.ref aF_slips, .ref aF_lates, .ref aF_copied, .int F_size, .int F_littleOnes])), (aF_slips, .inl (cI, 6, .inl F_slips)), (aF_lates, .inl (cI, 6, .inl F_lates)), (aF_copied, .inl (cI, 6, .inl F_copied)), (aT, .inr (1, [.ref aT_slips, .ref aT_lates, .ref aT_copied, .int y1.1, .int y1.2])), (aT_slips, .inl (cI, 6, .inl T_slips)), (aT_lates, .inl (cI, 6, .inl T_lates)), (aT_copied, .inl (cI, 6, .inl T_copied))] := hD.sub [0, 1, 2, 3, 7, 4, 5, 6] (by decide) rfl
  refine lv_iconst (v := (0 : Int32)) hx hb dX1_takeOver_4 (by decide) ?_
  refine lv_istore_n (lv' := [(2, .int (0 : Int32)), (0, .ref aT), (1, .ref aF)]) hx hb dX1_takeOver_5 rfl hl (by decide) rfl (fun ls hl => ?_)
  exact L6 300 y1.1 y1.2 T_slips T_lates T_copied (0 : Int32) _ _ hP hD hS ls (lv_sub hl [1, 2, 0] rfl) h
end
section
def f_X9_isOrder (p0 : Int32) : Int32 := (if p0 < (1 : Int32) then (0 : Int32) else (if (4 : Int32) < p0 then (0 : Int32) else (1 : Int32)))
set_option maxHeartbeats 8000000 in
set_option maxRecDepth 100000 in
theorem c_X9_isOrder (l : Launch) (D : va_G) (cI cJ cZ cO : ClassId)   (p0 : Int32) (y0 : Int32) (h : f_X9_isOrder p0 = y0) : Met l yX9_isOrder wsX9_isOrder ({ frames := 0, cells := 0, slots := 0, locals := 0 } : Room) (va_Pc [.int p0] (fun U => va_P D vwCl [] U.heap ∧ KK D cI cJ cZ cO U)) (vp_Si (fun r => r = y0 ∧ zo r)) 0 0 (fun _ => False) := by
  refine Met.ofW (cc := cX9_isOrder) (maxL := 1) (ret := (some .boolean)) (by decide) rfl ?_
  intro p e s m args below meth c s₁ B hml hv
  obtain ⟨rfl, hP, hKK⟩ := hv
  have hx := B.exec
  have hb := B.bytes
  have hr := B.returns
  have hts := atoms_spec (ws := wsX9_isOrder) B.pre
  have hown : s.vm.findClass RX9 = some m.cls := findClass_of_methodNamed B.named
  have hlocks := B.notSynchronized
  have hK := hKK.1
  have hl := lv_entry ([.int p0]) (n := 1) (Nat.le_of_ble_eq_true rfl)
  rw [lg_entry_eq]
  generalize (lg_sl ([.int p0]) ++ List.replicate (1 - (lg_sl ([.int p0])).length) Slot.unset).toArray = ls at hl ⊢
  have hl : lv_has ls 1 [(0, .int p0)] := hl
  unfold f_X9_isOrder at h
  refine lv_iload_n hx hb dX9_isOrder_0 rfl (lv_at hl 0 rfl) ?_
  refine lv_iconst (v := (1 : Int32)) hx hb dX9_isOrder_1 (by decide) ?_
  refine lv_icmp_lt (tgt := 14) hx hb dX9_isOrder_2 (by decide) (fun c_1 => ?_) (fun c_1 => ?_)
  · replace h := if_p c_1 h
    refine lv_iconst (v := (0 : Int32)) hx hb dX9_isOrder_14 (by decide) ?_
    exact pr_z hx hb hr hlocks dX9_isOrder_15 h (by decide)
  · replace h := if_n c_1 h
    refine lv_iload_n hx hb dX9_isOrder_5 rfl (lv_at hl 0 rfl) ?_
    refine lv_iconst (v := (4 : Int32)) hx hb dX9_isOrder_6 (by decide) ?_
    refine lv_icmp_gt (tgt := 14) hx hb dX9_isOrder_7 (by decide) (fun c_2 => ?_) (fun c_2 => ?_)
    · replace h := if_p c_2 h
      refine lv_iconst (v := (0 : Int32)) hx hb dX9_isOrder_14 (by decide) ?_
      exact pr_z hx hb hr hlocks dX9_isOrder_15 h (by decide)
    · replace h := if_n c_2 h
      refine lv_iconst (v := (1 : Int32)) hx hb dX9_isOrder_10 (by decide) ?_
      refine lv_goto (tgt := 15) hx hb dX9_isOrder_11 (by decide) ?_
      exact pr_z hx hb hr hlocks dX9_isOrder_15 h (by decide)

def f_X9_isImage (p0 : Int32) : Int32 := (if p0 < 0 then (0 : Int32) else (if (2 : Int32) ≤ p0 then (0 : Int32) else (1 : Int32)))
set_option maxHeartbeats 8000000 in
set_option maxRecDepth 100000 in
theorem c_X9_isImage (l : Launch) (D : va_G) (cI cJ cZ cO : ClassId)   (p0 : Int32) (y0 : Int32) (h : f_X9_isImage p0 = y0) : Met l yX9_isImage wsX9_isImage ({ frames := 0, cells := 0, slots := 0, locals := 0 } : Room) (va_Pc [.int p0] (fun U => va_P D vwCl [] U.heap ∧ KK D cI cJ cZ cO U)) (vp_Si (fun r => r = y0 ∧ zo r)) 0 0 (fun _ => False) := by
  refine Met.ofW (cc := cX9_isImage) (maxL := 1) (ret := (some .boolean)) (by decide) rfl ?_
  intro p e s m args below meth c s₁ B hml hv
  obtain ⟨rfl, hP, hKK⟩ := hv
  have hx := B.exec
  have hb := B.bytes
  have hr := B.returns
  have hts := atoms_spec (ws := wsX9_isImage) B.pre
  have hown : s.vm.findClass RX9 = some m.cls := findClass_of_methodNamed B.named
  have hlocks := B.notSynchronized
  have hK := hKK.1
  have hl := lv_entry ([.int p0]) (n := 1) (Nat.le_of_ble_eq_true rfl)
  rw [lg_entry_eq]
  generalize (lg_sl ([.int p0]) ++ List.replicate (1 - (lg_sl ([.int p0])).length) Slot.unset).toArray = ls at hl ⊢
  have hl : lv_has ls 1 [(0, .int p0)] := hl
  unfold f_X9_isImage at h
  refine lv_iload_n hx hb dX9_isImage_0 rfl (lv_at hl 0 rfl) ?_
  refine lv_if_lt (tgt := 13) hx hb dX9_isImage_1 (by decide) (fun c_1 => ?_) (fun c_1 => ?_)
  · replace h := if_p c_1 h
    refine lv_iconst (v := (0 : Int32)) hx hb dX9_isImage_13 (by decide) ?_
    exact pr_z hx hb hr hlocks dX9_isImage_14 h (by decide)
  · replace h := if_n c_1 h
    refine lv_iload_n hx hb dX9_isImage_4 rfl (lv_at hl 0 rfl) ?_
    refine lv_iconst (v := (2 : Int32)) hx hb dX9_isImage_5 (by decide) ?_
    refine lv_icmp_ge (tgt := 13) hx hb dX9_isImage_6 (by decide) (fun c_2 => ?_) (fun c_2 => ?_)
    · replace h := if_p c_2 h
      refine lv_iconst (v := (0 : Int32)) hx hb dX9_isImage_13 (by decide) ?_
      exact pr_z hx hb hr hlocks dX9_isImage_14 h (by decide)
    · replace h := if_n c_2 h
      refine lv_iconst (v := (1 : Int32)) hx hb dX9_isImage_9 (by decide) ?_
      refine lv_goto (tgt := 14) hx hb dX9_isImage_10 (by decide) ?_
      exact pr_z hx hb hr hlocks dX9_isImage_14 h (by decide)

def f_X9_isHalf (p0 : Int32) : Int32 := (if p0 = 0 then (1 : Int32) else (if p0 = (1 : Int32) then (1 : Int32) else (0 : Int32)))
set_option maxHeartbeats 8000000 in
set_option maxRecDepth 100000 in
theorem c_X9_isHalf (l : Launch) (D : va_G) (cI cJ cZ cO : ClassId)   (p0 : Int32) (y0 : Int32) (h : f_X9_isHalf p0 = y0) : Met l yX9_isHalf wsX9_isHalf ({ frames := 0, cells := 0, slots := 0, locals := 0 } : Room) (va_Pc [.int p0] (fun U => va_P D vwCl [] U.heap ∧ KK D cI cJ cZ cO U)) (vp_Si (fun r => r = y0 ∧ zo r)) 0 0 (fun _ => False) := by
  refine Met.ofW (cc := cX9_isHalf) (maxL := 1) (ret := (some .boolean)) (by decide) rfl ?_
  intro p e s m args below meth c s₁ B hml hv
  obtain ⟨rfl, hP, hKK⟩ := hv
  have hx := B.exec
  have hb := B.bytes
  have hr := B.returns
  have hts := atoms_spec (ws := wsX9_isHalf) B.pre
  have hown : s.vm.findClass RX9 = some m.cls := findClass_of_methodNamed B.named
  have hlocks := B.notSynchronized
  have hK := hKK.1
  have hl := lv_entry ([.int p0]) (n := 1) (Nat.le_of_ble_eq_true rfl)
  rw [lg_entry_eq]
  generalize (lg_sl ([.int p0]) ++ List.replicate (1 - (lg_sl ([.int p0])).length) Slot.unset).toArray = ls at hl ⊢
  have hl : lv_has ls 1 [(0, .int p0)] := hl
  unfold f_X9_isHalf at h
  refine lv_iload_n hx hb dX9_isHalf_0 rfl (lv_at hl 0 rfl) ?_
  refine lv_if_eq (tgt := 9) hx hb dX9_isHalf_1 (by decide) (fun c_1 => ?_) (fun c_1 => ?_)
  · replace h := if_p c_1 h
    refine lv_iconst (v := (1 : Int32)) hx hb dX9_isHalf_9 (by decide) ?_
    refine lv_goto (tgt := 14) hx hb dX9_isHalf_10 (by decide) ?_
    exact pr_z hx hb hr hlocks dX9_isHalf_14 h (by decide)
  · replace h := if_n c_1 h
    refine lv_iload_n hx hb dX9_isHalf_4 rfl (lv_at hl 0 rfl) ?_
    refine lv_iconst (v := (1 : Int32)) hx hb dX9_isHalf_5 (by decide) ?_
    refine lv_icmp_ne (tgt := 13) hx hb dX9_isHalf_6 (by decide) (fun c_2 => ?_) (fun c_2 => ?_)
    · replace h := if_n c_2 h
      refine lv_iconst (v := (0 : Int32)) hx hb dX9_isHalf_13 (by decide) ?_
      exact pr_z hx hb hr hlocks dX9_isHalf_14 h (by decide)
    · replace h := if_p c_2 h
      refine lv_iconst (v := (1 : Int32)) hx hb dX9_isHalf_9 (by decide) ?_
      refine lv_goto (tgt := 14) hx hb dX9_isHalf_10 (by decide) ?_
      exact pr_z hx hb hr hlocks dX9_isHalf_14 h (by decide)

def f_X9_streakBehind_L10 (x1 : Int32) : Int32 := (if (x1 + (1 : Int32)) < (9 : Int32) then (x1 + (1 : Int32)) else (9 : Int32))
def f_X9_streakBehind (p0 : Int32) (p1 : Int32) : Int32 := (if p0 = (1 : Int32) then f_X9_streakBehind_L10 p1 else (if p0 = (4 : Int32) then f_X9_streakBehind_L10 p1 else (0 : Int32)))
set_option maxHeartbeats 8000000 in
set_option maxRecDepth 100000 in
theorem c_X9_streakBehind (l : Launch) (D : va_G) (cI cJ cZ cO : ClassId)   (p0 : Int32) (p1 : Int32) (y0 : Int32) (h : f_X9_streakBehind p0 p1 = y0) : Met l yX9_streakBehind wsX9_streakBehind ({ frames := 1, cells := 0, slots := 0, locals := 24 } : Room) (va_Pc [.int p0, .int p1] (fun U => va_P D vwCl [] U.heap ∧ KK D cI cJ cZ cO U)) (vp_Si (fun r => r = y0)) 0 0 (fun _ => False) := by
  refine Met.ofW (cc := cX9_streakBehind) (maxL := 2) (ret := (some .int)) (by decide) rfl ?_
  intro p e s m args below meth c s₁ B hml hv
  obtain ⟨rfl, hP, hKK⟩ := hv
  have hx := B.exec
  have hb := B.bytes
  have hr := B.returns
  have hts := atoms_spec (ws := wsX9_streakBehind) B.pre
  have hown : s.vm.findClass RX9 = some m.cls := findClass_of_methodNamed B.named
  have hlocks := B.notSynchronized
  have hK := hKK.1
  have comin := hts (.code Lib.Math.min.name Lib.Math.min.code 2 (some .int)) (by decide +kernel)
  have inmin := hts (.initialized "java/lang/Math") (by decide +kernel)
  have mlmin265 := hts (.methodLink RX9 265 Lib.Math.min.name) (by decide +kernel)
  have stmin := hts (.static Lib.Math.min.name) (by decide +kernel)
  have hl := lv_entry ([.int p0, .int p1]) (n := 2) (Nat.le_of_ble_eq_true rfl)
  rw [lg_entry_eq]
  generalize (lg_sl ([.int p0, .int p1]) ++ List.replicate (2 - (lg_sl ([.int p0, .int p1])).length) Slot.unset).toArray = ls at hl ⊢
  have hl : lv_has ls 2 [(0, .int p0), (1, .int p1)] := hl
  have L10 : ∀ (x1 : Int32), ∀ (ls : Array Slot), lv_has ls 2 [(1, .int x1)] → f_X9_streakBehind_L10 x1 = y0 → W p l e (headSpec wsX9_streakBehind ({ frames := 1, cells := 0, slots := 0, locals := 24 } : Room)).room s m ([.int p0, .int p1] : List Value).toArray below meth c s.heap [] 0 0 (MQ below (vp_Si (fun r => r = y0)) ([.int p0, .int p1] : List Value).toArray s 0 0 (fun _ => False)) (F0 m 10 ls []) := by
    intro x1 ls hl h
    unfold f_X9_streakBehind_L10 at h
    refine lv_bipush (v := (9 : Int32)) hx hb dX9_streakBehind_10 (by decide) ?_
    refine lv_iload_n hx hb dX9_streakBehind_12 rfl (lv_at hl 0 rfl) ?_
    refine lv_iconst (v := (1 : Int32)) hx hb dX9_streakBehind_13 (by decide) ?_
    refine lv_iadd hx hb dX9_streakBehind_14 ?_
    refine va_mmin hx hb (hml.trans hl.1.symm) hown mlmin265 stmin inmin comin (Nat.le_of_ble_eq_true rfl) (Nat.le_of_ble_eq_true rfl) (Nat.le_of_ble_eq_true rfl) (Nat.le_of_ble_eq_true rfl) dX9_streakBehind_15 ?_
    refine lv_goto (tgt := 22) hx hb dX9_streakBehind_18 (by decide) ?_
    exact pr_i hx hb hr hlocks dX9_streakBehind_22 h
  unfold f_X9_streakBehind at h
  refine lv_iload_n hx hb dX9_streakBehind_0 rfl (lv_at hl 0 rfl) ?_
  refine lv_iconst (v := (1 : Int32)) hx hb dX9_streakBehind_1 (by decide) ?_
  refine lv_icmp_eq (tgt := 10) hx hb dX9_streakBehind_2 (by decide) (fun c_1 => ?_) (fun c_1 => ?_)
  · replace h := if_p c_1 h
    exact L10 p1 ls (lv_sub hl [1] rfl) h
  · replace h := if_n c_1 h
    refine lv_iload_n hx hb dX9_streakBehind_5 rfl (lv_at hl 0 rfl) ?_
    refine lv_iconst (v := (4 : Int32)) hx hb dX9_streakBehind_6 (by decide) ?_
    refine lv_icmp_ne (tgt := 21) hx hb dX9_streakBehind_7 (by decide) (fun c_2 => ?_) (fun c_2 => ?_)
    · replace h := if_n c_2 h
      refine lv_iconst (v := (0 : Int32)) hx hb dX9_streakBehind_21 (by decide) ?_
      exact pr_i hx hb hr hlocks dX9_streakBehind_22 h
    · replace h := if_p c_2 h
      exact L10 p1 ls (lv_sub hl [1] rfl) h

def f_X9_powerOfTen_L4  : Nat → Int32 → Int64 → Int32 → Option (Int64)
  | 0, _, _, _ => none
  | n + 1, x0, x1, x3 => (if x0 ≤ x3 then some x1 else f_X9_powerOfTen_L4 n x0 (x1 * (10 : Int64)) (x3 + (1 : Int32)))
def f_X9_powerOfTen (p0 : Int32) : Option (Int64) := f_X9_powerOfTen_L4 300 p0 (1 : Int64) (0 : Int32)
set_option maxHeartbeats 8000000 in
set_option maxRecDepth 100000 in
theorem c_X9_powerOfTen (l : Launch) (D : va_G) (cI cJ cZ cO : ClassId)   (p0 : Int32) (y0 : Int64) (h : f_X9_powerOfTen p0 = some y0) : Met l yX9_powerOfTen wsX9_powerOfTen ({ frames := 0, cells := 0, slots := 0, locals := 0 } : Room) (va_Pc [.int p0] (fun U => va_P D vwCl [] U.heap ∧ KK D cI cJ cZ cO U)) (vp_Sl (fun r => r = y0)) 0 0 (fun _ => False) := by
  refine Met.ofW (cc := cX9_powerOfTen) (maxL := 4) (ret := (some .long)) (by decide) rfl ?_
  intro p e s m args below meth c s₁ B hml hv
  obtain ⟨rfl, hP, hKK⟩ := hv
  have hx := B.exec
  have hb := B.bytes
  have hr := B.returns
  have hts := atoms_spec (ws := wsX9_powerOfTen) B.pre
  have hown : s.vm.findClass RX9 = some m.cls := findClass_of_methodNamed B.named
  have hlocks := B.notSynchronized
  have hK := hKK.1
  have cst_270 := hts (.constantLong RX9 270 (10)) (by decide +kernel)
  have hl := lv_entry ([.int p0]) (n := 4) (Nat.le_of_ble_eq_true rfl)
  rw [lg_entry_eq]
  generalize (lg_sl ([.int p0]) ++ List.replicate (4 - (lg_sl ([.int p0])).length) Slot.unset).toArray = ls at hl ⊢
  have hl : lv_has ls 4 [(0, .int p0)] := hl
  have L4 : ∀ (n : Nat), ∀ (x0 : Int32) (x1 : Int64) (x3 : Int32), ∀ (ls : Array Slot), lv_has ls 4 [(0, .int x0), (1, .long x1), (3, .int x3)] → f_X9_powerOfTen_L4 n x0 x1 x3 = some y0 → W p l e (headSpec wsX9_powerOfTen ({ frames := 0, cells := 0, slots := 0, locals := 0 } : Room)).room s m ([.int p0] : List Value).toArray below meth c s.heap [] 0 0 (MQ below (vp_Sl (fun r => r = y0)) ([.int p0] : List Value).toArray s 0 0 (fun _ => False)) (F0 m 4 ls []) := by
    intro n
    induction n with
    | zero =>
      intro x0 x1 x3 ls hl h
      exact (ns h).elim
    | succ n ih =>
      intro x0 x1 x3 ls hl h
      unfold f_X9_powerOfTen_L4 at h
      refine lv_iload_n hx hb dX9_powerOfTen_4 rfl (lv_at hl 2 rfl) ?_
      refine lv_iload_n hx hb dX9_powerOfTen_5 rfl (lv_at hl 0 rfl) ?_
      refine lv_icmp_ge (tgt := 21) hx hb dX9_powerOfTen_6 (by decide) (fun c_1 => ?_) (fun c_1 => ?_)
      · replace h := if_p c_1 h
        refine lv_lload_n hx hb dX9_powerOfTen_21 rfl (lv_at hl 1 rfl) ?_
        exact pr_l hx hb hr hlocks dX9_powerOfTen_22 (Option.some.inj h)
      · replace h := if_n c_1 h
        refine lv_lload_n hx hb dX9_powerOfTen_9 rfl (lv_at hl 1 rfl) ?_
        refine lv_ldc2 (v := (10 : Int64)) hx hb hown cst_270 dX9_powerOfTen_10 ?_
        refine lv_lmul hx hb dX9_powerOfTen_13 ?_
        refine lv_lstore_n (lv' := [(1, .long (x1 * (10 : Int64))), (0, .int x0), (3, .int x3)]) hx hb dX9_powerOfTen_14 rfl hl (by decide) rfl (fun ls hl => ?_)
        refine lv_iinc (v := (x3 + (1 : Int32))) (lv' := [(3, .int (x3 + (1 : Int32))), (1, .long (x1 * (10 : Int64))), (0, .int x0)]) hx hb dX9_powerOfTen_15 hl (k := 2) rfl rfl (by decide) rfl (fun ls hl => ?_)
        refine lv_goto (tgt := 4) hx hb dX9_powerOfTen_18 (by decide) ?_
        exact ih x0 (x1 * (10 : Int64)) (x3 + (1 : Int32)) ls (lv_sub hl [2, 1, 0] rfl) h
  unfold f_X9_powerOfTen at h
  refine lv_lconst (v := (1 : Int64)) hx hb dX9_powerOfTen_0 (by decide) ?_
  refine lv_lstore_n (lv' := [(1, .long (1 : Int64)), (0, .int p0)]) hx hb dX9_powerOfTen_1 rfl hl (by decide) rfl (fun ls hl => ?_)
  refine lv_iconst (v := (0 : Int32)) hx hb dX9_powerOfTen_2 (by decide) ?_
  refine lv_istore_n (lv' := [(3, .int (0 : Int32)), (1, .long (1 : Int64)), (0, .int p0)]) hx hb dX9_powerOfTen_3 rfl hl (by decide) rfl (fun ls hl => ?_)
  exact L4 300 p0 (1 : Int64) (0 : Int32) ls (lv_sub hl [2, 1, 0] rfl) h

def f_X9_greatestDivisor_L9  : Nat → Int64 → Int64 → Int32 → Option (Int64)
  | 0, _, _, _ => none
  | n + 1, x4, x6, x8 => (if (200 : Int32) ≤ x8 then some x4 else (if (lg_cmp x6 (0 : Int64)) = 0 then some x4 else (if x6 = 0 then none else f_X9_greatestDivisor_L9 n x6 (x4 - x4 / x6 * x6) (x8 + (1 : Int32)))))
def f_X9_greatestDivisor (p0 : Int64) (p2 : Int64) : Option (Int64) := f_X9_greatestDivisor_L9 300 p0 p2 (0 : Int32)
set_option maxHeartbeats 8000000 in
set_option maxRecDepth 100000 in
theorem c_X9_greatestDivisor (l : Launch) (D : va_G) (cI cJ cZ cO : ClassId)   (p0 : Int64) (p2 : Int64) (y0 : Int64) (h : f_X9_greatestDivisor p0 p2 = some y0) : Met l yX9_greatestDivisor wsX9_greatestDivisor ({ frames := 0, cells := 0, slots := 0, locals := 0 } : Room) (va_Pc [.long p0, .long p2] (fun U => va_P D vwCl [] U.heap ∧ KK D cI cJ cZ cO U)) (vp_Sl (fun r => r = y0)) 0 0 (fun _ => False) := by
  refine Met.ofW (cc := cX9_greatestDivisor) (maxL := 11) (ret := (some .long)) (by decide) rfl ?_
  intro p e s m args below meth c s₁ B hml hv
  obtain ⟨rfl, hP, hKK⟩ := hv
  have hx := B.exec
  have hb := B.bytes
  have hr := B.returns
  have hts := atoms_spec (ws := wsX9_greatestDivisor) B.pre
  have hown : s.vm.findClass RX9 = some m.cls := findClass_of_methodNamed B.named
  have hlocks := B.notSynchronized
  have hK := hKK.1
  have hl := lv_entry ([.long p0, .long p2]) (n := 11) (Nat.le_of_ble_eq_true rfl)
  rw [lg_entry_eq]
  generalize (lg_sl ([.long p0, .long p2]) ++ List.replicate (11 - (lg_sl ([.long p0, .long p2])).length) Slot.unset).toArray = ls at hl ⊢
  have hl : lv_has ls 11 [(0, .long p0), (2, .long p2)] := hl
  have L9 : ∀ (n : Nat), ∀ (x4 : Int64) (x6 : Int64) (x8 : Int32), ∀ (ls : Array Slot), lv_has ls 11 [(4, .long x4), (6, .long x6), (8, .int x8)] → f_X9_greatestDivisor_L9 n x4 x6 x8 = some y0 → W p l e (headSpec wsX9_greatestDivisor ({ frames := 0, cells := 0, slots := 0, locals := 0 } : Room)).room s m ([.long p0, .long p2] : List Value).toArray below meth c s.heap [] 0 0 (MQ below (vp_Sl (fun r => r = y0)) ([.long p0, .long p2] : List Value).toArray s 0 0 (fun _ => False)) (F0 m 9 ls []) := by
    intro n
    induction n with
    | zero =>
      intro x4 x6 x8 ls hl h
      exact (ns h).elim
    | succ n ih =>
      intro x4 x6 x8 ls hl h
      unfold f_X9_greatestDivisor_L9 at h
      refine lv_iload hx hb dX9_greatestDivisor_9 (lv_at hl 2 rfl) ?_
      refine lv_sipush (v := (200 : Int32)) hx hb dX9_greatestDivisor_11 (by decide) ?_
      refine lv_icmp_ge (tgt := 45) hx hb dX9_greatestDivisor_14 (by decide) (fun c_1 => ?_) (fun c_1 => ?_)
      · replace h := if_p c_1 h
        refine lv_lload hx hb dX9_greatestDivisor_45 (lv_at hl 0 rfl) ?_
        exact pr_l hx hb hr hlocks dX9_greatestDivisor_47 (Option.some.inj h)
      · replace h := if_n c_1 h
        refine lv_lload hx hb dX9_greatestDivisor_17 (lv_at hl 1 rfl) ?_
        refine lv_lconst (v := (0 : Int64)) hx hb dX9_greatestDivisor_19 (by decide) ?_
        refine W.lcmp hx hb dX9_greatestDivisor_20 ?_
        refine lv_if_eq (tgt := 45) hx hb dX9_greatestDivisor_21 (by decide) (fun c_2 => ?_) (fun c_2 => ?_)
        · replace h := if_p c_2 h
          refine lv_lload hx hb dX9_greatestDivisor_45 (lv_at hl 0 rfl) ?_
          exact pr_l hx hb hr hlocks dX9_greatestDivisor_47 (Option.some.inj h)
        · replace h := if_n c_2 h
          refine lv_lload hx hb dX9_greatestDivisor_24 (lv_at hl 0 rfl) ?_
          refine lv_lload hx hb dX9_greatestDivisor_26 (lv_at hl 1 rfl) ?_
          obtain ⟨hn3, h⟩ := gd_nzl h
          refine lv_lrem hx hb dX9_greatestDivisor_28 hn3 ?_
          refine lv_lstore (lv' := [(9, .long (x4 - x4 / x6 * x6)), (4, .long x4), (6, .long x6), (8, .int x8)]) hx hb dX9_greatestDivisor_29 hl (by decide) rfl (fun ls hl => ?_)
          refine lv_lload hx hb dX9_greatestDivisor_31 (lv_at hl 2 rfl) ?_
          refine lv_lstore (lv' := [(4, .long x6), (9, .long (x4 - x4 / x6 * x6)), (6, .long x6), (8, .int x8)]) hx hb dX9_greatestDivisor_33 hl (by decide) rfl (fun ls hl => ?_)
          refine lv_lload hx hb dX9_greatestDivisor_35 (lv_at hl 1 rfl) ?_
          refine lv_lstore (lv' := [(6, .long (x4 - x4 / x6 * x6)), (4, .long x6), (9, .long (x4 - x4 / x6 * x6)), (8, .int x8)]) hx hb dX9_greatestDivisor_37 hl (by decide) rfl (fun ls hl => ?_)
          refine lv_iinc (v := (x8 + (1 : Int32))) (lv' := [(8, .int (x8 + (1 : Int32))), (6, .long (x4 - x4 / x6 * x6)), (4, .long x6), (9, .long (x4 - x4 / x6 * x6))]) hx hb dX9_greatestDivisor_39 hl (k := 3) rfl rfl (by decide) rfl (fun ls hl => ?_)
          refine lv_goto (tgt := 9) hx hb dX9_greatestDivisor_42 (by decide) ?_
          exact ih x6 (x4 - x4 / x6 * x6) (x8 + (1 : Int32)) ls (lv_sub hl [2, 1, 0] rfl) h
  unfold f_X9_greatestDivisor at h
  refine lv_lload_n hx hb dX9_greatestDivisor_0 rfl (lv_at hl 0 rfl) ?_
  refine lv_lstore (lv' := [(4, .long p0), (0, .long p0), (2, .long p2)]) hx hb dX9_greatestDivisor_1 hl (by decide) rfl (fun ls hl => ?_)
  refine lv_lload_n hx hb dX9_greatestDivisor_3 rfl (lv_at hl 2 rfl) ?_
  refine lv_lstore (lv' := [(6, .long p2), (4, .long p0), (0, .long p0), (2, .long p2)]) hx hb dX9_greatestDivisor_4 hl (by decide) rfl (fun ls hl => ?_)
  refine lv_iconst (v := (0 : Int32)) hx hb dX9_greatestDivisor_6 (by decide) ?_
  refine lv_istore (lv' := [(8, .int (0 : Int32)), (6, .long p2), (4, .long p0), (0, .long p0), (2, .long p2)]) hx hb dX9_greatestDivisor_7 hl (by decide) rfl (fun ls hl => ?_)
  exact L9 300 p0 p2 (0 : Int32) ls (lv_sub hl [2, 1, 0] rfl) h

def f_X9_leastTerms_L17 (t0 : Int64) (x5 : Int64) : Option (Int64) := (if (lg_cmp x5 (1 : Int64)) ≤ 0 then some t0 else (if x5 = 0 then none else some (t0 / x5)))
def f_X9_leastTerms (p0 : Int64) (p2 : Int64) (p4 : Int32) : Option (Int64) := (Option.bind (f_X9_greatestDivisor p0 p2) (fun y1 => (if p4 = 0 then f_X9_leastTerms_L17 p0 y1 else f_X9_leastTerms_L17 p2 y1)))
set_option maxHeartbeats 8000000 in
set_option maxRecDepth 100000 in
theorem c_X9_leastTerms (l : Launch) (D : va_G) (cI cJ cZ cO : ClassId)   (p0 : Int64) (p2 : Int64) (p4 : Int32) (y0 : Int64) (h : f_X9_leastTerms p0 p2 p4 = some y0) : Met l yX9_leastTerms wsX9_leastTerms ({ frames := 1, cells := 0, slots := 0, locals := 30 } : Room) (va_Pc [.long p0, .long p2, .int p4] (fun U => va_P D vwCl [] U.heap ∧ KK D cI cJ cZ cO U)) (vp_Sl (fun r => r = y0)) 0 0 (fun _ => False) := by
  refine Met.ofW (cc := cX9_leastTerms) (maxL := 9) (ret := (some .long)) (by decide) rfl ?_
  intro p e s m args below meth c s₁ B hml hv
  obtain ⟨rfl, hP, hKK⟩ := hv
  have hx := B.exec
  have hb := B.bytes
  have hr := B.returns
  have hts := atoms_spec (ws := wsX9_leastTerms) B.pre
  have hown : s.vm.findClass RX9 = some m.cls := findClass_of_methodNamed B.named
  have hlocks := B.notSynchronized
  have hK := hKK.1
  have hl := lv_entry ([.long p0, .long p2, .int p4]) (n := 9) (Nat.le_of_ble_eq_true rfl)
  rw [lg_entry_eq]
  generalize (lg_sl ([.long p0, .long p2, .int p4]) ++ List.replicate (9 - (lg_sl ([.long p0, .long p2, .int p4])).length) Slot.unset).toArray = ls at hl ⊢
  have hl : lv_has ls 9 [(0, .long p0), (2, .long p2), (4, .int p4)] := hl
  have L17 : ∀ (t0 : Int64) (x5 : Int64), ∀ (ls : Array Slot), lv_has ls 9 [(5, .long x5)] → f_X9_leastTerms_L17 t0 x5 = some y0 → W p l e (headSpec wsX9_leastTerms ({ frames := 1, cells := 0, slots := 0, locals := 30 } : Room)).room s m ([.long p0, .long p2, .int p4] : List Value).toArray below meth c s.heap [] 0 0 (MQ below (vp_Sl (fun r => r = y0)) ([.long p0, .long p2, .int p4] : List Value).toArray s 0 0 (fun _ => False)) (F0 m 17 ls [.long t0]) := by
    intro t0 x5 ls hl h
    unfold f_X9_leastTerms_L17 at h
    refine lv_lstore (lv' := [(7, .long t0), (5, .long x5)]) hx hb dX9_leastTerms_17 hl (by decide) rfl (fun ls hl => ?_)
    refine lv_lload hx hb dX9_leastTerms_19 (lv_at hl 1 rfl) ?_
    refine lv_lconst (v := (1 : Int64)) hx hb dX9_leastTerms_21 (by decide) ?_
    refine W.lcmp hx hb dX9_leastTerms_22 ?_
    refine lv_if_le (tgt := 34) hx hb dX9_leastTerms_23 (by decide) (fun c_3 => ?_) (fun c_3 => ?_)
    · replace h := if_p c_3 h
      refine lv_lload hx hb dX9_leastTerms_34 (lv_at hl 0 rfl) ?_
      exact pr_l hx hb hr hlocks dX9_leastTerms_36 (Option.some.inj h)
    · replace h := if_n c_3 h
      refine lv_lload hx hb dX9_leastTerms_26 (lv_at hl 0 rfl) ?_
      refine lv_lload hx hb dX9_leastTerms_28 (lv_at hl 1 rfl) ?_
      obtain ⟨hn4, h⟩ := gd_nzl h
      refine lv_ldiv hx hb dX9_leastTerms_30 hn4 ?_
      refine lv_goto (tgt := 36) hx hb dX9_leastTerms_31 (by decide) ?_
      exact pr_l hx hb hr hlocks dX9_leastTerms_36 (Option.some.inj h)
  unfold f_X9_leastTerms at h
  refine lv_lload_n hx hb dX9_leastTerms_0 rfl (lv_at hl 0 rfl) ?_
  refine lv_lload_n hx hb dX9_leastTerms_1 rfl (lv_at hl 1 rfl) ?_
  obtain ⟨y1, qy1, h⟩ := ob_some h
  have hPc : va_P D vwCl [] s.heap := hP.sub [] rfl
  refine vp_callSl (va_Run.run (va_runS (As := [.long p0, .long p2]) (rest := []) ⟨hx, hb, hml, hown, hts⟩ (c_X9_greatestDivisor l D cI cJ cZ cO p0 p2 y1 qy1) (cwS 2 hts gX9_leastTerms_X9_greatestDivisor rfl rfl rfl (by decide +kernel) ⟨Nat.le_of_ble_eq_true rfl, Nat.le_of_ble_eq_true rfl⟩) ⟨fb_p, fun U hU hW => ⟨rfl, by rw [hU]; exact hPc, KK.warm hW hKK⟩⟩ rfl rfl hl.1 rfl (lv_room (Nat.le_of_ble_eq_true rfl)) dX9_leastTerms_2 ⟨Nat.le_of_ble_eq_true rfl, Nat.le_of_ble_eq_true rfl⟩)) (fun r hr => ?_)
  replace hr := hr.symm
  subst hr
  refine lv_lstore (lv' := [(5, .long y1), (0, .long p0), (2, .long p2), (4, .int p4)]) hx hb dX9_leastTerms_5 hl (by decide) rfl (fun ls hl => ?_)
  refine lv_iload hx hb dX9_leastTerms_7 (lv_at hl 3 rfl) ?_
  refine lv_if_ne (tgt := 16) hx hb dX9_leastTerms_9 (by decide) (fun c_2 => ?_) (fun c_2 => ?_)
  · replace h := if_n c_2 h
    refine lv_lload_n hx hb dX9_leastTerms_16 rfl (lv_at hl 2 rfl) ?_
    exact L17 p2 y1 ls (lv_sub hl [0] rfl) h
  · replace h := if_p c_2 h
    refine lv_lload_n hx hb dX9_leastTerms_12 rfl (lv_at hl 1 rfl) ?_
    refine lv_goto (tgt := 17) hx hb dX9_leastTerms_13 (by decide) ?_
    exact L17 p0 y1 ls (lv_sub hl [0] rfl) h
end
section
def f_J6_bitCount_0f7a4 (p0 : Int32) : Int32 := ((((((((p0 - (((p0.toUInt32 >>> ((1 : Int32).toUInt32 &&& Int32.toUInt32 31)).toInt32) &&& (1431655765 : Int32))) &&& (858993459 : Int32)) + ((((p0 - (((p0.toUInt32 >>> ((1 : Int32).toUInt32 &&& Int32.toUInt32 31)).toInt32) &&& (1431655765 : Int32))).toUInt32 >>> ((2 : Int32).toUInt32 &&& Int32.toUInt32 31)).toInt32) &&& (858993459 : Int32))) + (((((p0 - (((p0.toUInt32 >>> ((1 : Int32).toUInt32 &&& Int32.toUInt32 31)).toInt32) &&& (1431655765 : Int32))) &&& (858993459 : Int32)) + ((((p0 - (((p0.toUInt32 >>> ((1 : Int32).toUInt32 &&& Int32.toUInt32 31)).toInt32) &&& (1431655765 : Int32))).toUInt32 >>> ((2 : Int32).toUInt32 &&& Int32.toUInt32 31)).toInt32) &&& (858993459 : Int32))).toUInt32 >>> ((4 : Int32).toUInt32 &&& Int32.toUInt32 31)).toInt32)) &&& (252645135 : Int32)) + (((((((p0 - (((p0.toUInt32 >>> ((1 : Int32).toUInt32 &&& Int32.toUInt32 31)).toInt32) &&& (1431655765 : Int32))) &&& (858993459 : Int32)) + ((((p0 - (((p0.toUInt32 >>> ((1 : Int32).toUInt32 &&& Int32.toUInt32 31)).toInt32) &&& (1431655765 : Int32))).toUInt32 >>> ((2 : Int32).toUInt32 &&& Int32.toUInt32 31)).toInt32) &&& (858993459 : Int32))) + (((((p0 - (((p0.toUInt32 >>> ((1 : Int32).toUInt32 &&& Int32.toUInt32 31)).toInt32) &&& (1431655765 : Int32))) &&& (858993459 : Int32)) + ((((p0 - (((p0.toUInt32 >>> ((1 : Int32).toUInt32 &&& Int32.toUInt32 31)).toInt32) &&& (1431655765 : Int32))).toUInt32 >>> ((2 : Int32).toUInt32 &&& Int32.toUInt32 31)).toInt32) &&& (858993459 : Int32))).toUInt32 >>> ((4 : Int32).toUInt32 &&& Int32.toUInt32 31)).toInt32)) &&& (252645135 : Int32)).toUInt32 >>> ((8 : Int32).toUInt32 &&& Int32.toUInt32 31)).toInt32)) + ((((((((p0 - (((p0.toUInt32 >>> ((1 : Int32).toUInt32 &&& Int32.toUInt32 31)).toInt32) &&& (1431655765 : Int32))) &&& (858993459 : Int32)) + ((((p0 - (((p0.toUInt32 >>> ((1 : Int32).toUInt32 &&& Int32.toUInt32 31)).toInt32) &&& (1431655765 : Int32))).toUInt32 >>> ((2 : Int32).toUInt32 &&& Int32.toUInt32 31)).toInt32) &&& (858993459 : Int32))) + (((((p0 - (((p0.toUInt32 >>> ((1 : Int32).toUInt32 &&& Int32.toUInt32 31)).toInt32) &&& (1431655765 : Int32))) &&& (858993459 : Int32)) + ((((p0 - (((p0.toUInt32 >>> ((1 : Int32).toUInt32 &&& Int32.toUInt32 31)).toInt32) &&& (1431655765 : Int32))).toUInt32 >>> ((2 : Int32).toUInt32 &&& Int32.toUInt32 31)).toInt32) &&& (858993459 : Int32))).toUInt32 >>> ((4 : Int32).toUInt32 &&& Int32.toUInt32 31)).toInt32)) &&& (252645135 : Int32)) + (((((((p0 - (((p0.toUInt32 >>> ((1 : Int32).toUInt32 &&& Int32.toUInt32 31)).toInt32) &&& (1431655765 : Int32))) &&& (858993459 : Int32)) + ((((p0 - (((p0.toUInt32 >>> ((1 : Int32).toUInt32 &&& Int32.toUInt32 31)).toInt32) &&& (1431655765 : Int32))).toUInt32 >>> ((2 : Int32).toUInt32 &&& Int32.toUInt32 31)).toInt32) &&& (858993459 : Int32))) + (((((p0 - (((p0.toUInt32 >>> ((1 : Int32).toUInt32 &&& Int32.toUInt32 31)).toInt32) &&& (1431655765 : Int32))) &&& (858993459 : Int32)) + ((((p0 - (((p0.toUInt32 >>> ((1 : Int32).toUInt32 &&& Int32.toUInt32 31)).toInt32) &&& (1431655765 : Int32))).toUInt32 >>> ((2 : Int32).toUInt32 &&& Int32.toUInt32 31)).toInt32) &&& (858993459 : Int32))).toUInt32 >>> ((4 : Int32).toUInt32 &&& Int32.toUInt32 31)).toInt32)) &&& (252645135 : Int32)).toUInt32 >>> ((8 : Int32).toUInt32 &&& Int32.toUInt32 31)).toInt32)).toUInt32 >>> ((16 : Int32).toUInt32 &&& Int32.toUInt32 31)).toInt32)) &&& (63 : Int32))
set_option maxHeartbeats 8000000 in
set_option maxRecDepth 100000 in
theorem c_J6_bitCount_0f7a4 (l : Launch) (D : va_G) (cI cJ cZ cO : ClassId)   (p0 : Int32) (y0 : Int32) (h : f_J6_bitCount_0f7a4 p0 = y0) : Met l yJ6_bitCount_0f7a4 wsJ6_bitCount_0f7a4 ({ frames := 0, cells := 0, slots := 0, locals := 0 } : Room) (va_Pc [.int p0] (fun U => va_P D vwCl [] U.heap ∧ KK D cI cJ cZ cO U)) (vp_Si (fun r => r = y0)) 0 0 (fun _ => False) := by
  refine Met.ofW (cc := cJ6_bitCount_0f7a4) (maxL := 1) (ret := (some .int)) (by decide) rfl ?_
  intro p e s m args below meth c s₁ B hml hv
  obtain ⟨rfl, hP, hKK⟩ := hv
  have hx := B.exec
  have hb := B.bytes
  have hr := B.returns
  have hts := atoms_spec (ws := wsJ6_bitCount_0f7a4) B.pre
  have hown : s.vm.findClass RJ6 = some m.cls := findClass_of_methodNamed B.named
  have hlocks := B.notSynchronized
  have hK := hKK.1
  have cst_265 := hts (.constant RJ6 265 (1431655765)) (by decide +kernel)
  have cst_266 := hts (.constant RJ6 266 (858993459)) (by decide +kernel)
  have cst_267 := hts (.constant RJ6 267 (252645135)) (by decide +kernel)
  have hl := lv_entry ([.int p0]) (n := 1) (Nat.le_of_ble_eq_true rfl)
  rw [lg_entry_eq]
  generalize (lg_sl ([.int p0]) ++ List.replicate (1 - (lg_sl ([.int p0])).length) Slot.unset).toArray = ls at hl ⊢
  have hl : lv_has ls 1 [(0, .int p0)] := hl
  unfold f_J6_bitCount_0f7a4 at h
  refine lv_iload_n hx hb dJ6_bitCount_0f7a4_0 rfl (lv_at hl 0 rfl) ?_
  refine lv_iload_n hx hb dJ6_bitCount_0f7a4_1 rfl (lv_at hl 0 rfl) ?_
  refine lv_iconst (v := (1 : Int32)) hx hb dJ6_bitCount_0f7a4_2 (by decide) ?_
  refine lv_iushr (v := (p0.toUInt32 >>> ((1 : Int32).toUInt32 &&& Int32.toUInt32 31)).toInt32) hx hb dJ6_bitCount_0f7a4_3 rfl ?_
  refine lv_ldcw (v := (1431655765 : Int32)) hx hb hown cst_265 dJ6_bitCount_0f7a4_4 ?_
  refine lv_iand hx hb dJ6_bitCount_0f7a4_7 ?_
  refine lv_isub hx hb dJ6_bitCount_0f7a4_8 ?_
  refine lv_istore_n (lv' := [(0, .int (p0 - (((p0.toUInt32 >>> ((1 : Int32).toUInt32 &&& Int32.toUInt32 31)).toInt32) &&& (1431655765 : Int32))))]) hx hb dJ6_bitCount_0f7a4_9 rfl hl (by decide) rfl (fun ls hl => ?_)
  refine lv_iload_n hx hb dJ6_bitCount_0f7a4_10 rfl (lv_at hl 0 rfl) ?_
  refine lv_ldcw (v := (858993459 : Int32)) hx hb hown cst_266 dJ6_bitCount_0f7a4_11 ?_
  refine lv_iand hx hb dJ6_bitCount_0f7a4_14 ?_
  refine lv_iload_n hx hb dJ6_bitCount_0f7a4_15 rfl (lv_at hl 0 rfl) ?_
  refine lv_iconst (v := (2 : Int32)) hx hb dJ6_bitCount_0f7a4_16 (by decide) ?_
  refine lv_iushr (v := ((p0 - (((p0.toUInt32 >>> ((1 : Int32).toUInt32 &&& Int32.toUInt32 31)).toInt32) &&& (1431655765 : Int32))).toUInt32 >>> ((2 : Int32).toUInt32 &&& Int32.toUInt32 31)).toInt32) hx hb dJ6_bitCount_0f7a4_17 rfl ?_
  refine lv_ldcw (v := (858993459 : Int32)) hx hb hown cst_266 dJ6_bitCount_0f7a4_18 ?_
  refine lv_iand hx hb dJ6_bitCount_0f7a4_21 ?_
  refine lv_iadd hx hb dJ6_bitCount_0f7a4_22 ?_
  refine lv_istore_n (lv' := [(0, .int (((p0 - (((p0.toUInt32 >>> ((1 : Int32).toUInt32 &&& Int32.toUInt32 31)).toInt32) &&& (1431655765 : Int32))) &&& (858993459 : Int32)) + ((((p0 - (((p0.toUInt32 >>> ((1 : Int32).toUInt32 &&& Int32.toUInt32 31)).toInt32) &&& (1431655765 : Int32))).toUInt32 >>> ((2 : Int32).toUInt32 &&& Int32.toUInt32 31)).toInt32) &&& (858993459 : Int32))))]) hx hb dJ6_bitCount_0f7a4_23 rfl hl (by decide) rfl (fun ls hl => ?_)
  refine lv_iload_n hx hb dJ6_bitCount_0f7a4_24 rfl (lv_at hl 0 rfl) ?_
  refine lv_iload_n hx hb dJ6_bitCount_0f7a4_25 rfl (lv_at hl 0 rfl) ?_
  refine lv_iconst (v := (4 : Int32)) hx hb dJ6_bitCount_0f7a4_26 (by decide) ?_
  refine lv_iushr (v := ((((p0 - (((p0.toUInt32 >>> ((1 : Int32).toUInt32 &&& Int32.toUInt32 31)).toInt32) &&& (1431655765 : Int32))) &&& (858993459 : Int32)) + ((((p0 - (((p0.toUInt32 >>> ((1 : Int32).toUInt32 &&& Int32.toUInt32 31)).toInt32) &&& (1431655765 : Int32))).toUInt32 >>> ((2 : Int32).toUInt32 &&& Int32.toUInt32 31)).toInt32) &&& (858993459 : Int32))).toUInt32 >>> ((4 : Int32).toUInt32 &&& Int32.toUInt32 31)).toInt32) hx hb dJ6_bitCount_0f7a4_27 rfl ?_
  refine lv_iadd hx hb dJ6_bitCount_0f7a4_28 ?_
  refine lv_ldcw (v := (252645135 : Int32)) hx hb hown cst_267 dJ6_bitCount_0f7a4_29 ?_
  refine lv_iand hx hb dJ6_bitCount_0f7a4_32 ?_
  refine lv_istore_n (lv' := [(0, .int (((((p0 - (((p0.toUInt32 >>> ((1 : Int32).toUInt32 &&& Int32.toUInt32 31)).toInt32) &&& (1431655765 : Int32))) &&& (858993459 : Int32)) + ((((p0 - (((p0.toUInt32 >>> ((1 : Int32).toUInt32 &&& Int32.toUInt32 31)).toInt32) &&& (1431655765 : Int32))).toUInt32 >>> ((2 : Int32).toUInt32 &&& Int32.toUInt32 31)).toInt32) &&& (858993459 : Int32))) + (((((p0 - (((p0.toUInt32 >>> ((1 : Int32).toUInt32 &&& Int32.toUInt32 31)).toInt32) &&& (1431655765 : Int32))) &&& (858993459 : Int32)) + ((((p0 - (((p0.toUInt32 >>> ((1 : Int32).toUInt32 &&& Int32.toUInt32 31)).toInt32) &&& (1431655765 : Int32))).toUInt32 >>> ((2 : Int32).toUInt32 &&& Int32.toUInt32 31)).toInt32) &&& (858993459 : Int32))).toUInt32 >>> ((4 : Int32).toUInt32 &&& Int32.toUInt32 31)).toInt32)) &&& (252645135 : Int32)))]) hx hb dJ6_bitCount_0f7a4_33 rfl hl (by decide) rfl (fun ls hl => ?_)
  refine lv_iload_n hx hb dJ6_bitCount_0f7a4_34 rfl (lv_at hl 0 rfl) ?_
  refine lv_iload_n hx hb dJ6_bitCount_0f7a4_35 rfl (lv_at hl 0 rfl) ?_
  refine lv_bipush (v := (8 : Int32)) hx hb dJ6_bitCount_0f7a4_36 (by decide) ?_
  refine lv_iushr (v := ((((((p0 - (((p0.toUInt32 >>> ((1 : Int32).toUInt32 &&& Int32.toUInt32 31)).toInt32) &&& (1431655765 : Int32))) &&& (858993459 : Int32)) + ((((p0 - (((p0.toUInt32 >>> ((1 : Int32).toUInt32 &&& Int32.toUInt32 31)).toInt32) &&& (1431655765 : Int32))).toUInt32 >>> ((2 : Int32).toUInt32 &&& Int32.toUInt32 31)).toInt32) &&& (858993459 : Int32))) + (((((p0 - (((p0.toUInt32 >>> ((1 : Int32).toUInt32 &&& Int32.toUInt32 31)).toInt32) &&& (1431655765 : Int32))) &&& (858993459 : Int32)) + ((((p0 - (((p0.toUInt32 >>> ((1 : Int32).toUInt32 &&& Int32.toUInt32 31)).toInt32) &&& (1431655765 : Int32))).toUInt32 >>> ((2 : Int32).toUInt32 &&& Int32.toUInt32 31)).toInt32) &&& (858993459 : Int32))).toUInt32 >>> ((4 : Int32).toUInt32 &&& Int32.toUInt32 31)).toInt32)) &&& (252645135 : Int32)).toUInt32 >>> ((8 : Int32).toUInt32 &&& Int32.toUInt32 31)).toInt32) hx hb dJ6_bitCount_0f7a4_38 rfl ?_
  refine lv_iadd hx hb dJ6_bitCount_0f7a4_39 ?_
  refine lv_istore_n (lv' := [(0, .int ((((((p0 - (((p0.toUInt32 >>> ((1 : Int32).toUInt32 &&& Int32.toUInt32 31)).toInt32) &&& (1431655765 : Int32))) &&& (858993459 : Int32)) + ((((p0 - (((p0.toUInt32 >>> ((1 : Int32).toUInt32 &&& Int32.toUInt32 31)).toInt32) &&& (1431655765 : Int32))).toUInt32 >>> ((2 : Int32).toUInt32 &&& Int32.toUInt32 31)).toInt32) &&& (858993459 : Int32))) + (((((p0 - (((p0.toUInt32 >>> ((1 : Int32).toUInt32 &&& Int32.toUInt32 31)).toInt32) &&& (1431655765 : Int32))) &&& (858993459 : Int32)) + ((((p0 - (((p0.toUInt32 >>> ((1 : Int32).toUInt32 &&& Int32.toUInt32 31)).toInt32) &&& (1431655765 : Int32))).toUInt32 >>> ((2 : Int32).toUInt32 &&& Int32.toUInt32 31)).toInt32) &&& (858993459 : Int32))).toUInt32 >>> ((4 : Int32).toUInt32 &&& Int32.toUInt32 31)).toInt32)) &&& (252645135 : Int32)) + (((((((p0 - (((p0.toUInt32 >>> ((1 : Int32).toUInt32 &&& Int32.toUInt32 31)).toInt32) &&& (1431655765 : Int32))) &&& (858993459 : Int32)) + ((((p0 - (((p0.toUInt32 >>> ((1 : Int32).toUInt32 &&& Int32.toUInt32 31)).toInt32) &&& (1431655765 : Int32))).toUInt32 >>> ((2 : Int32).toUInt32 &&& Int32.toUInt32 31)).toInt32) &&& (858993459 : Int32))) + (((((p0 - (((p0.toUInt32 >>> ((1 : Int32).toUInt32 &&& Int32.toUInt32 31)).toInt32) &&& (1431655765 : Int32))) &&& (858993459 : Int32)) + ((((p0 - (((p0.toUInt32 >>> ((1 : Int32).toUInt32 &&& Int32.toUInt32 31)).toInt32) &&& (1431655765 : Int32))).toUInt32 >>> ((2 : Int32).toUInt32 &&& Int32.toUInt32 31)).toInt32) &&& (858993459 : Int32))).toUInt32 >>> ((4 : Int32).toUInt32 &&& Int32.toUInt32 31)).toInt32)) &&& (252645135 : Int32)).toUInt32 >>> ((8 : Int32).toUInt32 &&& Int32.toUInt32 31)).toInt32)))]) hx hb dJ6_bitCount_0f7a4_40 rfl hl (by decide) rfl (fun ls hl => ?_)
  refine lv_iload_n hx hb dJ6_bitCount_0f7a4_41 rfl (lv_at hl 0 rfl) ?_
  refine lv_iload_n hx hb dJ6_bitCount_0f7a4_42 rfl (lv_at hl 0 rfl) ?_
  refine lv_bipush (v := (16 : Int32)) hx hb dJ6_bitCount_0f7a4_43 (by decide) ?_
  refine lv_iushr (v := (((((((p0 - (((p0.toUInt32 >>> ((1 : Int32).toUInt32 &&& Int32.toUInt32 31)).toInt32) &&& (1431655765 : Int32))) &&& (858993459 : Int32)) + ((((p0 - (((p0.toUInt32 >>> ((1 : Int32).toUInt32 &&& Int32.toUInt32 31)).toInt32) &&& (1431655765 : Int32))).toUInt32 >>> ((2 : Int32).toUInt32 &&& Int32.toUInt32 31)).toInt32) &&& (858993459 : Int32))) + (((((p0 - (((p0.toUInt32 >>> ((1 : Int32).toUInt32 &&& Int32.toUInt32 31)).toInt32) &&& (1431655765 : Int32))) &&& (858993459 : Int32)) + ((((p0 - (((p0.toUInt32 >>> ((1 : Int32).toUInt32 &&& Int32.toUInt32 31)).toInt32) &&& (1431655765 : Int32))).toUInt32 >>> ((2 : Int32).toUInt32 &&& Int32.toUInt32 31)).toInt32) &&& (858993459 : Int32))).toUInt32 >>> ((4 : Int32).toUInt32 &&& Int32.toUInt32 31)).toInt32)) &&& (252645135 : Int32)) + (((((((p0 - (((p0.toUInt32 >>> ((1 : Int32).toUInt32 &&& Int32.toUInt32 31)).toInt32) &&& (1431655765 : Int32))) &&& (858993459 : Int32)) + ((((p0 - (((p0.toUInt32 >>> ((1 : Int32).toUInt32 &&& Int32.toUInt32 31)).toInt32) &&& (1431655765 : Int32))).toUInt32 >>> ((2 : Int32).toUInt32 &&& Int32.toUInt32 31)).toInt32) &&& (858993459 : Int32))) + (((((p0 - (((p0.toUInt32 >>> ((1 : Int32).toUInt32 &&& Int32.toUInt32 31)).toInt32) &&& (1431655765 : Int32))) &&& (858993459 : Int32)) + ((((p0 - (((p0.toUInt32 >>> ((1 : Int32).toUInt32 &&& Int32.toUInt32 31)).toInt32) &&& (1431655765 : Int32))).toUInt32 >>> ((2 : Int32).toUInt32 &&& Int32.toUInt32 31)).toInt32) &&& (858993459 : Int32))).toUInt32 >>> ((4 : Int32).toUInt32 &&& Int32.toUInt32 31)).toInt32)) &&& (252645135 : Int32)).toUInt32 >>> ((8 : Int32).toUInt32 &&& Int32.toUInt32 31)).toInt32)).toUInt32 >>> ((16 : Int32).toUInt32 &&& Int32.toUInt32 31)).toInt32) hx hb dJ6_bitCount_0f7a4_45 rfl ?_
  refine lv_iadd hx hb dJ6_bitCount_0f7a4_46 ?_
  refine lv_istore_n (lv' := [(0, .int (((((((p0 - (((p0.toUInt32 >>> ((1 : Int32).toUInt32 &&& Int32.toUInt32 31)).toInt32) &&& (1431655765 : Int32))) &&& (858993459 : Int32)) + ((((p0 - (((p0.toUInt32 >>> ((1 : Int32).toUInt32 &&& Int32.toUInt32 31)).toInt32) &&& (1431655765 : Int32))).toUInt32 >>> ((2 : Int32).toUInt32 &&& Int32.toUInt32 31)).toInt32) &&& (858993459 : Int32))) + (((((p0 - (((p0.toUInt32 >>> ((1 : Int32).toUInt32 &&& Int32.toUInt32 31)).toInt32) &&& (1431655765 : Int32))) &&& (858993459 : Int32)) + ((((p0 - (((p0.toUInt32 >>> ((1 : Int32).toUInt32 &&& Int32.toUInt32 31)).toInt32) &&& (1431655765 : Int32))).toUInt32 >>> ((2 : Int32).toUInt32 &&& Int32.toUInt32 31)).toInt32) &&& (858993459 : Int32))).toUInt32 >>> ((4 : Int32).toUInt32 &&& Int32.toUInt32 31)).toInt32)) &&& (252645135 : Int32)) + (((((((p0 - (((p0.toUInt32 >>> ((1 : Int32).toUInt32 &&& Int32.toUInt32 31)).toInt32) &&& (1431655765 : Int32))) &&& (858993459 : Int32)) + ((((p0 - (((p0.toUInt32 >>> ((1 : Int32).toUInt32 &&& Int32.toUInt32 31)).toInt32) &&& (1431655765 : Int32))).toUInt32 >>> ((2 : Int32).toUInt32 &&& Int32.toUInt32 31)).toInt32) &&& (858993459 : Int32))) + (((((p0 - (((p0.toUInt32 >>> ((1 : Int32).toUInt32 &&& Int32.toUInt32 31)).toInt32) &&& (1431655765 : Int32))) &&& (858993459 : Int32)) + ((((p0 - (((p0.toUInt32 >>> ((1 : Int32).toUInt32 &&& Int32.toUInt32 31)).toInt32) &&& (1431655765 : Int32))).toUInt32 >>> ((2 : Int32).toUInt32 &&& Int32.toUInt32 31)).toInt32) &&& (858993459 : Int32))).toUInt32 >>> ((4 : Int32).toUInt32 &&& Int32.toUInt32 31)).toInt32)) &&& (252645135 : Int32)).toUInt32 >>> ((8 : Int32).toUInt32 &&& Int32.toUInt32 31)).toInt32)) + ((((((((p0 - (((p0.toUInt32 >>> ((1 : Int32).toUInt32 &&& Int32.toUInt32 31)).toInt32) &&& (1431655765 : Int32))) &&& (858993459 : Int32)) + ((((p0 - (((p0.toUInt32 >>> ((1 : Int32).toUInt32 &&& Int32.toUInt32 31)).toInt32) &&& (1431655765 : Int32))).toUInt32 >>> ((2 : Int32).toUInt32 &&& Int32.toUInt32 31)).toInt32) &&& (858993459 : Int32))) + (((((p0 - (((p0.toUInt32 >>> ((1 : Int32).toUInt32 &&& Int32.toUInt32 31)).toInt32) &&& (1431655765 : Int32))) &&& (858993459 : Int32)) + ((((p0 - (((p0.toUInt32 >>> ((1 : Int32).toUInt32 &&& Int32.toUInt32 31)).toInt32) &&& (1431655765 : Int32))).toUInt32 >>> ((2 : Int32).toUInt32 &&& Int32.toUInt32 31)).toInt32) &&& (858993459 : Int32))).toUInt32 >>> ((4 : Int32).toUInt32 &&& Int32.toUInt32 31)).toInt32)) &&& (252645135 : Int32)) + (((((((p0 - (((p0.toUInt32 >>> ((1 : Int32).toUInt32 &&& Int32.toUInt32 31)).toInt32) &&& (1431655765 : Int32))) &&& (858993459 : Int32)) + ((((p0 - (((p0.toUInt32 >>> ((1 : Int32).toUInt32 &&& Int32.toUInt32 31)).toInt32) &&& (1431655765 : Int32))).toUInt32 >>> ((2 : Int32).toUInt32 &&& Int32.toUInt32 31)).toInt32) &&& (858993459 : Int32))) + (((((p0 - (((p0.toUInt32 >>> ((1 : Int32).toUInt32 &&& Int32.toUInt32 31)).toInt32) &&& (1431655765 : Int32))) &&& (858993459 : Int32)) + ((((p0 - (((p0.toUInt32 >>> ((1 : Int32).toUInt32 &&& Int32.toUInt32 31)).toInt32) &&& (1431655765 : Int32))).toUInt32 >>> ((2 : Int32).toUInt32 &&& Int32.toUInt32 31)).toInt32) &&& (858993459 : Int32))).toUInt32 >>> ((4 : Int32).toUInt32 &&& Int32.toUInt32 31)).toInt32)) &&& (252645135 : Int32)).toUInt32 >>> ((8 : Int32).toUInt32 &&& Int32.toUInt32 31)).toInt32)).toUInt32 >>> ((16 : Int32).toUInt32 &&& Int32.toUInt32 31)).toInt32)))]) hx hb dJ6_bitCount_0f7a4_47 rfl hl (by decide) rfl (fun ls hl => ?_)
  refine lv_iload_n hx hb dJ6_bitCount_0f7a4_48 rfl (lv_at hl 0 rfl) ?_
  refine lv_bipush (v := (63 : Int32)) hx hb dJ6_bitCount_0f7a4_49 (by decide) ?_
  refine lv_iand hx hb dJ6_bitCount_0f7a4_51 ?_
  exact pr_i hx hb hr hlocks dJ6_bitCount_0f7a4_52 h
end
section
def f_X6_become (R_in : Int32) (R_streak : Int32) (p1 : Int32) (p2 : Int32) : Option (Int32 × Int32) := some (p1, p2)
set_option maxHeartbeats 8000000 in
set_option maxRecDepth 100000 in
theorem c_X6_become (l : Launch) (D : va_G) (cI cJ cZ cO : ClassId) (aR : Nat) (aT : Nat) (R_in : Int32) (R_streak : Int32) (R_lot : Int32) (sz : Nat) (p1 : Int32) (p2 : Int32) (y0 : Int32 × Int32) (h : f_X6_become R_in R_streak p1 p2 = some y0) : Met l yX6_become wsX6_become ({ frames := 0, cells := 0, slots := 0, locals := 0 } : Room) (va_Pc [.ref aR, .int p1, .int p2] (fun U => U.heap.size = sz ∧ va_P D vwCl [(aR, .inr (6, [.ref aT, .int R_in, .int R_streak, .int R_lot]))] U.heap ∧ KK D cI cJ cZ cO U ∧ va_D (fun _ => True) [(aR, .inr (6, [.ref aT, .int R_in, .int R_streak, .int R_lot]))])) (va_Qv (fun (_ : Unit) => True) (fun (_ : Unit) t => va_P D vwCl [(aR, .inr (6, [.ref aT, .int y0.1, .int y0.2, .int R_lot]))] t.heap ∧ va_D (va_A [(aR, .inr (6, [.ref aT, .int R_in, .int R_streak, .int R_lot]))] sz) [(aR, .inr (6, [.ref aT, .int y0.1, .int y0.2, .int R_lot]))]) (va_A [(aR, .inr (6, [.ref aT, .int R_in, .int R_streak, .int R_lot]))] sz)) 0 0 (va_A [(aR, .inr (6, [.ref aT, .int R_in, .int R_streak, .int R_lot]))] sz) := by
  refine Met.ofW (cc := cX6_become) (maxL := 3) (ret := none) (by decide) rfl ?_
  intro p e s m args below meth c s₁ B hml hv
  obtain ⟨rfl, hsz, hP, hKK, hD0⟩ := hv
  have hx := B.exec
  have hb := B.bytes
  have hr := B.returns
  have hts := atoms_spec (ws := wsX6_become) B.pre
  have hown : s.vm.findClass RX6 = some m.cls := findClass_of_methodNamed B.named
  have hlocks := B.notSynchronized
  have hK := hKK.1
  have fl_29 := hts (.fieldLink RX6 29 "SimonSays$Round" "in" "I") (by decide +kernel)
  have fl_32 := hts (.fieldLink RX6 32 "SimonSays$Round" "streak" "I") (by decide +kernel)
  have inX6 : ∀ w ∈ wsX60, w ∈ wsX6_become := by decide +kernel
  subst hsz
  have hD := hD0.self (sz := s.heap.size)
  generalize hAe : va_A [(aR, .inr (6, [.ref aT, .int R_in, .int R_streak, .int R_lot]))] s.heap.size = A at hD ⊢
  have hA : ∀ q : Nat, s.heap.size ≤ q → A q := fun q h => by rw [← hAe]; exact Or.inr h
  have hS : va_S A s.heap s.heap [] := va_S.rf
  have hl := lv_entry ([.ref aR, .int p1, .int p2]) (n := 3) (Nat.le_of_ble_eq_true rfl)
  rw [lg_entry_eq]
  generalize (lg_sl ([.ref aR, .int p1, .int p2]) ++ List.replicate (3 - (lg_sl ([.ref aR, .int p1, .int p2])).length) Slot.unset).toArray = ls at hl ⊢
  have hl : lv_has ls 3 [(0, .ref aR), (1, .int p1), (2, .int p2)] := hl
  unfold f_X6_become at h
  refine lv_aload_n hx hb dX6_become_0 rfl (lv_at hl 0 rfl) ?_
  refine lv_iload_n hx hb dX6_become_1 rfl (lv_at hl 1 rfl) ?_
  refine va_put (D := D) (ci := 6) (v := .int p1) (ty := .int) (C := RX6) (T := TX6) (N := 4) hx hb hts inX6 tyX6 tyX6_ok nmX6 hown hK hP hD hS 0 rfl rfl 1 (by decide) fl_29 (fun _ h9 => h9) rfl (by decide +kernel) rfl rfl (Nat.le_of_ble_eq_true rfl) dX6_become_2 (fun H locs hP hD hS => ?_)
  have hP : va_P D vwCl [(aR, .inr (6, [.ref aT, .int p1, .int R_streak, .int R_lot]))] H := hP
  have hD : va_D A [(aR, .inr (6, [.ref aT, .int p1, .int R_streak, .int R_lot]))] := hD
  refine lv_aload_n hx hb dX6_become_5 rfl (lv_at hl 0 rfl) ?_
  refine lv_iload_n hx hb dX6_become_6 rfl (lv_at hl 2 rfl) ?_
  refine va_put (D := D) (ci := 6) (v := .int p2) (ty := .int) (C := RX6) (T := TX6) (N := 4) hx hb hts inX6 tyX6 tyX6_ok nmX6 hown hK hP hD hS 0 rfl rfl 2 (by decide) fl_32 (fun _ h9 => h9) rfl (by decide +kernel) rfl rfl (Nat.le_of_ble_eq_true rfl) dX6_become_7 (fun H locs hP hD hS => ?_)
  have hP : va_P D vwCl [(aR, .inr (6, [.ref aT, .int p1, .int p2, .int R_lot]))] H := hP
  have hD : va_D A [(aR, .inr (6, [.ref aT, .int p1, .int p2, .int R_lot]))] := hD
  have hy := Option.some.inj h
  subst hy
  exact W.vret hx hb hr (fun t ht hW => ⟨⟨(), rfl, trivial, by rw [ht]; exact hP, hD⟩, hS.F ht⟩) hS.2.2 dX6_become_10

def f_X6_whoIsIn (R_in : Int32) : Int32 := R_in
set_option maxHeartbeats 8000000 in
set_option maxRecDepth 100000 in
theorem c_X6_whoIsIn (l : Launch) (D : va_G) (cI cJ cZ cO : ClassId) (aR : Nat) (aT : Nat) (R_in : Int32) (R_streak : Int32) (R_lot : Int32)   (y0 : Int32) (h : f_X6_whoIsIn R_in = y0) : Met l yX6_whoIsIn wsX6_whoIsIn ({ frames := 0, cells := 0, slots := 0, locals := 0 } : Room) (va_Pc [.ref aR] (fun U => va_P D vwCl [(aR, .inr (6, [.ref aT, .int R_in, .int R_streak, .int R_lot]))] U.heap ∧ KK D cI cJ cZ cO U)) (vp_Si (fun r => r = y0)) 0 0 (fun _ => False) := by
  refine Met.ofW (cc := cX6_whoIsIn) (maxL := 1) (ret := (some .int)) (by decide) rfl ?_
  intro p e s m args below meth c s₁ B hml hv
  obtain ⟨rfl, hP, hKK⟩ := hv
  have hx := B.exec
  have hb := B.bytes
  have hr := B.returns
  have hts := atoms_spec (ws := wsX6_whoIsIn) B.pre
  have hown : s.vm.findClass RX6 = some m.cls := findClass_of_methodNamed B.named
  have hlocks := B.notSynchronized
  have hK := hKK.1
  have fl_29 := hts (.fieldLink RX6 29 "SimonSays$Round" "in" "I") (by decide +kernel)
  have inX6 : ∀ w ∈ wsX60, w ∈ wsX6_whoIsIn := by decide +kernel
  have hl := lv_entry ([.ref aR]) (n := 1) (Nat.le_of_ble_eq_true rfl)
  rw [lg_entry_eq]
  generalize (lg_sl ([.ref aR]) ++ List.replicate (1 - (lg_sl ([.ref aR])).length) Slot.unset).toArray = ls at hl ⊢
  have hl : lv_has ls 1 [(0, .ref aR)] := hl
  unfold f_X6_whoIsIn at h
  refine lv_aload_n hx hb dX6_whoIsIn_0 rfl (lv_at hl 0 rfl) ?_
  refine va_get (D := D) (ci := 6) (v := .int R_in) (C := RX6) (T := TX6) (N := 4) hx hb hts inX6 hown hK hP 0 rfl rfl 1 (by decide) fl_29 (fun _ h9 => h9) rfl dX6_whoIsIn_1 ?_
  exact pr_i hx hb hr hlocks dX6_whoIsIn_4 h

def f_X6_howManyIn (R_in : Int32) : Int32 := (f_J6_bitCount_0f7a4 R_in)
set_option maxHeartbeats 8000000 in
set_option maxRecDepth 100000 in
theorem c_X6_howManyIn (l : Launch) (D : va_G) (cI cJ cZ cO : ClassId) (aR : Nat) (aT : Nat) (R_in : Int32) (R_streak : Int32) (R_lot : Int32)   (y0 : Int32) (h : f_X6_howManyIn R_in = y0) : Met l yX6_howManyIn wsX6_howManyIn ({ frames := 1, cells := 0, slots := 0, locals := 20 } : Room) (va_Pc [.ref aR] (fun U => va_P D vwCl [(aR, .inr (6, [.ref aT, .int R_in, .int R_streak, .int R_lot]))] U.heap ∧ KK D cI cJ cZ cO U)) (vp_Si (fun r => r = y0)) 0 0 (fun _ => False) := by
  refine Met.ofW (cc := cX6_howManyIn) (maxL := 1) (ret := (some .int)) (by decide) rfl ?_
  intro p e s m args below meth c s₁ B hml hv
  obtain ⟨rfl, hP, hKK⟩ := hv
  have hx := B.exec
  have hb := B.bytes
  have hr := B.returns
  have hts := atoms_spec (ws := wsX6_howManyIn) B.pre
  have hown : s.vm.findClass RX6 = some m.cls := findClass_of_methodNamed B.named
  have hlocks := B.notSynchronized
  have hK := hKK.1
  have fl_29 := hts (.fieldLink RX6 29 "SimonSays$Round" "in" "I") (by decide +kernel)
  have inX6 : ∀ w ∈ wsX60, w ∈ wsX6_howManyIn := by decide +kernel
  have hl := lv_entry ([.ref aR]) (n := 1) (Nat.le_of_ble_eq_true rfl)
  rw [lg_entry_eq]
  generalize (lg_sl ([.ref aR]) ++ List.replicate (1 - (lg_sl ([.ref aR])).length) Slot.unset).toArray = ls at hl ⊢
  have hl : lv_has ls 1 [(0, .ref aR)] := hl
  unfold f_X6_howManyIn at h
  refine lv_aload_n hx hb dX6_howManyIn_0 rfl (lv_at hl 0 rfl) ?_
  refine va_get (D := D) (ci := 6) (v := .int R_in) (C := RX6) (T := TX6) (N := 4) hx hb hts inX6 hown hK hP 0 rfl rfl 1 (by decide) fl_29 (fun _ h9 => h9) rfl dX6_howManyIn_1 ?_
  have hPc : va_P D vwCl [] s.heap := hP.sub [] rfl
  refine vp_callSi (va_Run.run (va_runS (As := [.int R_in]) (rest := []) ⟨hx, hb, hml, hown, hts⟩ (c_J6_bitCount_0f7a4 l D cI cJ cZ cO R_in _ rfl) (va_cwS 1 hts gX6_howManyIn_J6_bitCount_0f7a4 rfl rfl rfl (by decide +kernel) ⟨Nat.le_of_ble_eq_true rfl, Nat.le_of_ble_eq_true rfl⟩) ⟨fb_p, fun U hU hW => ⟨rfl, by rw [hU]; exact hPc, KK.warm hW hKK⟩⟩ rfl rfl hl.1 rfl (lv_room (Nat.le_of_ble_eq_true rfl)) dX6_howManyIn_4 ⟨Nat.le_of_ble_eq_true rfl, Nat.le_of_ble_eq_true rfl⟩)) (fun r hr => ?_)
  replace hr := hr.symm
  subst hr
  exact pr_i hx hb hr hlocks dX6_howManyIn_7 h

def f_X6_streak (R_streak : Int32) : Int32 := R_streak
set_option maxHeartbeats 8000000 in
set_option maxRecDepth 100000 in
theorem c_X6_streak (l : Launch) (D : va_G) (cI cJ cZ cO : ClassId) (aR : Nat) (aT : Nat) (R_in : Int32) (R_streak : Int32) (R_lot : Int32)   (y0 : Int32) (h : f_X6_streak R_streak = y0) : Met l yX6_streak wsX6_streak ({ frames := 0, cells := 0, slots := 0, locals := 0 } : Room) (va_Pc [.ref aR] (fun U => va_P D vwCl [(aR, .inr (6, [.ref aT, .int R_in, .int R_streak, .int R_lot]))] U.heap ∧ KK D cI cJ cZ cO U)) (vp_Si (fun r => r = y0)) 0 0 (fun _ => False) := by
  refine Met.ofW (cc := cX6_streak) (maxL := 1) (ret := (some .int)) (by decide) rfl ?_
  intro p e s m args below meth c s₁ B hml hv
  obtain ⟨rfl, hP, hKK⟩ := hv
  have hx := B.exec
  have hb := B.bytes
  have hr := B.returns
  have hts := atoms_spec (ws := wsX6_streak) B.pre
  have hown : s.vm.findClass RX6 = some m.cls := findClass_of_methodNamed B.named
  have hlocks := B.notSynchronized
  have hK := hKK.1
  have fl_32 := hts (.fieldLink RX6 32 "SimonSays$Round" "streak" "I") (by decide +kernel)
  have inX6 : ∀ w ∈ wsX60, w ∈ wsX6_streak := by decide +kernel
  have hl := lv_entry ([.ref aR]) (n := 1) (Nat.le_of_ble_eq_true rfl)
  rw [lg_entry_eq]
  generalize (lg_sl ([.ref aR]) ++ List.replicate (1 - (lg_sl ([.ref aR])).length) Slot.unset).toArray = ls at hl ⊢
  have hl : lv_has ls 1 [(0, .ref aR)] := hl
  unfold f_X6_streak at h
  refine lv_aload_n hx hb dX6_streak_0 rfl (lv_at hl 0 rfl) ?_
  refine va_get (D := D) (ci := 6) (v := .int R_streak) (C := RX6) (T := TX6) (N := 4) hx hb hts inX6 hown hK hP 0 rfl rfl 2 (by decide) fl_32 (fun _ h9 => h9) rfl dX6_streak_1 ?_
  exact pr_i hx hb hr hlocks dX6_streak_4 h

def f_X6_theLot (R_lot : Int32) : Int32 := R_lot
set_option maxHeartbeats 8000000 in
set_option maxRecDepth 100000 in
theorem c_X6_theLot (l : Launch) (D : va_G) (cI cJ cZ cO : ClassId) (aR : Nat) (aT : Nat) (R_in : Int32) (R_streak : Int32) (R_lot : Int32)   (y0 : Int32) (h : f_X6_theLot R_lot = y0) : Met l yX6_theLot wsX6_theLot ({ frames := 0, cells := 0, slots := 0, locals := 0 } : Room) (va_Pc [.ref aR] (fun U => va_P D vwCl [(aR, .inr (6, [.ref aT, .int R_in, .int R_streak, .int R_lot]))] U.heap ∧ KK D cI cJ cZ cO U)) (vp_Si (fun r => r = y0)) 0 0 (fun _ => False) := by
  refine Met.ofW (cc := cX6_theLot) (maxL := 1) (ret := (some .int)) (by decide) rfl ?_
  intro p e s m args below meth c s₁ B hml hv
  obtain ⟨rfl, hP, hKK⟩ := hv
  have hx := B.exec
  have hb := B.bytes
  have hr := B.returns
  have hts := atoms_spec (ws := wsX6_theLot) B.pre
  have hown : s.vm.findClass RX6 = some m.cls := findClass_of_methodNamed B.named
  have hlocks := B.notSynchronized
  have hK := hKK.1
  have fl_15 := hts (.fieldLink RX6 15 "SimonSays$Round" "lot" "I") (by decide +kernel)
  have inX6 : ∀ w ∈ wsX60, w ∈ wsX6_theLot := by decide +kernel
  have hl := lv_entry ([.ref aR]) (n := 1) (Nat.le_of_ble_eq_true rfl)
  rw [lg_entry_eq]
  generalize (lg_sl ([.ref aR]) ++ List.replicate (1 - (lg_sl ([.ref aR])).length) Slot.unset).toArray = ls at hl ⊢
  have hl : lv_has ls 1 [(0, .ref aR)] := hl
  unfold f_X6_theLot at h
  refine lv_aload_n hx hb dX6_theLot_0 rfl (lv_at hl 0 rfl) ?_
  refine va_get (D := D) (ci := 6) (v := .int R_lot) (C := RX6) (T := TX6) (N := 4) hx hb hts inX6 hown hK hP 0 rfl rfl 3 (by decide) fl_15 (fun _ h9 => h9) rfl dX6_theLot_1 ?_
  exact pr_i hx hb hr hlocks dX6_theLot_4 h

def f_X6_setLot (R_lot : Int32) (p1 : Int32) : Option (Int32) := some p1
set_option maxHeartbeats 8000000 in
set_option maxRecDepth 100000 in
theorem c_X6_setLot (l : Launch) (D : va_G) (cI cJ cZ cO : ClassId) (aR : Nat) (aT : Nat) (R_in : Int32) (R_streak : Int32) (R_lot : Int32) (sz : Nat) (p1 : Int32) (y0 : Int32) (h : f_X6_setLot R_lot p1 = some y0) : Met l yX6_setLot wsX6_setLot ({ frames := 0, cells := 0, slots := 0, locals := 0 } : Room) (va_Pc [.ref aR, .int p1] (fun U => U.heap.size = sz ∧ va_P D vwCl [(aR, .inr (6, [.ref aT, .int R_in, .int R_streak, .int R_lot]))] U.heap ∧ KK D cI cJ cZ cO U ∧ va_D (fun _ => True) [(aR, .inr (6, [.ref aT, .int R_in, .int R_streak, .int R_lot]))])) (va_Qv (fun (_ : Unit) => True) (fun (_ : Unit) t => va_P D vwCl [(aR, .inr (6, [.ref aT, .int R_in, .int R_streak, .int y0]))] t.heap ∧ va_D (va_A [(aR, .inr (6, [.ref aT, .int R_in, .int R_streak, .int R_lot]))] sz) [(aR, .inr (6, [.ref aT, .int R_in, .int R_streak, .int y0]))]) (va_A [(aR, .inr (6, [.ref aT, .int R_in, .int R_streak, .int R_lot]))] sz)) 0 0 (va_A [(aR, .inr (6, [.ref aT, .int R_in, .int R_streak, .int R_lot]))] sz) := by
  refine Met.ofW (cc := cX6_setLot) (maxL := 2) (ret := none) (by decide) rfl ?_
  intro p e s m args below meth c s₁ B hml hv
  obtain ⟨rfl, hsz, hP, hKK, hD0⟩ := hv
  have hx := B.exec
  have hb := B.bytes
  have hr := B.returns
  have hts := atoms_spec (ws := wsX6_setLot) B.pre
  have hown : s.vm.findClass RX6 = some m.cls := findClass_of_methodNamed B.named
  have hlocks := B.notSynchronized
  have hK := hKK.1
  have fl_15 := hts (.fieldLink RX6 15 "SimonSays$Round" "lot" "I") (by decide +kernel)
  have inX6 : ∀ w ∈ wsX60, w ∈ wsX6_setLot := by decide +kernel
  subst hsz
  have hD := hD0.self (sz := s.heap.size)
  generalize hAe : va_A [(aR, .inr (6, [.ref aT, .int R_in, .int R_streak, .int R_lot]))] s.heap.size = A at hD ⊢
  have hA : ∀ q : Nat, s.heap.size ≤ q → A q := fun q h => by rw [← hAe]; exact Or.inr h
  have hS : va_S A s.heap s.heap [] := va_S.rf
  have hl := lv_entry ([.ref aR, .int p1]) (n := 2) (Nat.le_of_ble_eq_true rfl)
  rw [lg_entry_eq]
  generalize (lg_sl ([.ref aR, .int p1]) ++ List.replicate (2 - (lg_sl ([.ref aR, .int p1])).length) Slot.unset).toArray = ls at hl ⊢
  have hl : lv_has ls 2 [(0, .ref aR), (1, .int p1)] := hl
  unfold f_X6_setLot at h
  refine lv_aload_n hx hb dX6_setLot_0 rfl (lv_at hl 0 rfl) ?_
  refine lv_iload_n hx hb dX6_setLot_1 rfl (lv_at hl 1 rfl) ?_
  refine va_put (D := D) (ci := 6) (v := .int p1) (ty := .int) (C := RX6) (T := TX6) (N := 4) hx hb hts inX6 tyX6 tyX6_ok nmX6 hown hK hP hD hS 0 rfl rfl 3 (by decide) fl_15 (fun _ h9 => h9) rfl (by decide +kernel) rfl rfl (Nat.le_of_ble_eq_true rfl) dX6_setLot_2 (fun H locs hP hD hS => ?_)
  have hP : va_P D vwCl [(aR, .inr (6, [.ref aT, .int R_in, .int R_streak, .int p1]))] H := hP
  have hD : va_D A [(aR, .inr (6, [.ref aT, .int R_in, .int R_streak, .int p1]))] := hD
  have hy := Option.some.inj h
  subst hy
  exact W.vret hx hb hr (fun t ht hW => ⟨⟨(), rfl, trivial, by rw [ht]; exact hP, hD⟩, hS.F ht⟩) hS.2.2 dX6_setLot_5

def f_X6_isIn (R_in : Int32) (T_size : Int32) (p1 : Int32) : Int32 := (if (f_X1_has T_size p1) = 0 then (0 : Int32) else (if ((R_in >>> (p1 &&& 31)) &&& (1 : Int32)) = (1 : Int32) then (1 : Int32) else (0 : Int32)))
set_option maxHeartbeats 8000000 in
set_option maxRecDepth 100000 in
theorem c_X6_isIn (l : Launch) (D : va_G) (cI cJ cZ cO : ClassId) (aR : Nat) (aT : Nat) (aT_slips : Nat) (aT_lates : Nat) (aT_copied : Nat) (R_in : Int32) (R_streak : Int32) (R_lot : Int32) (T_size : Int32) (T_littleOnes : Int32)  (p1 : Int32) (y0 : Int32) (h : f_X6_isIn R_in T_size p1 = y0) : Met l yX6_isIn wsX6_isIn ({ frames := 1, cells := 0, slots := 0, locals := 21 } : Room) (va_Pc [.ref aR, .int p1] (fun U => va_P D vwCl [(aR, .inr (6, [.ref aT, .int R_in, .int R_streak, .int R_lot])), (aT, .inr (1, [.ref aT_slips, .ref aT_lates, .ref aT_copied, .int T_size, .int T_littleOnes]))] U.heap ∧ KK D cI cJ cZ cO U)) (vp_Si (fun r => r = y0 ∧ zo r)) 0 0 (fun _ => False) := by
  refine Met.ofW (cc := cX6_isIn) (maxL := 2) (ret := (some .boolean)) (by decide) rfl ?_
  intro p e s m args below meth c s₁ B hml hv
  obtain ⟨rfl, hP, hKK⟩ := hv
  have hx := B.exec
  have hb := B.bytes
  have hr := B.returns
  have hts := atoms_spec (ws := wsX6_isIn) B.pre
  have hown : s.vm.findClass RX6 = some m.cls := findClass_of_methodNamed B.named
  have hlocks := B.notSynchronized
  have hK := hKK.1
  have fl_9 := hts (.fieldLink RX6 9 "SimonSays$Round" "told" "LSimonSays$Children;") (by decide +kernel)
  have fl_29 := hts (.fieldLink RX6 29 "SimonSays$Round" "in" "I") (by decide +kernel)
  have inX6 : ∀ w ∈ wsX60, w ∈ wsX6_isIn := by decide +kernel
  have hl := lv_entry ([.ref aR, .int p1]) (n := 2) (Nat.le_of_ble_eq_true rfl)
  rw [lg_entry_eq]
  generalize (lg_sl ([.ref aR, .int p1]) ++ List.replicate (2 - (lg_sl ([.ref aR, .int p1])).length) Slot.unset).toArray = ls at hl ⊢
  have hl : lv_has ls 2 [(0, .ref aR), (1, .int p1)] := hl
  unfold f_X6_isIn at h
  refine lv_aload_n hx hb dX6_isIn_0 rfl (lv_at hl 0 rfl) ?_
  refine va_get (D := D) (ci := 6) (v := .ref aT) (C := RX6) (T := TX6) (N := 4) hx hb hts inX6 hown hK hP 0 rfl rfl 0 (by decide) fl_9 (fun _ h9 => h9) rfl dX6_isIn_1 ?_
  refine lv_iload_n hx hb dX6_isIn_4 rfl (lv_at hl 1 rfl) ?_
  have hPc : va_P D vwCl [(aT, .inr (1, [.ref aT_slips, .ref aT_lates, .ref aT_copied, .int T_size, .int T_littleOnes]))] s.heap := hP.sub [1] rfl
  refine vp_callSi (va_Run.run (va_runV (As := [.int p1]) (rest := []) ⟨hx, hb, hml, hown, hts⟩ (c_X1_has l D cI cJ cZ cO aT aT_slips aT_lates aT_copied T_size T_littleOnes p1 _ rfl) (cwV 1 hts gX6_isIn_X1_has rfl rfl rfl (by decide +kernel) ⟨Nat.le_of_ble_eq_true rfl, Nat.le_of_ble_eq_true rfl⟩) ⟨fb_p, va_recv hK hP (ci := 1) (q0 := 1) rfl rfl, fun U hU hW => ⟨rfl, by rw [hU]; exact hPc, KK.warm hW hKK⟩⟩ rfl rfl hl.1 rfl (lv_room (Nat.le_of_ble_eq_true rfl)) dX6_isIn_5 ⟨Nat.le_of_ble_eq_true rfl, Nat.le_of_ble_eq_true rfl⟩)) (fun r hr => ?_)
  obtain ⟨hr, hz1⟩ := hr
  replace hr := hr.symm
  subst hr
  refine lv_if_eq (tgt := 27) hx hb dX6_isIn_8 (by decide) (fun c_2 => ?_) (fun c_2 => ?_)
  · replace h := if_p c_2 h
    refine lv_iconst (v := (0 : Int32)) hx hb dX6_isIn_27 (by decide) ?_
    exact pr_z hx hb hr hlocks dX6_isIn_28 h (by decide)
  · replace h := if_n c_2 h
    refine lv_aload_n hx hb dX6_isIn_11 rfl (lv_at hl 0 rfl) ?_
    refine va_get (D := D) (ci := 6) (v := .int R_in) (C := RX6) (T := TX6) (N := 4) hx hb hts inX6 hown hK hP 0 rfl rfl 1 (by decide) fl_29 (fun _ h9 => h9) rfl dX6_isIn_12 ?_
    refine lv_iload_n hx hb dX6_isIn_15 rfl (lv_at hl 1 rfl) ?_
    refine lv_ishr hx hb dX6_isIn_16 ?_
    refine lv_iconst (v := (1 : Int32)) hx hb dX6_isIn_17 (by decide) ?_
    refine lv_iand hx hb dX6_isIn_18 ?_
    refine lv_iconst (v := (1 : Int32)) hx hb dX6_isIn_19 (by decide) ?_
    refine lv_icmp_ne (tgt := 27) hx hb dX6_isIn_20 (by decide) (fun c_3 => ?_) (fun c_3 => ?_)
    · replace h := if_n c_3 h
      refine lv_iconst (v := (0 : Int32)) hx hb dX6_isIn_27 (by decide) ?_
      exact pr_z hx hb hr hlocks dX6_isIn_28 h (by decide)
    · replace h := if_p c_3 h
      refine lv_iconst (v := (1 : Int32)) hx hb dX6_isIn_23 (by decide) ?_
      refine lv_goto (tgt := 28) hx hb dX6_isIn_24 (by decide) ?_
      exact pr_z hx hb hr hlocks dX6_isIn_28 h (by decide)

def f_X6_letIn (R_in : Int32) (p1 : Int32) : Option (Int32) := some (R_in ||| ((1 : Int32) <<< (p1 &&& 31)))
set_option maxHeartbeats 8000000 in
set_option maxRecDepth 100000 in
theorem c_X6_letIn (l : Launch) (D : va_G) (cI cJ cZ cO : ClassId) (aR : Nat) (aT : Nat) (R_in : Int32) (R_streak : Int32) (R_lot : Int32) (sz : Nat) (p1 : Int32) (y0 : Int32) (h : f_X6_letIn R_in p1 = some y0) : Met l yX6_letIn wsX6_letIn ({ frames := 0, cells := 0, slots := 0, locals := 0 } : Room) (va_Pc [.ref aR, .int p1] (fun U => U.heap.size = sz ∧ va_P D vwCl [(aR, .inr (6, [.ref aT, .int R_in, .int R_streak, .int R_lot]))] U.heap ∧ KK D cI cJ cZ cO U ∧ va_D (fun _ => True) [(aR, .inr (6, [.ref aT, .int R_in, .int R_streak, .int R_lot]))])) (va_Qv (fun (_ : Unit) => True) (fun (_ : Unit) t => va_P D vwCl [(aR, .inr (6, [.ref aT, .int y0, .int R_streak, .int R_lot]))] t.heap ∧ va_D (va_A [(aR, .inr (6, [.ref aT, .int R_in, .int R_streak, .int R_lot]))] sz) [(aR, .inr (6, [.ref aT, .int y0, .int R_streak, .int R_lot]))]) (va_A [(aR, .inr (6, [.ref aT, .int R_in, .int R_streak, .int R_lot]))] sz)) 0 0 (va_A [(aR, .inr (6, [.ref aT, .int R_in, .int R_streak, .int R_lot]))] sz) := by
  refine Met.ofW (cc := cX6_letIn) (maxL := 2) (ret := none) (by decide) rfl ?_
  intro p e s m args below meth c s₁ B hml hv
  obtain ⟨rfl, hsz, hP, hKK, hD0⟩ := hv
  have hx := B.exec
  have hb := B.bytes
  have hr := B.returns
  have hts := atoms_spec (ws := wsX6_letIn) B.pre
  have hown : s.vm.findClass RX6 = some m.cls := findClass_of_methodNamed B.named
  have hlocks := B.notSynchronized
  have hK := hKK.1
  have fl_29 := hts (.fieldLink RX6 29 "SimonSays$Round" "in" "I") (by decide +kernel)
  have inX6 : ∀ w ∈ wsX60, w ∈ wsX6_letIn := by decide +kernel
  subst hsz
  have hD := hD0.self (sz := s.heap.size)
  generalize hAe : va_A [(aR, .inr (6, [.ref aT, .int R_in, .int R_streak, .int R_lot]))] s.heap.size = A at hD ⊢
  have hA : ∀ q : Nat, s.heap.size ≤ q → A q := fun q h => by rw [← hAe]; exact Or.inr h
  have hS : va_S A s.heap s.heap [] := va_S.rf
  have hl := lv_entry ([.ref aR, .int p1]) (n := 2) (Nat.le_of_ble_eq_true rfl)
  rw [lg_entry_eq]
  generalize (lg_sl ([.ref aR, .int p1]) ++ List.replicate (2 - (lg_sl ([.ref aR, .int p1])).length) Slot.unset).toArray = ls at hl ⊢
  have hl : lv_has ls 2 [(0, .ref aR), (1, .int p1)] := hl
  unfold f_X6_letIn at h
  refine lv_aload_n hx hb dX6_letIn_0 rfl (lv_at hl 0 rfl) ?_
  refine lv_dup hx hb dX6_letIn_1 rfl ?_
  refine va_get (D := D) (ci := 6) (v := .int R_in) (C := RX6) (T := TX6) (N := 4) hx hb hts inX6 hown hK hP 0 rfl rfl 1 (by decide) fl_29 (fun _ h9 => h9) rfl dX6_letIn_2 ?_
  refine lv_iconst (v := (1 : Int32)) hx hb dX6_letIn_5 (by decide) ?_
  refine lv_iload_n hx hb dX6_letIn_6 rfl (lv_at hl 1 rfl) ?_
  refine lv_ishl hx hb dX6_letIn_7 ?_
  refine lv_ior hx hb dX6_letIn_8 ?_
  refine va_put (D := D) (ci := 6) (v := .int (R_in ||| ((1 : Int32) <<< (p1 &&& 31)))) (ty := .int) (C := RX6) (T := TX6) (N := 4) hx hb hts inX6 tyX6 tyX6_ok nmX6 hown hK hP hD hS 0 rfl rfl 1 (by decide) fl_29 (fun _ h9 => h9) rfl (by decide +kernel) rfl rfl (Nat.le_of_ble_eq_true rfl) dX6_letIn_9 (fun H locs hP hD hS => ?_)
  have hP : va_P D vwCl [(aR, .inr (6, [.ref aT, .int (R_in ||| ((1 : Int32) <<< (p1 &&& 31))), .int R_streak, .int R_lot]))] H := hP
  have hD : va_D A [(aR, .inr (6, [.ref aT, .int (R_in ||| ((1 : Int32) <<< (p1 &&& 31))), .int R_streak, .int R_lot]))] := hD
  have hy := Option.some.inj h
  subst hy
  exact W.vret hx hb hr (fun t ht hW => ⟨⟨(), rfl, trivial, by rw [ht]; exact hP, hD⟩, hS.F ht⟩) hS.2.2 dX6_letIn_12

def f_X6_leaderOf_L4 (R_in : Int32) (T_size : Int32) (T_copied : Nat → Int32) : Nat → Int32 → Int32 → Option (Int32)
  | 0, _, _ => none
  | n + 1, x2, x3 => (if (6 : Int32) ≤ x3 then some x2 else (Option.bind (f_X1_copiedBy T_size T_copied x2) (fun y2 => (if (f_X6_isIn R_in T_size y2) = 0 then some x2 else f_X6_leaderOf_L4 R_in T_size T_copied n y2 (x3 + (1 : Int32))))))
def f_X6_leaderOf (R_in : Int32) (T_size : Int32) (T_copied : Nat → Int32) (p1 : Int32) : Option (Int32) := f_X6_leaderOf_L4 R_in T_size T_copied 300 p1 (0 : Int32)
set_option maxHeartbeats 8000000 in
set_option maxRecDepth 100000 in
theorem c_X6_leaderOf (l : Launch) (D : va_G) (cI cJ cZ cO : ClassId) (aR : Nat) (aT : Nat) (aT_copied : Nat) (aT_slips : Nat) (aT_lates : Nat) (R_in : Int32) (R_streak : Int32) (R_lot : Int32) (T_size : Int32) (T_littleOnes : Int32) (T_copied : Nat → Int32)  (p1 : Int32) (y0 : Int32) (h : f_X6_leaderOf R_in T_size T_copied p1 = some y0) : Met l yX6_leaderOf wsX6_leaderOf ({ frames := 2, cells := 0, slots := 0, locals := 42 } : Room) (va_Pc [.ref aR, .int p1] (fun U => va_P D vwCl [(aR, .inr (6, [.ref aT, .int R_in, .int R_streak, .int R_lot])), (aT, .inr (1, [.ref aT_slips, .ref aT_lates, .ref aT_copied, .int T_size, .int T_littleOnes])), (aT_copied, .inl (cI, 6, .inl T_copied))] U.heap ∧ KK D cI cJ cZ cO U)) (vp_Si (fun r => r = y0)) 0 0 (fun _ => False) := by
  refine Met.ofW (cc := cX6_leaderOf) (maxL := 5) (ret := (some .int)) (by decide) rfl ?_
  intro p e s m args below meth c s₁ B hml hv
  obtain ⟨rfl, hP, hKK⟩ := hv
  have hx := B.exec
  have hb := B.bytes
  have hr := B.returns
  have hts := atoms_spec (ws := wsX6_leaderOf) B.pre
  have hown : s.vm.findClass RX6 = some m.cls := findClass_of_methodNamed B.named
  have hlocks := B.notSynchronized
  have hK := hKK.1
  have fl_9 := hts (.fieldLink RX6 9 "SimonSays$Round" "told" "LSimonSays$Children;") (by decide +kernel)
  have inX6 : ∀ w ∈ wsX60, w ∈ wsX6_leaderOf := by decide +kernel
  have hl := lv_entry ([.ref aR, .int p1]) (n := 5) (Nat.le_of_ble_eq_true rfl)
  rw [lg_entry_eq]
  generalize (lg_sl ([.ref aR, .int p1]) ++ List.replicate (5 - (lg_sl ([.ref aR, .int p1])).length) Slot.unset).toArray = ls at hl ⊢
  have hl : lv_has ls 5 [(0, .ref aR), (1, .int p1)] := hl
  have L4 : ∀ (n : Nat), ∀ (x2 : Int32) (x3 : Int32), ∀ (ls : Array Slot), lv_has ls 5 [(0, .ref aR), (2, .int x2), (3, .int x3)] → f_X6_leaderOf_L4 R_in T_size T_copied n x2 x3 = some y0 → W p l e (headSpec wsX6_leaderOf ({ frames := 2, cells := 0, slots := 0, locals := 42 } : Room)).room s m ([.ref aR, .int p1] : List Value).toArray below meth c s.heap [] 0 0 (MQ below (vp_Si (fun r => r = y0)) ([.ref aR, .int p1] : List Value).toArray s 0 0 (fun _ => False)) (F0 m 4 ls []) := by
    intro n
    induction n with
    | zero =>
      intro x2 x3 ls hl h
      exact (ns h).elim
    | succ n ih =>
      intro x2 x3 ls hl h
      unfold f_X6_leaderOf_L4 at h
      refine lv_iload_n hx hb dX6_leaderOf_4 rfl (lv_at hl 2 rfl) ?_
      refine lv_bipush (v := (6 : Int32)) hx hb dX6_leaderOf_5 (by decide) ?_
      refine lv_icmp_ge (tgt := 40) hx hb dX6_leaderOf_7 (by decide) (fun c_1 => ?_) (fun c_1 => ?_)
      · replace h := if_p c_1 h
        refine lv_iload_n hx hb dX6_leaderOf_40 rfl (lv_at hl 1 rfl) ?_
        exact pr_i hx hb hr hlocks dX6_leaderOf_41 (Option.some.inj h)
      · replace h := if_n c_1 h
        refine lv_aload_n hx hb dX6_leaderOf_10 rfl (lv_at hl 0 rfl) ?_
        refine va_get (D := D) (ci := 6) (v := .ref aT) (C := RX6) (T := TX6) (N := 4) hx hb hts inX6 hown hK hP 0 rfl rfl 0 (by decide) fl_9 (fun _ h9 => h9) rfl dX6_leaderOf_11 ?_
        refine lv_iload_n hx hb dX6_leaderOf_14 rfl (lv_at hl 1 rfl) ?_
        obtain ⟨y2, qy2, h⟩ := ob_some h
        have hPc : va_P D vwCl [(aT, .inr (1, [.ref aT_slips, .ref aT_lates, .ref aT_copied, .int T_size, .int T_littleOnes])), (aT_copied, .inl (cI, 6, .inl T_copied))] s.heap := hP.sub [1, 2] rfl
        refine vp_callSi (va_Run.run (va_runV (As := [.int x2]) (rest := []) ⟨hx, hb, hml, hown, hts⟩ (c_X1_copiedBy l D cI cJ cZ cO aT aT_copied aT_slips aT_lates T_size T_littleOnes T_copied x2 y2 qy2) (cwV 1 hts gX6_leaderOf_X1_copiedBy rfl rfl rfl (by decide +kernel) ⟨Nat.le_of_ble_eq_true rfl, Nat.le_of_ble_eq_true rfl⟩) ⟨fb_p, va_recv hK hP (ci := 1) (q0 := 1) rfl rfl, fun U hU hW => ⟨rfl, by rw [hU]; exact hPc, KK.warm hW hKK⟩⟩ rfl rfl hl.1 rfl (lv_room (Nat.le_of_ble_eq_true rfl)) dX6_leaderOf_15 ⟨Nat.le_of_ble_eq_true rfl, Nat.le_of_ble_eq_true rfl⟩)) (fun r hr => ?_)
        replace hr := hr.symm
        subst hr
        refine lv_istore (lv' := [(4, .int y2), (0, .ref aR), (2, .int x2), (3, .int x3)]) hx hb dX6_leaderOf_18 hl (by decide) rfl (fun ls hl => ?_)
        refine lv_aload_n hx hb dX6_leaderOf_20 rfl (lv_at hl 1 rfl) ?_
        refine lv_iload hx hb dX6_leaderOf_21 (lv_at hl 0 rfl) ?_
        have hPc : va_P D vwCl [(aR, .inr (6, [.ref aT, .int R_in, .int R_streak, .int R_lot])), (aT, .inr (1, [.ref aT_slips, .ref aT_lates, .ref aT_copied, .int T_size, .int T_littleOnes]))] s.heap := hP.sub [0, 1] rfl
        refine vp_callSi (va_Run.run (va_runV (As := [.int y2]) (rest := []) ⟨hx, hb, hml, hown, hts⟩ (c_X6_isIn l D cI cJ cZ cO aR aT aT_slips aT_lates aT_copied R_in R_streak R_lot T_size T_littleOnes y2 _ rfl) (cwV 1 hts gX6_leaderOf_X6_isIn rfl rfl rfl (by decide +kernel) ⟨Nat.le_of_ble_eq_true rfl, Nat.le_of_ble_eq_true rfl⟩) ⟨fb_p, va_recv hK hP (ci := 6) (q0 := 0) rfl rfl, fun U hU hW => ⟨rfl, by rw [hU]; exact hPc, KK.warm hW hKK⟩⟩ rfl rfl hl.1 rfl (lv_room (Nat.le_of_ble_eq_true rfl)) dX6_leaderOf_23 ⟨Nat.le_of_ble_eq_true rfl, Nat.le_of_ble_eq_true rfl⟩)) (fun r hr => ?_)
        obtain ⟨hr, hz3⟩ := hr
        replace hr := hr.symm
        subst hr
        refine lv_if_ne (tgt := 31) hx hb dX6_leaderOf_26 (by decide) (fun c_4 => ?_) (fun c_4 => ?_)
        · replace h := if_n c_4 h
          refine lv_iload hx hb dX6_leaderOf_31 (lv_at hl 0 rfl) ?_
          refine lv_istore_n (lv' := [(2, .int y2), (4, .int y2), (0, .ref aR), (3, .int x3)]) hx hb dX6_leaderOf_33 rfl hl (by decide) rfl (fun ls hl => ?_)
          refine lv_iinc (v := (x3 + (1 : Int32))) (lv' := [(3, .int (x3 + (1 : Int32))), (2, .int y2), (4, .int y2), (0, .ref aR)]) hx hb dX6_leaderOf_34 hl (k := 3) rfl rfl (by decide) rfl (fun ls hl => ?_)
          refine lv_goto (tgt := 4) hx hb dX6_leaderOf_37 (by decide) ?_
          exact ih y2 (x3 + (1 : Int32)) ls (lv_sub hl [3, 1, 0] rfl) h
        · replace h := if_p c_4 h
          refine lv_iload_n hx hb dX6_leaderOf_29 rfl (lv_at hl 2 rfl) ?_
          exact pr_i hx hb hr hlocks dX6_leaderOf_30 (Option.some.inj h)
  unfold f_X6_leaderOf at h
  refine lv_iload_n hx hb dX6_leaderOf_0 rfl (lv_at hl 1 rfl) ?_
  refine lv_istore_n (lv' := [(2, .int p1), (0, .ref aR), (1, .int p1)]) hx hb dX6_leaderOf_1 rfl hl (by decide) rfl (fun ls hl => ?_)
  refine lv_iconst (v := (0 : Int32)) hx hb dX6_leaderOf_2 (by decide) ?_
  refine lv_istore_n (lv' := [(3, .int (0 : Int32)), (2, .int p1), (0, .ref aR), (1, .int p1)]) hx hb dX6_leaderOf_3 rfl hl (by decide) rfl (fun ls hl => ?_)
  exact L4 300 p1 (0 : Int32) ls (lv_sub hl [2, 1, 0] rfl) h

def f_X6_isLeader (R_in : Int32) (T_size : Int32) (T_copied : Nat → Int32) (p1 : Int32) : Option (Int32) := (if (f_X6_isIn R_in T_size p1) = 0 then some (0 : Int32) else (Option.bind (f_X6_leaderOf R_in T_size T_copied p1) (fun y3 => (if y3 = p1 then some (1 : Int32) else some (0 : Int32)))))
set_option maxHeartbeats 8000000 in
set_option maxRecDepth 100000 in
theorem c_X6_isLeader (l : Launch) (D : va_G) (cI cJ cZ cO : ClassId) (aR : Nat) (aT : Nat) (aT_copied : Nat) (aT_slips : Nat) (aT_lates : Nat) (R_in : Int32) (R_streak : Int32) (R_lot : Int32) (T_size : Int32) (T_littleOnes : Int32) (T_copied : Nat → Int32)  (p1 : Int32) (y0 : Int32) (h : f_X6_isLeader R_in T_size T_copied p1 = some y0) : Met l yX6_isLeader wsX6_isLeader ({ frames := 3, cells := 0, slots := 0, locals := 66 } : Room) (va_Pc [.ref aR, .int p1] (fun U => va_P D vwCl [(aR, .inr (6, [.ref aT, .int R_in, .int R_streak, .int R_lot])), (aT, .inr (1, [.ref aT_slips, .ref aT_lates, .ref aT_copied, .int T_size, .int T_littleOnes])), (aT_copied, .inl (cI, 6, .inl T_copied))] U.heap ∧ KK D cI cJ cZ cO U)) (vp_Si (fun r => r = y0 ∧ zo r)) 0 0 (fun _ => False) := by
  refine Met.ofW (cc := cX6_isLeader) (maxL := 2) (ret := (some .boolean)) (by decide) rfl ?_
  intro p e s m args below meth c s₁ B hml hv
  obtain ⟨rfl, hP, hKK⟩ := hv
  have hx := B.exec
  have hb := B.bytes
  have hr := B.returns
  have hts := atoms_spec (ws := wsX6_isLeader) B.pre
  have hown : s.vm.findClass RX6 = some m.cls := findClass_of_methodNamed B.named
  have hlocks := B.notSynchronized
  have hK := hKK.1
  have hl := lv_entry ([.ref aR, .int p1]) (n := 2) (Nat.le_of_ble_eq_true rfl)
  rw [lg_entry_eq]
  generalize (lg_sl ([.ref aR, .int p1]) ++ List.replicate (2 - (lg_sl ([.ref aR, .int p1])).length) Slot.unset).toArray = ls at hl ⊢
  have hl : lv_has ls 2 [(0, .ref aR), (1, .int p1)] := hl
  unfold f_X6_isLeader at h
  refine lv_aload_n hx hb dX6_isLeader_0 rfl (lv_at hl 0 rfl) ?_
  refine lv_iload_n hx hb dX6_isLeader_1 rfl (lv_at hl 1 rfl) ?_
  have hPc : va_P D vwCl [(aR, .inr (6, [.ref aT, .int R_in, .int R_streak, .int R_lot])), (aT, .inr (1, [.ref aT_slips, .ref aT_lates, .ref aT_copied, .int T_size, .int T_littleOnes]))] s.heap := hP.sub [0, 1] rfl
  refine vp_callSi (va_Run.run (va_runV (As := [.int p1]) (rest := []) ⟨hx, hb, hml, hown, hts⟩ (c_X6_isIn l D cI cJ cZ cO aR aT aT_slips aT_lates aT_copied R_in R_streak R_lot T_size T_littleOnes p1 _ rfl) (cwV 1 hts gX6_isLeader_X6_isIn rfl rfl rfl (by decide +kernel) ⟨Nat.le_of_ble_eq_true rfl, Nat.le_of_ble_eq_true rfl⟩) ⟨fb_p, va_recv hK hP (ci := 6) (q0 := 0) rfl rfl, fun U hU hW => ⟨rfl, by rw [hU]; exact hPc, KK.warm hW hKK⟩⟩ rfl rfl hl.1 rfl (lv_room (Nat.le_of_ble_eq_true rfl)) dX6_isLeader_2 ⟨Nat.le_of_ble_eq_true rfl, Nat.le_of_ble_eq_true rfl⟩)) (fun r hr => ?_)
  obtain ⟨hr, hz1⟩ := hr
  replace hr := hr.symm
  subst hr
  refine lv_if_eq (tgt := 21) hx hb dX6_isLeader_5 (by decide) (fun c_2 => ?_) (fun c_2 => ?_)
  · replace h := if_p c_2 h
    refine lv_iconst (v := (0 : Int32)) hx hb dX6_isLeader_21 (by decide) ?_
    exact pr_z hx hb hr hlocks dX6_isLeader_22 (Option.some.inj h) (by decide)
  · replace h := if_n c_2 h
    refine lv_aload_n hx hb dX6_isLeader_8 rfl (lv_at hl 0 rfl) ?_
    refine lv_iload_n hx hb dX6_isLeader_9 rfl (lv_at hl 1 rfl) ?_
    obtain ⟨y3, qy3, h⟩ := ob_some h
    have hPc : va_P D vwCl [(aR, .inr (6, [.ref aT, .int R_in, .int R_streak, .int R_lot])), (aT, .inr (1, [.ref aT_slips, .ref aT_lates, .ref aT_copied, .int T_size, .int T_littleOnes])), (aT_copied, .inl (cI, 6, .inl T_copied))] s.heap := hP.sub [0, 1, 2] rfl
    refine vp_callSi (va_Run.run (va_runV (As := [.int p1]) (rest := []) ⟨hx, hb, hml, hown, hts⟩ (c_X6_leaderOf l D cI cJ cZ cO aR aT aT_copied aT_slips aT_lates R_in R_streak R_lot T_size T_littleOnes T_copied p1 y3 qy3) (cwV 1 hts gX6_isLeader_X6_leaderOf rfl rfl rfl (by decide +kernel) ⟨Nat.le_of_ble_eq_true rfl, Nat.le_of_ble_eq_true rfl⟩) ⟨fb_p, va_recv hK hP (ci := 6) (q0 := 0) rfl rfl, fun U hU hW => ⟨rfl, by rw [hU]; exact hPc, KK.warm hW hKK⟩⟩ rfl rfl hl.1 rfl (lv_room (Nat.le_of_ble_eq_true rfl)) dX6_isLeader_10 ⟨Nat.le_of_ble_eq_true rfl, Nat.le_of_ble_eq_true rfl⟩)) (fun r hr => ?_)
    replace hr := hr.symm
    subst hr
    refine lv_iload_n hx hb dX6_isLeader_13 rfl (lv_at hl 1 rfl) ?_
    refine lv_icmp_ne (tgt := 21) hx hb dX6_isLeader_14 (by decide) (fun c_4 => ?_) (fun c_4 => ?_)
    · replace h := if_n c_4 h
      refine lv_iconst (v := (0 : Int32)) hx hb dX6_isLeader_21 (by decide) ?_
      exact pr_z hx hb hr hlocks dX6_isLeader_22 (Option.some.inj h) (by decide)
    · replace h := if_p c_4 h
      refine lv_iconst (v := (1 : Int32)) hx hb dX6_isLeader_17 (by decide) ?_
      refine lv_goto (tgt := 22) hx hb dX6_isLeader_18 (by decide) ?_
      exact pr_z hx hb hr hlocks dX6_isLeader_22 (Option.some.inj h) (by decide)

def f_X6_groupOf_L4 (R_in : Int32) (T_size : Int32) (T_copied : Nat → Int32) : Nat → Int32 → Int32 → Int32 → Option (Int32)
  | 0, _, _, _ => none
  | n + 1, x1, x2, x3 => (if (f_X1_size T_size) ≤ x3 then some x2 else (if (f_X6_isIn R_in T_size x3) = 0 then f_X6_groupOf_L4 R_in T_size T_copied n x1 x2 (x3 + (1 : Int32)) else (Option.bind (f_X6_leaderOf R_in T_size T_copied x3) (fun y4 => (if y4 = x1 then f_X6_groupOf_L4 R_in T_size T_copied n x1 (x2 ||| ((1 : Int32) <<< (x3 &&& 31))) (x3 + (1 : Int32)) else f_X6_groupOf_L4 R_in T_size T_copied n x1 x2 (x3 + (1 : Int32)))))))
def f_X6_groupOf (R_in : Int32) (T_size : Int32) (T_copied : Nat → Int32) (p1 : Int32) : Option (Int32) := f_X6_groupOf_L4 R_in T_size T_copied 300 p1 (0 : Int32) (0 : Int32)
set_option maxHeartbeats 8000000 in
set_option maxRecDepth 100000 in
theorem c_X6_groupOf (l : Launch) (D : va_G) (cI cJ cZ cO : ClassId) (aR : Nat) (aT : Nat) (aT_copied : Nat) (aT_slips : Nat) (aT_lates : Nat) (R_in : Int32) (R_streak : Int32) (R_lot : Int32) (T_size : Int32) (T_littleOnes : Int32) (T_copied : Nat → Int32)  (p1 : Int32) (y0 : Int32) (h : f_X6_groupOf R_in T_size T_copied p1 = some y0) : Met l yX6_groupOf wsX6_groupOf ({ frames := 3, cells := 0, slots := 0, locals := 66 } : Room) (va_Pc [.ref aR, .int p1] (fun U => va_P D vwCl [(aR, .inr (6, [.ref aT, .int R_in, .int R_streak, .int R_lot])), (aT, .inr (1, [.ref aT_slips, .ref aT_lates, .ref aT_copied, .int T_size, .int T_littleOnes])), (aT_copied, .inl (cI, 6, .inl T_copied))] U.heap ∧ KK D cI cJ cZ cO U)) (vp_Si (fun r => r = y0)) 0 0 (fun _ => False) := by
  refine Met.ofW (cc := cX6_groupOf) (maxL := 4) (ret := (some .int)) (by decide) rfl ?_
  intro p e s m args below meth c s₁ B hml hv
  obtain ⟨rfl, hP, hKK⟩ := hv
  have hx := B.exec
  have hb := B.bytes
  have hr := B.returns
  have hts := atoms_spec (ws := wsX6_groupOf) B.pre
  have hown : s.vm.findClass RX6 = some m.cls := findClass_of_methodNamed B.named
  have hlocks := B.notSynchronized
  have hK := hKK.1
  have fl_9 := hts (.fieldLink RX6 9 "SimonSays$Round" "told" "LSimonSays$Children;") (by decide +kernel)
  have inX6 : ∀ w ∈ wsX60, w ∈ wsX6_groupOf := by decide +kernel
  have hl := lv_entry ([.ref aR, .int p1]) (n := 4) (Nat.le_of_ble_eq_true rfl)
  rw [lg_entry_eq]
  generalize (lg_sl ([.ref aR, .int p1]) ++ List.replicate (4 - (lg_sl ([.ref aR, .int p1])).length) Slot.unset).toArray = ls at hl ⊢
  have hl : lv_has ls 4 [(0, .ref aR), (1, .int p1)] := hl
  have L4 : ∀ (n : Nat), ∀ (x1 : Int32) (x2 : Int32) (x3 : Int32), ∀ (ls : Array Slot), lv_has ls 4 [(0, .ref aR), (1, .int x1), (2, .int x2), (3, .int x3)] → f_X6_groupOf_L4 R_in T_size T_copied n x1 x2 x3 = some y0 → W p l e (headSpec wsX6_groupOf ({ frames := 3, cells := 0, slots := 0, locals := 66 } : Room)).room s m ([.ref aR, .int p1] : List Value).toArray below meth c s.heap [] 0 0 (MQ below (vp_Si (fun r => r = y0)) ([.ref aR, .int p1] : List Value).toArray s 0 0 (fun _ => False)) (F0 m 4 ls []) := by
    intro n
    induction n with
    | zero =>
      intro x1 x2 x3 ls hl h
      exact (ns h).elim
    | succ n ih =>
      intro x1 x2 x3 ls hl h
      unfold f_X6_groupOf_L4 at h
      refine lv_iload_n hx hb dX6_groupOf_4 rfl (lv_at hl 3 rfl) ?_
      refine lv_aload_n hx hb dX6_groupOf_5 rfl (lv_at hl 0 rfl) ?_
      refine va_get (D := D) (ci := 6) (v := .ref aT) (C := RX6) (T := TX6) (N := 4) hx hb hts inX6 hown hK hP 0 rfl rfl 0 (by decide) fl_9 (fun _ h9 => h9) rfl dX6_groupOf_6 ?_
      have hPc : va_P D vwCl [(aT, .inr (1, [.ref aT_slips, .ref aT_lates, .ref aT_copied, .int T_size, .int T_littleOnes]))] s.heap := hP.sub [1] rfl
      refine vp_callSi (va_Run.run (va_runV (As := []) (rest := [.int x3]) ⟨hx, hb, hml, hown, hts⟩ (c_X1_size l D cI cJ cZ cO aT aT_slips aT_lates aT_copied T_size T_littleOnes _ rfl) (cwV 0 hts gX6_groupOf_X1_size rfl rfl rfl (by decide +kernel) ⟨Nat.le_of_ble_eq_true rfl, Nat.le_of_ble_eq_true rfl⟩) ⟨fb_p, va_recv hK hP (ci := 1) (q0 := 1) rfl rfl, fun U hU hW => ⟨rfl, by rw [hU]; exact hPc, KK.warm hW hKK⟩⟩ rfl rfl hl.1 rfl (lv_room (Nat.le_of_ble_eq_true rfl)) dX6_groupOf_9 ⟨Nat.le_of_ble_eq_true rfl, Nat.le_of_ble_eq_true rfl⟩)) (fun r hr => ?_)
      replace hr := hr.symm
      subst hr
      refine lv_icmp_ge (tgt := 44) hx hb dX6_groupOf_12 (by decide) (fun c_1 => ?_) (fun c_1 => ?_)
      · replace h := if_p c_1 h
        refine lv_iload_n hx hb dX6_groupOf_44 rfl (lv_at hl 2 rfl) ?_
        exact pr_i hx hb hr hlocks dX6_groupOf_45 (Option.some.inj h)
      · replace h := if_n c_1 h
        refine lv_aload_n hx hb dX6_groupOf_15 rfl (lv_at hl 0 rfl) ?_
        refine lv_iload_n hx hb dX6_groupOf_16 rfl (lv_at hl 3 rfl) ?_
        have hPc : va_P D vwCl [(aR, .inr (6, [.ref aT, .int R_in, .int R_streak, .int R_lot])), (aT, .inr (1, [.ref aT_slips, .ref aT_lates, .ref aT_copied, .int T_size, .int T_littleOnes]))] s.heap := hP.sub [0, 1] rfl
        refine vp_callSi (va_Run.run (va_runV (As := [.int x3]) (rest := []) ⟨hx, hb, hml, hown, hts⟩ (c_X6_isIn l D cI cJ cZ cO aR aT aT_slips aT_lates aT_copied R_in R_streak R_lot T_size T_littleOnes x3 _ rfl) (cwV 1 hts gX6_groupOf_X6_isIn rfl rfl rfl (by decide +kernel) ⟨Nat.le_of_ble_eq_true rfl, Nat.le_of_ble_eq_true rfl⟩) ⟨fb_p, va_recv hK hP (ci := 6) (q0 := 0) rfl rfl, fun U hU hW => ⟨rfl, by rw [hU]; exact hPc, KK.warm hW hKK⟩⟩ rfl rfl hl.1 rfl (lv_room (Nat.le_of_ble_eq_true rfl)) dX6_groupOf_17 ⟨Nat.le_of_ble_eq_true rfl, Nat.le_of_ble_eq_true rfl⟩)) (fun r hr => ?_)
        obtain ⟨hr, hz2⟩ := hr
        replace hr := hr.symm
        subst hr
        refine lv_if_eq (tgt := 38) hx hb dX6_groupOf_20 (by decide) (fun c_3 => ?_) (fun c_3 => ?_)
        · replace h := if_p c_3 h
          refine lv_iinc (v := (x3 + (1 : Int32))) (lv' := [(3, .int (x3 + (1 : Int32))), (0, .ref aR), (1, .int x1), (2, .int x2)]) hx hb dX6_groupOf_38 hl (k := 3) rfl rfl (by decide) rfl (fun ls hl => ?_)
          refine lv_goto (tgt := 4) hx hb dX6_groupOf_41 (by decide) ?_
          exact ih x1 x2 (x3 + (1 : Int32)) ls (lv_sub hl [1, 2, 3, 0] rfl) h
        · replace h := if_n c_3 h
          refine lv_aload_n hx hb dX6_groupOf_23 rfl (lv_at hl 0 rfl) ?_
          refine lv_iload_n hx hb dX6_groupOf_24 rfl (lv_at hl 3 rfl) ?_
          obtain ⟨y4, qy4, h⟩ := ob_some h
          have hPc : va_P D vwCl [(aR, .inr (6, [.ref aT, .int R_in, .int R_streak, .int R_lot])), (aT, .inr (1, [.ref aT_slips, .ref aT_lates, .ref aT_copied, .int T_size, .int T_littleOnes])), (aT_copied, .inl (cI, 6, .inl T_copied))] s.heap := hP.sub [0, 1, 2] rfl
          refine vp_callSi (va_Run.run (va_runV (As := [.int x3]) (rest := []) ⟨hx, hb, hml, hown, hts⟩ (c_X6_leaderOf l D cI cJ cZ cO aR aT aT_copied aT_slips aT_lates R_in R_streak R_lot T_size T_littleOnes T_copied x3 y4 qy4) (cwV 1 hts gX6_groupOf_X6_leaderOf rfl rfl rfl (by decide +kernel) ⟨Nat.le_of_ble_eq_true rfl, Nat.le_of_ble_eq_true rfl⟩) ⟨fb_p, va_recv hK hP (ci := 6) (q0 := 0) rfl rfl, fun U hU hW => ⟨rfl, by rw [hU]; exact hPc, KK.warm hW hKK⟩⟩ rfl rfl hl.1 rfl (lv_room (Nat.le_of_ble_eq_true rfl)) dX6_groupOf_25 ⟨Nat.le_of_ble_eq_true rfl, Nat.le_of_ble_eq_true rfl⟩)) (fun r hr => ?_)
          replace hr := hr.symm
          subst hr
          refine lv_iload_n hx hb dX6_groupOf_28 rfl (lv_at hl 1 rfl) ?_
          refine lv_icmp_ne (tgt := 38) hx hb dX6_groupOf_29 (by decide) (fun c_5 => ?_) (fun c_5 => ?_)
          · replace h := if_n c_5 h
            refine lv_iinc (v := (x3 + (1 : Int32))) (lv' := [(3, .int (x3 + (1 : Int32))), (0, .ref aR), (1, .int x1), (2, .int x2)]) hx hb dX6_groupOf_38 hl (k := 3) rfl rfl (by decide) rfl (fun ls hl => ?_)
            refine lv_goto (tgt := 4) hx hb dX6_groupOf_41 (by decide) ?_
            exact ih x1 x2 (x3 + (1 : Int32)) ls (lv_sub hl [1, 2, 3, 0] rfl) h
          · replace h := if_p c_5 h
            refine lv_iload_n hx hb dX6_groupOf_32 rfl (lv_at hl 2 rfl) ?_
            refine lv_iconst (v := (1 : Int32)) hx hb dX6_groupOf_33 (by decide) ?_
            refine lv_iload_n hx hb dX6_groupOf_34 rfl (lv_at hl 3 rfl) ?_
            refine lv_ishl hx hb dX6_groupOf_35 ?_
            refine lv_ior hx hb dX6_groupOf_36 ?_
            refine lv_istore_n (lv' := [(2, .int (x2 ||| ((1 : Int32) <<< (x3 &&& 31)))), (0, .ref aR), (1, .int x1), (3, .int x3)]) hx hb dX6_groupOf_37 rfl hl (by decide) rfl (fun ls hl => ?_)
            refine lv_iinc (v := (x3 + (1 : Int32))) (lv' := [(3, .int (x3 + (1 : Int32))), (2, .int (x2 ||| ((1 : Int32) <<< (x3 &&& 31)))), (0, .ref aR), (1, .int x1)]) hx hb dX6_groupOf_38 hl (k := 3) rfl rfl (by decide) rfl (fun ls hl => ?_)
            refine lv_goto (tgt := 4) hx hb dX6_groupOf_41 (by decide) ?_
            exact ih x1 (x2 ||| ((1 : Int32) <<< (x3 &&& 31))) (x3 + (1 : Int32)) ls (lv_sub hl [2, 3, 1, 0] rfl) h
  unfold f_X6_groupOf at h
  refine lv_iconst (v := (0 : Int32)) hx hb dX6_groupOf_0 (by decide) ?_
  refine lv_istore_n (lv' := [(2, .int (0 : Int32)), (0, .ref aR), (1, .int p1)]) hx hb dX6_groupOf_1 rfl hl (by decide) rfl (fun ls hl => ?_)
  refine lv_iconst (v := (0 : Int32)) hx hb dX6_groupOf_2 (by decide) ?_
  refine lv_istore_n (lv' := [(3, .int (0 : Int32)), (2, .int (0 : Int32)), (0, .ref aR), (1, .int p1)]) hx hb dX6_groupOf_3 rfl hl (by decide) rfl (fun ls hl => ?_)
  exact L4 300 p1 (0 : Int32) (0 : Int32) ls (lv_sub hl [2, 3, 1, 0] rfl) h

def f_X6_startAnew (R_in : Int32) (R_streak : Int32) (T_size : Int32) : Option (Int32 × Int32) := (Option.bind (f_X6_become R_in R_streak (f_X1_everyone T_size) (0 : Int32)) (fun y1 => some (y1.1, y1.2)))
set_option maxHeartbeats 8000000 in
set_option maxRecDepth 100000 in
theorem c_X6_startAnew (l : Launch) (D : va_G) (cI cJ cZ cO : ClassId) (aR : Nat) (aT : Nat) (aT_slips : Nat) (aT_lates : Nat) (aT_copied : Nat) (R_in : Int32) (R_streak : Int32) (R_lot : Int32) (T_size : Int32) (T_littleOnes : Int32) (sz : Nat)  (y0 : Int32 × Int32) (h : f_X6_startAnew R_in R_streak T_size = some y0) : Met l yX6_startAnew wsX6_startAnew ({ frames := 1, cells := 0, slots := 0, locals := 22 } : Room) (va_Pc [.ref aR] (fun U => U.heap.size = sz ∧ va_P D vwCl [(aR, .inr (6, [.ref aT, .int R_in, .int R_streak, .int R_lot])), (aT, .inr (1, [.ref aT_slips, .ref aT_lates, .ref aT_copied, .int T_size, .int T_littleOnes]))] U.heap ∧ KK D cI cJ cZ cO U ∧ va_D (fun _ => True) [(aR, .inr (6, [.ref aT, .int R_in, .int R_streak, .int R_lot])), (aT, .inr (1, [.ref aT_slips, .ref aT_lates, .ref aT_copied, .int T_size, .int T_littleOnes]))])) (va_Qv (fun (_ : Unit) => True) (fun (_ : Unit) t => va_P D vwCl [(aR, .inr (6, [.ref aT, .int y0.1, .int y0.2, .int R_lot])), (aT, .inr (1, [.ref aT_slips, .ref aT_lates, .ref aT_copied, .int T_size, .int T_littleOnes]))] t.heap ∧ va_D (va_A [(aR, .inr (6, [.ref aT, .int R_in, .int R_streak, .int R_lot])), (aT, .inr (1, [.ref aT_slips, .ref aT_lates, .ref aT_copied, .int T_size, .int T_littleOnes]))] sz) [(aR, .inr (6, [.ref aT, .int y0.1, .int y0.2, .int R_lot])), (aT, .inr (1, [.ref aT_slips, .ref aT_lates, .ref aT_copied, .int T_size, .int T_littleOnes]))]) (va_A [(aR, .inr (6, [.ref aT, .int R_in, .int R_streak, .int R_lot])), (aT, .inr (1, [.ref aT_slips, .ref aT_lates, .ref aT_copied, .int T_size, .int T_littleOnes]))] sz)) 0 0 (va_A [(aR, .inr (6, [.ref aT, .int R_in, .int R_streak, .int R_lot])), (aT, .inr (1, [.ref aT_slips, .ref aT_lates, .ref aT_copied, .int T_size, .int T_littleOnes]))] sz) := by
  refine Met.ofW (cc := cX6_startAnew) (maxL := 1) (ret := none) (by decide) rfl ?_
  intro p e s m args below meth c s₁ B hml hv
  obtain ⟨rfl, hsz, hP, hKK, hD0⟩ := hv
  have hx := B.exec
  have hb := B.bytes
  have hr := B.returns
  have hts := atoms_spec (ws := wsX6_startAnew) B.pre
  have hown : s.vm.findClass RX6 = some m.cls := findClass_of_methodNamed B.named
  have hlocks := B.notSynchronized
  have hK := hKK.1
  have fl_9 := hts (.fieldLink RX6 9 "SimonSays$Round" "told" "LSimonSays$Children;") (by decide +kernel)
  have inX6 : ∀ w ∈ wsX60, w ∈ wsX6_startAnew := by decide +kernel
  subst hsz
  have hD := hD0.self (sz := s.heap.size)
  generalize hAe : va_A [(aR, .inr (6, [.ref aT, .int R_in, .int R_streak, .int R_lot])), (aT, .inr (1, [.ref aT_slips, .ref aT_lates, .ref aT_copied, .int T_size, .int T_littleOnes]))] s.heap.size = A at hD ⊢
  have hA : ∀ q : Nat, s.heap.size ≤ q → A q := fun q h => by rw [← hAe]; exact Or.inr h
  have hS : va_S A s.heap s.heap [] := va_S.rf
  have hl := lv_entry ([.ref aR]) (n := 1) (Nat.le_of_ble_eq_true rfl)
  rw [lg_entry_eq]
  generalize (lg_sl ([.ref aR]) ++ List.replicate (1 - (lg_sl ([.ref aR])).length) Slot.unset).toArray = ls at hl ⊢
  have hl : lv_has ls 1 [(0, .ref aR)] := hl
  unfold f_X6_startAnew at h
  refine lv_aload_n hx hb dX6_startAnew_0 rfl (lv_at hl 0 rfl) ?_
  refine lv_aload_n hx hb dX6_startAnew_1 rfl (lv_at hl 0 rfl) ?_
  refine va_get (D := D) (ci := 6) (v := .ref aT) (C := RX6) (T := TX6) (N := 4) hx hb hts inX6 hown hK hP 0 rfl rfl 0 (by decide) fl_9 (fun _ h9 => h9) rfl dX6_startAnew_2 ?_
  have hPc : va_P D vwCl [(aT, .inr (1, [.ref aT_slips, .ref aT_lates, .ref aT_copied, .int T_size, .int T_littleOnes]))] s.heap := hP.sub [1] rfl
  refine vp_callSi (va_Run.run (va_runV (As := []) (rest := [.ref aR]) ⟨hx, hb, hml, hown, hts⟩ (c_X1_everyone l D cI cJ cZ cO aT aT_slips aT_lates aT_copied T_size T_littleOnes _ rfl) (cwV 0 hts gX6_startAnew_X1_everyone rfl rfl rfl (by decide +kernel) ⟨Nat.le_of_ble_eq_true rfl, Nat.le_of_ble_eq_true rfl⟩) ⟨fb_p, va_recv hK hP (ci := 1) (q0 := 1) rfl rfl, fun U hU hW => ⟨rfl, by rw [hU]; exact hPc, KK.warm hW hKK⟩⟩ rfl rfl hl.1 rfl (lv_room (Nat.le_of_ble_eq_true rfl)) dX6_startAnew_5 ⟨Nat.le_of_ble_eq_true rfl, Nat.le_of_ble_eq_true rfl⟩)) (fun r hr => ?_)
  replace hr := hr.symm
  subst hr
  refine lv_iconst (v := (0 : Int32)) hx hb dX6_startAnew_8 (by decide) ?_
  obtain ⟨y1, qy1, h⟩ := ob_some h
  have hPc : va_P D vwCl [(aR, .inr (6, [.ref aT, .int R_in, .int R_streak, .int R_lot]))] s.heap := hP.sub [0] rfl
  have hDc : va_D A [(aR, .inr (6, [.ref aT, .int R_in, .int R_streak, .int R_lot]))] := hD.sub [0] (by decide) rfl
  have hFc := va_free (wc := [(aR, .inr (6, [.ref aT, .int R_in, .int R_streak, .int R_lot]))]) hD hS hA [0] rfl
  refine va_callv (va_runV (As := [.int (f_X1_everyone T_size), .int (0 : Int32)]) (rest := []) ⟨hx, hb, hml, hown, hts⟩ (c_X6_become l D cI cJ cZ cO aR aT R_in R_streak R_lot s.heap.size (f_X1_everyone T_size) (0 : Int32) y1 qy1) (cwV 2 hts gX6_startAnew_X6_become rfl rfl rfl (by decide +kernel) ⟨Nat.le_of_ble_eq_true rfl, Nat.le_of_ble_eq_true rfl⟩) ⟨fb_i, va_recv hK hP (ci := 6) (q0 := 0) rfl rfl, fun U hU hW => ⟨rfl, by rw [hU], by rw [hU]; exact hPc, KK.warm hW hKK, hDc.weaken (fun _ _ _ _ => trivial)⟩⟩ rfl rfl hl.1 rfl (lv_room (Nat.le_of_ble_eq_true rfl)) dX6_startAnew_9 ⟨Nat.le_of_ble_eq_true rfl, Nat.le_of_ble_eq_true rfl⟩) hS (fun q _ h => hFc q h) hFc (fun u t H1 locs ht hvm hw hB hz1 hk1 hS => ?_)
  obtain ⟨hP1, hD1⟩ := hB
  rw [ht] at hP1
  obtain ⟨hP, hD⟩ := va_join (wr := [(aT, .inr (1, [.ref aT_slips, .ref aT_lates, .ref aT_copied, .int T_size, .int T_littleOnes]))]) (w1 := [(aR, .inr (6, [.ref aT, .int y1.1, .int y1.2, .int R_lot]))]) hP hD [0] [1] rfl rfl (by decide) (by decide) hk1 hFc hP1 hD1
  generalize H1 = H at hP hS ⊢
  have hP : va_P D vwCl [(aR, .inr (6, [.ref aT, .int y1.1, .int y1.2, .int R_lot])), (aT, .inr (1, [.ref aT_slips, .ref aT_lates, .ref aT_copied, .int T_size, .int T_littleOnes]))] H := hP.sub [1, 0] rfl
  have hD : va_D A [(aR, .inr (6, [.ref aT, .int y1.1, .int y1.2, .int R_lot])), (aT, .inr (1, [.ref aT_slips, .ref aT_lates, .ref aT_copied, .int T_size, .int T_littleOnes]))] := hD.sub [1, 0] (by decide) rfl
  have hy := Option.some.inj h
  subst hy
  exact W.vret hx hb hr (fun t ht hW => ⟨⟨(), rfl, trivial, by rw [ht]; exact hP, hD⟩, hS.F ht⟩) hS.2.2 dX6_startAnew_12

def f_X6_draw (R_lot : Int32) : Option (Int32 × Int32) := some ((((((R_lot * (1103515245 : Int32)) + (12345 : Int32)).toUInt32 >>> ((16 : Int32).toUInt32 &&& Int32.toUInt32 31)).toInt32) - ((((R_lot * (1103515245 : Int32)) + (12345 : Int32)).toUInt32 >>> ((16 : Int32).toUInt32 &&& Int32.toUInt32 31)).toInt32) / (10 : Int32) * (10 : Int32)), ((R_lot * (1103515245 : Int32)) + (12345 : Int32)))
set_option maxHeartbeats 8000000 in
set_option maxRecDepth 100000 in
theorem c_X6_draw (l : Launch) (D : va_G) (cI cJ cZ cO : ClassId) (aR : Nat) (aT : Nat) (R_in : Int32) (R_streak : Int32) (R_lot : Int32) (sz : Nat)  (y0 : Int32 × Int32) (h : f_X6_draw R_lot = some y0) : Met l yX6_draw wsX6_draw ({ frames := 0, cells := 0, slots := 0, locals := 0 } : Room) (va_Pc [.ref aR] (fun U => U.heap.size = sz ∧ va_P D vwCl [(aR, .inr (6, [.ref aT, .int R_in, .int R_streak, .int R_lot]))] U.heap ∧ KK D cI cJ cZ cO U ∧ va_D (fun _ => True) [(aR, .inr (6, [.ref aT, .int R_in, .int R_streak, .int R_lot]))])) (va_Qi (fun (r : Int32) (_ : Unit) => r = y0.1) (fun (_ : Unit) t => va_P D vwCl [(aR, .inr (6, [.ref aT, .int R_in, .int R_streak, .int y0.2]))] t.heap ∧ va_D (va_A [(aR, .inr (6, [.ref aT, .int R_in, .int R_streak, .int R_lot]))] sz) [(aR, .inr (6, [.ref aT, .int R_in, .int R_streak, .int y0.2]))]) (va_A [(aR, .inr (6, [.ref aT, .int R_in, .int R_streak, .int R_lot]))] sz)) 0 0 (va_A [(aR, .inr (6, [.ref aT, .int R_in, .int R_streak, .int R_lot]))] sz) := by
  refine Met.ofW (cc := cX6_draw) (maxL := 1) (ret := (some .int)) (by decide) rfl ?_
  intro p e s m args below meth c s₁ B hml hv
  obtain ⟨rfl, hsz, hP, hKK, hD0⟩ := hv
  have hx := B.exec
  have hb := B.bytes
  have hr := B.returns
  have hts := atoms_spec (ws := wsX6_draw) B.pre
  have hown : s.vm.findClass RX6 = some m.cls := findClass_of_methodNamed B.named
  have hlocks := B.notSynchronized
  have hK := hKK.1
  have fl_15 := hts (.fieldLink RX6 15 "SimonSays$Round" "lot" "I") (by decide +kernel)
  have cst_74 := hts (.constant RX6 74 (1103515245)) (by decide +kernel)
  have inX6 : ∀ w ∈ wsX60, w ∈ wsX6_draw := by decide +kernel
  subst hsz
  have hD := hD0.self (sz := s.heap.size)
  generalize hAe : va_A [(aR, .inr (6, [.ref aT, .int R_in, .int R_streak, .int R_lot]))] s.heap.size = A at hD ⊢
  have hA : ∀ q : Nat, s.heap.size ≤ q → A q := fun q h => by rw [← hAe]; exact Or.inr h
  have hS : va_S A s.heap s.heap [] := va_S.rf
  have hl := lv_entry ([.ref aR]) (n := 1) (Nat.le_of_ble_eq_true rfl)
  rw [lg_entry_eq]
  generalize (lg_sl ([.ref aR]) ++ List.replicate (1 - (lg_sl ([.ref aR])).length) Slot.unset).toArray = ls at hl ⊢
  have hl : lv_has ls 1 [(0, .ref aR)] := hl
  unfold f_X6_draw at h
  refine lv_aload_n hx hb dX6_draw_0 rfl (lv_at hl 0 rfl) ?_
  refine lv_aload_n hx hb dX6_draw_1 rfl (lv_at hl 0 rfl) ?_
  refine va_get (D := D) (ci := 6) (v := .int R_lot) (C := RX6) (T := TX6) (N := 4) hx hb hts inX6 hown hK hP 0 rfl rfl 3 (by decide) fl_15 (fun _ h9 => h9) rfl dX6_draw_2 ?_
  refine lv_ldc (v := (1103515245 : Int32)) hx hb hown cst_74 dX6_draw_5 ?_
  refine lv_imul hx hb dX6_draw_7 ?_
  refine lv_sipush (v := (12345 : Int32)) hx hb dX6_draw_8 (by decide) ?_
  refine lv_iadd hx hb dX6_draw_11 ?_
  refine va_put (D := D) (ci := 6) (v := .int ((R_lot * (1103515245 : Int32)) + (12345 : Int32))) (ty := .int) (C := RX6) (T := TX6) (N := 4) hx hb hts inX6 tyX6 tyX6_ok nmX6 hown hK hP hD hS 0 rfl rfl 3 (by decide) fl_15 (fun _ h9 => h9) rfl (by decide +kernel) rfl rfl (Nat.le_of_ble_eq_true rfl) dX6_draw_12 (fun H locs hP hD hS => ?_)
  have hP : va_P D vwCl [(aR, .inr (6, [.ref aT, .int R_in, .int R_streak, .int ((R_lot * (1103515245 : Int32)) + (12345 : Int32))]))] H := hP
  have hD : va_D A [(aR, .inr (6, [.ref aT, .int R_in, .int R_streak, .int ((R_lot * (1103515245 : Int32)) + (12345 : Int32))]))] := hD
  refine lv_aload_n hx hb dX6_draw_15 rfl (lv_at hl 0 rfl) ?_
  refine va_get (D := D) (ci := 6) (v := .int ((R_lot * (1103515245 : Int32)) + (12345 : Int32))) (C := RX6) (T := TX6) (N := 4) hx hb hts inX6 hown hK hP 0 rfl rfl 3 (by decide) fl_15 (fun _ h9 => h9) rfl dX6_draw_16 ?_
  refine lv_bipush (v := (16 : Int32)) hx hb dX6_draw_19 (by decide) ?_
  refine lv_iushr (v := (((R_lot * (1103515245 : Int32)) + (12345 : Int32)).toUInt32 >>> ((16 : Int32).toUInt32 &&& Int32.toUInt32 31)).toInt32) hx hb dX6_draw_21 rfl ?_
  refine lv_bipush (v := (10 : Int32)) hx hb dX6_draw_22 (by decide) ?_
  refine lv_irem hx hb dX6_draw_24 (by decide) ?_
  have hy := Option.some.inj h
  subst hy
  exact W.iret (v := (((((R_lot * (1103515245 : Int32)) + (12345 : Int32)).toUInt32 >>> ((16 : Int32).toUInt32 &&& Int32.toUInt32 31)).toInt32) - ((((R_lot * (1103515245 : Int32)) + (12345 : Int32)).toUInt32 >>> ((16 : Int32).toUInt32 &&& Int32.toUInt32 31)).toInt32) / (10 : Int32) * (10 : Int32))) hx hb hr (fun t ht hW => ⟨⟨(((((R_lot * (1103515245 : Int32)) + (12345 : Int32)).toUInt32 >>> ((16 : Int32).toUInt32 &&& Int32.toUInt32 31)).toInt32) - ((((R_lot * (1103515245 : Int32)) + (12345 : Int32)).toUInt32 >>> ((16 : Int32).toUInt32 &&& Int32.toUInt32 31)).toInt32) / (10 : Int32) * (10 : Int32)), (), rfl, rfl, by rw [ht]; exact hP, hD⟩, hS.F ht⟩) hS.2.2 dX6_draw_25

def f_X6_obey_L4 (T_size : Int32) (T_slips : Nat → Int32) (T_lates : Nat → Int32) (T_copied : Nat → Int32) : Nat → Int32 → Int32 → Int32 → Int32 → Int32 → Int32 → Option (Int32 × Int32 × Int32 × Int32)
  | 0, _, _, _, _, _, _ => none
  | n + 1, R_in, R_streak, R_lot, x1, x2, x3 => (if (f_X1_size T_size) ≤ x3 then (Option.bind (f_X6_become R_in R_streak (R_in &&& (x2 ^^^ (-1 : Int32))) (f_X9_streakBehind x1 R_streak)) (fun y2 => some (x2, y2.1, y2.2, R_lot))) else (Option.bind (f_X6_isLeader R_in T_size T_copied x3) (fun y3 => (if y3 = 0 then f_X6_obey_L4 T_size T_slips T_lates T_copied n R_in R_streak R_lot x1 x2 (x3 + (1 : Int32)) else (Option.bind (f_X6_draw R_lot) (fun y6 => (Option.bind (f_X1_errsOf T_size T_slips T_lates x3 x1 R_streak) (fun y7 => (if y7 ≤ y6.1 then f_X6_obey_L4 T_size T_slips T_lates T_copied n R_in R_streak y6.2 x1 x2 (x3 + (1 : Int32)) else (Option.bind (f_X6_groupOf R_in T_size T_copied x3) (fun y9 => f_X6_obey_L4 T_size T_slips T_lates T_copied n R_in R_streak y6.2 x1 (x2 ||| y9) (x3 + (1 : Int32)))))))))))))
def f_X6_obey (R_in : Int32) (R_streak : Int32) (R_lot : Int32) (T_size : Int32) (T_slips : Nat → Int32) (T_lates : Nat → Int32) (T_copied : Nat → Int32) (p1 : Int32) : Option (Int32 × Int32 × Int32 × Int32) := f_X6_obey_L4 T_size T_slips T_lates T_copied 300 R_in R_streak R_lot p1 (0 : Int32) (0 : Int32)
set_option maxHeartbeats 8000000 in
set_option maxRecDepth 100000 in
theorem c_X6_obey (l : Launch) (D : va_G) (cI cJ cZ cO : ClassId) (aR : Nat) (aT : Nat) (aT_slips : Nat) (aT_lates : Nat) (aT_copied : Nat) (R_in : Int32) (R_streak : Int32) (R_lot : Int32) (T_size : Int32) (T_littleOnes : Int32) (T_slips : Nat → Int32) (T_lates : Nat → Int32) (T_copied : Nat → Int32) (sz : Nat) (p1 : Int32) (y0 : Int32 × Int32 × Int32 × Int32) (h : f_X6_obey R_in R_streak R_lot T_size T_slips T_lates T_copied p1 = some y0) : Met l yX6_obey wsX6_obey ({ frames := 4, cells := 0, slots := 0, locals := 89 } : Room) (va_Pc [.ref aR, .int p1] (fun U => U.heap.size = sz ∧ va_P D vwCl [(aR, .inr (6, [.ref aT, .int R_in, .int R_streak, .int R_lot])), (aT, .inr (1, [.ref aT_slips, .ref aT_lates, .ref aT_copied, .int T_size, .int T_littleOnes])), (aT_slips, .inl (cI, 6, .inl T_slips)), (aT_lates, .inl (cI, 6, .inl T_lates)), (aT_copied, .inl (cI, 6, .inl T_copied))] U.heap ∧ KK D cI cJ cZ cO U ∧ va_D (fun _ => True) [(aR, .inr (6, [.ref aT, .int R_in, .int R_streak, .int R_lot])), (aT, .inr (1, [.ref aT_slips, .ref aT_lates, .ref aT_copied, .int T_size, .int T_littleOnes])), (aT_slips, .inl (cI, 6, .inl T_slips)), (aT_lates, .inl (cI, 6, .inl T_lates)), (aT_copied, .inl (cI, 6, .inl T_copied))])) (va_Qi (fun (r : Int32) (_ : Unit) => r = y0.1) (fun (_ : Unit) t => va_P D vwCl [(aR, .inr (6, [.ref aT, .int y0.2.1, .int y0.2.2.1, .int y0.2.2.2])), (aT, .inr (1, [.ref aT_slips, .ref aT_lates, .ref aT_copied, .int T_size, .int T_littleOnes])), (aT_slips, .inl (cI, 6, .inl T_slips)), (aT_lates, .inl (cI, 6, .inl T_lates)), (aT_copied, .inl (cI, 6, .inl T_copied))] t.heap ∧ va_D (va_A [(aR, .inr (6, [.ref aT, .int R_in, .int R_streak, .int R_lot])), (aT, .inr (1, [.ref aT_slips, .ref aT_lates, .ref aT_copied, .int T_size, .int T_littleOnes])), (aT_slips, .inl (cI, 6, .inl T_slips)), (aT_lates, .inl (cI, 6, .inl T_lates)), (aT_copied, .inl (cI, 6, .inl T_copied))] sz) [(aR, .inr (6, [.ref aT, .int y0.2.1, .int y0.2.2.1, .int y0.2.2.2])), (aT, .inr (1, [.ref aT_slips, .ref aT_lates, .ref aT_copied, .int T_size, .int T_littleOnes])), (aT_slips, .inl (cI, 6, .inl T_slips)), (aT_lates, .inl (cI, 6, .inl T_lates)), (aT_copied, .inl (cI, 6, .inl T_copied))]) (va_A [(aR, .inr (6, [.ref aT, .int R_in, .int R_streak, .int R_lot])), (aT, .inr (1, [.ref aT_slips, .ref aT_lates, .ref aT_copied, .int T_size, .int T_littleOnes])), (aT_slips, .inl (cI, 6, .inl T_slips)), (aT_lates, .inl (cI, 6, .inl T_lates)), (aT_copied, .inl (cI, 6, .inl T_copied))] sz)) 0 0 (va_A [(aR, .inr (6, [.ref aT, .int R_in, .int R_streak, .int R_lot])), (aT, .inr (1, [.ref aT_slips, .ref aT_lates, .ref aT_copied, .int T_size, .int T_littleOnes])), (aT_slips, .inl (cI, 6, .inl T_slips)), (aT_lates, .inl (cI, 6, .inl T_lates)), (aT_copied, .inl (cI, 6, .inl T_copied))] sz) := by
  refine Met.ofW (cc := cX6_obey) (maxL := 4) (ret := (some .int)) (by decide) rfl ?_
  intro p e s m args below meth c s₁ B hml hv
  obtain ⟨rfl, hsz, hP, hKK, hD0⟩ := hv
  have hx := B.exec
  have hb := B.bytes
  have hr := B.returns
  have hts := atoms_spec (ws := wsX6_obey) B.pre
  have hown : s.vm.findClass RX6 = some m.cls := findClass_of_methodNamed B.named
  have hlocks := B.notSynchronized
  have hK := hKK.1
  have fl_9 := hts (.fieldLink RX6 9 "SimonSays$Round" "told" "LSimonSays$Children;") (by decide +kernel)
  have fl_29 := hts (.fieldLink RX6 29 "SimonSays$Round" "in" "I") (by decide +kernel)
  have fl_32 := hts (.fieldLink RX6 32 "SimonSays$Round" "streak" "I") (by decide +kernel)
  have ini_X9 := hts (.initialized RX9) (by decide +kernel)
  have sta_X9_streakBehind := hts (.static yX9_streakBehind) (by decide +kernel)
  have inX6 : ∀ w ∈ wsX60, w ∈ wsX6_obey := by decide +kernel
  subst hsz
  have hD := hD0.self (sz := s.heap.size)
  generalize hAe : va_A [(aR, .inr (6, [.ref aT, .int R_in, .int R_streak, .int R_lot])), (aT, .inr (1, [.ref aT_slips, .ref aT_lates, .ref aT_copied, .int T_size, .int T_littleOnes])), (aT_slips, .inl (cI, 6, .inl T_slips)), (aT_lates, .inl (cI, 6, .inl T_lates)), (aT_copied, .inl (cI, 6, .inl T_copied))] s.heap.size = A at hD ⊢
  have hA : ∀ q : Nat, s.heap.size ≤ q → A q := fun q h => by rw [← hAe]; exact Or.inr h
  have hS : va_S A s.heap s.heap [] := va_S.rf
  have hl := lv_entry ([.ref aR, .int p1]) (n := 4) (Nat.le_of_ble_eq_true rfl)
  rw [lg_entry_eq]
  generalize (lg_sl ([.ref aR, .int p1]) ++ List.replicate (4 - (lg_sl ([.ref aR, .int p1])).length) Slot.unset).toArray = ls at hl ⊢
  have hl : lv_has ls 4 [(0, .ref aR), (1, .int p1)] := hl
  have L4 : ∀ (n : Nat), ∀ (R_in : Int32) (R_streak : Int32) (R_lot : Int32) (x1 : Int32) (x2 : Int32) (x3 : Int32), ∀ (H : Heap) (locs : List Loc), va_P D vwCl [(aR, .inr (6, [.ref aT, .int R_in, .int R_streak, .int R_lot])), (aT, .inr (1, [.ref aT_slips, .ref aT_lates, .ref aT_copied, .int T_size, .int T_littleOnes])), (aT_slips, .inl (cI, 6, .inl T_slips)), (aT_lates, .inl (cI, 6, .inl T_lates)), (aT_copied, .inl (cI, 6, .inl T_copied))] H → va_D A [(aR, .inr (6, [.ref aT, .int R_in, .int R_streak, .int R_lot])), (aT, .inr (1, [.ref aT_slips, .ref aT_lates, .ref aT_copied, .int T_size, .int T_littleOnes])), (aT_slips, .inl (cI, 6, .inl T_slips)), (aT_lates, .inl (cI, 6, .inl T_lates)), (aT_copied, .inl (cI, 6, .inl T_copied))] → va_S A s.heap H locs → ∀ (ls : Array Slot), lv_has ls 4 [(0, .ref aR), (1, .int x1), (2, .int x2), (3, .int x3)] → f_X6_obey_L4 T_size T_slips T_lates T_copied n R_in R_streak R_lot x1 x2 x3 = some y0 → W p l e (headSpec wsX6_obey ({ frames := 4, cells := 0, slots := 0, locals := 89 } : Room)).room s m ([.ref aR, .int p1] : List Value).toArray below meth c H locs 0 0 (MQ below (va_Qi (fun (r : Int32) (_ : Unit) => r = y0.1) (fun (_ : Unit) t => va_P D vwCl [(aR, .inr (6, [.ref aT, .int y0.2.1, .int y0.2.2.1, .int y0.2.2.2])), (aT, .inr (1, [.ref aT_slips, .ref aT_lates, .ref aT_copied, .int T_size, .int T_littleOnes])), (aT_slips, .inl (cI, 6, .inl T_slips)), (aT_lates, .inl (cI, 6, .inl T_lates)), (aT_copied, .inl (cI, 6, .inl T_copied))] t.heap ∧ va_D A [(aR, .inr (6, [.ref aT, .int y0.2.1, .int y0.2.2.1, .int y0.2.2.2])), (aT, .inr (1, [.ref aT_slips, .ref aT_lates, .ref aT_copied, .int T_size, .int T_littleOnes])), (aT_slips, .inl (cI, 6, .inl T_slips)), (aT_lates, .inl (cI, 6, .inl T_lates)), (aT_copied, .inl (cI, 6, .inl T_copied))]) A) ([.ref aR, .int p1] : List Value).toArray s 0 0 A) (F0 m 4 ls []) := by
    intro n
    induction n with
    | zero =>
      intro R_in R_streak R_lot x1 x2 x3 H locs hP hD hS ls hl h
      exact (ns h).elim
    | succ n ih =>
      intro R_in R_streak R_lot x1 x2 x3 H locs hP hD hS ls hl h
      unfold f_X6_obey_L4 at h
      refine lv_iload_n hx hb dX6_obey_4 rfl (lv_at hl 3 rfl) ?_
      refine lv_aload_n hx hb dX6_obey_5 rfl (lv_at hl 0 rfl) ?_
      refine va_get (D := D) (ci := 6) (v := .ref aT) (C := RX6) (T := TX6) (N := 4) hx hb hts inX6 hown hK hP 0 rfl rfl 0 (by decide) fl_9 (fun _ h9 => h9) rfl dX6_obey_6 ?_
      have hPc : va_P D vwCl [(aT, .inr (1, [.ref aT_slips, .ref aT_lates, .ref aT_copied, .int T_size, .int T_littleOnes]))] H := hP.sub [1] rfl
      refine vp_callSi (va_Run.run (va_runV (As := []) (rest := [.int x3]) ⟨hx, hb, hml, hown, hts⟩ (c_X1_size l D cI cJ cZ cO aT aT_slips aT_lates aT_copied T_size T_littleOnes _ rfl) (cwV 0 hts gX6_obey_X1_size rfl rfl rfl (by decide +kernel) ⟨Nat.le_of_ble_eq_true rfl, Nat.le_of_ble_eq_true rfl⟩) ⟨fb_p, va_recv hK hP (ci := 1) (q0 := 1) rfl rfl, fun U hU hW => ⟨rfl, by rw [hU]; exact hPc, KK.warm hW hKK⟩⟩ rfl rfl hl.1 rfl (lv_room (Nat.le_of_ble_eq_true rfl)) dX6_obey_9 ⟨Nat.le_of_ble_eq_true rfl, Nat.le_of_ble_eq_true rfl⟩)) (fun r hr => ?_)
      replace hr := hr.symm
      subst hr
      refine lv_icmp_ge (tgt := 57) hx hb dX6_obey_12 (by decide) (fun c_1 => ?_) (fun c_1 => ?_)
      · replace h := if_p c_1 h
        refine lv_aload_n hx hb dX6_obey_57 rfl (lv_at hl 0 rfl) ?_
        refine lv_aload_n hx hb dX6_obey_58 rfl (lv_at hl 0 rfl) ?_
        refine va_get (D := D) (ci := 6) (v := .int R_in) (C := RX6) (T := TX6) (N := 4) hx hb hts inX6 hown hK hP 0 rfl rfl 1 (by decide) fl_29 (fun _ h9 => h9) rfl dX6_obey_59 ?_
        refine lv_iload_n hx hb dX6_obey_62 rfl (lv_at hl 2 rfl) ?_
        refine lv_iconst (v := (-1 : Int32)) hx hb dX6_obey_63 (by decide) ?_
        refine lv_ixor hx hb dX6_obey_64 ?_
        refine lv_iand hx hb dX6_obey_65 ?_
        refine lv_iload_n hx hb dX6_obey_66 rfl (lv_at hl 1 rfl) ?_
        refine lv_aload_n hx hb dX6_obey_67 rfl (lv_at hl 0 rfl) ?_
        refine va_get (D := D) (ci := 6) (v := .int R_streak) (C := RX6) (T := TX6) (N := 4) hx hb hts inX6 hown hK hP 0 rfl rfl 2 (by decide) fl_32 (fun _ h9 => h9) rfl dX6_obey_68 ?_
        have hPc : va_P D vwCl [] H := hP.sub [] rfl
        refine vp_callSi (va_Run.run (va_runSN (As := [.int x1, .int R_streak]) (rest := [.int (R_in &&& (x2 ^^^ (-1 : Int32))), .ref aR]) ⟨hx, hb, hml, hown, hts⟩ (c_X9_streakBehind l D cI cJ cZ cO x1 R_streak _ rfl) ⟨va_cnB (host := "SimonSays") 2 hts gX6_obey_X9_streakBehind_n70 rfl rfl rfl (gN_X6_70 hKK.2) ini_X9 (by decide +kernel) ⟨Nat.le_of_ble_eq_true rfl, Nat.le_of_ble_eq_true rfl⟩, sta_X9_streakBehind, trivial⟩ ⟨fb_p, fun U hU hW => ⟨rfl, by rw [hU]; exact hPc, KK.warm hW hKK⟩⟩ rfl rfl hl.1 rfl (lv_room (Nat.le_of_ble_eq_true rfl)) dX6_obey_71 ⟨Nat.le_of_ble_eq_true rfl, Nat.le_of_ble_eq_true rfl⟩)) (fun r hr => ?_)
        replace hr := hr.symm
        subst hr
        obtain ⟨y2, qy2, h⟩ := ob_some h
        have hPc : va_P D vwCl [(aR, .inr (6, [.ref aT, .int R_in, .int R_streak, .int R_lot]))] H := hP.sub [0] rfl
        have hDc : va_D A [(aR, .inr (6, [.ref aT, .int R_in, .int R_streak, .int R_lot]))] := hD.sub [0] (by decide) rfl
        have hFc := va_free (wc := [(aR, .inr (6, [.ref aT, .int R_in, .int R_streak, .int R_lot]))]) hD hS hA [0] rfl
        refine va_callv (va_runV (As := [.int (R_in &&& (x2 ^^^ (-1 : Int32))), .int (f_X9_streakBehind x1 R_streak)]) (rest := []) ⟨hx, hb, hml, hown, hts⟩ (c_X6_become l D cI cJ cZ cO aR aT R_in R_streak R_lot H.size (R_in &&& (x2 ^^^ (-1 : Int32))) (f_X9_streakBehind x1 R_streak) y2 qy2) (cwV 2 hts gX6_obey_X6_become rfl rfl rfl (by decide +kernel) ⟨Nat.le_of_ble_eq_true rfl, Nat.le_of_ble_eq_true rfl⟩) ⟨fb_i, va_recv hK hP (ci := 6) (q0 := 0) rfl rfl, fun U hU hW => ⟨rfl, by rw [hU], by rw [hU]; exact hPc, KK.warm hW hKK, hDc.weaken (fun _ _ _ _ => trivial)⟩⟩ rfl rfl hl.1 rfl (lv_room (Nat.le_of_ble_eq_true rfl)) dX6_obey_74 ⟨Nat.le_of_ble_eq_true rfl, Nat.le_of_ble_eq_true rfl⟩) hS (fun q _ h => hFc q h) hFc (fun u t H1 locs ht hvm hw hB hz1 hk1 hS => ?_)
        obtain ⟨hP1, hD1⟩ := hB
        rw [ht] at hP1
        obtain ⟨hP, hD⟩ := va_join (wr := [(aT, .inr (1, [.ref aT_slips, .ref aT_lates, .ref aT_copied, .int T_size, .int T_littleOnes])), (aT_slips, .inl (cI, 6, .inl T_slips)), (aT_lates, .inl (cI, 6, .inl T_lates)), (aT_copied, .inl (cI, 6, .inl T_copied))]) (w1 := [(aR, .inr (6, [.ref aT, .int y2.1, .int y2.2, .int R_lot]))]) hP hD [0] [1, 2, 3, 4] rfl rfl (by decide) (by decide) hk1 hFc hP1 hD1
        generalize H1 = H at hP hS ⊢
        have hP : va_P D vwCl [(aR, .inr (6, [.ref aT, .int y2.1, .int y2.2, .int R_lot])), (aT, .inr (1, [.ref aT_slips, .ref aT_lates, .ref aT_copied, .int T_size, .int T_littleOnes])), (aT_slips, .inl (cI, 6, .inl T_slips)), (aT_lates, .inl (cI, 6, .inl T_lates)), (aT_copied, .inl (cI, 6, .inl T_copied))] H := hP.sub [4, 0, 1, 2, 3] rfl
        have hD : va_D A [(aR, .inr (6, [.ref aT, .int y2.1, .int y2.2, .int R_lot])), (aT, .inr (1, [.ref aT_slips, .ref aT_lates, .ref aT_copied, .int T_size, .int T_littleOnes])), (aT_slips, .inl (cI, 6, .inl T_slips)), (aT_lates, .inl (cI, 6, .inl T_lates)), (aT_copied, .inl (cI, 6, .inl T_copied))] := hD.sub [4, 0, 1, 2, 3] (by decide) rfl
        refine lv_iload_n hx hb dX6_obey_77 rfl (lv_at hl 2 rfl) ?_
        have hy := Option.some.inj h
        subst hy
        exact W.iret (v := x2) hx hb hr (fun t ht hW => ⟨⟨x2, (), rfl, rfl, by rw [ht]; exact hP, hD⟩, hS.F ht⟩) hS.2.2 dX6_obey_78
      · replace h := if_n c_1 h
        refine lv_aload_n hx hb dX6_obey_15 rfl (lv_at hl 0 rfl) ?_
        refine lv_iload_n hx hb dX6_obey_16 rfl (lv_at hl 3 rfl) ?_
        obtain ⟨y3, qy3, h⟩ := ob_some h
        have hPc : va_P D vwCl [(aR, .inr (6, [.ref aT, .int R_in, .int R_streak, .int R_lot])), (aT, .inr (1, [.ref aT_slips, .ref aT_lates, .ref aT_copied, .int T_size, .int T_littleOnes])), (aT_copied, .inl (cI, 6, .inl T_copied))] H := hP.sub [0, 1, 4] rfl
        refine vp_callSi (va_Run.run (va_runV (As := [.int x3]) (rest := []) ⟨hx, hb, hml, hown, hts⟩ (c_X6_isLeader l D cI cJ cZ cO aR aT aT_copied aT_slips aT_lates R_in R_streak R_lot T_size T_littleOnes T_copied x3 y3 qy3) (cwV 1 hts gX6_obey_X6_isLeader rfl rfl rfl (by decide +kernel) ⟨Nat.le_of_ble_eq_true rfl, Nat.le_of_ble_eq_true rfl⟩) ⟨fb_p, va_recv hK hP (ci := 6) (q0 := 0) rfl rfl, fun U hU hW => ⟨rfl, by rw [hU]; exact hPc, KK.warm hW hKK⟩⟩ rfl rfl hl.1 rfl (lv_room (Nat.le_of_ble_eq_true rfl)) dX6_obey_17 ⟨Nat.le_of_ble_eq_true rfl, Nat.le_of_ble_eq_true rfl⟩)) (fun r hr => ?_)
        obtain ⟨hr, hz4⟩ := hr
        replace hr := hr.symm
        subst hr
        refine lv_if_eq (tgt := 51) hx hb dX6_obey_20 (by decide) (fun c_5 => ?_) (fun c_5 => ?_)
        · replace h := if_p c_5 h
          refine lv_iinc (v := (x3 + (1 : Int32))) (lv' := [(3, .int (x3 + (1 : Int32))), (0, .ref aR), (1, .int x1), (2, .int x2)]) hx hb dX6_obey_51 hl (k := 3) rfl rfl (by decide) rfl (fun ls hl => ?_)
          refine lv_goto (tgt := 4) hx hb dX6_obey_54 (by decide) ?_
          exact ih R_in R_streak R_lot x1 x2 (x3 + (1 : Int32)) _ _ hP hD hS ls (lv_sub hl [1, 2, 3, 0] rfl) h
        · replace h := if_n c_5 h
          refine lv_aload_n hx hb dX6_obey_23 rfl (lv_at hl 0 rfl) ?_
          obtain ⟨y6, qy6, h⟩ := ob_some h
          have hPc : va_P D vwCl [(aR, .inr (6, [.ref aT, .int R_in, .int R_streak, .int R_lot]))] H := hP.sub [0] rfl
          have hDc : va_D A [(aR, .inr (6, [.ref aT, .int R_in, .int R_streak, .int R_lot]))] := hD.sub [0] (by decide) rfl
          have hFc := va_free (wc := [(aR, .inr (6, [.ref aT, .int R_in, .int R_streak, .int R_lot]))]) hD hS hA [0] rfl
          refine va_calli (va_runV (As := []) (rest := []) ⟨hx, hb, hml, hown, hts⟩ (c_X6_draw l D cI cJ cZ cO aR aT R_in R_streak R_lot H.size y6 qy6) (cwV 0 hts gX6_obey_X6_draw rfl rfl rfl (by decide +kernel) ⟨Nat.le_of_ble_eq_true rfl, Nat.le_of_ble_eq_true rfl⟩) ⟨fb_i, va_recv hK hP (ci := 6) (q0 := 0) rfl rfl, fun U hU hW => ⟨rfl, by rw [hU], by rw [hU]; exact hPc, KK.warm hW hKK, hDc.weaken (fun _ _ _ _ => trivial)⟩⟩ rfl rfl hl.1 rfl (lv_room (Nat.le_of_ble_eq_true rfl)) dX6_obey_24 ⟨Nat.le_of_ble_eq_true rfl, Nat.le_of_ble_eq_true rfl⟩) hS (fun q _ h => hFc q h) hFc (fun r u t H1 locs ht hvm hw hB hz1 hk1 hS => ?_)
          obtain ⟨hP1, hD1⟩ := hB
          rw [ht] at hP1
          replace hw := hw.symm
          subst hw
          obtain ⟨hP, hD⟩ := va_join (wr := [(aT, .inr (1, [.ref aT_slips, .ref aT_lates, .ref aT_copied, .int T_size, .int T_littleOnes])), (aT_slips, .inl (cI, 6, .inl T_slips)), (aT_lates, .inl (cI, 6, .inl T_lates)), (aT_copied, .inl (cI, 6, .inl T_copied))]) (w1 := [(aR, .inr (6, [.ref aT, .int R_in, .int R_streak, .int y6.2]))]) hP hD [0] [1, 2, 3, 4] rfl rfl (by decide) (by decide) hk1 hFc hP1 hD1
          generalize H1 = H at hP hS ⊢
          have hP : va_P D vwCl [(aR, .inr (6, [.ref aT, .int R_in, .int R_streak, .int y6.2])), (aT, .inr (1, [.ref aT_slips, .ref aT_lates, .ref aT_copied, .int T_size, .int T_littleOnes])), (aT_slips, .inl (cI, 6, .inl T_slips)), (aT_lates, .inl (cI, 6, .inl T_lates)), (aT_copied, .inl (cI, 6, .inl T_copied))] H := hP.sub [4, 0, 1, 2, 3] rfl
          have hD : va_D A [(aR, .inr (6, [.ref aT, .int R_in, .int R_streak, .int y6.2])), (aT, .inr (1, [.ref aT_slips, .ref aT_lates, .ref aT_copied, .int T_size, .int T_littleOnes])), (aT_slips, .inl (cI, 6, .inl T_slips)), (aT_lates, .inl (cI, 6, .inl T_lates)), (aT_copied, .inl (cI, 6, .inl T_copied))] := hD.sub [4, 0, 1, 2, 3] (by decide) rfl
          refine lv_aload_n hx hb dX6_obey_27 rfl (lv_at hl 0 rfl) ?_
          refine va_get (D := D) (ci := 6) (v := .ref aT) (C := RX6) (T := TX6) (N := 4) hx hb hts inX6 hown hK hP 0 rfl rfl 0 (by decide) fl_9 (fun _ h9 => h9) rfl dX6_obey_28 ?_
          refine lv_iload_n hx hb dX6_obey_31 rfl (lv_at hl 3 rfl) ?_
          refine lv_iload_n hx hb dX6_obey_32 rfl (lv_at hl 1 rfl) ?_
          refine lv_aload_n hx hb dX6_obey_33 rfl (lv_at hl 0 rfl) ?_
          refine va_get (D := D) (ci := 6) (v := .int R_streak) (C := RX6) (T := TX6) (N := 4) hx hb hts inX6 hown hK hP 0 rfl rfl 2 (by decide) fl_32 (fun _ h9 => h9) rfl dX6_obey_34 ?_
          obtain ⟨y7, qy7, h⟩ := ob_some h
          have hPc : va_P D vwCl [(aT, .inr (1, [.ref aT_slips, .ref aT_lates, .ref aT_copied, .int T_size, .int T_littleOnes])), (aT_slips, .inl (cI, 6, .inl T_slips)), (aT_lates, .inl (cI, 6, .inl T_lates))] H := hP.sub [1, 2, 3] rfl
          refine vp_callSi (va_Run.run (va_runV (As := [.int x3, .int x1, .int R_streak]) (rest := [.int y6.1]) ⟨hx, hb, hml, hown, hts⟩ (c_X1_errsOf l D cI cJ cZ cO aT aT_slips aT_lates aT_copied T_size T_littleOnes T_slips T_lates x3 x1 R_streak y7 qy7) (cwV 3 hts gX6_obey_X1_errsOf rfl rfl rfl (by decide +kernel) ⟨Nat.le_of_ble_eq_true rfl, Nat.le_of_ble_eq_true rfl⟩) ⟨fb_p, va_recv hK hP (ci := 1) (q0 := 1) rfl rfl, fun U hU hW => ⟨rfl, by rw [hU]; exact hPc, KK.warm hW hKK⟩⟩ rfl rfl hl.1 rfl (lv_room (Nat.le_of_ble_eq_true rfl)) dX6_obey_37 ⟨Nat.le_of_ble_eq_true rfl, Nat.le_of_ble_eq_true rfl⟩)) (fun r hr => ?_)
          replace hr := hr.symm
          subst hr
          refine lv_icmp_ge (tgt := 51) hx hb dX6_obey_40 (by decide) (fun c_8 => ?_) (fun c_8 => ?_)
          · replace h := if_p c_8 h
            refine lv_iinc (v := (x3 + (1 : Int32))) (lv' := [(3, .int (x3 + (1 : Int32))), (0, .ref aR), (1, .int x1), (2, .int x2)]) hx hb dX6_obey_51 hl (k := 3) rfl rfl (by decide) rfl (fun ls hl => ?_)
            refine lv_goto (tgt := 4) hx hb dX6_obey_54 (by decide) ?_
            exact ih R_in R_streak y6.2 x1 x2 (x3 + (1 : Int32)) _ _ hP hD hS ls (lv_sub hl [1, 2, 3, 0] rfl) h
          · replace h := if_n c_8 h
            refine lv_iload_n hx hb dX6_obey_43 rfl (lv_at hl 2 rfl) ?_
            refine lv_aload_n hx hb dX6_obey_44 rfl (lv_at hl 0 rfl) ?_
            refine lv_iload_n hx hb dX6_obey_45 rfl (lv_at hl 3 rfl) ?_
            obtain ⟨y9, qy9, h⟩ := ob_some h
            have hPc : va_P D vwCl [(aR, .inr (6, [.ref aT, .int R_in, .int R_streak, .int y6.2])), (aT, .inr (1, [.ref aT_slips, .ref aT_lates, .ref aT_copied, .int T_size, .int T_littleOnes])), (aT_copied, .inl (cI, 6, .inl T_copied))] H := hP.sub [0, 1, 4] rfl
            refine vp_callSi (va_Run.run (va_runV (As := [.int x3]) (rest := [.int x2]) ⟨hx, hb, hml, hown, hts⟩ (c_X6_groupOf l D cI cJ cZ cO aR aT aT_copied aT_slips aT_lates R_in R_streak y6.2 T_size T_littleOnes T_copied x3 y9 qy9) (cwV 1 hts gX6_obey_X6_groupOf rfl rfl rfl (by decide +kernel) ⟨Nat.le_of_ble_eq_true rfl, Nat.le_of_ble_eq_true rfl⟩) ⟨fb_p, va_recv hK hP (ci := 6) (q0 := 0) rfl rfl, fun U hU hW => ⟨rfl, by rw [hU]; exact hPc, KK.warm hW hKK⟩⟩ rfl rfl hl.1 rfl (lv_room (Nat.le_of_ble_eq_true rfl)) dX6_obey_46 ⟨Nat.le_of_ble_eq_true rfl, Nat.le_of_ble_eq_true rfl⟩)) (fun r hr => ?_)
            replace hr := hr.symm
            subst hr
            refine lv_ior hx hb dX6_obey_49 ?_
            refine lv_istore_n (lv' := [(2, .int (x2 ||| y9)), (0, .ref aR), (1, .int x1), (3, .int x3)]) hx hb dX6_obey_50 rfl hl (by decide) rfl (fun ls hl => ?_)
            refine lv_iinc (v := (x3 + (1 : Int32))) (lv' := [(3, .int (x3 + (1 : Int32))), (2, .int (x2 ||| y9)), (0, .ref aR), (1, .int x1)]) hx hb dX6_obey_51 hl (k := 3) rfl rfl (by decide) rfl (fun ls hl => ?_)
            refine lv_goto (tgt := 4) hx hb dX6_obey_54 (by decide) ?_
            exact ih R_in R_streak y6.2 x1 (x2 ||| y9) (x3 + (1 : Int32)) _ _ hP hD hS ls (lv_sub hl [2, 3, 1, 0] rfl) h
  unfold f_X6_obey at h
  refine lv_iconst (v := (0 : Int32)) hx hb dX6_obey_0 (by decide) ?_
  refine lv_istore_n (lv' := [(2, .int (0 : Int32)), (0, .ref aR), (1, .int p1)]) hx hb dX6_obey_1 rfl hl (by decide) rfl (fun ls hl => ?_)
  refine lv_iconst (v := (0 : Int32)) hx hb dX6_obey_2 (by decide) ?_
  refine lv_istore_n (lv' := [(3, .int (0 : Int32)), (2, .int (0 : Int32)), (0, .ref aR), (1, .int p1)]) hx hb dX6_obey_3 rfl hl (by decide) rfl (fun ls hl => ?_)
  exact L4 300 R_in R_streak R_lot p1 (0 : Int32) (0 : Int32) _ _ hP hD hS ls (lv_sub hl [2, 3, 1, 0] rfl) h

def f_X6_fewestSaidAhead_L15 (R_in : Int32) (R_streak : Int32) (T_size : Int32) (T_slips : Nat → Int32) (T_lates : Nat → Int32) (T_copied : Nat → Int32) : Nat → Int32 → Int32 → Int32 → Int32 → Option (Int32)
  | 0, _, _, _, _ => none
  | n + 1, x2, x3, x4, x5 => (if (9 : Int32) < x5 then some (-9 : Int32) else (Option.bind (f_X1_errsOf T_size T_slips T_lates x3 (2 : Int32) x4) (fun y3 => (if y3 < x2 then f_X6_fewestSaidAhead_L15 R_in R_streak T_size T_slips T_lates T_copied n x2 x3 (f_X9_streakBehind (1 : Int32) x4) (x5 + (1 : Int32)) else some x5))))
def f_X6_fewestSaidAhead (R_in : Int32) (R_streak : Int32) (T_size : Int32) (T_slips : Nat → Int32) (T_lates : Nat → Int32) (T_copied : Nat → Int32) (p1 : Int32) (p2 : Int32) : Option (Int32) := (Option.bind (f_X6_leaderOf R_in T_size T_copied p1) (fun y1 => f_X6_fewestSaidAhead_L15 R_in R_streak T_size T_slips T_lates T_copied 300 p2 y1 R_streak (0 : Int32)))
set_option maxHeartbeats 8000000 in
set_option maxRecDepth 100000 in
theorem c_X6_fewestSaidAhead (l : Launch) (D : va_G) (cI cJ cZ cO : ClassId) (aR : Nat) (aT : Nat) (aT_slips : Nat) (aT_lates : Nat) (aT_copied : Nat) (R_in : Int32) (R_streak : Int32) (R_lot : Int32) (T_size : Int32) (T_littleOnes : Int32) (T_slips : Nat → Int32) (T_lates : Nat → Int32) (T_copied : Nat → Int32)  (p1 : Int32) (p2 : Int32) (y0 : Int32) (h : f_X6_fewestSaidAhead R_in R_streak T_size T_slips T_lates T_copied p1 p2 = some y0) : Met l yX6_fewestSaidAhead wsX6_fewestSaidAhead ({ frames := 3, cells := 0, slots := 0, locals := 66 } : Room) (va_Pc [.ref aR, .int p1, .int p2] (fun U => va_P D vwCl [(aR, .inr (6, [.ref aT, .int R_in, .int R_streak, .int R_lot])), (aT, .inr (1, [.ref aT_slips, .ref aT_lates, .ref aT_copied, .int T_size, .int T_littleOnes])), (aT_slips, .inl (cI, 6, .inl T_slips)), (aT_lates, .inl (cI, 6, .inl T_lates)), (aT_copied, .inl (cI, 6, .inl T_copied))] U.heap ∧ KK D cI cJ cZ cO U)) (vp_Si (fun r => r = y0)) 0 0 (fun _ => False) := by
  refine Met.ofW (cc := cX6_fewestSaidAhead) (maxL := 6) (ret := (some .int)) (by decide) rfl ?_
  intro p e s m args below meth c s₁ B hml hv
  obtain ⟨rfl, hP, hKK⟩ := hv
  have hx := B.exec
  have hb := B.bytes
  have hr := B.returns
  have hts := atoms_spec (ws := wsX6_fewestSaidAhead) B.pre
  have hown : s.vm.findClass RX6 = some m.cls := findClass_of_methodNamed B.named
  have hlocks := B.notSynchronized
  have hK := hKK.1
  have fl_9 := hts (.fieldLink RX6 9 "SimonSays$Round" "told" "LSimonSays$Children;") (by decide +kernel)
  have fl_32 := hts (.fieldLink RX6 32 "SimonSays$Round" "streak" "I") (by decide +kernel)
  have ini_X9 := hts (.initialized RX9) (by decide +kernel)
  have sta_X9_streakBehind := hts (.static yX9_streakBehind) (by decide +kernel)
  have inX6 : ∀ w ∈ wsX60, w ∈ wsX6_fewestSaidAhead := by decide +kernel
  have hl := lv_entry ([.ref aR, .int p1, .int p2]) (n := 6) (Nat.le_of_ble_eq_true rfl)
  rw [lg_entry_eq]
  generalize (lg_sl ([.ref aR, .int p1, .int p2]) ++ List.replicate (6 - (lg_sl ([.ref aR, .int p1, .int p2])).length) Slot.unset).toArray = ls at hl ⊢
  have hl : lv_has ls 6 [(0, .ref aR), (1, .int p1), (2, .int p2)] := hl
  have L15 : ∀ (n : Nat), ∀ (x2 : Int32) (x3 : Int32) (x4 : Int32) (x5 : Int32), ∀ (ls : Array Slot), lv_has ls 6 [(0, .ref aR), (2, .int x2), (3, .int x3), (4, .int x4), (5, .int x5)] → f_X6_fewestSaidAhead_L15 R_in R_streak T_size T_slips T_lates T_copied n x2 x3 x4 x5 = some y0 → W p l e (headSpec wsX6_fewestSaidAhead ({ frames := 3, cells := 0, slots := 0, locals := 66 } : Room)).room s m ([.ref aR, .int p1, .int p2] : List Value).toArray below meth c s.heap [] 0 0 (MQ below (vp_Si (fun r => r = y0)) ([.ref aR, .int p1, .int p2] : List Value).toArray s 0 0 (fun _ => False)) (F0 m 15 ls []) := by
    intro n
    induction n with
    | zero =>
      intro x2 x3 x4 x5 ls hl h
      exact (ns h).elim
    | succ n ih =>
      intro x2 x3 x4 x5 ls hl h
      unfold f_X6_fewestSaidAhead_L15 at h
      refine lv_iload hx hb dX6_fewestSaidAhead_15 (lv_at hl 4 rfl) ?_
      refine lv_bipush (v := (9 : Int32)) hx hb dX6_fewestSaidAhead_17 (by decide) ?_
      refine lv_icmp_gt (tgt := 54) hx hb dX6_fewestSaidAhead_19 (by decide) (fun c_2 => ?_) (fun c_2 => ?_)
      · replace h := if_p c_2 h
        refine lv_bipush (v := (-9 : Int32)) hx hb dX6_fewestSaidAhead_54 (by decide) ?_
        exact pr_i hx hb hr hlocks dX6_fewestSaidAhead_56 (Option.some.inj h)
      · replace h := if_n c_2 h
        refine lv_aload_n hx hb dX6_fewestSaidAhead_22 rfl (lv_at hl 0 rfl) ?_
        refine va_get (D := D) (ci := 6) (v := .ref aT) (C := RX6) (T := TX6) (N := 4) hx hb hts inX6 hown hK hP 0 rfl rfl 0 (by decide) fl_9 (fun _ h9 => h9) rfl dX6_fewestSaidAhead_23 ?_
        refine lv_iload_n hx hb dX6_fewestSaidAhead_26 rfl (lv_at hl 2 rfl) ?_
        refine lv_iconst (v := (2 : Int32)) hx hb dX6_fewestSaidAhead_27 (by decide) ?_
        refine lv_iload hx hb dX6_fewestSaidAhead_28 (lv_at hl 3 rfl) ?_
        obtain ⟨y3, qy3, h⟩ := ob_some h
        have hPc : va_P D vwCl [(aT, .inr (1, [.ref aT_slips, .ref aT_lates, .ref aT_copied, .int T_size, .int T_littleOnes])), (aT_slips, .inl (cI, 6, .inl T_slips)), (aT_lates, .inl (cI, 6, .inl T_lates))] s.heap := hP.sub [1, 2, 3] rfl
        refine vp_callSi (va_Run.run (va_runV (As := [.int x3, .int (2 : Int32), .int x4]) (rest := []) ⟨hx, hb, hml, hown, hts⟩ (c_X1_errsOf l D cI cJ cZ cO aT aT_slips aT_lates aT_copied T_size T_littleOnes T_slips T_lates x3 (2 : Int32) x4 y3 qy3) (cwV 3 hts gX6_fewestSaidAhead_X1_errsOf rfl rfl rfl (by decide +kernel) ⟨Nat.le_of_ble_eq_true rfl, Nat.le_of_ble_eq_true rfl⟩) ⟨fb_p, va_recv hK hP (ci := 1) (q0 := 1) rfl rfl, fun U hU hW => ⟨rfl, by rw [hU]; exact hPc, KK.warm hW hKK⟩⟩ rfl rfl hl.1 rfl (lv_room (Nat.le_of_ble_eq_true rfl)) dX6_fewestSaidAhead_30 ⟨Nat.le_of_ble_eq_true rfl, Nat.le_of_ble_eq_true rfl⟩)) (fun r hr => ?_)
        replace hr := hr.symm
        subst hr
        refine lv_iload_n hx hb dX6_fewestSaidAhead_33 rfl (lv_at hl 1 rfl) ?_
        refine lv_icmp_lt (tgt := 40) hx hb dX6_fewestSaidAhead_34 (by decide) (fun c_4 => ?_) (fun c_4 => ?_)
        · replace h := if_p c_4 h
          refine lv_iconst (v := (1 : Int32)) hx hb dX6_fewestSaidAhead_40 (by decide) ?_
          refine lv_iload hx hb dX6_fewestSaidAhead_41 (lv_at hl 3 rfl) ?_
          have hPc : va_P D vwCl [] s.heap := hP.sub [] rfl
          refine vp_callSi (va_Run.run (va_runSN (As := [.int (1 : Int32), .int x4]) (rest := []) ⟨hx, hb, hml, hown, hts⟩ (c_X9_streakBehind l D cI cJ cZ cO (1 : Int32) x4 _ rfl) ⟨va_cnB (host := "SimonSays") 2 hts gX6_fewestSaidAhead_X9_streakBehind_n70 rfl rfl rfl (gN_X6_70 hKK.2) ini_X9 (by decide +kernel) ⟨Nat.le_of_ble_eq_true rfl, Nat.le_of_ble_eq_true rfl⟩, sta_X9_streakBehind, trivial⟩ ⟨fb_p, fun U hU hW => ⟨rfl, by rw [hU]; exact hPc, KK.warm hW hKK⟩⟩ rfl rfl hl.1 rfl (lv_room (Nat.le_of_ble_eq_true rfl)) dX6_fewestSaidAhead_43 ⟨Nat.le_of_ble_eq_true rfl, Nat.le_of_ble_eq_true rfl⟩)) (fun r hr => ?_)
          replace hr := hr.symm
          subst hr
          refine lv_istore (lv' := [(4, .int (f_X9_streakBehind (1 : Int32) x4)), (0, .ref aR), (2, .int x2), (3, .int x3), (5, .int x5)]) hx hb dX6_fewestSaidAhead_46 hl (by decide) rfl (fun ls hl => ?_)
          refine lv_iinc (v := (x5 + (1 : Int32))) (lv' := [(5, .int (x5 + (1 : Int32))), (4, .int (f_X9_streakBehind (1 : Int32) x4)), (0, .ref aR), (2, .int x2), (3, .int x3)]) hx hb dX6_fewestSaidAhead_48 hl (k := 4) rfl rfl (by decide) rfl (fun ls hl => ?_)
          refine lv_goto (tgt := 15) hx hb dX6_fewestSaidAhead_51 (by decide) ?_
          exact ih x2 x3 (f_X9_streakBehind (1 : Int32) x4) (x5 + (1 : Int32)) ls (lv_sub hl [2, 3, 4, 1, 0] rfl) h
        · replace h := if_n c_4 h
          refine lv_iload hx hb dX6_fewestSaidAhead_37 (lv_at hl 4 rfl) ?_
          exact pr_i hx hb hr hlocks dX6_fewestSaidAhead_39 (Option.some.inj h)
  unfold f_X6_fewestSaidAhead at h
  refine lv_aload_n hx hb dX6_fewestSaidAhead_0 rfl (lv_at hl 0 rfl) ?_
  refine lv_iload_n hx hb dX6_fewestSaidAhead_1 rfl (lv_at hl 1 rfl) ?_
  obtain ⟨y1, qy1, h⟩ := ob_some h
  have hPc : va_P D vwCl [(aR, .inr (6, [.ref aT, .int R_in, .int R_streak, .int R_lot])), (aT, .inr (1, [.ref aT_slips, .ref aT_lates, .ref aT_copied, .int T_size, .int T_littleOnes])), (aT_copied, .inl (cI, 6, .inl T_copied))] s.heap := hP.sub [0, 1, 4] rfl
  refine vp_callSi (va_Run.run (va_runV (As := [.int p1]) (rest := []) ⟨hx, hb, hml, hown, hts⟩ (c_X6_leaderOf l D cI cJ cZ cO aR aT aT_copied aT_slips aT_lates R_in R_streak R_lot T_size T_littleOnes T_copied p1 y1 qy1) (cwV 1 hts gX6_fewestSaidAhead_X6_leaderOf rfl rfl rfl (by decide +kernel) ⟨Nat.le_of_ble_eq_true rfl, Nat.le_of_ble_eq_true rfl⟩) ⟨fb_p, va_recv hK hP (ci := 6) (q0 := 0) rfl rfl, fun U hU hW => ⟨rfl, by rw [hU]; exact hPc, KK.warm hW hKK⟩⟩ rfl rfl hl.1 rfl (lv_room (Nat.le_of_ble_eq_true rfl)) dX6_fewestSaidAhead_2 ⟨Nat.le_of_ble_eq_true rfl, Nat.le_of_ble_eq_true rfl⟩)) (fun r hr => ?_)
  replace hr := hr.symm
  subst hr
  refine lv_istore_n (lv' := [(3, .int y1), (0, .ref aR), (1, .int p1), (2, .int p2)]) hx hb dX6_fewestSaidAhead_5 rfl hl (by decide) rfl (fun ls hl => ?_)
  refine lv_aload_n hx hb dX6_fewestSaidAhead_6 rfl (lv_at hl 1 rfl) ?_
  refine va_get (D := D) (ci := 6) (v := .int R_streak) (C := RX6) (T := TX6) (N := 4) hx hb hts inX6 hown hK hP 0 rfl rfl 2 (by decide) fl_32 (fun _ h9 => h9) rfl dX6_fewestSaidAhead_7 ?_
  refine lv_istore (lv' := [(4, .int R_streak), (3, .int y1), (0, .ref aR), (1, .int p1), (2, .int p2)]) hx hb dX6_fewestSaidAhead_10 hl (by decide) rfl (fun ls hl => ?_)
  refine lv_iconst (v := (0 : Int32)) hx hb dX6_fewestSaidAhead_12 (by decide) ?_
  refine lv_istore (lv' := [(5, .int (0 : Int32)), (4, .int R_streak), (3, .int y1), (0, .ref aR), (1, .int p1), (2, .int p2)]) hx hb dX6_fewestSaidAhead_13 hl (by decide) rfl (fun ls hl => ?_)
  exact L15 300 p2 y1 R_streak (0 : Int32) ls (lv_sub hl [3, 5, 2, 1, 0] rfl) h

def f_X6_isFair (R_in : Int32) (T_littleOnes : Int32) : Int32 := (if ((f_X1_littleOnes T_littleOnes) &&& (R_in ^^^ (-1 : Int32))) = 0 then (1 : Int32) else (if (R_in &&& ((f_X1_littleOnes T_littleOnes) ^^^ (-1 : Int32))) = 0 then (1 : Int32) else (0 : Int32)))
set_option maxHeartbeats 8000000 in
set_option maxRecDepth 100000 in
theorem c_X6_isFair (l : Launch) (D : va_G) (cI cJ cZ cO : ClassId) (aR : Nat) (aT : Nat) (aT_slips : Nat) (aT_lates : Nat) (aT_copied : Nat) (R_in : Int32) (R_streak : Int32) (R_lot : Int32) (T_size : Int32) (T_littleOnes : Int32)   (y0 : Int32) (h : f_X6_isFair R_in T_littleOnes = y0) : Met l yX6_isFair wsX6_isFair ({ frames := 1, cells := 0, slots := 0, locals := 20 } : Room) (va_Pc [.ref aR] (fun U => va_P D vwCl [(aR, .inr (6, [.ref aT, .int R_in, .int R_streak, .int R_lot])), (aT, .inr (1, [.ref aT_slips, .ref aT_lates, .ref aT_copied, .int T_size, .int T_littleOnes]))] U.heap ∧ KK D cI cJ cZ cO U)) (vp_Si (fun r => r = y0 ∧ zo r)) 0 0 (fun _ => False) := by
  refine Met.ofW (cc := cX6_isFair) (maxL := 3) (ret := (some .boolean)) (by decide) rfl ?_
  intro p e s m args below meth c s₁ B hml hv
  obtain ⟨rfl, hP, hKK⟩ := hv
  have hx := B.exec
  have hb := B.bytes
  have hr := B.returns
  have hts := atoms_spec (ws := wsX6_isFair) B.pre
  have hown : s.vm.findClass RX6 = some m.cls := findClass_of_methodNamed B.named
  have hlocks := B.notSynchronized
  have hK := hKK.1
  have fl_9 := hts (.fieldLink RX6 9 "SimonSays$Round" "told" "LSimonSays$Children;") (by decide +kernel)
  have fl_29 := hts (.fieldLink RX6 29 "SimonSays$Round" "in" "I") (by decide +kernel)
  have inX6 : ∀ w ∈ wsX60, w ∈ wsX6_isFair := by decide +kernel
  have hl := lv_entry ([.ref aR]) (n := 3) (Nat.le_of_ble_eq_true rfl)
  rw [lg_entry_eq]
  generalize (lg_sl ([.ref aR]) ++ List.replicate (3 - (lg_sl ([.ref aR])).length) Slot.unset).toArray = ls at hl ⊢
  have hl : lv_has ls 3 [(0, .ref aR)] := hl
  unfold f_X6_isFair at h
  refine lv_aload_n hx hb dX6_isFair_0 rfl (lv_at hl 0 rfl) ?_
  refine va_get (D := D) (ci := 6) (v := .ref aT) (C := RX6) (T := TX6) (N := 4) hx hb hts inX6 hown hK hP 0 rfl rfl 0 (by decide) fl_9 (fun _ h9 => h9) rfl dX6_isFair_1 ?_
  have hPc : va_P D vwCl [(aT, .inr (1, [.ref aT_slips, .ref aT_lates, .ref aT_copied, .int T_size, .int T_littleOnes]))] s.heap := hP.sub [1] rfl
  refine vp_callSi (va_Run.run (va_runV (As := []) (rest := []) ⟨hx, hb, hml, hown, hts⟩ (c_X1_littleOnes l D cI cJ cZ cO aT aT_slips aT_lates aT_copied T_size T_littleOnes _ rfl) (cwV 0 hts gX6_isFair_X1_littleOnes rfl rfl rfl (by decide +kernel) ⟨Nat.le_of_ble_eq_true rfl, Nat.le_of_ble_eq_true rfl⟩) ⟨fb_p, va_recv hK hP (ci := 1) (q0 := 1) rfl rfl, fun U hU hW => ⟨rfl, by rw [hU]; exact hPc, KK.warm hW hKK⟩⟩ rfl rfl hl.1 rfl (lv_room (Nat.le_of_ble_eq_true rfl)) dX6_isFair_4 ⟨Nat.le_of_ble_eq_true rfl, Nat.le_of_ble_eq_true rfl⟩)) (fun r hr => ?_)
  replace hr := hr.symm
  subst hr
  refine lv_aload_n hx hb dX6_isFair_7 rfl (lv_at hl 0 rfl) ?_
  refine va_get (D := D) (ci := 6) (v := .int R_in) (C := RX6) (T := TX6) (N := 4) hx hb hts inX6 hown hK hP 0 rfl rfl 1 (by decide) fl_29 (fun _ h9 => h9) rfl dX6_isFair_8 ?_
  refine lv_iconst (v := (-1 : Int32)) hx hb dX6_isFair_11 (by decide) ?_
  refine lv_ixor hx hb dX6_isFair_12 ?_
  refine lv_iand hx hb dX6_isFair_13 ?_
  refine lv_istore_n (lv' := [(1, .int ((f_X1_littleOnes T_littleOnes) &&& (R_in ^^^ (-1 : Int32)))), (0, .ref aR)]) hx hb dX6_isFair_14 rfl hl (by decide) rfl (fun ls hl => ?_)
  refine lv_aload_n hx hb dX6_isFair_15 rfl (lv_at hl 1 rfl) ?_
  refine va_get (D := D) (ci := 6) (v := .int R_in) (C := RX6) (T := TX6) (N := 4) hx hb hts inX6 hown hK hP 0 rfl rfl 1 (by decide) fl_29 (fun _ h9 => h9) rfl dX6_isFair_16 ?_
  refine lv_aload_n hx hb dX6_isFair_19 rfl (lv_at hl 1 rfl) ?_
  refine va_get (D := D) (ci := 6) (v := .ref aT) (C := RX6) (T := TX6) (N := 4) hx hb hts inX6 hown hK hP 0 rfl rfl 0 (by decide) fl_9 (fun _ h9 => h9) rfl dX6_isFair_20 ?_
  have hPc : va_P D vwCl [(aT, .inr (1, [.ref aT_slips, .ref aT_lates, .ref aT_copied, .int T_size, .int T_littleOnes]))] s.heap := hP.sub [1] rfl
  refine vp_callSi (va_Run.run (va_runV (As := []) (rest := [.int R_in]) ⟨hx, hb, hml, hown, hts⟩ (c_X1_littleOnes l D cI cJ cZ cO aT aT_slips aT_lates aT_copied T_size T_littleOnes _ rfl) (cwV 0 hts gX6_isFair_X1_littleOnes rfl rfl rfl (by decide +kernel) ⟨Nat.le_of_ble_eq_true rfl, Nat.le_of_ble_eq_true rfl⟩) ⟨fb_p, va_recv hK hP (ci := 1) (q0 := 1) rfl rfl, fun U hU hW => ⟨rfl, by rw [hU]; exact hPc, KK.warm hW hKK⟩⟩ rfl rfl hl.1 rfl (lv_room (Nat.le_of_ble_eq_true rfl)) dX6_isFair_23 ⟨Nat.le_of_ble_eq_true rfl, Nat.le_of_ble_eq_true rfl⟩)) (fun r hr => ?_)
  replace hr := hr.symm
  subst hr
  refine lv_iconst (v := (-1 : Int32)) hx hb dX6_isFair_26 (by decide) ?_
  refine lv_ixor hx hb dX6_isFair_27 ?_
  refine lv_iand hx hb dX6_isFair_28 ?_
  refine lv_istore_n (lv' := [(2, .int (R_in &&& ((f_X1_littleOnes T_littleOnes) ^^^ (-1 : Int32)))), (1, .int ((f_X1_littleOnes T_littleOnes) &&& (R_in ^^^ (-1 : Int32)))), (0, .ref aR)]) hx hb dX6_isFair_29 rfl hl (by decide) rfl (fun ls hl => ?_)
  refine lv_iload_n hx hb dX6_isFair_30 rfl (lv_at hl 1 rfl) ?_
  refine lv_if_eq (tgt := 38) hx hb dX6_isFair_31 (by decide) (fun c_1 => ?_) (fun c_1 => ?_)
  · replace h := if_p c_1 h
    refine lv_iconst (v := (1 : Int32)) hx hb dX6_isFair_38 (by decide) ?_
    refine lv_goto (tgt := 43) hx hb dX6_isFair_39 (by decide) ?_
    exact pr_z hx hb hr hlocks dX6_isFair_43 h (by decide)
  · replace h := if_n c_1 h
    refine lv_iload_n hx hb dX6_isFair_34 rfl (lv_at hl 0 rfl) ?_
    refine lv_if_ne (tgt := 42) hx hb dX6_isFair_35 (by decide) (fun c_2 => ?_) (fun c_2 => ?_)
    · replace h := if_n c_2 h
      refine lv_iconst (v := (0 : Int32)) hx hb dX6_isFair_42 (by decide) ?_
      exact pr_z hx hb hr hlocks dX6_isFair_43 h (by decide)
    · replace h := if_p c_2 h
      refine lv_iconst (v := (1 : Int32)) hx hb dX6_isFair_38 (by decide) ?_
      refine lv_goto (tgt := 43) hx hb dX6_isFair_39 (by decide) ?_
      exact pr_z hx hb hr hlocks dX6_isFair_43 h (by decide)
end
section
theorem zz_last : True := trivial
end
