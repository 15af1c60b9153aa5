/-! numbers: the words of the pure part -/
theorem il (n : Nat) : (OfNat.ofNat n : Int32) = nI n := rfl
theorem il64 (n : Nat) : (OfNat.ofNat n : Int64) = lN n := rfl
theorem gin {k n : Nat} (h : k < n) (hn : n < 2 ^ 31) : gIn (nI k) n = true := gIn_iff.mpr (vp_in_nI h hn)
theorem cl {k : Nat} (h : k < 2 ^ 31) : (nI k).toNatClampNeg = k := nI_clamp h
def B01 (b : Bool) : Int32 := if b = true then 1 else 0
theorem B01_t : B01 true = 1 := rfl
theorem B01_f : B01 false = 0 := rfl
theorem B01_0 {b : Bool} : B01 b = 0 ↔ b = false := by cases b <;> decide
theorem B01_zo (b : Bool) : zo (B01 b) := by cases b <;> decide
theorem if_B {α : Type} (b : Bool) (x y : α) : (if B01 b = 0 then x else y) = if b = true then y else x := by cases b <;> rfl
theorem ob1 {α β : Type} (a : α) (k : α → Option β) : Option.bind (some a) k = k a := rfl
/-- the sets, as bits, of six children at most -/
theorem has_t : ∀ s, s < 64 → ∀ k, k < 6 → f_X10_has (nI s) (nI k) = B01 (s.testBit k) := by decide +kernel
theorem has_9 : ∀ s, s < 64 → f_X10_has (nI s) (nI 9) = 0 := by decide +kernel
theorem shl_t : ∀ k, k < 7 → ((1 : Int32) <<< (nI k &&& 31)) = nI (2 ^ k) := by decide +kernel
theorem or_t : ∀ a, a < 64 → ∀ b, b < 64 → nI a ||| nI b = nI (a ||| b) := by decide +kernel
theorem or_0 (x : Int32) : x ||| 0 = x := by simp
theorem andN_t : ∀ a, a < 64 → ∀ b, b < 64 → nI a &&& (nI b ^^^ (-1 : Int32)) = nI (a &&& (63 ^^^ b)) := by decide +kernel
theorem and_t : ∀ a, a < 64 → ∀ b, b < 64 → nI a &&& nI b = nI (a &&& b) := by decide +kernel
theorem and63 : ∀ a, a < 64 → ∀ b, b < 64 → a &&& (63 ^^^ b) < 64 := by decide +kernel
theorem or63 {a b : Nat} (ha : a < 64) (hb : b < 64) : a ||| b < 64 := Nat.or_lt_two_pow (n := 6) ha hb
theorem andlt {a b : Nat} (ha : a < 64) : a &&& b < 64 := Nat.lt_of_le_of_lt Nat.and_le_left ha
def pc (s : Nat) : Nat := (if s.testBit 0 then 1 else 0) + (if s.testBit 1 then 1 else 0) + (if s.testBit 2 then 1 else 0) + (if s.testBit 3 then 1 else 0) + (if s.testBit 4 then 1 else 0) + (if s.testBit 5 then 1 else 0)
theorem pc_J : ∀ s, s < 64 → f_J6_bitCount_0f7a4 (nI s) = nI (pc s) := by decide +kernel
theorem pc_b : ∀ s, s < 64 → f_X10_bits (nI s) = some (nI (pc s)) := by decide +kernel
theorem pc_le : ∀ s, s < 64 → pc s ≤ 6 := by decide +kernel
theorem eve_t : ∀ m, m < 7 → f_X1_everyone (nI m) = nI (2 ^ m - 1) := by decide +kernel
theorem i0 {n : Nat} (h : n < 2 ^ 31) : (nI n = 0) ↔ n = 0 := nI_eq h (by decide)
/-- a number of the script's: below 0, at least n, or one of 0 .. n - 1 -/
theorem ix3 (x : Int32) {n : Nat} (hn : n < 2 ^ 31) : x < 0 ∨ nI n ≤ x ∨ ∃ j : Nat, j < n ∧ x = nI j := pk_ix x hn
theorem i32t {x y : Int32} : x < y ↔ x.toInt < y.toInt := Int32.lt_iff_toInt_lt
theorem i32l {x y : Int32} : x ≤ y ↔ x.toInt ≤ y.toInt := Int32.le_iff_toInt_le
theorem i32e {x y : Int32} : x = y ↔ x.toInt = y.toInt := Int32.toInt_inj.symm
theorem within_eq (a b c : Int64) : f_X10_within a b c = B01 (decide (b.toInt ≤ a.toInt ∧ a.toInt ≤ c.toInt)) := by
  unfold f_X10_within B01
  by_cases h1 : a < b
  · rw [if_pos ((lg_cmp_lt a b).mpr h1), if_neg]
    · intro h; have := of_decide_eq_true h; rw [Int64.lt_iff_toInt_lt] at h1; omega
  · rw [if_neg (fun h => h1 ((lg_cmp_lt a b).mp h))]
    by_cases h2 : c < a
    · rw [if_pos ((lg_cmp_gt a c).mpr h2), if_neg]
      intro h; have := of_decide_eq_true h; rw [Int64.lt_iff_toInt_lt] at h2; omega
    · rw [if_neg (fun h => h2 ((lg_cmp_gt a c).mp h)), if_pos]
      rw [Int64.lt_iff_toInt_lt] at h1 h2
      exact decide_eq_true (by omega)
theorem within_i (a : Int32) (lo hi : Int64) : f_X10_within a.toInt64 lo hi = B01 (decide (lo.toInt ≤ a.toInt ∧ a.toInt ≤ hi.toInt)) := by
  rw [within_eq, Int32.toInt_toInt64]
def inR (a : Int32) (lo hi : Int) : Bool := decide (lo ≤ a.toInt ∧ a.toInt ≤ hi)
theorem rng2 (p : Int32) (lo hi : Int32) : (if p < lo then (0 : Int32) else if hi < p then 0 else 1) = B01 (inR p lo.toInt hi.toInt) := by
  unfold B01 inR
  by_cases h1 : p < lo
  · rw [if_pos h1, if_neg]; intro h; have := of_decide_eq_true h; rw [i32t] at h1; omega
  · rw [if_neg h1]
    by_cases h2 : hi < p
    · rw [if_pos h2, if_neg]; intro h; have := of_decide_eq_true h; rw [i32t] at h2; omega
    · rw [if_neg h2, if_pos]; rw [i32t] at h1 h2; exact decide_eq_true (by omega)
theorem order_X9 (p : Int32) : f_X9_isOrder p = B01 (inR p 1 4) := rng2 p 1 4
theorem order_X10 (p : Int32) : f_X10_isOrder p = B01 (inR p 1 4) := within_i p 1 4
theorem half_X10 (p : Int32) : f_X10_isPart p = B01 (inR p 0 1) := within_i p 0 1
theorem half_X9 (p : Int32) : f_X9_isHalf p = B01 (inR p 0 1) := by
  unfold f_X9_isHalf B01 inR
  by_cases h1 : p = 0
  · subst h1; rfl
  · rw [if_neg h1]
    by_cases h2 : p = 1
    · subst h2; rfl
    · rw [if_neg h2, if_neg]
      intro h; have h := of_decide_eq_true h
      rw [i32e] at h1 h2
      have e0 : (0 : Int32).toInt = 0 := rfl
      have e1 : (1 : Int32).toInt = 1 := rfl
      omega
theorem image_X9 (p : Int32) : f_X9_isImage p = B01 (inR p 0 1) := by
  unfold f_X9_isImage B01 inR
  have e0 : (0 : Int32).toInt = 0 := rfl
  have e2 : (2 : Int32).toInt = 2 := rfl
  by_cases h1 : p < 0
  · rw [if_pos h1, if_neg]; intro h; have := of_decide_eq_true h; rw [i32t] at h1; omega
  · rw [if_neg h1]
    by_cases h2 : 2 ≤ p
    · rw [if_pos h2, if_neg]; intro h; have := of_decide_eq_true h; rw [i32l] at h2; omega
    · rw [if_neg h2, if_pos]; rw [i32t] at h1; rw [i32l] at h2; exact decide_eq_true (by omega)
theorem nIt {n : Nat} (h : n < 2 ^ 31) : (nI n).toInt = (n : Int) := nI_toInt h
theorem has_X1 {m : Nat} (hm : m ≤ 6) (p : Int32) : f_X1_has (nI m) p = B01 (inR p 0 ((m : Int) - 1)) := by
  unfold f_X1_has B01 inR
  have e0 : (0 : Int32).toInt = 0 := rfl
  have em : (nI m).toInt = (m : Int) := nIt (by omega)
  by_cases h1 : p < 0
  · rw [if_pos h1, if_neg]; intro h; have := of_decide_eq_true h; rw [i32t] at h1; omega
  · rw [if_neg h1]
    by_cases h2 : nI m ≤ p
    · rw [if_pos h2, if_neg]; intro h; have := of_decide_eq_true h; rw [i32l] at h2; omega
    · rw [if_neg h2, if_pos]; rw [i32t] at h1; rw [i32l] at h2; exact decide_eq_true (by omega)
theorem child_X10 {m : Nat} (hm : m ≤ 6) (p : Int32) : f_X10_isChild (nI m) p = B01 (inR p 0 ((m : Int) - 1)) := by
  unfold f_X10_isChild
  rw [within_i, Int32.toInt_toInt64]
  have : (nI m - 1).toInt = (m : Int) - 1 := pk_sub_toInt (a := m) (b := 1) (by omega) (by decide)
  rw [this]
  rfl
theorem inR_nI {j : Nat} (hj : j < 2 ^ 31) (lo hi : Int) : inR (nI j) lo hi = decide (lo ≤ (j : Int) ∧ (j : Int) ≤ hi) := by unfold inR; rw [nIt hj]
/-- in the range: it is one of the numbers -/
theorem inR_t {p : Int32} {n : Nat} (hn : n ≤ 1000) (h : inR p 0 ((n : Int) - 1) = true) : ∃ j, j < n ∧ p = nI j := by
  have h := of_decide_eq_true h
  refine ⟨p.toInt.toNat, by omega, ?_⟩
  rw [i32e, nIt (by omega)]
  omega
theorem inR_o {p : Int32} (h : inR p 1 4 = true) : ∃ o, 1 ≤ o ∧ o ≤ 4 ∧ p = nI o := by
  have h := of_decide_eq_true h
  refine ⟨p.toInt.toNat, by omega, by omega, ?_⟩
  rw [i32e, nIt (by omega)]
  omega
theorem mask_fw (M p : Int32) (h : p &&& (M ^^^ (-1 : Int32)) = 0) : p = p &&& M := by
  apply Int32.toBitVec_inj.mp
  have h' := congrArg Int32.toBitVec h
  rw [Int32.toBitVec_and, Int32.toBitVec_xor, show (-1 : Int32).toBitVec = BitVec.allOnes 32 from by decide, show (0 : Int32).toBitVec = 0#32 from rfl] at h'
  rw [Int32.toBitVec_and]
  generalize p.toBitVec = P at h' ⊢
  generalize M.toBitVec = N at h' ⊢
  apply BitVec.eq_of_getLsbD_eq
  intro i hi
  have h2 := congrArg (fun b : BitVec 32 => b.getLsbD i) h'
  simp only [BitVec.getLsbD_and, BitVec.getLsbD_xor, BitVec.getLsbD_allOnes, BitVec.getLsbD_zero, hi, decide_true] at h2 ⊢
  revert h2
  cases P.getLsbD i <;> cases N.getLsbD i <;> decide
theorem mask_iff {m : Nat} (hm : m ≤ 6) (p : Int32) : (p &&& (nI (2 ^ m - 1) ^^^ (-1 : Int32)) = 0) ↔ inR p 0 (((2 ^ m : Nat) : Int) - 1) = true := by
  have hpow : 2 ^ m ≤ 64 := Nat.pow_le_pow_right (n := 2) (by decide) hm
  have hM : (nI (2 ^ m - 1)).toBitVec.toNat = 2 ^ m - 1 := pk_tn (by omega)
  constructor
  · intro h
    have h1 := mask_fw _ p h
    rw [pk_and p m hM] at h1
    have hlt : p.toBitVec.toNat % 2 ^ m < 2 ^ m := Nat.mod_lt _ (Nat.two_pow_pos m)
    rw [h1, inR_nI (by omega)]
    exact decide_eq_true (by omega)
  · intro h
    obtain ⟨j, hj, rfl⟩ := inR_t (n := 2 ^ m) (by omega) h
    have hall : ∀ m, m < 7 → ∀ j, j < 2 ^ m → nI j &&& (nI (2 ^ m - 1) ^^^ (-1 : Int32)) = 0 := by decide +kernel
    exact hall m (by omega) j hj
theorem set_X1 {m : Nat} (hm : m ≤ 6) (p : Int32) : f_X1_isSet (nI m) p = B01 (inR p 0 (((2 ^ m : Nat) : Int) - 1)) := by
  unfold f_X1_isSet
  rw [eve_t m (by omega)]
  by_cases h : p &&& (nI (2 ^ m - 1) ^^^ (-1 : Int32)) = 0
  · rw [if_pos h, (mask_iff hm p).mp h]; rfl
  · rw [if_neg h]
    have : inR p 0 (((2 ^ m : Nat) : Int) - 1) = false := by
      cases hb : inR p 0 (((2 ^ m : Nat) : Int) - 1) with
      | false => rfl
      | true => exact absurd ((mask_iff hm p).mpr hb) h
    rw [this]; rfl
theorem set_X10 {m : Nat} (hm : m ≤ 6) (p : Int32) : f_X10_isSet (nI m) p = B01 (inR p 0 (((2 ^ m : Nat) : Int) - 1)) := by
  unfold f_X10_isSet
  have e : (((1 : Int32) <<< (nI m &&& 31)) - (1 : Int32)) = nI (2 ^ m - 1) := eve_t m (by omega)
  have hpow : 2 ^ m ≤ 64 := Nat.pow_le_pow_right (n := 2) (by decide) hm
  have hp1 : 1 ≤ 2 ^ m := Nat.one_le_two_pow
  rw [e, within_i, Int32.toInt_toInt64, nIt (by omega)]
  unfold inR
  have : ((2 ^ m - 1 : Nat) : Int) = ((2 ^ m : Nat) : Int) - 1 := by omega
  rw [this]
  rfl
