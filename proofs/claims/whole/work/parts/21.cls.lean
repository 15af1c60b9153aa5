/-! the class as told, leaders, groups, errs: both sides are tied to numbers -/
def Cl (m : Nat) (sl la co : Nat → Nat) : Prop := m ≤ 6 ∧ ∀ k, k < m → sl k ≤ 9 ∧ la k ≤ 9 ∧ (co k = 9 ∨ co k < k)
def Ar (n : Nat) (f : Nat → Int32) (g : Nat → Nat) : Prop := ∀ k, k < n → f k = nI (g k)
def ld (co : Nat → Nat) (m s : Nat) : Nat → Nat → Nat
  | 0, k => k
  | n + 1, k => if (decide (co k < m) && s.testBit (co k)) = true then ld co m s n (co k) else k
theorem has1 : ∀ m, m < 7 → ∀ k, k < m → f_X1_has (nI m) (nI k) = 1 := by decide +kernel
theorem isIn_t : ∀ m, m < 7 → ∀ s, s < 64 → ∀ k, k < 10 → f_X6_isIn (nI s) (nI m) (nI k) = B01 (decide (k < m) && s.testBit k) := by decide +kernel
theorem isIn1 {m s k : Nat} (hm : m ≤ 6) (hs : s < 64) (hk : k < m) : f_X6_isIn (nI s) (nI m) (nI k) = B01 (s.testBit k) := by
  rw [isIn_t m (by omega) s hs k (by omega), decide_eq_true hk]; rfl
theorem copied_X1 {m k : Nat} {f : Nat → Int32} {co : Nat → Nat} (hm : m ≤ 6) (hk : k < m) (hf : Ar m f co) : f_X1_copiedBy (nI m) f (nI k) = some (nI (co k)) := by
  unfold f_X1_copiedBy
  rw [has1 m (by omega) k hk, if_neg (by decide), if_pos (gin (by omega) (by decide)), cl (by omega), hf k hk]
theorem slip_X1 {m k : Nat} {f : Nat → Int32} {co : Nat → Nat} (hm : m ≤ 6) (hk : k < m) (hf : Ar m f co) : f_X1_slipOf (nI m) f (nI k) = some (nI (co k)) := by
  unfold f_X1_slipOf
  rw [has1 m (by omega) k hk, if_neg (by decide), if_pos (gin (by omega) (by decide)), cl (by omega), hf k hk]
theorem late_X1 {m k : Nat} {f : Nat → Int32} {co : Nat → Nat} (hm : m ≤ 6) (hk : k < m) (hf : Ar m f co) : f_X1_lateOf (nI m) f (nI k) = some (nI (co k)) := by
  unfold f_X1_lateOf
  rw [has1 m (by omega) k hk, if_neg (by decide), if_pos (gin (by omega) (by decide)), cl (by omega), hf k hk]
theorem ld_lt {co : Nat → Nat} {m s : Nat} : ∀ (d k : Nat), k < m → ld co m s d k < m := by
  intro d
  induction d with
  | zero => intro k hk; exact hk
  | succ d ih =>
    intro k hk
    rw [ld]
    by_cases hc : (decide (co k < m) && s.testBit (co k)) = true
    · rw [if_pos hc]
      rw [Bool.and_eq_true, decide_eq_true_eq] at hc
      exact ih _ hc.1
    · rw [if_neg hc]; exact hk
theorem ld_in {co : Nat → Nat} {m s : Nat} : ∀ (d k : Nat), s.testBit k = true → s.testBit (ld co m s d k) = true := by
  intro d
  induction d with
  | zero => intro k hk; exact hk
  | succ d ih =>
    intro k hk
    rw [ld]
    by_cases hc : (decide (co k < m) && s.testBit (co k)) = true
    · rw [if_pos hc]
      rw [Bool.and_eq_true, decide_eq_true_eq] at hc
      exact ih _ hc.2
    · rw [if_neg hc]; exact hk
theorem lead_X6L {m s : Nat} {sl la co : Nat → Nat} {f : Nat → Int32} (hC : Cl m sl la co) (hf : Ar m f co) (hs : s < 64) : ∀ (d n t k : Nat), t + d = 6 → d < n → k < m → f_X6_leaderOf_L4 (nI s) (nI m) f n (nI k) (nI t) = some (nI (ld co m s d k)) := by
  have hm := hC.1
  intro d
  induction d with
  | zero =>
    intro n t k ht hn hk
    obtain ⟨n, rfl⟩ : ∃ j, n = j + 1 := ⟨n - 1, by omega⟩
    obtain rfl : t = 6 := by omega
    rw [f_X6_leaderOf_L4, if_pos (by decide)]
    rfl
  | succ d ih =>
    intro n t k ht hn hk
    obtain ⟨n, rfl⟩ : ∃ j, n = j + 1 := ⟨n - 1, by omega⟩
    have hco : co k < 10 := by rcases (hC.2 k hk).2.2 with h | h <;> omega
    rw [f_X6_leaderOf_L4, if_neg (show ¬ (6 : Int32) ≤ nI t from nI_ge (a := t) (b := 6) (by omega) (by decide)), copied_X1 hm hk hf, ob1, isIn_t m (by omega) s hs (co k) hco, if_B, ld]
    by_cases hc : (decide (co k < m) && s.testBit (co k)) = true
    · rw [if_pos hc, if_pos hc, nI_1]
      rw [Bool.and_eq_true, decide_eq_true_eq] at hc
      exact ih n (t + 1) (co k) (by omega) (by omega) hc.1
    · rw [if_neg hc, if_neg hc]
theorem lead_X6 {m s k : Nat} {sl la co : Nat → Nat} {f : Nat → Int32} (hC : Cl m sl la co) (hf : Ar m f co) (hs : s < 64) (hk : k < m) : f_X6_leaderOf (nI s) (nI m) f (nI k) = some (nI (ld co m s 6 k)) :=
  lead_X6L hC hf hs 6 300 0 k rfl (by decide) hk
theorem lead_X10L {m s : Nat} {sl la co : Nat → Nat} {f : Nat → Int32} (hC : Cl m sl la co) (hf : Ar m f co) (hs : s < 64) : ∀ (n d k : Nat), k < m → k < n → k ≤ d → f_X10_leaderOf_L2 (nI s) f n (nI k) = some (nI (ld co m s d k)) := by
  have hm := hC.1
  intro n
  induction n with
  | zero => intro d k hk hn; omega
  | succ n ih =>
    intro d k hk hn hd
    rw [f_X10_leaderOf_L2, if_pos (gin (by omega) (by decide)), cl (by omega), hf k hk]
    rcases (hC.2 k hk).2.2 with h9 | hlt
    · rw [h9, if_pos (show nI 9 = (9 : Int32) from rfl)]
      cases d with
      | zero => rfl
      | succ d =>
        rw [ld, if_neg]
        rw [h9]
        intro h
        rw [Bool.and_eq_true, decide_eq_true_eq] at h
        omega
    · rw [if_neg (show ¬ nI (co k) = (9 : Int32) from fun h => by
        have := (nI_eq (a := co k) (b := 9) (by omega) (by decide)).mp h
        omega), if_pos (gin (by omega) (by decide)), has_t s hs (co k) (by omega), if_B]
      obtain ⟨d, rfl⟩ : ∃ j, d = j + 1 := ⟨d - 1, by omega⟩
      rw [ld, show decide (co k < m) = true from decide_eq_true (by omega), Bool.true_and]
      by_cases hb : s.testBit (co k) = true
      · rw [if_pos hb, if_pos hb, if_pos (gin (by omega) (by decide))]
        exact ih d (co k) (by omega) (by omega) (by omega)
      · rw [if_neg hb, if_neg hb]
theorem lead_X10 {m s k : Nat} {sl la co : Nat → Nat} {f : Nat → Int32} (hC : Cl m sl la co) (hf : Ar m f co) (hs : s < 64) (hk : k < m) : f_X10_leaderOf (nI s) f (nI k) = some (nI (ld co m s 6 k)) :=
  lead_X10L hC hf hs 300 6 k hk (by have := hC.1; omega) (by have := hC.1; omega)
/-- leads itself -/
def isL (co : Nat → Nat) (m s k : Nat) : Bool := s.testBit k && decide (ld co m s 6 k = k)
theorem isL_X6 {m s k : Nat} {sl la co : Nat → Nat} {f : Nat → Int32} (hC : Cl m sl la co) (hf : Ar m f co) (hs : s < 64) (hk : k < m) : f_X6_isLeader (nI s) (nI m) f (nI k) = some (B01 (isL co m s k)) := by
  have hm := hC.1
  have hl := ld_lt (co := co) (m := m) (s := s) 6 k hk
  unfold f_X6_isLeader isL
  rw [isIn1 hm hs hk, if_B, lead_X6 hC hf hs hk, ob1]
  by_cases hb : s.testBit k = true
  · rw [if_pos hb, hb, Bool.true_and]
    by_cases hq : ld co m s 6 k = k
    · rw [if_pos (congrArg nI hq), decide_eq_true hq]; rfl
    · rw [if_neg (fun h => hq ((nI_eq (by omega) (by omega)).mp h)), decide_eq_false hq]; rfl
  · rw [if_neg hb, Bool.not_eq_true _ |>.mp hb]; rfl
/-- whom a leader leads, of the first j -/
def gp (co : Nat → Nat) (m s L : Nat) : Nat → Nat
  | 0 => 0
  | j + 1 => if (s.testBit j && decide (ld co m s 6 j = L)) = true then gp co m s L j ||| 2 ^ j else gp co m s L j
theorem gp_lt {co : Nat → Nat} {m s L : Nat} : ∀ j, gp co m s L j < 2 ^ j := by
  intro j
  induction j with
  | zero => exact (by decide : (0 : Nat) < 2 ^ 0)
  | succ j ih =>
    rw [gp]
    have h1 : (2 : Nat) ^ j < 2 ^ (j + 1) := Nat.pow_lt_pow_right (by decide) (by omega)
    by_cases hc : (s.testBit j && decide (ld co m s 6 j = L)) = true
    · rw [if_pos hc]; exact Nat.or_lt_two_pow (by omega) h1
    · rw [if_neg hc]; omega
theorem p6 {j : Nat} (h : j ≤ 6) : (2 : Nat) ^ j ≤ 64 := Nat.pow_le_pow_right (n := 2) (by decide) h
theorem gp_X6L {m s L : Nat} {sl la co : Nat → Nat} {f : Nat → Int32} (hC : Cl m sl la co) (hf : Ar m f co) (hs : s < 64) (hL : L < m) : ∀ (d j n : Nat), j + d = m → d < n → f_X6_groupOf_L4 (nI s) (nI m) f n (nI L) (nI (gp co m s L j)) (nI j) = some (nI (gp co m s L m)) := by
  have hm := hC.1
  intro d
  induction d with
  | zero =>
    intro j n hj hn
    obtain ⟨n, rfl⟩ : ∃ i, n = i + 1 := ⟨n - 1, by omega⟩
    obtain rfl : j = m := by omega
    rw [f_X6_groupOf_L4, show f_X1_size (nI j) = nI j from rfl, if_pos (nI_le (Nat.le_refl _) (by omega))]
  | succ d ih =>
    intro j n hj hn
    obtain ⟨n, rfl⟩ : ∃ i, n = i + 1 := ⟨n - 1, by omega⟩
    have hjm : j < m := by omega
    have hl := ld_lt (co := co) (m := m) (s := s) 6 j hjm
    have hg := gp_lt (co := co) (m := m) (s := s) (L := L) j
    have h6 := p6 (j := j) (by omega)
    have ihn := ih (j + 1) n (by omega) (by omega)
    rw [f_X6_groupOf_L4, show f_X1_size (nI m) = nI m from rfl, if_neg (nI_ge hjm (by omega)), isIn1 hm hs hjm, if_B, lead_X6 hC hf hs hjm, ob1, nI_1]
    rw [gp] at ihn
    by_cases hb : s.testBit j = true
    · rw [if_pos hb]
      rw [hb, Bool.true_and] at ihn
      by_cases hq : ld co m s 6 j = L
      · rw [if_pos (congrArg nI hq), shl_t j (by omega), or_t _ (by omega) _ (by
          have : (2 : Nat) ^ j < 2 ^ 6 := Nat.pow_lt_pow_right (by decide) (by omega)
          exact this)]
        rw [if_pos (decide_eq_true hq)] at ihn
        exact ihn
      · rw [if_neg (fun h => hq ((nI_eq (by omega) (by omega)).mp h))]
        rw [if_neg (by rw [decide_eq_false hq]; decide)] at ihn
        exact ihn
    · rw [if_neg hb]
      rw [if_neg (by rw [Bool.not_eq_true _ |>.mp hb]; simp)] at ihn
      exact ihn
theorem gp_X6 {m s L : Nat} {sl la co : Nat → Nat} {f : Nat → Int32} (hC : Cl m sl la co) (hf : Ar m f co) (hs : s < 64) (hL : L < m) : f_X6_groupOf (nI s) (nI m) f (nI L) = some (nI (gp co m s L m)) :=
  gp_X6L hC hf hs hL m 0 300 (by omega) (by have := hC.1; omega)
theorem gp_X10L {m s L : Nat} {sl la co : Nat → Nat} {f : Nat → Int32} (hC : Cl m sl la co) (hf : Ar m f co) (hs : s < 64) (hL : L < m) : ∀ (d j n : Nat), j + d = m → d < n → f_X10_ledBy_L4 (nI m) (nI s) f n (nI L) (nI (gp co m s L j)) (nI j) = some (nI (gp co m s L m)) := by
  have hm := hC.1
  intro d
  induction d with
  | zero =>
    intro j n hj hn
    obtain ⟨n, rfl⟩ : ∃ i, n = i + 1 := ⟨n - 1, by omega⟩
    obtain rfl : j = m := by omega
    rw [f_X10_ledBy_L4, if_pos (nI_le (Nat.le_refl _) (by omega))]
  | succ d ih =>
    intro j n hj hn
    obtain ⟨n, rfl⟩ : ∃ i, n = i + 1 := ⟨n - 1, by omega⟩
    have hjm : j < m := by omega
    have hl := ld_lt (co := co) (m := m) (s := s) 6 j hjm
    have hg := gp_lt (co := co) (m := m) (s := s) (L := L) j
    have h6 := p6 (j := j) (by omega)
    have ihn := ih (j + 1) n (by omega) (by omega)
    rw [f_X10_ledBy_L4, if_neg (nI_ge hjm (by omega)), has_t s hs j (by omega), if_B, lead_X10 hC hf hs hjm, ob1, nI_1, or_0]
    rw [gp] at ihn
    by_cases hb : s.testBit j = true
    · rw [if_pos hb]
      rw [hb, Bool.true_and] at ihn
      by_cases hq : ld co m s 6 j = L
      · rw [if_pos (congrArg nI hq), shl_t j (by omega), or_t _ (by omega) _ (by
          have : (2 : Nat) ^ j < 2 ^ 6 := Nat.pow_lt_pow_right (by decide) (by omega)
          exact this)]
        rw [if_pos (decide_eq_true hq)] at ihn
        exact ihn
      · rw [if_neg (fun h => hq ((nI_eq (by omega) (by omega)).mp h))]
        rw [if_neg (by rw [decide_eq_false hq]; decide)] at ihn
        exact ihn
    · rw [if_neg hb]
      rw [if_neg (by rw [Bool.not_eq_true _ |>.mp hb]; simp)] at ihn
      exact ihn
theorem gp_X10 {m s L : Nat} {sl la co : Nat → Nat} {f : Nat → Int32} (hC : Cl m sl la co) (hf : Ar m f co) (hs : s < 64) (hL : L < m) : f_X10_ledBy (nI m) (nI s) f (nI L) = some (nI (gp co m s L m)) :=
  gp_X10L hC hf hs hL m 0 300 (by omega) (by have := hC.1; omega)
/-- so many in 10 -/
def er (sl la : Nat → Nat) (k o b : Nat) : Nat := if o = 1 then 0 else if o = 2 then min 10 (sl k + b) else if o = 3 then min 10 (sl k + b + 2) else la k
theorem min_2 : ∀ a, a < 10 → ∀ b, b < 10 → (if (nI a + nI b) < (10 : Int32) then (nI a + nI b) else (10 : Int32)) = nI (min 10 (a + b)) := by decide +kernel
theorem min_3 : ∀ a, a < 10 → ∀ b, b < 10 → (if ((nI a + nI b) + (2 : Int32)) < (10 : Int32) then ((nI a + nI b) + (2 : Int32)) else (10 : Int32)) = nI (min 10 (a + b + 2)) := by decide +kernel
theorem min_4 : ∀ a, a < 10 → (if nI a < (10 : Int32) then nI a else (10 : Int32)) = nI a := by decide +kernel
theorem min_2' : ∀ a, a < 10 → ∀ b, b < 10 → (if (10 : Int32) ≤ (nI a + nI b) then some (10 : Int32) else some (nI a + nI b)) = some (nI (min 10 (a + b))) := by decide +kernel
theorem min_3' : ∀ a, a < 10 → ∀ b, b < 10 → (if (10 : Int32) ≤ ((nI a + nI b) + (2 : Int32)) then some (10 : Int32) else some ((nI a + nI b) + (2 : Int32))) = some (nI (min 10 (a + b + 2))) := by decide +kernel
theorem min_4' : ∀ a, a < 10 → (if (10 : Int32) ≤ nI a then some (10 : Int32) else some (nI a)) = some (nI a) := by decide +kernel
theorem er_X1 {m k o b : Nat} {sl la co : Nat → Nat} {f g : Nat → Int32} (hC : Cl m sl la co) (hf : Ar m f sl) (hg : Ar m g la) (hk : k < m) (ho : 1 ≤ o) (ho4 : o ≤ 4) (hb : b ≤ 9) : f_X1_errsOf (nI m) f g (nI k) (nI o) (nI b) = some (nI (er sl la k o b)) := by
  have hm := hC.1
  have h1 := (hC.2 k hk).1
  have h2 := (hC.2 k hk).2.1
  unfold f_X1_errsOf er
  rw [slip_X1 hm hk hf, late_X1 hm hk hg, ob1, ob1, ob1, min_2 _ (by omega) _ (by omega), min_3 _ (by omega) _ (by omega), min_4 _ (by omega)]
  rcases (show o = 1 ∨ o = 2 ∨ o = 3 ∨ o = 4 by omega) with rfl | rfl | rfl | rfl <;> rfl
theorem er_X10 {m k o b : Nat} {sl la co : Nat → Nat} {f g : Nat → Int32} (hC : Cl m sl la co) (hf : Ar m f sl) (hg : Ar m g la) (hk : k < m) (ho : 1 ≤ o) (ho4 : o ≤ 4) (hb : b ≤ 9) : f_X10_errsOf f g (nI k) (nI o) (nI b) = some (nI (er sl la k o b)) := by
  have hm := hC.1
  have h1 := (hC.2 k hk).1
  have h2 := (hC.2 k hk).2.1
  unfold f_X10_errsOf f_X10_errsOf_L49 er
  rw [if_pos (c := gIn (nI k) 6 = true) (gin (by omega) (by decide)), if_pos (c := gIn (nI k) 6 = true) (gin (by omega) (by decide)), if_pos (c := gIn (nI k) 6 = true) (gin (by omega) (by decide)), cl (by omega), hf k hk, hg k hk, min_2' _ (by omega) _ (by omega), min_3' _ (by omega) _ (by omega), min_4' _ (by omega)]
  rcases (show o = 1 ∨ o = 2 ∨ o = 3 ∨ o = 4 by omega) with rfl | rfl | rfl | rfl <;> rfl
theorem er_le {m k o b : Nat} {sl la co : Nat → Nat} (hC : Cl m sl la co) (hk : k < m) : er sl la k o b ≤ 10 := by
  have h2 := (hC.2 k hk).2.1
  unfold er
  split
  · omega
  · split
    · exact Nat.min_le_left _ _
    · split
      · exact Nat.min_le_left _ _
      · omega
def sb (o b : Nat) : Nat := if o = 1 ∨ o = 4 then min 9 (b + 1) else 0
theorem sb_le (o b : Nat) : sb o b ≤ 9 := by unfold sb; split; exact Nat.min_le_left _ _; omega
theorem sb_X9 : ∀ o, o < 5 → 1 ≤ o → ∀ b, b < 10 → f_X9_streakBehind (nI o) (nI b) = nI (sb o b) := by decide +kernel
theorem sb_X10 : ∀ o, o < 5 → 1 ≤ o → ∀ b, b < 10 → f_X10_streakBehind (nI b) (nI o) = nI (sb o b) := by decide +kernel
