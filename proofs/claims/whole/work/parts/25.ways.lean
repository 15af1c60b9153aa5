/-! chances as numbers of ways; least terms -/
theorem l0 : lN 0 = (0 : Int64) := rfl
theorem l1 : lN 1 = (1 : Int64) := rfl
theorem l10 : lN 10 = (10 : Int64) := rfl
theorem pow10 : ∀ (d j n : Nat), d < n → j + d < 2 ^ 31 → f_X9_powerOfTen_L4 n (nI (j + d)) (lN (10 ^ j)) (nI j) = some (lN (10 ^ (j + d))) := by
  intro d
  induction d with
  | zero =>
    intro j n hn hj
    obtain ⟨n, rfl⟩ : ∃ i, n = i + 1 := ⟨n - 1, by omega⟩
    rw [f_X9_powerOfTen_L4, if_pos (show nI (j + 0) ≤ nI j from nI_le (Nat.le_refl j) (by omega))]; rfl
  | succ d ih =>
    intro j n hn hj
    obtain ⟨n, rfl⟩ : ∃ i, n = i + 1 := ⟨n - 1, by omega⟩
    have h := ih (j + 1) n (by omega) (by omega)
    rw [f_X9_powerOfTen_L4, if_neg (nI_ge (by omega) (by omega)), nI_1, ← l10, lN_mul, ← Nat.pow_succ, show j + (d + 1) = j + 1 + d by omega]
    exact h
theorem ten_X9 {k : Nat} (h : k < 300) : f_X9_powerOfTen (nI k) = some (lN (10 ^ k)) := by
  have := pow10 k 0 300 h (by omega)
  rw [Nat.zero_add] at this
  exact this
theorem pow10' : ∀ (d j n : Nat), d < n → j + d < 2 ^ 31 → f_X10_tens_L4 n (nI (j + d)) (lN (10 ^ j)) (nI j) = some (lN (10 ^ (j + d))) := by
  intro d
  induction d with
  | zero =>
    intro j n hn hj
    obtain ⟨n, rfl⟩ : ∃ i, n = i + 1 := ⟨n - 1, by omega⟩
    rw [f_X10_tens_L4, if_pos (show nI (j + 0) ≤ nI j from nI_le (Nat.le_refl j) (by omega))]; rfl
  | succ d ih =>
    intro j n hn hj
    obtain ⟨n, rfl⟩ : ∃ i, n = i + 1 := ⟨n - 1, by omega⟩
    have h := ih (j + 1) n (by omega) (by omega)
    rw [f_X10_tens_L4, if_neg (nI_ge (by omega) (by omega)), nI_1, ← l10, lN_mul, ← Nat.pow_succ, show j + (d + 1) = j + 1 + d by omega]
    exact h
theorem ten_X10 {k : Nat} (h : k < 300) : f_X10_tens (nI k) = some (lN (10 ^ k)) := by
  have := pow10' k 0 300 h (by omega)
  rw [Nat.zero_add] at this
  exact this
theorem gcd_st (a b : Nat) : Nat.gcd a b = Nat.gcd b (a % b) := by rw [Nat.gcd_comm a b, Nat.gcd_rec b a, Nat.gcd_comm]
theorem half2 {a b k : Nat} (hb0 : 0 < b) (h0 : a % b ≠ 0) (hb : b < 2 ^ (k + 1)) : b % (a % b) < 2 ^ k := by
  have h1 : a % b < b := Nat.mod_lt _ hb0
  have h2 : b % (a % b) < a % b := Nat.mod_lt _ (by omega)
  rw [Nat.pow_succ] at hb
  rcases Nat.lt_or_ge (a % b) (2 ^ k) with h | h
  · omega
  · have h3 : b % (a % b) = (b - a % b) % (a % b) := Nat.mod_eq_sub_mod (by omega)
    have h4 : (b - a % b) % (a % b) ≤ b - a % b := Nat.mod_le _ _
    omega
theorem gcd_L9 : ∀ (k a b t n : Nat), a < 2 ^ 63 → b < 2 ^ 63 → b < 2 ^ k → t + 2 * k < 200 → 2 * k < n → f_X9_greatestDivisor_L9 n (lN a) (lN b) (nI t) = some (lN (Nat.gcd a b)) := by
  have z : ∀ (a t n : Nat), t < 200 → f_X9_greatestDivisor_L9 (n + 1) (lN a) (lN 0) (nI t) = some (lN a) := by
    intro a t n ht
    rw [f_X9_greatestDivisor_L9, if_neg (show ¬ (200 : Int32) ≤ nI t from nI_ge (a := t) (b := 200) ht (by decide)), if_pos (show lg_cmp (lN 0) 0 = 0 from by decide)]
  have st : ∀ (a b t n : Nat), t < 200 → a < 2 ^ 63 → b < 2 ^ 63 → b ≠ 0 → f_X9_greatestDivisor_L9 (n + 1) (lN a) (lN b) (nI t) = f_X9_greatestDivisor_L9 n (lN b) (lN (a % b)) (nI (t + 1)) := by
    intro a b t n ht ha hb h0
    have hne : ¬ lN b = 0 := fun q => h0 ((pk_lEQ hb (b := 0) (by decide)).mp q)
    rw [f_X9_greatestDivisor_L9, if_neg (show ¬ (200 : Int32) ≤ nI t from nI_ge (a := t) (b := 200) ht (by decide)), if_neg (fun q => hne ((lg_cmp_eq _ _).mp q)), if_neg hne, pk_lRem ha (by omega) hb, nI_1]
  intro k
  induction k with
  | zero =>
    intro a b t n ha hb h1 ht hn
    obtain ⟨n, rfl⟩ : ∃ i, n = i + 1 := ⟨n - 1, by omega⟩
    obtain rfl : b = 0 := by omega
    rw [z a t n (by omega), Nat.gcd_zero_right]
  | succ k ih =>
    intro a b t n ha hb h1 ht hn
    obtain ⟨n, rfl⟩ : ∃ i, n = i + 3 := ⟨n - 3, by omega⟩
    by_cases h0 : b = 0
    · subst h0; rw [z a t (n + 2) (by omega), Nat.gcd_zero_right]
    · have hr : a % b < b := Nat.mod_lt _ (by omega)
      rw [st a b t (n + 2) (by omega) ha hb h0, gcd_st a b]
      by_cases h2 : a % b = 0
      · rw [h2, z b (t + 1) (n + 1) (by omega), Nat.gcd_zero_right]
      · have hr2 : b % (a % b) < a % b := Nat.mod_lt _ (by omega)
        rw [st b (a % b) (t + 1) (n + 1) (by omega) hb (by omega) h2, gcd_st b (a % b)]
        exact ih (a % b) (b % (a % b)) (t + 1 + 1) (n + 1) (by omega) (by omega) (half2 (by omega) h2 h1) (by omega) (by omega)
theorem part_L6 (x0 x2 : Int64) (x4 : Int32) : ∀ (k a b n : Nat), a < 2 ^ 63 → b < 2 ^ 63 → b < 2 ^ k → 2 * k < n → f_X10_part_L6 n x0 x2 x4 (lN a) (lN b) = f_X10_part_L6 1 x0 x2 x4 (lN (Nat.gcd a b)) (lN 0) := by
  have z : ∀ (a n : Nat), f_X10_part_L6 (n + 1) x0 x2 x4 (lN a) (lN 0) = f_X10_part_L6 1 x0 x2 x4 (lN a) (lN 0) := by
    intro a n
    rw [f_X10_part_L6, f_X10_part_L6, if_pos (show lg_cmp (lN 0) 0 = 0 from by decide), if_pos (show lg_cmp (lN 0) 0 = 0 from by decide)]
  have st : ∀ (a b n : Nat), a < 2 ^ 63 → b < 2 ^ 63 → b ≠ 0 → f_X10_part_L6 (n + 1) x0 x2 x4 (lN a) (lN b) = f_X10_part_L6 n x0 x2 x4 (lN b) (lN (a % b)) := by
    intro a b n ha hb h0
    have hne : ¬ lN b = 0 := fun q => h0 ((pk_lEQ hb (b := 0) (by decide)).mp q)
    rw [f_X10_part_L6, if_neg (fun q => hne ((lg_cmp_eq _ _).mp q)), if_neg hne, pk_lRem ha (by omega) hb]
  intro k
  induction k with
  | zero =>
    intro a b n ha hb h1 hn
    obtain ⟨n, rfl⟩ : ∃ i, n = i + 1 := ⟨n - 1, by omega⟩
    obtain rfl : b = 0 := by omega
    rw [z a n, Nat.gcd_zero_right]
  | succ k ih =>
    intro a b n ha hb h1 hn
    obtain ⟨n, rfl⟩ : ∃ i, n = i + 3 := ⟨n - 3, by omega⟩
    by_cases h0 : b = 0
    · subst h0; rw [z a (n + 2), Nat.gcd_zero_right]
    · have hr : a % b < b := Nat.mod_lt _ (by omega)
      rw [st a b (n + 2) ha hb h0, gcd_st a b]
      by_cases h2 : a % b = 0
      · rw [h2, z b (n + 1), Nat.gcd_zero_right]
      · have hr2 : b % (a % b) < a % b := Nat.mod_lt _ (by omega)
        rw [st b (a % b) (n + 1) hb (by omega) h2, gcd_st b (a % b)]
        exact ih (a % b) (b % (a % b)) (n + 1) (by omega) (by omega) (half2 (by omega) h2 h1) (by omega)
/-- least terms are the same on both sides -/
theorem least_eq {a b : Nat} (ha : a < 2 ^ 60) (hb : b < 2 ^ 60) (h0 : 0 < b) {w : Int32} (hw : inR w 0 1 = true) : ∃ r, f_X9_leastTerms (lN a) (lN b) w = some r ∧ f_X10_part (lN a) (lN b) w = some r := by
  have hg : 0 < Nat.gcd a b := Nat.gcd_pos_of_pos_right _ h0
  have hg2 : Nat.gcd a b ≤ b := Nat.gcd_le_right _ h0
  have e1 : f_X9_greatestDivisor (lN a) (lN b) = some (lN (Nat.gcd a b)) := gcd_L9 60 a b 0 300 (by omega) (by omega) hb (by decide) (by decide)
  have e2 : f_X10_part (lN a) (lN b) w = _ := part_L6 (lN a) (lN b) w 60 a b 300 (by omega) (by omega) hb (by decide)
  have hgne : ¬ lN (Nat.gcd a b) = 0 := fun q => by
    have := (pk_lEQ (a := Nat.gcd a b) (b := 0) (by omega) (by decide)).mp q
    omega
  have e17 : ∀ c : Nat, c < 2 ^ 63 → f_X9_leastTerms_L17 (lN c) (lN (Nat.gcd a b)) = some (lN (c / Nat.gcd a b)) := by
    intro c hc
    unfold f_X9_leastTerms_L17
    by_cases h1 : Nat.gcd a b ≤ 1
    · rw [if_pos (show lg_cmp (lN (Nat.gcd a b)) (1 : Int64) ≤ 0 from (lg_cmp_le _ _).mpr ((pk_lLE (b := 1) (by omega) (by decide)).mpr h1)), show Nat.gcd a b = 1 by omega, Nat.div_one]
    · rw [if_neg (show ¬ lg_cmp (lN (Nat.gcd a b)) (1 : Int64) ≤ 0 from fun q => h1 ((pk_lLE (b := 1) (by omega) (by decide)).mp ((lg_cmp_le _ _).mp q))), if_neg hgne, pk_lDiv hc hg (by omega)]
  rw [e2, f_X10_part_L6, if_pos (show lg_cmp (lN 0) 0 = 0 from by decide), if_neg hgne, if_neg hgne, pk_lDiv (by omega) hg (by omega), pk_lDiv (by omega) hg (by omega)]
  unfold f_X9_leastTerms
  rw [e1, ob1, e17 a (by omega), e17 b (by omega)]
  rcases two hw with rfl | rfl
  · exact ⟨_, rfl, rfl⟩
  · exact ⟨_, rfl, rfl⟩
/-- how many of the first j lead -/
def nl (co : Nat → Nat) (m s : Nat) : Nat → Nat
  | 0 => 0
  | j + 1 => if isL co m s j = true then nl co m s j + 1 else nl co m s j
theorem nl_le {co : Nat → Nat} {m s : Nat} : ∀ j, nl co m s j ≤ j := by
  intro j
  induction j with
  | zero => exact Nat.le_refl _
  | succ j ih => rw [nl]; split <;> omega
/-- a product over the leaders among the first j -/
def wP (co : Nat → Nat) (m s : Nat) (F : Nat → Nat) : Nat → Nat
  | 0 => 1
  | j + 1 => if isL co m s j = true then wP co m s F j * F j else wP co m s F j
theorem wP_le {co : Nat → Nat} {m s : Nat} {F : Nat → Nat} {B : Nat} (hF : ∀ j, j < m → F j ≤ B) : ∀ j, j ≤ m → wP co m s F j ≤ B ^ nl co m s j := by
  intro j
  induction j with
  | zero => intro _; exact Nat.le_refl _
  | succ j ih =>
    intro hj
    rw [wP, nl]
    by_cases h : isL co m s j = true
    · rw [if_pos h, if_pos h, Nat.pow_succ]
      exact Nat.mul_le_mul (ih (by omega)) (hF j (by omega))
    · rw [if_neg h, if_neg h]; exact ih (by omega)
def wf (sl la co : Nat → Nat) (m s b o t L : Nat) : Nat := if gp co m s L m &&& t = gp co m s L m then er sl la L o b else if gp co m s L m &&& t = 0 then 10 - er sl la L o b else 0
theorem wf_le {m s b o t L : Nat} {sl la co : Nat → Nat} (hC : Cl m sl la co) (hL : L < m) : wf sl la co m s b o t L ≤ 10 := by
  have := er_le (o := o) (b := b) hC hL
  unfold wf
  split
  · exact this
  · split
    · omega
    · omega
theorem sub_t : ∀ g, g < 64 → ∀ t, t < 64 → ((nI g &&& (nI t ^^^ (-1 : Int32)) = 0) ↔ nI (g &&& t) = nI g) := by decide +kernel
theorem fac {m L k : Nat} (h : k ≤ 10) : ((10 : Int32) - nI k).toInt64 = lN (10 - k) := by
  rw [show (10 : Int32) = nI 10 from rfl, pk_sub h, nI_l (by omega)]
theorem ways_X0L {m s b o t : Nat} {sl la co : Nat → Nat} {f g c : Nat → Int32} (hC : Cl m sl la co) (hs : s < 64) (hb : b ≤ 9) (ho : 1 ≤ o) (ho4 : o ≤ 4) (ht : t < 64) (hf : Ar m f sl) (hg : Ar m g la) (hc : Ar m c co) (u : Nat) : ∀ (d j n : Nat), j + d = m → d < n → f_X0_setFalls_L21 (nI s) (nI b) (nI m) f g c n (nI o) (nI t) (lN (u * wP co m s (wf sl la co m s b o t) j)) (nI j) = some (lN (u * wP co m s (wf sl la co m s b o t) m)) := by
  have hm := hC.1
  intro d
  induction d with
  | zero =>
    intro j n hj hn
    obtain ⟨n, rfl⟩ : ∃ i, n = i + 1 := ⟨n - 1, by omega⟩
    obtain rfl : j = m := by omega
    rw [f_X0_setFalls_L21, show f_X1_size (nI j) = nI j from rfl, if_pos (nI_le (Nat.le_refl _) (by omega))]
  | succ d ih =>
    intro j n hj hn
    obtain ⟨n, rfl⟩ : ∃ i, n = i + 1 := ⟨n - 1, by omega⟩
    have hjm : j < m := by omega
    have hG := gp64 (co := co) (m := m) (s := s) (L := j) hm
    have he := er_le (o := o) (b := b) hC hjm
    have ihn := ih (j + 1) n (by omega) (by omega)
    rw [f_X0_setFalls_L21, show f_X1_size (nI m) = nI m from rfl, if_neg (nI_ge hjm (by omega)), isL_X6 hC hc hs hjm, ob1, if_B, nI_1]
    rw [wP] at ihn
    by_cases h1 : isL co m s j = true
    · rw [if_pos h1, gp_X6 hC hc hs hjm, ob1, show f_X6_streak (nI b) = nI b from rfl, er_X1 hC hf hg hjm ho ho4 hb, ob1, and_t _ hG t ht, fac (m := m) (L := j) he, nI_l (by omega), lN_mul, lN_mul, show (0 : Int64) = lN 0 from rfl, lN_mul]
      rw [if_pos h1, ← Nat.mul_assoc] at ihn
      unfold wf at ihn ⊢
      by_cases h2 : gp co m s j m &&& t = gp co m s j m
      · rw [if_pos (congrArg nI h2)]; rw [if_pos h2] at ihn; exact ihn
      · rw [if_neg (fun q => h2 ((nI_eq (by have := andlt (b := t) hG; omega) (by omega)).mp q))]
        rw [if_neg h2] at ihn
        by_cases h3 : gp co m s j m &&& t = 0
        · rw [if_pos (show nI (gp co m s j m &&& t) = 0 from by rw [h3]; rfl)]; rw [if_pos h3] at ihn; exact ihn
        · rw [if_neg (fun q => h3 ((i0 (by have := andlt (b := t) hG; omega)).mp q))]; rw [if_neg h3] at ihn; exact ihn
    · rw [if_neg h1]; rw [if_neg h1] at ihn; exact ihn
theorem ways_X10L {m s b o t : Nat} {sl la co : Nat → Nat} {f g c : Nat → Int32} (hC : Cl m sl la co) (hs : s < 64) (hb : b ≤ 9) (ho : 1 ≤ o) (ho4 : o ≤ 4) (ht : t < 64) (hf : Ar m f sl) (hg : Ar m g la) (hc : Ar m c co) (u : Nat) : ∀ (d j n : Nat), j + d = m → d < n → f_X10_waysOf_L25 (nI m) (nI s) (nI b) f g c n (lN (10 ^ nl co m s j)) (nI o) (nI t) (lN (u * wP co m s (wf sl la co m s b o t) j)) (nI j) = some (lN (u * wP co m s (wf sl la co m s b o t) m), lN (10 ^ nl co m s m)) := by
  have hm := hC.1
  intro d
  induction d with
  | zero =>
    intro j n hj hn
    obtain ⟨n, rfl⟩ : ∃ i, n = i + 1 := ⟨n - 1, by omega⟩
    obtain rfl : j = m := by omega
    rw [f_X10_waysOf_L25, if_pos (nI_le (Nat.le_refl _) (by omega))]
  | succ d ih =>
    intro j n hj hn
    obtain ⟨n, rfl⟩ : ∃ i, n = i + 1 := ⟨n - 1, by omega⟩
    have hjm : j < m := by omega
    have hl := ld_lt (co := co) (m := m) (s := s) 6 j hjm
    have hG := gp64 (co := co) (m := m) (s := s) (L := j) hm
    have he := er_le (o := o) (b := b) hC hjm
    have ihn := ih (j + 1) n (by omega) (by omega)
    rw [f_X10_waysOf_L25, if_neg (nI_ge hjm (by omega)), has_t s hs j (by omega), if_B, lead_X10 hC hc hs hjm, ob1, nI_1]
    rw [wP, nl] at ihn
    unfold isL at ihn
    by_cases h1 : s.testBit j = true
    · rw [if_pos h1]
      rw [h1, Bool.true_and] at ihn
      by_cases h2 : ld co m s 6 j = j
      · rw [if_pos (congrArg nI h2), gp_X10 hC hc hs hjm, ob1, er_X10 hC hf hg hjm ho ho4 hb, ob1, and_t _ hG t ht]
        unfold f_X10_waysOf_L111
        rw [fac (m := m) (L := j) he, nI_l (by omega), lN_mul, lN_mul, show (0 : Int64) = lN 0 from rfl, lN_mul, ← l10, lN_mul, nI_1, ← Nat.pow_succ]
        rw [decide_eq_true h2, if_pos rfl, if_pos rfl, ← Nat.mul_assoc] at ihn
        unfold wf at ihn ⊢
        by_cases h3 : gp co m s j m &&& t = gp co m s j m
        · rw [if_pos ((sub_t _ hG t ht).mpr (congrArg nI h3))]; rw [if_pos h3] at ihn; exact ihn
        · rw [if_neg (fun q => h3 ((nI_eq (by have := andlt (b := t) hG; omega) (by omega)).mp ((sub_t _ hG t ht).mp q)))]
          rw [if_neg h3] at ihn
          by_cases h4 : gp co m s j m &&& t = 0
          · rw [if_pos (show nI (gp co m s j m &&& t) = 0 from by rw [h4]; rfl)]; rw [if_pos h4] at ihn; exact ihn
          · rw [if_neg (fun q => h4 ((i0 (by have := andlt (b := t) hG; omega)).mp q))]; rw [if_neg h4] at ihn; exact ihn
      · rw [if_neg (fun q => h2 ((nI_eq (by omega) (by omega)).mp q))]
        rw [decide_eq_false h2, if_neg (by decide), if_neg (by decide)] at ihn
        exact ihn
    · rw [if_neg h1]
      rw [Bool.not_eq_true _ |>.mp h1, Bool.false_and, if_neg (by decide), if_neg (by decide)] at ihn
      exact ihn
/-- in how many ways just a set falls -/
def ways (sl la co : Nat → Nat) (m s b o t : Nat) : Nat := (if t &&& (63 ^^^ s) = 0 then 1 else 0) * wP co m s (wf sl la co m s b o t) m
theorem ways_le {m s b o t : Nat} {sl la co : Nat → Nat} (hC : Cl m sl la co) : ways sl la co m s b o t ≤ 10 ^ nl co m s m := by
  have h := wP_le (co := co) (m := m) (s := s) (F := wf sl la co m s b o t) (B := 10) (fun j hj => wf_le hC hj) m (Nat.le_refl _)
  unfold ways
  split
  · omega
  · omega
theorem ways_X0 {m s b o t : Nat} {sl la co : Nat → Nat} {f g c : Nat → Int32} (hC : Cl m sl la co) (hs : s < 64) (hb : b ≤ 9) (ho : 1 ≤ o) (ho4 : o ≤ 4) (ht : t < 64) (hf : Ar m f sl) (hg : Ar m g la) (hc : Ar m c co) : f_X0_setFalls (nI s) (nI b) (nI m) f g c (nI o) (nI t) = some (lN (ways sl la co m s b o t)) := by
  have hm := hC.1
  unfold f_X0_setFalls ways
  rw [show f_X6_whoIsIn (nI s) = nI s from rfl, andN_t t ht s hs]
  have h1 := ways_X0L hC hs hb ho ho4 ht hf hg hc 1 m 0 300 (by omega) (by omega)
  by_cases h : t &&& (63 ^^^ s) = 0
  · rw [if_pos (show nI (t &&& (63 ^^^ s)) = 0 from by rw [h]; rfl), if_pos h]; exact h1
  · rw [if_neg (fun q => h ((i0 (by have := and63 t ht s hs; omega)).mp q)), if_neg h, Nat.zero_mul]; rfl
theorem ways_X10 {m s b o t : Nat} {bl : Int64} {sl la co : Nat → Nat} {f g c : Nat → Int32} (hC : Cl m sl la co) (hs : s < 64) (hb : b ≤ 9) (ho : 1 ≤ o) (ho4 : o ≤ 4) (ht : t < 64) (hf : Ar m f sl) (hg : Ar m g la) (hc : Ar m c co) : f_X10_waysOf (nI m) (nI s) (nI b) bl f g c (nI o) (nI t) = some (lN (ways sl la co m s b o t), lN (10 ^ nl co m s m)) := by
  have hm := hC.1
  unfold f_X10_waysOf ways
  rw [andN_t t ht s hs]
  have h1 := ways_X10L hC hs hb ho ho4 ht hf hg hc 1 m 0 300 (by omega) (by omega)
  have h0 := ways_X10L hC hs hb ho ho4 ht hf hg hc 0 m 0 300 (by omega) (by omega)
  by_cases h : t &&& (63 ^^^ s) = 0
  · rw [if_pos (show nI (t &&& (63 ^^^ s)) = 0 from by rw [h]; rfl), if_pos h]; exact h1
  · rw [if_neg (fun q => h ((i0 (by have := and63 t ht s hs; omega)).mp q)), if_neg h]
    rw [Nat.zero_mul] at h0
    exact h0
theorem low_X0L {m s q : Nat} {sl la co : Nat → Nat} {c : Nat → Int32} (hC : Cl m sl la co) (hs : s < 64) (hc : Ar m c co) (hq : q ≤ 9) : ∀ (d j n : Nat), j + d = m → d < n → f_X0_lower_L4 (nI s) (nI m) c n (nI q) (nI (nl co m s j)) (nI j) = some (lN (10 ^ (nl co m s m * q))) := by
  have hm := hC.1
  intro d
  induction d with
  | zero =>
    intro j n hj hn
    obtain ⟨n, rfl⟩ : ∃ i, n = i + 1 := ⟨n - 1, by omega⟩
    obtain rfl : j = m := by omega
    have hl := nl_le (co := co) (m := j) (s := s) j
    have : nl co j s j * q ≤ 6 * 9 := Nat.mul_le_mul (by omega) hq
    rw [f_X0_lower_L4, show f_X1_size (nI j) = nI j from rfl, if_pos (nI_le (Nat.le_refl _) (by omega)), pk_mul, ten_X9 (by omega), ob1]
  | succ d ih =>
    intro j n hj hn
    obtain ⟨n, rfl⟩ : ∃ i, n = i + 1 := ⟨n - 1, by omega⟩
    have hjm : j < m := by omega
    have ihn := ih (j + 1) n (by omega) (by omega)
    rw [f_X0_lower_L4, show f_X1_size (nI m) = nI m from rfl, if_neg (nI_ge hjm (by omega)), isL_X6 hC hc hs hjm, ob1, if_B, nI_1, nI_1]
    rw [nl] at ihn
    by_cases h1 : isL co m s j = true
    · rw [if_pos h1]; rw [if_pos h1] at ihn; exact ihn
    · rw [if_neg h1]; rw [if_neg h1] at ihn; exact ihn
theorem low_X0 {m s q : Nat} {sl la co : Nat → Nat} {c : Nat → Int32} (hC : Cl m sl la co) (hs : s < 64) (hc : Ar m c co) (hq : q ≤ 9) : f_X0_lower (nI s) (nI m) c (nI q) = some (lN (10 ^ (nl co m s m * q))) :=
  low_X0L hC hs hc hq m 0 300 (by omega) (by have := hC.1; omega)
theorem t6 {k : Nat} (h : k ≤ 18) : (10 : Nat) ^ k < 2 ^ 60 := by
  have h1 : (10 : Nat) ^ k ≤ 10 ^ 18 := Nat.pow_le_pow_right (by decide) h
  have h2 : (10 : Nat) ^ 18 < 2 ^ 60 := by decide
  omega
theorem st_falls {m s b : Nat} {bl : Int64} {sl la co : Nat → Nat} {f f' g g' c c' : Nat → Int32} (hC : Cl m sl la co) (hs : s < 64) (hb : b ≤ 9) (hf : Ar m f sl) (hf' : Ar m f' sl) (hg : Ar m g la) (hg' : Ar m g' la) (hc : Ar m c co) (hc' : Ar m c' co) (p1 p2 p3 : Int32) : ∃ (r bl' : Int64), f_X9_falls (nI s) (nI b) (nI m) f g c p1 p2 p3 = some r ∧ f_X10_falls (nI m) (nI s) (nI b) bl f' g' c' p1 p2 p3 = some (r, bl') := by
  have hm := hC.1
  unfold f_X9_falls f_X10_falls
  rw [order_X9, order_X10, set_X1 hm, set_X10 hm, half_X9, half_X10, if_B, if_B, if_B, if_B, if_B, if_B]
  by_cases h1 : inR p1 1 4 = true
  · rw [if_pos h1, if_pos h1]
    obtain ⟨o, h3, h4, rfl⟩ := inR_o h1
    by_cases h2 : inR p2 0 (((2 ^ m : Nat) : Int) - 1) = true
    · rw [if_pos h2, if_pos h2]
      have h6 := p6 hm
      obtain ⟨t, ht, rfl⟩ := inR_t (by omega) h2
      by_cases h5 : inR p3 0 1 = true
      · rw [if_pos h5, if_pos h5, ways_X0 hC hs hb h3 h4 (by omega) hf hg hc, ways_X10 hC hs hb h3 h4 (by omega) hf' hg' hc', ob1, ob1, show (1 : Int32) = nI 1 from rfl, low_X0 hC hs hc (by decide), ob1, Nat.mul_one]
        have hn := nl_le (co := co) (m := m) (s := s) m
        have h10 := t6 (k := nl co m s m) (by omega)
        have hw := ways_le (s := s) (b := b) (o := o) (t := t) hC
        obtain ⟨r, e1, e2⟩ := least_eq (a := ways sl la co m s b o t) (b := 10 ^ nl co m s m) (by omega) h10 (Nat.pow_pos (by decide)) h5
        rw [e1, e2, ob1, ob1]
        exact ⟨r, _, rfl, rfl⟩
      · rw [if_neg h5, if_neg h5]; exact ⟨_, _, rfl, rfl⟩
    · rw [if_neg h2, if_neg h2]; exact ⟨_, _, rfl, rfl⟩
  · rw [if_neg h1, if_neg h1]; exact ⟨_, _, rfl, rfl⟩
theorem could_L {m s b t : Nat} {sl la co : Nat → Nat} {f f' g g' c c' : Nat → Int32} (hC : Cl m sl la co) (hs : s < 64) (hb : b ≤ 9) (ht : t < 64) (hf : Ar m f sl) (hf' : Ar m f' sl) (hg : Ar m g la) (hg' : Ar m g' la) (hc : Ar m c co) (hc' : Ar m c' co) : ∀ (d o n : Nat) (ac : Int32) (bl : Int64), o + d = 5 → 1 ≤ o → d < n → ∃ (r : Int32) (bl' : Int64), f_X0_ordersThatCould_L4 (nI s) (nI b) (nI m) f g c n (nI t) ac (nI o) = some r ∧ f_X10_could_L14 (nI m) (nI s) (nI b) f' g' c' n bl (nI t) ac (nI o) = some (r, bl') := by
  intro d
  induction d with
  | zero =>
    intro o n ac bl ho h1 hn
    obtain ⟨n, rfl⟩ : ∃ i, n = i + 1 := ⟨n - 1, by omega⟩
    obtain rfl : o = 5 := by omega
    refine ⟨ac, bl, ?_, ?_⟩
    · rw [f_X0_ordersThatCould_L4, if_pos (by decide)]
    · rw [f_X10_could_L14, if_pos (by decide)]
  | succ d ih =>
    intro o n ac bl ho h1 hn
    obtain ⟨n, rfl⟩ : ∃ i, n = i + 1 := ⟨n - 1, by omega⟩
    have h4 : ¬ (4 : Int32) < nI o := nI_nlt (a := 4) (b := o) (by omega) (by decide)
    rw [f_X0_ordersThatCould_L4, f_X10_could_L14, if_neg h4, if_neg h4, ways_X0 hC hs hb h1 (by omega) ht hf hg hc, ways_X10 hC hs hb h1 (by omega) ht hf' hg' hc', ob1, ob1, nI_1, or_0]
    dsimp only
    by_cases h5 : lg_cmp (lN (ways sl la co m s b o t)) 0 ≤ 0
    · rw [if_pos h5, if_pos h5]; exact ih (o + 1) n _ _ (by omega) (by omega) (by omega)
    · rw [if_neg h5, if_neg h5]; exact ih (o + 1) n _ _ (by omega) (by omega) (by omega)
theorem st_could {m s b : Nat} {bl : Int64} {sl la co : Nat → Nat} {f f' g g' c c' : Nat → Int32} (hC : Cl m sl la co) (hs : s < 64) (hb : b ≤ 9) (hf : Ar m f sl) (hf' : Ar m f' sl) (hg : Ar m g la) (hg' : Ar m g' la) (hc : Ar m c co) (hc' : Ar m c' co) (p1 : Int32) : ∃ (r : Int32) (bl' : Int64), f_X9_could (nI s) (nI b) (nI m) f g c p1 = some r ∧ f_X10_could (nI m) (nI s) (nI b) bl f' g' c' p1 = some (r, bl') := by
  have hm := hC.1
  unfold f_X9_could f_X10_could
  rw [set_X1 hm, set_X10 hm, if_B, if_B]
  by_cases h2 : inR p1 0 (((2 ^ m : Nat) : Int) - 1) = true
  · rw [if_pos h2, if_pos h2]
    have h6 := p6 hm
    obtain ⟨t, ht, rfl⟩ := inR_t (by omega) h2
    obtain ⟨r, bl', e1, e2⟩ := could_L (t := t) hC hs hb (by omega) hf hf' hg hg' hc hc' 4 1 300 0 bl rfl (by decide) (by decide)
    have e1' : f_X0_ordersThatCould (nI s) (nI b) (nI m) f g c (nI t) = some r := e1
    rw [e1', ob1]
    exact ⟨r, bl', rfl, e2⟩
  · rw [if_neg h2, if_neg h2]; exact ⟨_, _, rfl, rfl⟩
theorem likely_L {m s b t : Nat} {sl la co : Nat → Nat} {f f' g g' c c' : Nat → Int32} (hC : Cl m sl la co) (hs : s < 64) (hb : b ≤ 9) (ht : t < 64) (hf : Ar m f sl) (hf' : Ar m f' sl) (hg : Ar m g la) (hg' : Ar m g' la) (hc : Ar m c co) (hc' : Ar m c' co) : ∀ (d o n : Nat) (x2 : Int32) (x3 bl : Int64), o + d = 5 → 1 ≤ o → d < n → ∃ (r : Int32) (bl' : Int64), f_X0_likeliestOrder_L8 (nI s) (nI b) (nI m) f g c n (nI t) x2 x3 (nI o) = some r ∧ f_X10_likeliest_L18 (nI m) (nI s) (nI b) f' g' c' n bl (nI t) x2 x3 (nI o) = some (r, bl') := by
  intro d
  induction d with
  | zero =>
    intro o n x2 x3 bl ho h1 hn
    obtain ⟨n, rfl⟩ : ∃ i, n = i + 1 := ⟨n - 1, by omega⟩
    obtain rfl : o = 5 := by omega
    refine ⟨x2, bl, ?_, ?_⟩
    · rw [f_X0_likeliestOrder_L8, if_pos (by decide)]
    · rw [f_X10_likeliest_L18, if_pos (by decide)]
  | succ d ih =>
    intro o n x2 x3 bl ho h1 hn
    obtain ⟨n, rfl⟩ : ∃ i, n = i + 1 := ⟨n - 1, by omega⟩
    have h4 : ¬ (4 : Int32) < nI o := nI_nlt (a := 4) (b := o) (by omega) (by decide)
    rw [f_X0_likeliestOrder_L8, f_X10_likeliest_L18, if_neg h4, if_neg h4, ways_X0 hC hs hb h1 (by omega) ht hf hg hc, ways_X10 hC hs hb h1 (by omega) ht hf' hg' hc', ob1, ob1]
    unfold f_X10_likeliest_L46
    rw [nI_1]
    dsimp only
    by_cases h5 : lg_cmp (lN (ways sl la co m s b o t)) x3 ≤ 0
    · simp only [if_pos h5]; exact ih (o + 1) n _ _ _ (by omega) (by omega) (by omega)
    · simp only [if_neg h5]; exact ih (o + 1) n _ _ _ (by omega) (by omega) (by omega)
theorem st_likely {m s b : Nat} {bl : Int64} {sl la co : Nat → Nat} {f f' g g' c c' : Nat → Int32} (hC : Cl m sl la co) (hs : s < 64) (hb : b ≤ 9) (hf : Ar m f sl) (hf' : Ar m f' sl) (hg : Ar m g la) (hg' : Ar m g' la) (hc : Ar m c co) (hc' : Ar m c' co) (p1 : Int32) : ∃ (r : Int32) (bl' : Int64), f_X9_likeliest (nI s) (nI b) (nI m) f g c p1 = some r ∧ f_X10_likeliest (nI m) (nI s) (nI b) bl f' g' c' p1 = some (r, bl') := by
  have hm := hC.1
  unfold f_X9_likeliest f_X10_likeliest
  rw [set_X1 hm, set_X10 hm, if_B, if_B]
  by_cases h2 : inR p1 0 (((2 ^ m : Nat) : Int) - 1) = true
  · rw [if_pos h2, if_pos h2]
    have h6 := p6 hm
    obtain ⟨t, ht, rfl⟩ := inR_t (by omega) h2
    obtain ⟨r, bl', e1, e2⟩ := likely_L (t := t) hC hs hb (by omega) hf hf' hg hg' hc hc' 4 1 300 (-9) 0 bl rfl (by decide) (by decide)
    have e1' : f_X0_likeliestOrder (nI s) (nI b) (nI m) f g c (nI t) = some r := e1
    rw [e1', ob1]
    exact ⟨r, bl', rfl, e2⟩
  · rw [if_neg h2, if_neg h2]; exact ⟨_, _, rfl, rfl⟩
