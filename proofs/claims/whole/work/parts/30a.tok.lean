/-! the text's tokens -/
def TX (tl : Nat) (T : Nat → Nat) (xb mt : Nat → Int32) : Prop := tl ≤ 200 ∧ ∀ j, j < tl → T j < 256 ∧ xb j = nI (T j) ∧ mt j = nI (T j)
theorem RX.tx {tl : Nat} {xb mt : Nat → Int32} (h : RX tl xb mt) : ∃ T, TX tl T xb mt := by
  refine ⟨fun j => (mt j).toNatClampNeg, h.1, fun j hj => ?_⟩
  obtain ⟨h1, c, hc, h2⟩ := h.2 j hj
  have e : (mt j).toNatClampNeg = c := by rw [h2]; exact cl (by omega)
  exact ⟨by show (mt j).toNatClampNeg < 256; rw [e]; exact hc, by show xb j = nI (mt j).toNatClampNeg; rw [e, h1, h2], by show mt j = nI (mt j).toNatClampNeg; rw [e, h2]⟩
def lett (c : Nat) : Bool := decide (97 ≤ c) && decide (c ≤ 122)
def fig (c : Nat) : Bool := decide (48 ≤ c) && decide (c ≤ 57)
theorem lett_iff {c : Nat} : lett c = true ↔ 97 ≤ c ∧ c ≤ 122 := by unfold lett; rw [Bool.and_eq_true, decide_eq_true_eq, decide_eq_true_eq]
theorem fig_iff {c : Nat} : fig c = true ↔ 48 ≤ c ∧ c ≤ 57 := by unfold fig; rw [Bool.and_eq_true, decide_eq_true_eq, decide_eq_true_eq]
theorem lett_X5 : ∀ c, c < 256 → f_X5_isLetter (nI c) = B01 (lett c) := by decide +kernel
theorem fig_X5 : ∀ c, c < 256 → f_X5_isDigit (nI c) = B01 (fig c) := by decide +kernel
theorem lett_X10 : ∀ c, c < 256 → f_X10_isLetter (nI c) = B01 (lett c) := by decide +kernel
theorem fig_X10 : ∀ c, c < 256 → f_X10_isFigure (nI c) = B01 (fig c) := by decide +kernel
theorem byte_in {tl p : Nat} {T : Nat → Nat} {xb mt : Nat → Int32} (h : TX tl T xb mt) (hp : p < tl) : f_X8_byteAt (nI tl) xb (nI p) = some (nI (T p)) := by
  have := h.1
  unfold f_X8_byteAt
  rw [if_neg (nI_pos (by omega)), if_neg (nI_ge hp (by omega)), if_pos (gin (by omega) (by decide)), cl (by omega), (h.2 p hp).2.1]
theorem byte_out {tl p : Nat} {xb : Nat → Int32} (hp : tl ≤ p) (hp2 : p < 1000) : f_X8_byteAt (nI tl) xb (nI p) = some (-1) := by
  unfold f_X8_byteAt
  rw [if_neg (nI_pos (by omega)), if_pos (nI_le hp (by omega))]
/-- over what holds -/
def ov (P : Nat → Bool) (T : Nat → Nat) : Nat → Nat → Nat
  | 0, p => p
  | d + 1, p => if P (T p) = true then ov P T d (p + 1) else p
theorem ov_ge {P : Nat → Bool} {T : Nat → Nat} : ∀ d p, p ≤ ov P T d p ∧ ov P T d p ≤ p + d := by
  intro d
  induction d with
  | zero => intro p; exact ⟨Nat.le_refl _, Nat.le_refl _⟩
  | succ d ih =>
    intro p; rw [ov]
    split
    · have := ih (p + 1); omega
    · omega
theorem ov_all {P : Nat → Bool} {T : Nat → Nat} : ∀ d p i, p ≤ i → i < ov P T d p → P (T i) = true := by
  intro d
  induction d with
  | zero => intro p i h1 h2; rw [ov] at h2; omega
  | succ d ih =>
    intro p i h1 h2; rw [ov] at h2
    split at h2
    · rename_i h
      by_cases hq : i = p
      · rw [hq]; exact h
      · exact ih (p + 1) i (by omega) h2
    · omega
theorem ov_one {P : Nat → Bool} {T : Nat → Nat} {tl st : Nat} (h : st < tl) (hp : P (T st) = true) : ov P T (tl - st) st = ov P T (tl - (st + 1)) (st + 1) := by
  rw [show tl - st = (tl - (st + 1)) + 1 by omega, ov, if_pos hp]
def sp (c : Nat) : Bool := decide (c = 32)
theorem sp_nI {c : Nat} (h : c < 256) : (nI c = (32 : Int32)) ↔ sp c = true := by
  unfold sp; rw [decide_eq_true_eq]; exact nI_eq (b := 32) (by omega) (by decide)
theorem sk_X5 {tl : Nat} {T : Nat → Nat} {xb mt : Nat → Int32} (h : TX tl T xb mt) (tk en v : Int32) : ∀ (d p n : Nat), p + d = tl → d < n → f_X5_advance_L8 (nI tl) xb n tk (nI p) en v = f_X5_advance_L51 (nI tl) xb tk (nI (ov sp T d p)) en v := by
  have h200 := h.1
  intro d
  induction d with
  | zero =>
    intro p n hp hn
    obtain ⟨n, rfl⟩ : ∃ j, n = j + 1 := ⟨n - 1, by omega⟩
    rw [f_X5_advance_L8, show f_X8_length (nI tl) = nI tl from rfl, if_pos (nI_le (by omega) (by omega)), ov]
  | succ d ih =>
    intro p n hp hn
    obtain ⟨n, rfl⟩ : ∃ j, n = j + 1 := ⟨n - 1, by omega⟩
    rw [f_X5_advance_L8, show f_X8_length (nI tl) = nI tl from rfl, if_neg (nI_ge (by omega) (by omega)), byte_in h (by omega), ob1, ov]
    by_cases hc : sp (T p) = true
    · rw [if_pos ((sp_nI (h.2 p (by omega)).1).mpr hc), if_pos hc, nI_1]
      exact ih (p + 1) n (by omega) (by omega)
    · rw [if_neg (fun q => hc ((sp_nI (h.2 p (by omega)).1).mp q)), if_neg hc]
theorem sk_X10 {tl : Nat} {T : Nat → Nat} {xb mt : Nat → Int32} (h : TX tl T xb mt) (b k : Int32) (v : Int64) : ∀ (d p n : Nat), p + d = tl → d < n → f_X10_next_L0 (nI tl) mt n (nI p) b k v = f_X10_next_L38 (nI tl) mt (nI (ov sp T d p)) b k v := by
  have h200 := h.1
  intro d
  induction d with
  | zero =>
    intro p n hp hn
    obtain ⟨n, rfl⟩ : ∃ j, n = j + 1 := ⟨n - 1, by omega⟩
    rw [f_X10_next_L0, if_pos (nI_le (by omega) (by omega)), ov]
  | succ d ih =>
    intro p n hp hn
    obtain ⟨n, rfl⟩ : ∃ j, n = j + 1 := ⟨n - 1, by omega⟩
    rw [f_X10_next_L0, if_neg (nI_ge (by omega) (by omega)), if_pos (gin (by omega) (by decide)), cl (by omega), (h.2 p (by omega)).2.2, ov]
    by_cases hc : sp (T p) = true
    · rw [if_pos ((sp_nI (h.2 p (by omega)).1).mpr hc), if_pos hc, nI_1]
      exact ih (p + 1) n (by omega) (by omega)
    · rw [if_neg (fun q => hc ((sp_nI (h.2 p (by omega)).1).mp q)), if_neg hc]
/-! words -/
def wn (kw j : Nat) : Nat := ([[99, 104, 105, 108, 100], [108, 105, 116, 116, 108, 101]].getD kw []).getD j 0
theorem sch_wn : ∀ kw, kw < 2 → ∀ j, j < sLn.getD kw 0 → sch kw (nI j) = nI (wn kw j) := by decide +kernel
theorem wn_lt : ∀ kw, kw < 2 → ∀ j, j < sLn.getD kw 0 → wn kw j < 256 := by decide +kernel
theorem sLn_le : ∀ kw, kw < 2 → sLn.getD kw 0 ≤ 6 := by decide +kernel
theorem spell_L {tl st kw : Nat} {T : Nat → Nat} {xb mt : Nat → Int32} (hkw : kw < 2) (h : TX tl T xb mt) (hl : st + sLn.getD kw 0 ≤ tl) (en : Int32) : ∀ (d j n : Nat), j + d = sLn.getD kw 0 → d < n → ∃ ans : Bool, f_X5_spells_L20 (nI tl) xb (nI st) en kw n (nI j) = some (B01 ans) ∧ (ans = true ↔ ∀ i, j ≤ i → i < sLn.getD kw 0 → T (st + i) = wn kw i) := by
  have h200 := h.1
  have h6 := sLn_le kw hkw
  intro d
  induction d with
  | zero =>
    intro j n hp hn
    obtain ⟨n, rfl⟩ : ∃ j, n = j + 1 := ⟨n - 1, by omega⟩
    rw [f_X5_spells_L20, if_pos (nI_le (by omega) (by omega))]
    exact ⟨true, rfl, fun _ i h1 h2 => by omega, fun _ => rfl⟩
  | succ d ih =>
    intro j n hp hn
    obtain ⟨n, rfl⟩ : ∃ j, n = j + 1 := ⟨n - 1, by omega⟩
    have hT := (h.2 (st + j) (by omega)).1
    have hw := wn_lt kw hkw j (by omega)
    rw [f_X5_spells_L20, if_neg (nI_ge (by omega) (by omega)), nI_add, byte_in h (by omega), ob1, if_pos (gin (by omega) (by omega)), sch_wn kw hkw j (by omega), nI_1]
    by_cases hc : T (st + j) = wn kw j
    · obtain ⟨ans, e1, e2⟩ := ih (j + 1) n (by omega) (by omega)
      rw [if_pos (by rw [hc]), e1]
      refine ⟨ans, rfl, fun q i h1 h2 => ?_, fun q => e2.mpr (fun i h1 h2 => q i (by omega) h2)⟩
      by_cases hi : i = j
      · rw [hi]; exact hc
      · exact e2.mp q i (by omega) h2
    · rw [if_neg (fun q => hc ((nI_eq (by omega) (by omega)).mp q))]
      exact ⟨false, rfl, fun q => absurd q Bool.false_ne_true, fun q => absurd (q j (Nat.le_refl _) (by omega)) hc⟩
theorem spells_X5 {tl st en kw : Nat} {T : Nat → Nat} {xb mt : Nat → Int32} (hkw : kw < 2) (h : TX tl T xb mt) (h1 : st ≤ en) (h2 : en ≤ tl) : ∃ ans : Bool, f_X5_spells (nI tl) xb (nI st) (nI en) kw = some (B01 ans) ∧ (ans = true ↔ en - st = sLn.getD kw 0 ∧ ∀ i, i < sLn.getD kw 0 → T (st + i) = wn kw i) := by
  have h200 := h.1
  have h6 := sLn_le kw hkw
  unfold f_X5_spells
  rw [pk_sub h1]
  by_cases hc : en - st = sLn.getD kw 0
  · obtain ⟨ans, e1, e2⟩ := spell_L hkw h (st := st) (by omega) (nI en) (sLn.getD kw 0) 0 300 (by omega) (by omega)
    rw [if_pos (by rw [hc])]
    exact ⟨ans, e1, fun q => ⟨hc, fun i hi => e2.mp q i (Nat.zero_le _) hi⟩, fun q => e2.mpr (fun i _ hi => q.2 i hi)⟩
  · rw [if_neg (fun q => hc ((nI_eq (by omega) (by omega)).mp q))]
    exact ⟨false, rfl, fun q => absurd q Bool.false_ne_true, fun q => absurd q.1 hc⟩
theorem word_X5 {tl st : Nat} {T : Nat → Nat} {xb mt : Nat → Int32} (h : TX tl T xb mt) (tk : Int32) : ∀ (d e n : Nat), e + d = tl → d < n → f_X5_advanceOverWord_L0 (nI tl) xb (nI st) n tk (nI e) = f_X5_advanceOverWord_L44 (nI tl) xb (nI st) tk (nI (ov lett T d e)) := by
  have h200 := h.1
  intro d
  induction d with
  | zero =>
    intro p n hp hn
    obtain ⟨n, rfl⟩ : ∃ j, n = j + 1 := ⟨n - 1, by omega⟩
    rw [f_X5_advanceOverWord_L0, show f_X8_length (nI tl) = nI tl from rfl, if_pos (nI_le (by omega) (by omega)), ov]
  | succ d ih =>
    intro p n hp hn
    obtain ⟨n, rfl⟩ : ∃ j, n = j + 1 := ⟨n - 1, by omega⟩
    rw [f_X5_advanceOverWord_L0, show f_X8_length (nI tl) = nI tl from rfl, if_neg (nI_ge (by omega) (by omega)), byte_in h (by omega), ob1, lett_X5 _ (h.2 p (by omega)).1, if_B, ov]
    by_cases hc : lett (T p) = true
    · rw [if_pos hc, if_pos hc, nI_1]
      exact ih (p + 1) n (by omega) (by omega)
    · rw [if_neg hc, if_neg hc]
def hh (T : Nat → Nat) (st : Nat) : Nat → Nat
  | 0 => 0
  | n + 1 => 32 * hh T st n + T (st + n) - 96
def hv (T : Nat → Nat) (st n : Nat) : Int64 := if n ≤ 7 then lN (hh T st n) else -1
theorem hv_X10 {tl st : Nat} {T : Nat → Nat} {xb mt : Nat → Int32} (h : TX tl T xb mt) : ∀ (d e n : Nat), e + d = tl → st ≤ e → d < n → f_X10_next_L143 (nI tl) mt n (nI e) (nI st) 1 (hv T st (e - st)) = some (nI (ov lett T d e), nI st, 1, hv T st (ov lett T d e - st)) := by
  have h200 := h.1
  have z : ∀ (e : Nat) (v : Int64), f_X10_next_L237 (nI tl) mt 300 (nI e) (nI st) 1 v = some (nI e, nI st, 1, v) := by
    intro e v
    rw [f_X10_next_L237, if_neg (by decide)]
    unfold f_X10_next_L330
    rw [if_neg (by decide)]
  intro d
  induction d with
  | zero =>
    intro p n hp hs hn
    obtain ⟨n, rfl⟩ : ∃ j, n = j + 1 := ⟨n - 1, by omega⟩
    rw [f_X10_next_L143, if_pos rfl, if_pos (nI_le (by omega) (by omega)), z, ov]
  | succ d ih =>
    intro p n hp hs hn
    obtain ⟨n, rfl⟩ : ∃ j, n = j + 1 := ⟨n - 1, by omega⟩
    rw [f_X10_next_L143, if_pos rfl, if_neg (nI_ge (by omega) (by omega)), if_pos (gin (by omega) (by decide)), cl (by omega), (h.2 p (by omega)).2.2, lett_X10 _ (h.2 p (by omega)).1, if_B, ov]
    by_cases hc : lett (T p) = true
    · rw [if_pos hc, if_pos hc, pk_sub hs]
      have hl := lett_iff.mp hc
      have key : (if (7 : Int32) ≤ nI (p - st) then f_X10_next_L221 (nI tl) mt (f_X10_next_L143 (nI tl) mt n) (nI p) (nI st) 1 (hv T st (p - st)) (-1 : Int64) else (if gIn (nI p) 200 = true then f_X10_next_L221 (nI tl) mt (f_X10_next_L143 (nI tl) mt n) (nI p) (nI st) 1 (hv T st (p - st)) ((((32 : Int64) * hv T st (p - st)) + ((nI (T p)).toInt64)) - (96 : Int64)) else none)) = f_X10_next_L143 (nI tl) mt n (nI (p + 1)) (nI st) 1 (hv T st (p + 1 - st)) := by
        by_cases h7 : 7 ≤ p - st
        · rw [if_pos (show (7 : Int32) ≤ nI (p - st) from nI_le (a := 7) h7 (by omega))]
          unfold f_X10_next_L221
          rw [nI_1, show hv T st (p + 1 - st) = -1 from if_neg (by omega)]
        · rw [if_neg (show ¬ (7 : Int32) ≤ nI (p - st) from nI_ge (b := 7) (by omega) (by decide)), if_pos (gin (by omega) (by decide))]
          unfold f_X10_next_L221
          rw [nI_1, nI_l (by omega), show hv T st (p - st) = lN (hh T st (p - st)) from if_pos (by omega), show hv T st (p + 1 - st) = lN (hh T st (p - st + 1)) from by rw [show p + 1 - st = p - st + 1 by omega]; exact if_pos (by omega), hh, show st + (p - st) = p by omega, il64 32, lN_mul, lN_add, il64 96, lN_sub (by omega)]
      rw [key]
      exact ih (p + 1) n (by omega) (by omega) (by omega)
    · rw [if_neg hc, if_neg hc, z]
theorem hv_word {T : Nat → Nat} {st n : Nat} (h : ∀ i, i < n → 97 ≤ T (st + i) ∧ T (st + i) ≤ 122) : (hv T st n = 3417476 ↔ n = 5 ∧ T (st + 0) = 99 ∧ T (st + 1) = 104 ∧ T (st + 2) = 105 ∧ T (st + 3) = 108 ∧ T (st + 4) = 100) ∧ (hv T st n = 412766597 ↔ n = 6 ∧ T (st + 0) = 108 ∧ T (st + 1) = 105 ∧ T (st + 2) = 116 ∧ T (st + 3) = 116 ∧ T (st + 4) = 108 ∧ T (st + 5) = 101) := by
  have hb : ∀ k, k ≤ n → hh T st k < 32 ^ k := by
    intro k
    induction k with
    | zero => intro _; exact Nat.one_pos
    | succ k ih =>
      intro hk
      have h1 := ih (by omega)
      have h2 := h k (by omega)
      rw [hh, Nat.pow_succ]
      omega
  unfold hv
  by_cases h7 : n ≤ 7
  · rw [if_pos h7]
    have hlt := hb n (Nat.le_refl _)
    have hp : (32 : Nat) ^ n ≤ 32 ^ 7 := Nat.pow_le_pow_right (by decide) h7
    have hp2 : (32 : Nat) ^ 7 < 2 ^ 63 := by decide
    rw [il64 3417476, il64 412766597, pk_lEQ (by omega) (by decide), pk_lEQ (by omega) (by decide)]
    clear hb hlt hp hp2
    have hn : n = 0 ∨ n = 1 ∨ n = 2 ∨ n = 3 ∨ n = 4 ∨ n = 5 ∨ n = 6 ∨ n = 7 := by omega
    rcases hn with rfl | rfl | rfl | rfl | rfl | rfl | rfl | rfl
    · clear h; rw [hh]; omega
    · have c0 := h 0 (by omega); clear h; rw [hh, hh]; omega
    · have c0 := h 0 (by omega); have c1 := h 1 (by omega); clear h; rw [hh, hh, hh]; omega
    · have c0 := h 0 (by omega); have c1 := h 1 (by omega); have c2 := h 2 (by omega); clear h; rw [hh, hh, hh, hh]; omega
    · have c0 := h 0 (by omega); have c1 := h 1 (by omega); have c2 := h 2 (by omega); have c3 := h 3 (by omega); clear h; rw [hh, hh, hh, hh, hh]; omega
    · have c0 := h 0 (by omega); have c1 := h 1 (by omega); have c2 := h 2 (by omega); have c3 := h 3 (by omega); have c4 := h 4 (by omega); clear h; rw [hh, hh, hh, hh, hh, hh]; omega
    · have c0 := h 0 (by omega); have c1 := h 1 (by omega); have c2 := h 2 (by omega); have c3 := h 3 (by omega); have c4 := h 4 (by omega); have c5 := h 5 (by omega); clear h; rw [hh, hh, hh, hh, hh, hh, hh]; omega
    · have c0 := h 0 (by omega); have c1 := h 1 (by omega); have c2 := h 2 (by omega); have c3 := h 3 (by omega); have c4 := h 4 (by omega); have c5 := h 5 (by omega); have c6 := h 6 (by omega); clear h; rw [hh, hh, hh, hh, hh, hh, hh, hh]; omega
  · rw [if_neg h7]
    constructor
    · exact ⟨fun q => absurd q (by decide), fun q => by omega⟩
    · exact ⟨fun q => absurd q (by decide), fun q => by omega⟩
