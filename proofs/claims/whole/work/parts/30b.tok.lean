/-! numbers, and the tokens of both -/
def stp (v c : Nat) : Nat := if v * 10 + c - 48 < 100 then v * 10 + c - 48 else 100
theorem num_X5 {tl st : Nat} {T : Nat → Nat} {xb mt : Nat → Int32} (h : TX tl T xb mt) (tk x1 : Int32) : ∀ (d e n v : Nat), e + d = tl → d < n → v ≤ 100 → ∃ v' : Nat, v' ≤ 100 ∧ f_X5_advanceOverNumber_L20 (nI tl) xb (nI st) n tk (nI e) (nI v) x1 = f_X5_advanceOverNumber_L95 (nI tl) xb (nI st) tk (nI (ov fig T d e)) (nI v') x1 ∧ (v = 100 → v' = 100) ∧ (10 ≤ v → e + 1 ≤ ov fig T d e → v' = 100) ∧ (1 ≤ v → e + 2 ≤ ov fig T d e → v' = 100) ∧ (ov fig T d e = e → v' = v) ∧ (ov fig T d e = e + 1 → v' = stp v (T e)) := by
  have h200 := h.1
  intro d
  induction d with
  | zero =>
    intro p n v hp hn hv
    obtain ⟨n, rfl⟩ : ∃ j, n = j + 1 := ⟨n - 1, by omega⟩
    refine ⟨v, hv, ?_, fun q => q, fun _ q => ?_, fun _ q => ?_, fun _ => rfl, fun q => ?_⟩
    · rw [f_X5_advanceOverNumber_L20, show f_X8_length (nI tl) = nI tl from rfl, if_pos (nI_le (by omega) (by omega)), ov]
    · rw [ov] at q; omega
    · rw [ov] at q; omega
    · rw [ov] at q; omega
  | succ d ih =>
    intro p n v hp hn hv
    obtain ⟨n, rfl⟩ : ∃ j, n = j + 1 := ⟨n - 1, by omega⟩
    have hT := (h.2 p (by omega)).1
    rw [f_X5_advanceOverNumber_L20, show f_X8_length (nI tl) = nI tl from rfl, if_neg (nI_ge (by omega) (by omega)), byte_in h (by omega), ob1, fig_X5 _ hT, if_B, ov]
    by_cases hc : fig (T p) = true
    · rw [if_pos hc, if_pos hc, ob1, nI_1]
      have hl := fig_iff.mp hc
      have key : (if (((nI v * (10 : Int32)) + nI (T p)) - (48 : Int32)) < (100 : Int32) then (((nI v * (10 : Int32)) + nI (T p)) - (48 : Int32)) else (100 : Int32)) = nI (stp v (T p)) := by
        rw [il 10, pk_mul, nI_add, il 48, pk_sub (by omega)]
        unfold stp
        by_cases h1 : v * 10 + T p - 48 < 100
        · rw [if_pos (show nI (v * 10 + T p - 48) < (100 : Int32) from nI_lt (b := 100) h1 (by decide)), if_pos h1]
        · rw [if_neg (show ¬ nI (v * 10 + T p - 48) < (100 : Int32) from nI_nlt (b := 100) (by omega) (by omega)), if_neg h1]; rfl
      rw [key]
      have hs : stp v (T p) ≤ 100 := by unfold stp; split <;> omega
      have hs1 : 1 ≤ v → 10 ≤ stp v (T p) := fun q => by unfold stp; split <;> omega
      have hs2 : 10 ≤ v → stp v (T p) = 100 := fun q => by unfold stp; split <;> omega
      have hg := ov_ge (P := fig) (T := T) d (p + 1)
      obtain ⟨v', h1, h2, h3, h4, h5, h6, h7⟩ := ih (p + 1) n (stp v (T p)) (by omega) (by omega) hs
      refine ⟨v', h1, h2, fun q => h3 (hs2 (by omega)), fun q _ => h3 (hs2 q), fun q q2 => h4 (hs1 q) (by omega), fun q => by omega, fun q => h6 q⟩
    · rw [if_neg hc, if_neg hc]
      exact ⟨v, hv, rfl, fun q => q, fun _ q => by omega, fun _ q => by omega, fun _ => rfl, fun q => by omega⟩
def rv (T : Nat → Nat) (st : Nat) : Nat → Int64
  | 0 => 0
  | 1 => lN (T st - 48)
  | 2 => lN (10 * (T st - 48) + (T (st + 1) - 48))
  | _ + 3 => 1000
theorem rv_X10 {tl st : Nat} {T : Nat → Nat} {xb mt : Nat → Int32} (h : TX tl T xb mt) (hf0 : fig (T st) = true) : ∀ (d e n : Nat), e + d = tl → st ≤ e → d < n → f_X10_next_L237 (nI tl) mt n (nI e) (nI st) 2 (rv T st (e - st)) = f_X10_next_L330 (nI tl) mt (nI (ov fig T d e)) (nI st) 2 (rv T st (ov fig T d e - st)) := by
  have h200 := h.1
  intro d
  induction d with
  | zero =>
    intro p n hp hs hn
    obtain ⟨n, rfl⟩ : ∃ j, n = j + 1 := ⟨n - 1, by omega⟩
    rw [f_X10_next_L237, if_pos rfl, if_pos (nI_le (by omega) (by omega)), ov]
  | succ d ih =>
    intro p n hp hs hn
    obtain ⟨n, rfl⟩ : ∃ j, n = j + 1 := ⟨n - 1, by omega⟩
    rw [f_X10_next_L237, if_pos rfl, if_neg (nI_ge (by omega) (by omega)), if_pos (gin (by omega) (by decide)), cl (by omega), (h.2 p (by omega)).2.2, fig_X10 _ (h.2 p (by omega)).1, if_B, ov]
    by_cases hc : fig (T p) = true
    · rw [if_pos hc, if_pos hc, pk_sub hs]
      have hl := fig_iff.mp hc
      have hl0 := fig_iff.mp hf0
      have hT := (h.2 p (by omega)).1
      have key : (if (2 : Int32) ≤ nI (p - st) then f_X10_next_L314 (nI tl) mt (f_X10_next_L237 (nI tl) mt n) (nI p) (nI st) 2 (rv T st (p - st)) (1000 : Int64) else (if gIn (nI p) 200 = true then f_X10_next_L314 (nI tl) mt (f_X10_next_L237 (nI tl) mt n) (nI p) (nI st) 2 (rv T st (p - st)) ((((10 : Int64) * rv T st (p - st)) + ((nI (T p)).toInt64)) - (48 : Int64)) else none)) = f_X10_next_L237 (nI tl) mt n (nI (p + 1)) (nI st) 2 (rv T st (p + 1 - st)) := by
        by_cases h7 : 2 ≤ p - st
        · rw [if_pos (show (2 : Int32) ≤ nI (p - st) from nI_le (a := 2) h7 (by omega))]
          unfold f_X10_next_L314
          rw [nI_1, show p + 1 - st = (p - st - 2) + 3 by omega]
          rfl
        · rw [if_neg (show ¬ (2 : Int32) ≤ nI (p - st) from nI_ge (b := 2) (by omega) (by decide)), if_pos (gin (by omega) (by decide))]
          unfold f_X10_next_L314
          rw [nI_1, nI_l (by omega)]
          have h01 : p = st ∨ p = st + 1 := by omega
          rcases h01 with rfl | rfl
          · rw [Nat.sub_self, show p + 1 - p = 1 by omega]
            have e : (10 : Int64) * rv T p 0 + lN (T p) - 48 = rv T p 1 := by
              show lN 10 * lN 0 + lN (T p) - lN 48 = lN (T p - 48)
              rw [lN_mul, lN_add, lN_sub (by omega)]
              congr 1; omega
            rw [e]
          · rw [show st + 1 - st = 1 by omega, show st + 1 + 1 - st = 2 by omega]
            have e : (10 : Int64) * rv T st 1 + lN (T (st + 1)) - 48 = rv T st 2 := by
              show lN 10 * lN (T st - 48) + lN (T (st + 1)) - lN 48 = lN (10 * (T st - 48) + (T (st + 1) - 48))
              rw [lN_mul, lN_add, lN_sub (by omega)]
              congr 1; omega
            rw [e]
      rw [key]
      exact ih (p + 1) n (by omega) (by omega) (by omega)
    · rw [if_neg hc, if_neg hc]
/-- the tokens agree -/
def TK (tk dv k : Int32) (v : Int64) : Prop := (tk = 0 ∧ k = 0) ∨ (tk = 4 ∧ k = 1 ∧ v = 3417476) ∨ (tk = 5 ∧ k = 1 ∧ v = 412766597) ∨ (∃ n, n ≤ 99 ∧ tk = 3 ∧ dv = nI n ∧ k = 2 ∧ v = lN n) ∨ (tk = 2 ∧ k = 3) ∨ (tk = 1 ∧ ((k = 1 ∧ v ≠ 3417476 ∧ v ≠ 412766597) ∨ (k = 2 ∧ v = lN 1000) ∨ k = 4))
theorem tok_word {tl st : Nat} {T : Nat → Nat} {xb mt : Nat → Int32} (h : TX tl T xb mt) (hst : st < tl) (hc : lett (T st) = true) (tk0 : Int32) (m v0 : Int32) : ∃ (en : Nat) (tk : Int32) (v : Int64), st < en ∧ en ≤ tl ∧ f_X5_advanceOverWord (nI tl) xb tk0 (nI st) (nI st + 1) = some (tk, nI en) ∧ f_X10_next_L118 (nI tl) mt (nI st) (nI st) m 0 1 = some (nI en, nI st, 1, v) ∧ TK tk v0 1 v := by
  have h200 := h.1
  have hg := ov_ge (P := lett) (T := T) (tl - (st + 1)) (st + 1)
  have hall : ∀ i, st ≤ i → i < ov lett T (tl - st) st → lett (T i) = true := fun i h1 h2 => ov_all _ _ i h1 h2
  rw [ov_one hst hc] at hall
  refine ⟨ov lett T (tl - (st + 1)) (st + 1), ?_⟩
  have e2 : f_X10_next_L118 (nI tl) mt (nI st) (nI st) m 0 1 = some (nI (ov lett T (tl - (st + 1)) (st + 1)), nI st, 1, hv T st (ov lett T (tl - (st + 1)) (st + 1) - st)) := by
    unfold f_X10_next_L118
    rw [if_neg (by decide), show nI st + (0 : Int32) = nI st from nI_add st 0]
    have := hv_X10 (st := st) h (tl - st) st 300 (by omega) (Nat.le_refl _) (by omega)
    rw [Nat.sub_self, ov_one hst hc] at this
    exact this
  have e1 : f_X5_advanceOverWord (nI tl) xb tk0 (nI st) (nI st + 1) = f_X5_advanceOverWord_L44 (nI tl) xb (nI st) tk0 (nI (ov lett T (tl - (st + 1)) (st + 1))) := by
    rw [nI_1]
    have := word_X5 (st := st) h tk0 (tl - (st + 1)) (st + 1) 301 (by omega) (by omega)
    rw [← this, f_X5_advanceOverWord_L0]
    rfl
  rw [e1, e2]
  generalize hen : ov lett T (tl - (st + 1)) (st + 1) = en at *
  obtain ⟨a0, s0, w0⟩ := spells_X5 (kw := 0) (by decide) h (show st ≤ en by omega) (show en ≤ tl by omega)
  obtain ⟨a1, s1, w1⟩ := spells_X5 (kw := 1) (by decide) h (show st ≤ en by omega) (show en ≤ tl by omega)
  unfold f_X5_advanceOverWord_L44
  rw [s0, s1, ob1, ob1, if_B, if_B]
  obtain ⟨v0, v1⟩ := hv_word (T := T) (st := st) (n := en - st) (fun i hi => lett_iff.mp (hall (st + i) (by omega) (by omega)))
  have b0 : a0 = true ↔ hv T st (en - st) = 3417476 := by
    rw [w0, v0]
    constructor
    · rintro ⟨q, w⟩
      exact ⟨q, w 0 (by decide), w 1 (by decide), w 2 (by decide), w 3 (by decide), w 4 (by decide)⟩
    · rintro ⟨q, q0, q1, q2, q3, q4⟩
      refine ⟨q, fun i hi => ?_⟩
      have hi : i < 5 := hi
      have : i = 0 ∨ i = 1 ∨ i = 2 ∨ i = 3 ∨ i = 4 := by omega
      rcases this with rfl | rfl | rfl | rfl | rfl <;> assumption
  have b1 : a1 = true ↔ hv T st (en - st) = 412766597 := by
    rw [w1, v1]
    constructor
    · rintro ⟨q, w⟩
      exact ⟨q, w 0 (by decide), w 1 (by decide), w 2 (by decide), w 3 (by decide), w 4 (by decide), w 5 (by decide)⟩
    · rintro ⟨q, q0, q1, q2, q3, q4, q5⟩
      refine ⟨q, fun i hi => ?_⟩
      have hi : i < 6 := hi
      have : i = 0 ∨ i = 1 ∨ i = 2 ∨ i = 3 ∨ i = 4 ∨ i = 5 := by omega
      rcases this with rfl | rfl | rfl | rfl | rfl | rfl <;> assumption
  refine ⟨if a0 = true then 4 else if a1 = true then 5 else 1, hv T st (en - st), by omega, by omega, ?_, rfl, ?_⟩
  · cases a0 <;> cases a1 <;> rfl
  · by_cases c0 : a0 = true
    · rw [if_pos c0]; exact Or.inr (Or.inl ⟨rfl, rfl, b0.mp c0⟩)
    · rw [if_neg c0]
      by_cases c1 : a1 = true
      · rw [if_pos c1]; exact Or.inr (Or.inr (Or.inl ⟨rfl, rfl, b1.mp c1⟩))
      · rw [if_neg c1]; exact Or.inr (Or.inr (Or.inr (Or.inr (Or.inr ⟨rfl, Or.inl ⟨rfl, fun q => c0 (b0.mpr q), fun q => c1 (b1.mpr q)⟩⟩))))
theorem tok_num {tl st : Nat} {T : Nat → Nat} {xb mt : Nat → Int32} (h : TX tl T xb mt) (hst : st < tl) (hc : fig (T st) = true) (tk0 v0 m : Int32) : ∃ (en : Nat) (tk dv k : Int32) (v : Int64), st < en ∧ en ≤ tl ∧ f_X5_advanceOverNumber (nI tl) xb tk0 (nI st) (nI st + 1) v0 = some (tk, nI en, dv) ∧ f_X10_next_L118 (nI tl) mt (nI st) (nI st) m 0 2 = some (nI en, nI st, k, v) ∧ TK tk dv k v := by
  have h200 := h.1
  have hT := (h.2 st hst).1
  have hl := fig_iff.mp hc
  have hg := ov_ge (P := fig) (T := T) (tl - (st + 1)) (st + 1)
  have hall : ∀ i, st ≤ i → i < ov fig T (tl - st) st → fig (T i) = true := fun i h1 h2 => ov_all _ _ i h1 h2
  rw [ov_one hst hc] at hall
  have e2 : f_X10_next_L118 (nI tl) mt (nI st) (nI st) m 0 2 = f_X10_next_L330 (nI tl) mt (nI (ov fig T (tl - (st + 1)) (st + 1))) (nI st) 2 (rv T st (ov fig T (tl - (st + 1)) (st + 1) - st)) := by
    unfold f_X10_next_L118
    rw [if_neg (by decide), show nI st + (0 : Int32) = nI st from nI_add st 0, f_X10_next_L143, if_neg (by decide)]
    have := rv_X10 (st := st) h hc (tl - st) st 300 (by omega) (Nat.le_refl _) (by omega)
    rw [Nat.sub_self, ov_one hst hc] at this
    exact this
  obtain ⟨v', hv', e1, -, -, w3, w1, w2⟩ := num_X5 (st := st) h tk0 (nI (T st)) (tl - (st + 1)) (st + 1) 300 (T st - 48) (by omega) (by omega) (by omega)
  have e1' : f_X5_advanceOverNumber (nI tl) xb tk0 (nI st) (nI st + 1) v0 = f_X5_advanceOverNumber_L95 (nI tl) xb (nI st) tk0 (nI (ov fig T (tl - (st + 1)) (st + 1))) (nI v') (nI (T st)) := by
    unfold f_X5_advanceOverNumber
    rw [byte_in h hst, ob1, nI_1, il 48, pk_sub (by omega), e1]
  rw [e1', e2]
  generalize hen : ov fig T (tl - (st + 1)) (st + 1) = en at *
  refine ⟨en, ?_⟩
  unfold f_X5_advanceOverNumber_L95 f_X5_advanceOverNumber_L118 f_X5_advanceOverNumber_L119 f_X10_next_L330
  rw [if_pos (show (2 : Int32) = 2 from rfl), if_pos (gin (by omega) (by decide)), cl (by omega), (h.2 st hst).2.2, pk_sub (show st ≤ en by omega)]
  have cle : ∀ n : Nat, n ≤ 200 → ((nI n ≤ (1 : Int32)) ↔ n ≤ 1) := fun n hn => nI_leI (b := 1) (by omega) (by decide)
  by_cases h48 : T st = 48
  · rw [if_pos (show nI (T st) = (48 : Int32) from by rw [h48]; rfl), if_pos (show nI (T st) = (48 : Int32) from by rw [h48]; rfl)]
    by_cases h1 : en - st ≤ 1
    · obtain rfl : en = st + 1 := by omega
      have hv0 := w1 rfl
      rw [h48] at hv0
      obtain rfl : v' = 0 := hv0
      rw [if_pos ((cle _ (by omega)).mpr h1), if_pos ((cle _ (by omega)).mpr h1), show st + 1 - st = 1 by omega]
      refine ⟨3, 0, 2, 0, by omega, by omega, rfl, ?_, Or.inr (Or.inr (Or.inr (Or.inl ⟨0, by omega, rfl, rfl, rfl, rfl⟩)))⟩
      show some (nI (st + 1), nI st, (2 : Int32), lN (T st - 48)) = _
      rw [h48]; rfl
    · rw [if_neg (fun q => h1 ((cle _ (by omega)).mp q)), if_neg (fun q => h1 ((cle _ (by omega)).mp q))]
      refine ⟨1, nI v', 4, rv T st (en - st), by omega, by omega, ?_, rfl, Or.inr (Or.inr (Or.inr (Or.inr (Or.inr ⟨rfl, Or.inr (Or.inr rfl)⟩))))⟩
      rw [if_neg (show ¬ (1 : Int32) = 0 by decide)]
      split <;> rfl
  · have hne : ¬ nI (T st) = (48 : Int32) := fun q => h48 ((nI_eq (b := 48) (by omega) (by decide)).mp q)
    rw [if_neg hne, if_neg hne]
    have hcase : en = st + 1 ∨ en = st + 2 ∨ st + 3 ≤ en := by omega
    rcases hcase with rfl | rfl | h3
    · have hv0 := w1 rfl
      subst hv0
      rw [show st + 1 - st = 1 by omega]
      refine ⟨3, nI (T st - 48), 2, lN (T st - 48), by omega, by omega, ?_, rfl, Or.inr (Or.inr (Or.inr (Or.inl ⟨T st - 48, by omega, rfl, rfl, rfl, rfl⟩)))⟩
      rw [if_neg (show ¬ (99 : Int32) < nI (T st - 48) from nI_nlt (a := 99) (by omega) (by omega)), if_pos rfl]
    · have hv0 := w2 rfl
      have hl1 := fig_iff.mp (hall (st + 1) (by omega) (by omega))
      have hst2 : stp (T st - 48) (T (st + 1)) = 10 * (T st - 48) + (T (st + 1) - 48) := by unfold stp; split <;> omega
      rw [hst2] at hv0
      subst hv0
      rw [show st + 2 - st = 2 by omega]
      refine ⟨3, nI (10 * (T st - 48) + (T (st + 1) - 48)), 2, lN (10 * (T st - 48) + (T (st + 1) - 48)), by omega, by omega, ?_, rfl, Or.inr (Or.inr (Or.inr (Or.inl ⟨10 * (T st - 48) + (T (st + 1) - 48), by omega, rfl, rfl, rfl, rfl⟩)))⟩
      rw [if_neg (show ¬ (99 : Int32) < nI (10 * (T st - 48) + (T (st + 1) - 48)) from nI_nlt (a := 99) (by omega) (by omega)), if_pos rfl]
    · obtain rfl := w3 (by omega) (by omega)
      rw [show en - st = (en - st - 3) + 3 by omega]
      exact ⟨1, nI 100, 2, 1000, by omega, by omega, rfl, rfl, Or.inr (Or.inr (Or.inr (Or.inr (Or.inr ⟨rfl, Or.inr (Or.inl ⟨rfl, rfl⟩)⟩))))⟩
theorem token {tl p : Nat} {T : Nat → Nat} {xb mt : Nat → Int32} (h : TX tl T xb mt) (hp : p ≤ tl) (tk0 st0 v0 b0 k0 : Int32) (w0 : Int64) : ∃ (st : Nat) (en at' tk dv k : Int32) (v : Int64), f_X5_advance (nI tl) xb tk0 st0 (nI p) v0 = some (tk, nI st, en, dv) ∧ f_X10_next (nI tl) (nI p) b0 k0 w0 mt = some (at', nI st, k, v) ∧ TK tk dv k v ∧ p ≤ st ∧ st ≤ tl ∧ (tk = 0 ∨ ∃ q : Nat, en = nI q ∧ st < q ∧ q ≤ tl ∧ (tk = 1 ∨ at' = nI q)) := by
  have h200 := h.1
  have e1 : f_X5_advance (nI tl) xb tk0 st0 (nI p) v0 = f_X5_advance_L51 (nI tl) xb tk0 (nI (ov sp T (tl - p) p)) (nI p) v0 := sk_X5 h tk0 (nI p) v0 (tl - p) p 300 (by omega) (by omega)
  have e2 : f_X10_next (nI tl) (nI p) b0 k0 w0 mt = f_X10_next_L38 (nI tl) mt (nI (ov sp T (tl - p) p)) b0 k0 w0 := by
    rw [← sk_X10 h b0 k0 w0 (tl - p) p 301 (by omega) (by omega), f_X10_next_L0]
    rfl
  have hg := ov_ge (P := sp) (T := T) (tl - p) p
  rw [e1, e2]
  generalize ov sp T (tl - p) p = st at *
  refine ⟨st, ?_⟩
  unfold f_X5_advance_L51 f_X10_next_L38
  by_cases hst : st < tl
  · have hT := (h.2 st hst).1
    rw [byte_in h hst, ob1, if_pos (nI_pos' (by omega)), lett_X5 _ hT, fig_X5 _ hT, if_B, if_B, if_neg (nI_ge hst (by omega)), if_pos (gin (by omega) (by decide)), cl (by omega), (h.2 st hst).2.2]
    unfold f_X10_next_L75
    rw [if_pos (nI_pos' (by omega)), lett_X10 _ hT, fig_X10 _ hT, if_B, if_B]
    by_cases hl : lett (T st) = true
    · rw [if_pos hl, if_pos hl]
      obtain ⟨en, tk, v, h1, h2, h3, h4, h5⟩ := tok_word h hst hl tk0 k0 v0
      rw [h3, h4, ob1]
      exact ⟨nI en, nI en, tk, v0, 1, v, rfl, rfl, h5, by omega, by omega, Or.inr ⟨en, rfl, h1, h2, Or.inr rfl⟩⟩
    · rw [if_neg hl, if_neg hl]
      by_cases hf : fig (T st) = true
      · rw [if_pos hf, if_pos hf]
        obtain ⟨en, tk, dv, k, v, h1, h2, h3, h4, h5⟩ := tok_num h hst hf tk0 v0 k0
        rw [h3, h4, ob1]
        exact ⟨nI en, nI en, tk, dv, k, v, rfl, rfl, h5, by omega, by omega, Or.inr ⟨en, rfl, h1, h2, Or.inr rfl⟩⟩
      · rw [if_neg hf, if_neg hf]
        unfold f_X10_next_L118
        by_cases h59 : nI (T st) = (59 : Int32)
        · rw [if_pos h59, if_pos h59, if_pos rfl, f_X10_next_L143, if_neg (by decide), f_X10_next_L237, if_neg (by decide)]
          unfold f_X10_next_L330
          rw [if_neg (by decide), nI_1]
          exact ⟨_, _, 2, v0, 3, 0, rfl, rfl, Or.inr (Or.inr (Or.inr (Or.inr (Or.inl ⟨rfl, rfl⟩)))), by omega, by omega, Or.inr ⟨st + 1, rfl, by omega, by omega, Or.inr rfl⟩⟩
        · rw [if_neg h59, if_neg h59, if_neg (by decide), f_X10_next_L143, if_neg (by decide), f_X10_next_L237, if_neg (by decide)]
          unfold f_X10_next_L330
          rw [if_neg (by decide), nI_1]
          exact ⟨_, _, 1, v0, 4, 0, rfl, rfl, Or.inr (Or.inr (Or.inr (Or.inr (Or.inr ⟨rfl, Or.inr (Or.inr rfl)⟩)))), by omega, by omega, Or.inr ⟨st + 1, rfl, by omega, by omega, Or.inl rfl⟩⟩
  · rw [byte_out (by omega) (by omega), ob1, if_neg (by decide), if_pos (nI_le (by omega) (by omega))]
    unfold f_X10_next_L75
    rw [if_neg (by decide)]
    unfold f_X10_next_L118
    rw [if_neg (by decide), f_X10_next_L143, if_neg (by decide), f_X10_next_L237, if_neg (by decide)]
    unfold f_X10_next_L330
    rw [if_neg (by decide)]
    exact ⟨_, _, 0, v0, 0, 0, rfl, rfl, Or.inl ⟨rfl, rfl⟩, by omega, by omega, Or.inl rfl⟩
