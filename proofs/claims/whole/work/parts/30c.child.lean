/-! one child, or one little one, read -/
def Rd (n : Nat) (mr : Nat → Int32) (sl la co : Nat → Nat) : Prop := ∀ k, k < n → mr (3 * k) = nI (sl k) ∧ mr (3 * k + 1) = nI (la k) ∧ mr (3 * k + 2) = nI (co k)
theorem within_n {n : Nat} (hn : n < 2 ^ 31) (hi : Int32) : f_X10_within (lN n) (0 : Int32).toInt64 hi.toInt64 = B01 (decide ((n : Int) ≤ hi.toInt)) := by
  rw [within_eq, lN_toInt hn, Int32.toInt_toInt64, Int32.toInt_toInt64]
  congr 1
  have e0 : (0 : Int32).toInt = 0 := rfl
  by_cases h : (n : Int) ≤ hi.toInt
  · rw [decide_eq_true h, decide_eq_true ⟨by omega, h⟩]
  · rw [decide_eq_false h, decide_eq_false (fun q => h q.2)]
theorem tk_num {tl p : Nat} {T : Nat → Nat} {xb mt : Nat → Int32} (h : TX tl T xb mt) (hp : p ≤ tl) (tk0 st0 v0 b0 k0 : Int32) (w0 : Int64) : ∃ st : Nat, (∃ n q : Nat, n ≤ 99 ∧ p < q ∧ q ≤ tl ∧ f_X5_advance (nI tl) xb tk0 st0 (nI p) v0 = some (3, nI st, nI q, nI n) ∧ ∀ hi : Int32, f_X10_takes (nI tl) (nI p) b0 k0 w0 mt 0 hi = some (B01 (decide ((n : Int) ≤ hi.toInt)), nI q, nI st, 2, lN n)) ∨ (∃ tk en dv : Int32, ¬ tk = 3 ∧ f_X5_advance (nI tl) xb tk0 st0 (nI p) v0 = some (tk, nI st, en, dv) ∧ ∀ hi : Int32, hi.toInt ≤ 9 → ∃ (at' k : Int32) (v : Int64), f_X10_takes (nI tl) (nI p) b0 k0 w0 mt 0 hi = some (0, at', nI st, k, v)) := by
  obtain ⟨st, en, at', tk, dv, k, v, e1, e2, hT, h1, h2, h3⟩ := token h hp tk0 st0 v0 b0 k0 w0
  have et : ∀ hi : Int32, f_X10_takes (nI tl) (nI p) b0 k0 w0 mt 0 hi = if k = 2 then (if f_X10_within v (0 : Int32).toInt64 hi.toInt64 = 0 then some ((0 : Int32), at', nI st, k, v) else some ((1 : Int32), at', nI st, k, v)) else some ((0 : Int32), at', nI st, k, v) := by
    intro hi; unfold f_X10_takes; rw [e2, ob1]
  refine ⟨st, ?_⟩
  rcases hT with ⟨rfl, rfl⟩ | ⟨rfl, rfl, hv⟩ | ⟨rfl, rfl, hv⟩ | ⟨n, hn, rfl, rfl, rfl, rfl⟩ | ⟨rfl, rfl⟩ | ⟨rfl, hk⟩
  · exact Or.inr ⟨_, _, _, by decide, e1, fun hi _ => ⟨_, _, _, by rw [et, if_neg (by decide)]⟩⟩
  · exact Or.inr ⟨_, _, _, by decide, e1, fun hi _ => ⟨_, _, _, by rw [et, if_neg (by decide)]⟩⟩
  · exact Or.inr ⟨_, _, _, by decide, e1, fun hi _ => ⟨_, _, _, by rw [et, if_neg (by decide)]⟩⟩
  · rcases h3 with h3 | ⟨q, rfl, hq1, hq2, h3 | rfl⟩
    · exact absurd h3 (by decide)
    · exact absurd h3 (by decide)
    · refine Or.inl ⟨n, q, hn, by omega, hq2, e1, fun hi => ?_⟩
      rw [et, if_pos rfl, within_n (by omega), if_B]
      by_cases hd : (n : Int) ≤ hi.toInt
      · rw [decide_eq_true hd]; rfl
      · rw [decide_eq_false hd]; rfl
  · exact Or.inr ⟨_, _, _, by decide, e1, fun hi _ => ⟨_, _, _, by rw [et, if_neg (by decide)]⟩⟩
  · refine Or.inr ⟨1, en, dv, by decide, e1, fun hi h9 => ⟨at', k, v, ?_⟩⟩
    · rw [et]
      rcases hk with ⟨rfl, -⟩ | ⟨rfl, rfl⟩ | rfl
      · rw [if_neg (by decide)]
      · rw [if_pos rfl, within_n (by decide), if_B, if_neg]
        intro q
        have := of_decide_eq_true q
        omega
      · rw [if_neg (by decide)]
theorem tk_stop {tl p : Nat} {T : Nat → Nat} {xb mt : Nat → Int32} (h : TX tl T xb mt) (hp : p ≤ tl) (tk0 st0 v0 b0 k0 : Int32) (w0 : Int64) : ∃ st : Nat, (∃ (q : Nat) (dv : Int32) (v : Int64), p < q ∧ q ≤ tl ∧ f_X5_advance (nI tl) xb tk0 st0 (nI p) v0 = some (2, nI st, nI q, dv) ∧ f_X10_stops (nI tl) (nI p) b0 k0 w0 mt = some (1, nI q, nI st, 3, v)) ∨ (∃ tk en dv at' k : Int32, ∃ v : Int64, ¬ tk = 2 ∧ f_X5_advance (nI tl) xb tk0 st0 (nI p) v0 = some (tk, nI st, en, dv) ∧ f_X10_stops (nI tl) (nI p) b0 k0 w0 mt = some (0, at', nI st, k, v)) := by
  obtain ⟨st, en, at', tk, dv, k, v, e1, e2, hT, h1, h2, h3⟩ := token h hp tk0 st0 v0 b0 k0 w0
  have et : f_X10_stops (nI tl) (nI p) b0 k0 w0 mt = if k = 3 then some ((1 : Int32), at', nI st, k, v) else some ((0 : Int32), at', nI st, k, v) := by
    unfold f_X10_stops; rw [e2, ob1]
  refine ⟨st, ?_⟩
  rcases hT with ⟨rfl, rfl⟩ | ⟨rfl, rfl, hv⟩ | ⟨rfl, rfl, hv⟩ | ⟨n, hn, rfl, rfl, rfl, rfl⟩ | ⟨rfl, rfl⟩ | ⟨rfl, hk⟩
  · exact Or.inr ⟨_, _, _, _, _, _, by decide, e1, by rw [et, if_neg (by decide)]⟩
  · exact Or.inr ⟨_, _, _, _, _, _, by decide, e1, by rw [et, if_neg (by decide)]⟩
  · exact Or.inr ⟨_, _, _, _, _, _, by decide, e1, by rw [et, if_neg (by decide)]⟩
  · exact Or.inr ⟨_, _, _, _, _, _, by decide, e1, by rw [et, if_neg (by decide)]⟩
  · rcases h3 with h3 | ⟨q, rfl, hq1, hq2, h3 | rfl⟩
    · exact absurd h3 (by decide)
    · exact absurd h3 (by decide)
    · exact Or.inl ⟨q, dv, v, by omega, hq2, e1, by rw [et, if_pos rfl]⟩
  · refine Or.inr ⟨1, en, dv, at', k, v, by decide, e1, ?_⟩
    rw [et]
    rcases hk with ⟨rfl, -⟩ | ⟨rfl, rfl⟩ | rfl <;> rw [if_neg (by decide)]
theorem up_3 : ∀ n, n < 100 → f_X5_isNumberUpTo 3 (nI n) 9 = B01 (decide (n ≤ 9)) := by decide +kernel
theorem up_n {tk dv x : Int32} (h : ¬ tk = 3) : f_X5_isNumberUpTo tk dv x = 0 := if_neg h
theorem cmp9 : ∀ n, n < 100 → (lg_cmp (lN n) (9 : Int64) = 0 ↔ n = 9) := by decide +kernel
theorem cmpk : ∀ n, n < 10 → ∀ k, k < 7 → (lg_cmp (lN n) (nI k).toInt64 < 0 ↔ n < k) := by decide +kernel
theorem le9 : (9 : Int32).toInt ≤ 9 := by decide
def set1 (f : Nat → Nat) (k x : Nat) : Nat → Nat := fun j => if j = k then x else f j
theorem ar_add {n : Nat} {f : Nat → Int32} {g : Nat → Nat} (h : Ar n f g) (x : Nat) : Ar (n + 1) (upd f n (nI x)) (set1 g n x) := by
  intro k hk
  unfold set1
  by_cases e : k = n
  · rw [e, upd_s, if_pos rfl]
  · rw [upd_n e, if_neg e]; exact h k (by omega)
theorem cl_add {n a b c : Nat} {sl la co : Nat → Nat} (h : Cl n sl la co) (hn : n < 6) (ha : a ≤ 9) (hb : b ≤ 9) (hc : c = 9 ∨ c < n) : Cl (n + 1) (set1 sl n a) (set1 la n b) (set1 co n c) := by
  refine ⟨by omega, fun k hk => ?_⟩
  unfold set1
  by_cases e : k = n
  · rw [if_pos e, if_pos e, if_pos e]; exact ⟨ha, hb, by omega⟩
  · rw [if_neg e, if_neg e, if_neg e]; exact h.2 k (by omega)
theorem rd_add {n a b c : Nat} {mr : Nat → Int32} {sl la co : Nat → Nat} (h : Rd n mr sl la co) : Rd (n + 1) (upd (upd (upd mr (3 * n) (nI a)) (3 * n + 1) (nI b)) (3 * n + 2) (nI c)) (set1 sl n a) (set1 la n b) (set1 co n c) := by
  intro k hk
  unfold set1
  by_cases e : k = n
  · subst e
    rw [if_pos rfl, if_pos rfl, if_pos rfl]
    exact ⟨by rw [upd_n (by omega), upd_n (by omega), upd_s], by rw [upd_n (by omega), upd_s], upd_s⟩
  · rw [if_neg e, if_neg e, if_neg e]
    obtain ⟨h1, h2, h3⟩ := h k (by omega)
    exact ⟨by rw [upd_n (by omega), upd_n (by omega), upd_n (by omega), h1], by rw [upd_n (by omega), upd_n (by omega), upd_n (by omega), h2], by rw [upd_n (by omega), upd_n (by omega), upd_n (by omega), h3]⟩
theorem l59 {tl fm x : Nat} {mt mr : Nat → Int32} {K : Int32 → Int32 → Int32 → Int64 → Int32 → (Nat → Int32) → Int32 → Option (Int32 × Int32 × Int32 × Int32 × Int64 × Int32 × (Nat → Int32))} (a b k : Int32) (n : Nat) (hf : fm < 6) (hx : x < 3) : f_X10_takesChild_L59 (nI tl) mt K a b k (lN n) (nI fm) mr (nI x) = K a b k (lN n) (nI fm) (upd mr (3 * fm + x) (nI n)) (nI (x + 1)) := by
  unfold f_X10_takesChild_L59
  rw [il 3, pk_mul, nI_add, if_pos (gin (by omega) (by decide)), cl (by omega), lN_i, nI_1]
/-- outcomes of a child read -/
def OC (tl p fm : Nat) (xb : Nat → Int32) (Fs Fl Fc : Nat → Int32) (A : Option (Int32 × Int32 × Int32 × Int32 × Int32 × Int32 × (Nat → Int32) × (Nat → Int32) × (Nat → Int32))) (B : Option (Int32 × Int32 × Int32 × Int32 × Int64 × Int32 × (Nat → Int32))) : Prop :=
  (∃ (st' : Nat) (tk en dv at' k : Int32) (v : Int64) (mr' : Nat → Int32), A = some (0, tk, nI st', en, dv, nI fm, Fs, Fl, Fc) ∧ B = some (0, at', nI st', k, v, nI fm, mr')) ∨
  (∃ (st' : Nat) (tk en dv at' k : Int32) (v : Int64) (mr' : Nat → Int32), A = some (0, tk, nI st', en, dv, nI fm, Fs, Fl, Fc) ∧ B = some (0, at', nI st', k, v, nI (fm + 1), mr')) ∨
  (∃ (q : Nat) (tk st1 v1 b k : Int32) (v : Int64) (Fs' Fl' Fc' mr' : Nat → Int32) (sl' la' co' : Nat → Nat), p < q ∧ q ≤ tl ∧ A = Option.bind (f_X5_advance (nI tl) xb tk st1 (nI q) v1) (fun y => some (1, y.1, y.2.1, y.2.2.1, y.2.2.2, nI (fm + 1), Fs', Fl', Fc')) ∧ B = some (1, nI q, b, k, v, nI (fm + 1), mr') ∧ Cl (fm + 1) sl' la' co' ∧ Ar (fm + 1) Fs' sl' ∧ Ar (fm + 1) Fl' la' ∧ Ar (fm + 1) Fc' co' ∧ Rd (fm + 1) mr' sl' la' co')
theorem rd_end {tl p q fm n1 n2 n3 : Nat} {T : Nat → Nat} {xb mt mr Fs Fl Fc : Nat → Int32} {sl la co : Nat → Nat} (h : TX tl T xb mt) (hpq : p < q) (hq : q ≤ tl) (hC : Cl fm sl la co) (hf : Ar fm Fs sl) (hg : Ar fm Fl la) (hc : Ar fm Fc co) (hr : Rd fm mr sl la co) (h6 : fm < 6) (h1 : n1 ≤ 9) (h2 : n2 ≤ 9) (h3 : n3 = 9 ∨ n3 < fm) (tk0 st0 b0 k0 : Int32) (w0 : Int64) (n : Nat) (hn : 0 < n) : OC tl p fm xb Fs Fl Fc (f_X5_readChild_L91 (nI tl) xb tk0 st0 (nI q) (nI n3) (nI fm) Fs Fl Fc (nI n1) (nI n2)) (f_X10_takesChild_L13 (nI tl) mt n (nI q) b0 k0 w0 (nI fm) (upd (upd (upd mr (3 * fm) (nI n1)) (3 * fm + 1) (nI n2)) (3 * fm + 2) (nI n3)) (nI 3)) := by
  obtain ⟨n, rfl⟩ : ∃ j, n = j + 1 := ⟨n - 1, by omega⟩
  rw [f_X10_takesChild_L13, if_pos (show (3 : Int32) ≤ nI 3 by decide)]
  unfold f_X5_readChild_L91
  obtain ⟨st, hcase⟩ := tk_stop h hq tk0 st0 (nI n3) b0 k0 w0
  rcases hcase with ⟨q', dv, v, hq1, hq2, e1, e2⟩ | ⟨tk, en, dv, at', k, v, hne, e1, e2⟩
  · rw [e1, e2, ob1, ob1, if_pos rfl, nI_1]
    have ea : f_X1_add (nI fm) Fs Fl Fc (nI n1) (nI n2) (nI n3) = some (nI (fm + 1), upd Fs fm (nI n1), upd Fl fm (nI n2), upd Fc fm (nI n3)) := by
      unfold f_X1_add
      rw [if_neg (show ¬ (6 : Int32) ≤ nI fm from nI_ge (b := 6) h6 (by decide)), if_pos (gin h6 (by decide)), if_pos (gin h6 (by decide)), if_pos (gin h6 (by decide)), cl (by omega), nI_1]
    rw [ea, ob1]
    exact Or.inr (Or.inr ⟨q', 2, nI st, dv, nI st, 3, v, _, _, _, _, set1 sl fm n1, set1 la fm n2, set1 co fm n3, by omega, hq2, rfl, rfl, cl_add hC h6 h1 h2 h3, ar_add hf n1, ar_add hg n2, ar_add hc n3, rd_add hr⟩)
  · rw [e1, e2, ob1, ob1, if_neg hne, nI_1]
    exact Or.inr (Or.inl ⟨st, tk, en, dv, at', k, v, _, rfl, rfl⟩)
theorem rd_child {tl p st fm : Nat} {T : Nat → Nat} {xb mt mr Fs Fl Fc : Nat → Int32} {sl la co : Nat → Nat} (h : TX tl T xb mt) (hp : p ≤ tl) (hC : Cl fm sl la co) (hf : Ar fm Fs sl) (hg : Ar fm Fl la) (hc : Ar fm Fc co) (hr : Rd fm mr sl la co) (tk0 v0 k0 : Int32) (w0 : Int64) : OC tl p fm xb Fs Fl Fc (f_X5_readChild (nI tl) xb tk0 (nI st) (nI p) v0 (nI fm) Fs Fl Fc) (f_X10_takesChild (nI tl) (nI p) (nI st) k0 w0 (nI fm) mt mr) := by
  have hm := hC.1
  unfold f_X5_readChild f_X10_takesChild
  rw [show f_X1_size (nI fm) = nI fm from rfl]
  by_cases h6 : fm < 6
  · have hne6 : ¬ nI fm = (6 : Int32) := fun q => by have := (nI_eq (b := 6) (by omega) (by decide)).mp q; omega
    rw [if_pos (show nI fm < (6 : Int32) from nI_lt (b := 6) h6 (by decide)), if_neg hne6, f_X10_takesChild_L13, if_neg (show ¬ (3 : Int32) ≤ 0 by decide)]
    obtain ⟨st1, c1⟩ := tk_num h hp tk0 (nI st) v0 (nI st) k0 w0
    rcases c1 with ⟨n1, q1, hn1, hq1, hq1', e1, t1⟩ | ⟨tk, en, dv, hne, e1, t1⟩
    · rw [e1, ob1, t1, ob1, up_3 n1 (by omega), if_B]
      by_cases h1 : n1 ≤ 9
      · rw [if_pos (decide_eq_true h1), if_neg (show ¬ B01 (decide ((n1 : Int) ≤ (9 : Int32).toInt)) = 0 from by rw [decide_eq_true (show (n1 : Int) ≤ (9 : Int32).toInt from by have : (9 : Int32).toInt = 9 := rfl; omega)]; decide), if_neg (show ¬ (0 : Int32) = 2 by decide)]
        rw [show (0 : Int32) = nI 0 from rfl, l59 (x := 0) _ _ _ n1 h6 (by decide), f_X10_takesChild_L13, if_neg (show ¬ (3 : Int32) ≤ nI (0 + 1) by decide)]
        obtain ⟨st2, c2⟩ := tk_num h hq1' 3 (nI st1) (nI n1) (nI st1) 2 (lN n1)
        rcases c2 with ⟨n2, q2, hn2, hq2, hq2', e2, t2⟩ | ⟨tk, en, dv, hne, e2, t2⟩
        · rw [e2, ob1, show nI 0 = (0 : Int32) from rfl, t2, ob1, up_3 n2 (by omega), if_B]
          by_cases h2 : n2 ≤ 9
          · rw [if_pos (decide_eq_true h2), if_neg (show ¬ B01 (decide ((n2 : Int) ≤ (9 : Int32).toInt)) = 0 from by rw [decide_eq_true (show (n2 : Int) ≤ (9 : Int32).toInt from by have : (9 : Int32).toInt = 9 := rfl; omega)]; decide), if_neg (show ¬ nI (0 + 1) = 2 by decide)]
            rw [l59 (x := 0 + 1) _ _ _ n2 h6 (by decide), f_X10_takesChild_L13, if_neg (show ¬ (3 : Int32) ≤ nI (0 + 1 + 1) by decide)]
            obtain ⟨st3, c3⟩ := tk_num h hq2' 3 (nI st2) (nI n2) (nI st2) 2 (lN n2)
            rcases c3 with ⟨n3, q3, hn3, hq3, hq3', e3, t3⟩ | ⟨tk, en, dv, hne, e3, t3⟩
            · rw [e3, ob1, t3, ob1, if_pos rfl, if_pos (show nI (0 + 1 + 1) = 2 from rfl), has_X1 hm, inR_nI (by omega)]
              have h9 : (nI n3 = (9 : Int32)) ↔ n3 = 9 := nI_eq (b := 9) (by omega) (by decide)
              have et : (9 : Int32).toInt = 9 := rfl
              by_cases g : n3 = 9 ∨ n3 < fm
              · have e9 : ¬ B01 (decide ((n3 : Int) ≤ (9 : Int32).toInt)) = 0 := by rw [decide_eq_true (by omega)]; decide
                rw [if_neg e9]
                have L : (if lg_cmp (lN n3) (9 : Int64) = 0 then f_X10_takesChild_L59 (nI tl) mt (f_X10_takesChild_L13 (nI tl) mt 297) (nI q3) (nI st3) 2 (lN n3) (nI fm) (upd (upd mr (3 * fm + 0) (nI n1)) (3 * fm + (0 + 1)) (nI n2)) (nI (0 + 1 + 1)) else if lg_cmp (lN n3) (nI fm).toInt64 < 0 then f_X10_takesChild_L59 (nI tl) mt (f_X10_takesChild_L13 (nI tl) mt 297) (nI q3) (nI st3) 2 (lN n3) (nI fm) (upd (upd mr (3 * fm + 0) (nI n1)) (3 * fm + (0 + 1)) (nI n2)) (nI (0 + 1 + 1)) else some (0, nI q3, nI st3, 2, lN n3, nI fm, (upd (upd mr (3 * fm + 0) (nI n1)) (3 * fm + (0 + 1)) (nI n2)))) = f_X10_takesChild_L13 (nI tl) mt 297 (nI q3) (nI st3) 2 (lN n3) (nI fm) (upd (upd (upd mr (3 * fm) (nI n1)) (3 * fm + 1) (nI n2)) (3 * fm + 2) (nI n3)) (nI 3) := by
                  have hl := l59 (tl := tl) (mt := mt) (mr := (upd (upd mr (3 * fm + 0) (nI n1)) (3 * fm + (0 + 1)) (nI n2))) (K := f_X10_takesChild_L13 (nI tl) mt 297) (x := 0 + 1 + 1) (nI q3) (nI st3) 2 n3 h6 (by decide)
                  rw [hl]
                  by_cases g9 : n3 = 9
                  · rw [if_pos ((cmp9 n3 (by omega)).mpr g9)]; rfl
                  · rw [if_neg (fun q => g9 ((cmp9 n3 (by omega)).mp q)), if_pos ((cmpk n3 (by omega) fm (by omega)).mpr (by omega))]; rfl
                have R : (if nI n3 = (9 : Int32) then f_X5_readChild_L91 (nI tl) xb 3 (nI st3) (nI q3) (nI n3) (nI fm) Fs Fl Fc (nI n1) (nI n2) else if B01 (decide (0 ≤ (n3 : Int) ∧ (n3 : Int) ≤ (fm : Int) - 1)) = 0 then some ((0 : Int32), (3 : Int32), nI st3, nI q3, nI n3, nI fm, Fs, Fl, Fc) else f_X5_readChild_L91 (nI tl) xb 3 (nI st3) (nI q3) (nI n3) (nI fm) Fs Fl Fc (nI n1) (nI n2)) = f_X5_readChild_L91 (nI tl) xb 3 (nI st3) (nI q3) (nI n3) (nI fm) Fs Fl Fc (nI n1) (nI n2) := by
                  by_cases g9 : n3 = 9
                  · rw [if_pos (h9.mpr g9)]
                  · rw [if_neg (fun q => g9 (h9.mp q)), if_neg]
                    rw [decide_eq_true (by omega)]; decide
                have E := rd_end (p := p) (n := 297) h (show p < q3 by omega) hq3' hC hf hg hc hr h6 h1 h2 g 3 (nI st3) (nI st3) 2 (lN n3) (by decide)
                rw [← L, ← R] at E
                exact E
              · have R : (if nI n3 = (9 : Int32) then f_X5_readChild_L91 (nI tl) xb 3 (nI st3) (nI q3) (nI n3) (nI fm) Fs Fl Fc (nI n1) (nI n2) else if B01 (decide (0 ≤ (n3 : Int) ∧ (n3 : Int) ≤ (fm : Int) - 1)) = 0 then some ((0 : Int32), (3 : Int32), nI st3, nI q3, nI n3, nI fm, Fs, Fl, Fc) else f_X5_readChild_L91 (nI tl) xb 3 (nI st3) (nI q3) (nI n3) (nI fm) Fs Fl Fc (nI n1) (nI n2)) = some ((0 : Int32), (3 : Int32), nI st3, nI q3, nI n3, nI fm, Fs, Fl, Fc) := by
                  rw [if_neg (fun q => g (Or.inl (h9.mp q))), if_pos]
                  rw [decide_eq_false (by omega)]; rfl
                refine Or.inl ⟨st3, 3, nI q3, nI n3, nI q3, 2, lN n3, (upd (upd mr (3 * fm + 0) (nI n1)) (3 * fm + (0 + 1)) (nI n2)), R, ?_⟩
                · by_cases e9 : B01 (decide ((n3 : Int) ≤ (9 : Int32).toInt)) = 0
                  · rw [if_pos e9]
                  · have hle : n3 ≤ 9 := by
                      rcases Nat.lt_or_ge 9 n3 with q | q
                      · exact absurd (by rw [decide_eq_false (by omega)]; rfl) e9
                      · exact q
                    rw [if_neg e9, if_neg (fun q => g (Or.inl ((cmp9 n3 (by omega)).mp q))), if_neg (fun q => g (Or.inr ((cmpk n3 (by omega) fm (by omega)).mp q)))]
            · obtain ⟨a3, k3, v3, t3'⟩ := t3 9 le9
              rw [e3, ob1, t3', ob1, if_neg hne, if_pos rfl]
              exact Or.inl ⟨st3, tk, en, dv, a3, k3, v3, _, rfl, rfl⟩
          · rw [if_neg (fun q => h2 (of_decide_eq_true q)), if_pos (show B01 (decide ((n2 : Int) ≤ (9 : Int32).toInt)) = 0 from by rw [decide_eq_false (show ¬ (n2 : Int) ≤ (9 : Int32).toInt from by have : (9 : Int32).toInt = 9 := rfl; omega)]; rfl)]
            exact Or.inl ⟨st2, _, _, _, _, _, _, _, rfl, rfl⟩
        · obtain ⟨a3, k3, v3, t2'⟩ := t2 9 le9
          rw [e2, ob1, show nI 0 = (0 : Int32) from rfl, t2', ob1, up_n hne, if_pos rfl, if_pos rfl]
          exact Or.inl ⟨st2, tk, en, dv, a3, k3, v3, _, rfl, rfl⟩
      · rw [if_neg (fun q => h1 (of_decide_eq_true q)), if_pos (show B01 (decide ((n1 : Int) ≤ (9 : Int32).toInt)) = 0 from by rw [decide_eq_false (show ¬ (n1 : Int) ≤ (9 : Int32).toInt from by have : (9 : Int32).toInt = 9 := rfl; omega)]; rfl)]
        exact Or.inl ⟨st1, _, _, _, _, _, _, _, rfl, rfl⟩
    · obtain ⟨a3, k3, v3, t1'⟩ := t1 9 le9
      rw [e1, ob1, t1', ob1, up_n hne, if_pos rfl, if_pos rfl]
      exact Or.inl ⟨st1, tk, en, dv, a3, k3, v3, _, rfl, rfl⟩
  · obtain rfl : fm = 6 := by omega
    rw [if_neg (show ¬ nI 6 < (6 : Int32) by decide), if_pos (show nI 6 = (6 : Int32) from rfl)]
    exact Or.inl ⟨st, tk0, nI p, v0, nI p, k0, w0, mr, rfl, rfl⟩
