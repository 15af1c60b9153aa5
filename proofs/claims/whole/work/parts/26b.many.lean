/-! the class's row of long numbers, the reference's loop over the sets -/
theorem uL_s {f : Nat → Int64} {k : Nat} {x : Int64} : vp_updL f k x k = x := if_pos rfl
theorem uL_n {f : Nat → Int64} {k j : Nat} {x : Int64} (h : j ≠ k) : vp_updL f k x j = f j := if_neg h
theorem addG {sz e : Nat} (hsz : sz ≤ 6) (he : e ≤ 10) {D D' : Nat → Nat} (hD : ∀ n, n ≤ 6 → D' n = D n * (10 - e) + (if sz ≤ n then D (n - sz) else 0) * e) : ∀ (d n : Nat) (cb : Nat → Int64), d ≤ 7 → d < n → (∀ i, i < d → cb i = lN (D i)) → (∀ i, d ≤ i → i ≤ 6 → cb i = lN (D' i)) → ∃ cb' : Nat → Int64, f_X0_addGroup_L3 n cb (nI sz) (nI e) (nI d - 1) = some cb' ∧ ∀ i, i ≤ 6 → cb' i = lN (D' i) := by
  intro d
  induction d with
  | zero =>
    intro n cb _ hn h1 h2
    obtain ⟨n, rfl⟩ : ∃ i, n = i + 1 := ⟨n - 1, by omega⟩
    exact ⟨cb, by rw [f_X0_addGroup_L3, if_pos (by decide)], fun i hi => h2 i (by omega) hi⟩
  | succ d ih =>
    intro n cb hd hn h1 h2
    obtain ⟨n, rfl⟩ : ∃ i, n = i + 1 := ⟨n - 1, by omega⟩
    have e1 : nI (d + 1) - 1 = nI d := nI_pred d
    have e2 : nI d + (-1 : Int32) = nI d - 1 := (Int32.sub_eq_add_neg _ _).symm
    have key : ∀ w : Nat, w = (if sz ≤ d then D (d - sz) else 0) → f_X0_addGroup_L24 (f_X0_addGroup_L3 n) cb (lN w) (nI sz) (nI e) (nI d) = f_X0_addGroup_L3 n (vp_updL cb d (lN (D' d))) (nI sz) (nI e) (nI d - 1) := by
      intro w hw
      unfold f_X0_addGroup_L24
      rw [if_pos (gin (by omega) (by decide)), if_pos (gin (by omega) (by decide)), cl (by omega), h1 d (by omega), fac (m := 0) (L := 0) he, nI_l (by omega), lN_mul, lN_mul, lN_add, e2, hD d (by omega), hw]
    have fin : ∃ cb' : Nat → Int64, f_X0_addGroup_L3 n (vp_updL cb d (lN (D' d))) (nI sz) (nI e) (nI d - 1) = some cb' ∧ ∀ i, i ≤ 6 → cb' i = lN (D' i) := by
      refine ih n _ (by omega) (by omega) (fun i hi => ?_) (fun i hi h6 => ?_)
      · rw [uL_n (by omega)]; exact h1 i (by omega)
      · by_cases hq : i = d
        · rw [hq, uL_s]
        · rw [uL_n hq]; exact h2 i (by omega) h6
    rw [f_X0_addGroup_L3, e1, if_neg (nI_pos (by omega))]
    by_cases hl : d < sz
    · rw [if_pos (nI_lt hl (by omega)), show (0 : Int64) = lN 0 from rfl, key 0 (by rw [if_neg (by omega)])]
      exact fin
    · rw [if_neg (nI_nlt (by omega) (by omega)), pk_sub (by omega), if_pos (gin (by omega) (by decide)), cl (by omega), h1 (d - sz) (by omega), key (D (d - sz)) (by rw [if_pos (by omega)])]
      exact fin
theorem num_L31 {m s b o n0 : Nat} {sl la co : Nat → Nat} {f g c : Nat → Int32} (hC : Cl m sl la co) (hs : s < 64) (hb : b ≤ 9) (ho : 1 ≤ o) (ho4 : o ≤ 4) (hf : Ar m f sl) (hg : Ar m g la) (hc : Ar m c co) (hn0 : n0 ≤ 6) : ∀ (d j n : Nat) (cb : Nat → Int64), j + d = m → d < n → (∀ i, i ≤ 6 → cb i = lN (dp sl la co m s b o j i)) → ∃ cb' : Nat → Int64, f_X0_numberFalls_L31 (nI s) (nI b) (nI m) f g c n cb (nI o) (nI n0) (nI j) = some (lN (dp sl la co m s b o m n0), cb') := by
  have hm := hC.1
  intro d
  induction d with
  | zero =>
    intro j n cb hj hn h
    obtain ⟨n, rfl⟩ : ∃ i, n = i + 1 := ⟨n - 1, by omega⟩
    obtain rfl : j = m := by omega
    exact ⟨cb, by rw [f_X0_numberFalls_L31, show f_X1_size (nI j) = nI j from rfl, if_pos (nI_le (Nat.le_refl _) (by omega)), if_neg (nI_pos (by omega)), if_neg (show ¬ (6 : Int32) < nI n0 from nI_nlt (a := 6) hn0 (by decide)), if_pos (gin (by omega) (by decide)), cl (by omega), h n0 hn0]⟩
  | succ d ih =>
    intro j n cb hj hn h
    obtain ⟨n, rfl⟩ : ∃ i, n = i + 1 := ⟨n - 1, by omega⟩
    have hjm : j < m := by omega
    have hG := gp64 (co := co) (m := m) (s := s) (L := j) hm
    have he := er_le (o := o) (b := b) hC hjm
    rw [f_X0_numberFalls_L31, show f_X1_size (nI m) = nI m from rfl, if_neg (nI_ge hjm (by omega)), isL_X6 hC hc hs hjm, ob1, if_B, nI_1]
    by_cases h1 : isL co m s j = true
    · rw [if_pos h1, gp_X6 hC hc hs hjm, ob1, show f_X6_streak (nI b) = nI b from rfl, er_X1 hC hf hg hjm ho ho4 hb, ob1, pc_J _ hG]
      obtain ⟨cb', e1, e2⟩ := addG (sz := pc (gp co m s j m)) (e := er sl la j o b) (pc_le _ hG) he (D := dp sl la co m s b o j) (D' := dp sl la co m s b o (j + 1)) (fun n _ => by rw [dp, if_pos h1]) 7 300 cb (by decide) (by decide) (fun i hi => h i (by omega)) (fun i h7 h6 => by omega)
      have e1' : f_X0_addGroup cb (nI (pc (gp co m s j m))) (nI (er sl la j o b)) = some cb' := e1
      rw [e1', ob1]
      exact ih (j + 1) n cb' (by omega) (by omega) e2
    · rw [if_neg h1]
      exact ih (j + 1) n cb (by omega) (by omega) (fun i hi => by rw [dp, if_neg h1]; exact h i hi)
theorem num_L2 {m s b o n0 : Nat} {sl la co : Nat → Nat} {f g c : Nat → Int32} (hC : Cl m sl la co) (hs : s < 64) (hb : b ≤ 9) (ho : 1 ≤ o) (ho4 : o ≤ 4) (hf : Ar m f sl) (hg : Ar m g la) (hc : Ar m c co) (hn0 : n0 ≤ 6) : ∀ (d k n : Nat) (cb : Nat → Int64), k + d = 7 → d < n → (∀ i, i < k → cb i = lN (if i = 0 then 1 else 0)) → ∃ cb' : Nat → Int64, f_X0_numberFalls_L2 (nI s) (nI b) (nI m) f g c n cb (nI o) (nI n0) (nI k) = some (lN (dp sl la co m s b o m n0), cb') := by
  intro d
  induction d with
  | zero =>
    intro k n cb hk hn h
    obtain ⟨n, rfl⟩ : ∃ i, n = i + 1 := ⟨n - 1, by omega⟩
    obtain rfl : k = 7 := by omega
    rw [f_X0_numberFalls_L2, if_pos (by decide)]
    exact num_L31 hC hs hb ho ho4 hf hg hc hn0 m 0 300 cb (by omega) (by have := hC.1; omega) (fun i hi => h i (by omega))
  | succ d ih =>
    intro k n cb hk hn h
    obtain ⟨n, rfl⟩ : ∃ i, n = i + 1 := ⟨n - 1, by omega⟩
    rw [f_X0_numberFalls_L2, if_neg (show ¬ (6 : Int32) < nI k from nI_nlt (a := 6) (by omega) (by decide)), if_pos (c := gIn (nI k) 7 = true) (gin (by omega) (by decide)), if_pos (c := gIn (nI k) 7 = true) (gin (by omega) (by decide)), cl (by omega), nI_1]
    by_cases h0 : k = 0
    · rw [if_pos (show nI k = 0 from by rw [h0]; rfl)]
      refine ih (k + 1) n _ (by omega) (by omega) (fun i hi => ?_)
      by_cases hq : i = k
      · rw [hq, uL_s, h0]; rfl
      · rw [uL_n hq]; exact h i (by omega)
    · rw [if_neg (fun q => h0 ((i0 (by omega)).mp q))]
      refine ih (k + 1) n _ (by omega) (by omega) (fun i hi => ?_)
      by_cases hq : i = k
      · rw [hq, uL_s, if_neg h0]; rfl
      · rw [uL_n hq]; exact h i (by omega)
theorem many_L {m s b o n0 : Nat} {sl la co : Nat → Nat} {f g c : Nat → Int32} (hC : Cl m sl la co) (hs : s < 2 ^ m) (hb : b ≤ 9) (ho : 1 ≤ o) (ho4 : o ≤ 4) (hf : Ar m f sl) (hg : Ar m g la) (hc : Ar m c co) (hn0 : n0 ≤ 6) (w : Int32) : ∀ (d k n : Nat) (bl : Int64), k + d = 2 ^ m → d < n → f_X10_many_L36 (nI m) (nI s) (nI b) f g c n bl (nI o) (nI n0) w (lN (rs (fun t => if pc t = n0 then ways sl la co m s b o t else 0) k)) (nI k) = Option.bind (f_X10_part (lN (rs (fun t => if pc t = n0 then ways sl la co m s b o t else 0) (2 ^ m))) (lN (10 ^ nl co m s m)) w) (fun y9 => some (y9, lN (10 ^ nl co m s m))) := by
  have hm := hC.1
  have h6 := p6 hm
  have hs6 : s < 64 := by omega
  have esh : (1 : Int32) <<< (nI m &&& 31) = nI (2 ^ m) := shl_t m (by omega)
  intro d
  induction d with
  | zero =>
    intro k n bl hk hn
    obtain ⟨n, rfl⟩ : ∃ i, n = i + 1 := ⟨n - 1, by omega⟩
    obtain rfl : k = 2 ^ m := by omega
    rw [f_X10_many_L36, esh, if_pos (nI_le (Nat.le_refl _) (by omega)), show (0 : Int32) = nI 0 from rfl, ways_X10 hC hs6 hb ho ho4 (by decide) hf hg hc, ob1]
  | succ d ih =>
    intro k n bl hk hn
    obtain ⟨n, rfl⟩ : ∃ i, n = i + 1 := ⟨n - 1, by omega⟩
    have hk6 : k < 64 := by omega
    have hp := pc_le k hk6
    have ihn := fun bl => ih (k + 1) n bl (by omega) (by omega)
    rw [rs] at ihn
    rw [f_X10_many_L36, esh, if_neg (nI_ge (by omega) (by omega)), pc_b k hk6, ob1, ways_X10 hC hs6 hb ho ho4 hk6 hf hg hc, ob1, nI_1, lN_add, show (0 : Int64) = lN 0 from rfl, lN_add]
    by_cases h1 : pc k = n0
    · rw [if_pos (congrArg nI h1)]
      rw [if_pos h1] at ihn
      exact ihn _
    · rw [if_neg (fun q => h1 ((nI_eq (by omega) (by omega)).mp q))]
      rw [if_neg h1] at ihn
      exact ihn _
theorem seven {p : Int32} (h : inR p 0 6 = true) : ∃ k, k ≤ 6 ∧ p = nI k := by
  obtain ⟨j, hj, rfl⟩ := inR_t (n := 7) (by decide) h
  exact ⟨j, by omega, rfl⟩
theorem st_many {m s b : Nat} {bl : Int64} {cb : Nat → Int64} {sl la co : Nat → Nat} {f f' g g' c c' : Nat → Int32} (hC : Cl m sl la co) (hs : s < 2 ^ m) (hb : b ≤ 9) (hf : Ar m f sl) (hf' : Ar m f' sl) (hg : Ar m g la) (hg' : Ar m g' la) (hc : Ar m c co) (hc' : Ar m c' co) (p1 p2 p3 : Int32) : ∃ (r bl' : Int64) (cb' : Nat → Int64), f_X9_many (nI s) (nI b) (nI m) f g c cb p1 p2 p3 = some (r, cb') ∧ f_X10_many (nI m) (nI s) (nI b) bl f' g' c' p1 p2 p3 = some (r, bl') := by
  have hm := hC.1
  have h6 := p6 hm
  have hs6 : s < 64 := by omega
  unfold f_X9_many f_X10_many
  rw [order_X9, order_X10, half_X9, half_X10, show f_X10_within p2.toInt64 (0 : Int64) (6 : Int64) = B01 (inR p2 0 6) from within_i p2 0 6, if_B, if_B, if_B, if_B, if_B]
  have e6 : (6 : Int32).toInt = 6 := rfl
  have e0 : (0 : Int32).toInt = 0 := rfl
  by_cases h1 : inR p1 1 4 = true
  · rw [if_pos h1, if_pos h1]
    obtain ⟨o, h3, h4, rfl⟩ := inR_o h1
    by_cases h2 : inR p2 0 6 = true
    · rw [if_pos h2]
      obtain ⟨n0, hn0, rfl⟩ := seven h2
      rw [if_neg (nI_pos (by omega)), if_neg (show ¬ (6 : Int32) < nI n0 from nI_nlt (a := 6) hn0 (by decide))]
      by_cases h5 : inR p3 0 1 = true
      · rw [if_pos h5, if_pos h5]
        obtain ⟨cb', e1⟩ := num_L2 hC hs6 hb h3 h4 hf hg hc hn0 7 0 300 cb rfl (by decide) (fun i hi => by omega)
        have e1' : f_X0_numberFalls (nI s) (nI b) (nI m) f g c cb (nI o) (nI n0) = _ := e1
        have e2 : f_X10_many_L36 (nI m) (nI s) (nI b) f' g' c' 300 bl (nI o) (nI n0) p3 (0 : Int64) (0 : Int32) = _ := many_L hC hs hb h3 h4 hf' hg' hc' hn0 p3 (2 ^ m) 0 300 bl (by omega) (by omega)
        rw [e1', ob1, show (1 : Int32) = nI 1 from rfl, low_X0 hC hs6 hc (by decide), ob1, Nat.mul_one, e2, many_sum hC hs]
        have hn := nl_le (co := co) (m := m) (s := s) m
        have h10 := t6 (k := nl co m s m) (by omega)
        have hw := dp_le (s := s) (b := b) (o := o) hC m n0 (Nat.le_refl _)
        obtain ⟨r, e3, e4⟩ := least_eq (a := dp sl la co m s b o m n0) (b := 10 ^ nl co m s m) (by omega) h10 (Nat.pow_pos (by decide)) h5
        dsimp only
        rw [e3, e4, ob1, ob1]
        exact ⟨r, _, _, rfl, rfl⟩
      · rw [if_neg h5, if_neg h5]; exact ⟨_, _, _, rfl, rfl⟩
    · rw [if_neg h2]
      by_cases hn : p2 < 0
      · rw [if_pos hn]; exact ⟨_, _, _, rfl, rfl⟩
      · have hq : (6 : Int32) < p2 := by
          rw [i32t] at hn ⊢
          rcases Int.lt_or_le 6 p2.toInt with q | q
          · omega
          · exact absurd (decide_eq_true (by omega)) h2
        rw [if_neg hn, if_pos hq]; exact ⟨_, _, _, rfl, rfl⟩
  · rw [if_neg h1, if_neg h1]; exact ⟨_, _, _, rfl, rfl⟩
