/-! just one is left; the best row; the lure -/
theorem pc_0 : ∀ s, s < 64 → pc s = 0 → s = 0 := by decide +kernel
/-- the class's two numbers: none is left, just one is -/
def os (co : Nat → Nat) (m s T : Nat) (a : Nat → Nat) : Nat → Nat
  | 0 => 0
  | j + 1 => if isL co m s j = true then os co m s T a j * (T - a j) + (if pc (gp co m s j m) = 1 then wP co m s (fun i => T - a i) j * a j else 0) else os co m s T a j
def hk (co : Nat → Nat) (m s T : Nat) (a : Nat → Nat) (j k : Nat) : Nat := if (isL co m s k && decide (pc (gp co m s k m) = 1)) = true then wP co m s (fun i => if i = k then a i else T - a i) j else 0
theorem rs_congr {f g : Nat → Nat} : ∀ k, (∀ i, i < k → f i = g i) → rs f k = rs g k := by
  intro k
  induction k with
  | zero => intro _; rfl
  | succ k ih => intro h; rw [rs, rs, ih (fun i hi => h i (by omega)), h k (by omega)]
theorem rs_mul (f : Nat → Nat) (c : Nat) : ∀ k, rs (fun i => f i * c) k = rs f k * c := by
  intro k
  induction k with
  | zero => exact (Nat.zero_mul c).symm
  | succ k ih => rw [rs, rs, ih, Nat.add_mul]
theorem os_sum {co : Nat → Nat} {m s T : Nat} {a : Nat → Nat} : ∀ j, os co m s T a j = rs (hk co m s T a j) j := by
  intro j
  induction j with
  | zero => rfl
  | succ j ih =>
    rw [os, rs]
    by_cases hL : isL co m s j = true
    · rw [if_pos hL, ih, ← rs_mul]
      congr 1
      · apply rs_congr
        intro i hi
        unfold hk
        by_cases h : (isL co m s i && decide (pc (gp co m s i m) = 1)) = true
        · rw [if_pos h, if_pos h, wP, if_pos hL, if_neg (show ¬ j = i by omega)]
        · rw [if_neg h, if_neg h, Nat.zero_mul]
      · unfold hk
        rw [hL, Bool.true_and, wP, if_pos hL, if_pos rfl]
        by_cases hp : pc (gp co m s j m) = 1
        · rw [if_pos hp, if_pos (decide_eq_true hp)]
          congr 1
          apply wP_congr
          intro i hi _
          rw [if_neg (show ¬ i = j by omega)]
        · rw [if_neg hp, if_neg (by rw [decide_eq_false hp]; decide)]
    · rw [if_neg hL, ih]
      have : hk co m s T a (j + 1) j = 0 := by
        unfold hk
        rw [Bool.not_eq_true _ |>.mp hL, Bool.false_and, if_neg (by decide)]
      rw [this, Nat.add_zero]
      apply rs_congr
      intro i hi
      unfold hk
      rw [wP, if_neg hL]
theorem os_le {co : Nat → Nat} {m s T : Nat} {a : Nat → Nat} (ha : ∀ i, i < m → a i ≤ T) : ∀ j, j ≤ m → os co m s T a j + wP co m s (fun i => T - a i) j ≤ T ^ nl co m s j := by
  intro j
  induction j with
  | zero => intro _; exact Nat.le_refl _
  | succ j ih =>
    intro hj
    have h1 := ih (by omega)
    have h2 := ha j (by omega)
    rw [os, wP, nl]
    by_cases hL : isL co m s j = true
    · rw [if_pos hL, if_pos hL, if_pos hL, Nat.pow_succ]
      have h3 : (if pc (gp co m s j m) = 1 then wP co m s (fun i => T - a i) j * a j else 0) ≤ wP co m s (fun i => T - a i) j * a j := by split; exact Nat.le_refl _; exact Nat.zero_le _
      have h4 := Nat.mul_le_mul_right T h1
      have h5 : os co m s T a j * (T - a j) ≤ os co m s T a j * T := Nat.mul_le_mul_left _ (Nat.sub_le _ _)
      have h6 : wP co m s (fun i => T - a i) j * a j + wP co m s (fun i => T - a i) j * (T - a j) = wP co m s (fun i => T - a i) j * T := by
        rw [← Nat.mul_add]; congr 1; omega
      rw [Nat.add_mul] at h4
      omega
    · rw [if_neg hL, if_neg hL, if_neg hL]; exact h1
theorem just_X0L {m s b q : Nat} {sl la co : Nat → Nat} {f g c wf : Nat → Int32} (hC : Cl m sl la co) (hs : s < 64) (hb : b ≤ 9) (hf : Ar m f sl) (hg : Ar m g la) (hc : Ar m c co) (hok : okd (digs 10 q) = true) (hl : (digs 10 q).length ≤ 9) (hw : ∀ i, i < (digs 10 q).length → wf i = nI ((digs 10 q).getD i 0)) : ∀ (d j n : Nat), j + d = m → d < n → f_X0_justOneStays_L19 (nI s) (nI b) (nI m) f g c (nI (digs 10 q).length) wf n (lN (10 ^ (digs 10 q).length)) (lN (wP co m s (fun i => 10 ^ (digs 10 q).length - sw sl la i q (digs 10 q).length (digs 10 q).length 0 b) j)) (lN (os co m s (10 ^ (digs 10 q).length) (fun i => sw sl la i q (digs 10 q).length (digs 10 q).length 0 b) j)) (nI j) = some (lN (os co m s (10 ^ (digs 10 q).length) (fun i => sw sl la i q (digs 10 q).length (digs 10 q).length 0 b) m)) := by
  have hm := hC.1
  intro d
  induction d with
  | zero =>
    intro j n hj hn
    obtain ⟨n, rfl⟩ : ∃ i, n = i + 1 := ⟨n - 1, by omega⟩
    obtain rfl : j = m := by omega
    rw [f_X0_justOneStays_L19, show f_X1_size (nI j) = nI j from rfl, if_pos (nI_le (Nat.le_refl _) (by omega))]
  | succ d ih =>
    intro j n hj hn
    obtain ⟨n, rfl⟩ : ∃ i, n = i + 1 := ⟨n - 1, by omega⟩
    have hjm : j < m := by omega
    have hG := gp64 (co := co) (m := m) (s := s) (L := j) hm
    have ihn := ih (j + 1) n (by omega) (by omega)
    have hle := sw_le (sl := sl) (la := la) (k := j) (q := q) (len := (digs 10 q).length) (digs 10 q).length 0 b
    rw [f_X0_justOneStays_L19, show f_X1_size (nI m) = nI m from rfl, if_neg (nI_ge hjm (by omega)), isL_X6 hC hc hs hjm, ob1, if_B, nI_1]
    rw [wP, os] at ihn
    by_cases h1 : isL co m s j = true
    · rw [if_pos h1, stays_X0 hC hjm hb hf hg hok hl hw, ob1, gp_X6 hC hc hs hjm, ob1, pc_J _ hG, lN_sub hle]
      rw [if_pos h1, if_pos h1] at ihn
      unfold f_X0_justOneStays_L78 f_X0_justOneStays_L98
      rw [nI_1, lN_mul, lN_mul, lN_mul, lN_add, show (0 : Int64) = lN 0 from rfl, lN_add]
      have hp := pc_le _ hG
      by_cases h2 : pc (gp co m s j m) = 1
      · rw [if_pos (show nI (pc (gp co m s j m)) = (1 : Int32) from by rw [h2]; rfl), if_neg (by decide)]
        rw [if_pos h2] at ihn
        exact ihn
      · rw [if_neg (show ¬ nI (pc (gp co m s j m)) = (1 : Int32) from fun e => h2 ((nI_eq (b := 1) (by omega) (by decide)).mp e)), if_pos rfl]
        rw [if_neg h2] at ihn
        exact ihn
    · rw [if_neg h1]; rw [if_neg h1, if_neg h1] at ihn; exact ihn
theorem just_X0 {m s b q : Nat} {sl la co : Nat → Nat} {f g c wf : Nat → Int32} (hC : Cl m sl la co) (hs : s < 64) (hb : b ≤ 9) (hf : Ar m f sl) (hg : Ar m g la) (hc : Ar m c co) (hok : okd (digs 10 q) = true) (hl : (digs 10 q).length ≤ 9) (hw : ∀ i, i < (digs 10 q).length → wf i = nI ((digs 10 q).getD i 0)) : f_X0_justOneStays (nI s) (nI b) (nI m) f g c (nI (digs 10 q).length) wf = some (lN (os co m s (10 ^ (digs 10 q).length) (fun i => sw sl la i q (digs 10 q).length (digs 10 q).length 0 b) m)) := by
  unfold f_X0_justOneStays
  rw [show f_X7_length (nI (digs 10 q).length) = nI (digs 10 q).length from rfl, ten_X9 (by omega), ob1]
  exact just_X0L hC hs hb hf hg hc hok hl hw m 0 300 (by omega) (by have := hC.1; omega)
/-- the reference's product for one who is left -/
theorem left_L89 {m s b q len k : Nat} {sl la co : Nat → Nat} {f g c : Nat → Int32} (hC : Cl m sl la co) (hs : s < 64) (hb : b ≤ 9) (hf : Ar m f sl) (hg : Ar m g la) (hc : Ar m c co) (hq : q < 2 ^ 31) (hl : len ≤ 9) (hod : ∀ i, i < len → 1 ≤ od q len i ∧ od q len i ≤ 4) (hk : k < m) (K : Int64 → Int32 → Int32 → Int64 → Int32 → Int32 → Option (Int64 × Int64)) (bl x3 : Int64) (x5 : Int32) : ∀ (d j n : Nat), j + d = m → d < n → f_X10_leftOf_L89 (nI m) (nI s) (nI b) f g c K n bl (nI q) (nI len) x3 x5 (nI k) (lN (wP co m s (fun i => if i = k then sw sl la i q len len 0 b else 10 ^ len - sw sl la i q len len 0 b) j)) (nI j) = K bl (nI q) (nI len) (x3 + lN (wP co m s (fun i => if i = k then sw sl la i q len len 0 b else 10 ^ len - sw sl la i q len len 0 b) m)) x5 (nI (k + 1)) := by
  have hm := hC.1
  intro d
  induction d with
  | zero =>
    intro j n hj hn
    obtain ⟨n, rfl⟩ : ∃ i, n = i + 1 := ⟨n - 1, by omega⟩
    obtain rfl : j = m := by omega
    rw [f_X10_leftOf_L89, if_pos (nI_le (Nat.le_refl _) (by omega)), nI_1]
  | succ d ih =>
    intro j n hj hn
    obtain ⟨n, rfl⟩ : ∃ i, n = i + 1 := ⟨n - 1, by omega⟩
    have hjm : j < m := by omega
    have hld := ld_lt (co := co) (m := m) (s := s) 6 j hjm
    have ihn := ih (j + 1) n (by omega) (by omega)
    have hle := sw_le (sl := sl) (la := la) (k := j) (q := q) (len := len) len 0 b
    rw [f_X10_leftOf_L89, if_neg (nI_ge hjm (by omega)), has_t s hs j (by omega), if_B, lead_X10 hC hc hs hjm, ob1, nI_1]
    rw [wP] at ihn
    unfold isL at ihn
    by_cases h1 : s.testBit j = true
    · rw [if_pos h1]
      rw [h1, Bool.true_and] at ihn
      by_cases h2 : ld co m s 6 j = j
      · rw [if_pos (congrArg nI h2), stays_X10 hC hjm hb hf hg hq hl hod, ob1, ten_X10 (by omega), ob1, lN_mul, lN_sub hle, lN_mul]
        rw [decide_eq_true h2, if_pos rfl] at ihn
        by_cases h3 : j = k
        · rw [if_pos (congrArg nI h3)]; rw [if_pos h3] at ihn; exact ihn
        · rw [if_neg (fun e => h3 ((nI_eq (by omega) (by omega)).mp e))]; rw [if_neg h3] at ihn; exact ihn
      · rw [if_neg (fun e => h2 ((nI_eq (by omega) (by omega)).mp e))]
        rw [decide_eq_false h2, if_neg (by decide)] at ihn; exact ihn
    · rw [if_neg h1]
      rw [Bool.not_eq_true _ |>.mp h1, Bool.false_and, if_neg (by decide)] at ihn; exact ihn
theorem left_L8 {m s b q len : Nat} {sl la co : Nat → Nat} {f g c : Nat → Int32} (hC : Cl m sl la co) (hs : s < 64) (hb : b ≤ 9) (hf : Ar m f sl) (hg : Ar m g la) (hc : Ar m c co) (hq : q < 2 ^ 31) (hl : len ≤ 9) (hod : ∀ i, i < len → 1 ≤ od q len i ∧ od q len i ≤ 4) : ∀ (d k n : Nat) (bl : Int64), k + d = m → d < n → f_X10_leftOf_L8 (nI m) (nI s) (nI b) f g c n bl (nI q) (nI len) (lN (rs (hk co m s (10 ^ len) (fun i => sw sl la i q len len 0 b) m) k)) (nI (nl co m s k)) (nI k) = some (lN (rs (hk co m s (10 ^ len) (fun i => sw sl la i q len len 0 b) m) m), lN (10 ^ (len * nl co m s m))) := by
  have hm := hC.1
  intro d
  induction d with
  | zero =>
    intro k n bl hk' hn
    obtain ⟨n, rfl⟩ : ∃ i, n = i + 1 := ⟨n - 1, by omega⟩
    obtain rfl : k = m := by omega
    have hnl := nl_le (co := co) (m := k) (s := s) k
    have : len * nl co k s k ≤ 9 * 6 := Nat.mul_le_mul hl (by omega)
    rw [f_X10_leftOf_L8, if_pos (nI_le (Nat.le_refl _) (by omega)), pk_mul, ten_X10 (by omega), ob1]
  | succ d ih =>
    intro k n bl hk' hn
    obtain ⟨n, rfl⟩ : ∃ i, n = i + 1 := ⟨n - 1, by omega⟩
    have hkm : k < m := by omega
    have hld := ld_lt (co := co) (m := m) (s := s) 6 k hkm
    have hG := gp64 (co := co) (m := m) (s := s) (L := k) hm
    have hp := pc_le _ hG
    have ihn := fun bl => ih (k + 1) n bl (by omega) (by omega)
    rw [rs, nl] at ihn
    rw [f_X10_leftOf_L8, if_neg (nI_ge hkm (by omega)), has_t s hs k (by omega), if_B, lead_X10 hC hc hs hkm, ob1]
    unfold f_X10_leftOf_L44 f_X10_leftOf_L45 f_X10_leftOf_L59
    rw [nI_1, nI_1, if_pos (c := (0 : Int32) = 0) rfl, if_pos (c := (0 : Int32) = 0) rfl, if_neg (c := (1 : Int32) = 0) (by decide), if_neg (c := (1 : Int32) = 0) (by decide), show nI (nl co m s k) + (0 : Int32) = nI (nl co m s k) from Int32.add_zero _]
    have no : isL co m s k = false → ∀ bl, f_X10_leftOf_L8 (nI m) (nI s) (nI b) f g c n bl (nI q) (nI len) (lN (rs (hk co m s (10 ^ len) (fun i => sw sl la i q len len 0 b) m) k)) (nI (nl co m s k)) (nI (k + 1)) = some (lN (rs (hk co m s (10 ^ len) (fun i => sw sl la i q len len 0 b) m) m), lN (10 ^ (len * nl co m s m))) := fun h bl => by
      have e := ihn bl
      have h0 : hk co m s (10 ^ len) (fun i => sw sl la i q len len 0 b) m k = 0 := by
        unfold hk; rw [h, Bool.false_and, if_neg (by decide)]
      rw [h0, Nat.add_zero, if_neg (by rw [h]; decide)] at e
      exact e
    by_cases h1 : s.testBit k = true
    · rw [if_pos h1]
      by_cases h2 : ld co m s 6 k = k
      · have hL : isL co m s k = true := by unfold isL; rw [h1, decide_eq_true h2]; rfl
        rw [if_pos (congrArg nI h2), gp_X10 hC hc hs hkm, ob1, pc_b _ hG, ob1]
        rw [if_pos hL] at ihn
        have hne : pc (gp co m s k m) ≠ 0 := fun e => gp_ne hkm hL (pc_0 _ hG e)
        by_cases h3 : pc (gp co m s k m) = 1
        · rw [if_pos (show nI (pc (gp co m s k m)) ≤ (1 : Int32) from by rw [h3]; decide)]
          have e := left_L89 hC hs hb hf hg hc hq hl hod hkm (f_X10_leftOf_L8 (nI m) (nI s) (nI b) f g c n) bl (lN (rs (hk co m s (10 ^ len) (fun i => sw sl la i q len len 0 b) m) k)) (nI (nl co m s k + 1)) m 0 300 (by omega) (by omega)
          have e' : f_X10_leftOf_L89 (nI m) (nI s) (nI b) f g c (f_X10_leftOf_L8 (nI m) (nI s) (nI b) f g c n) 300 bl (nI q) (nI len) (lN (rs (hk co m s (10 ^ len) (fun i => sw sl la i q len len 0 b) m) k)) (nI (nl co m s k + 1)) (nI k) (1 : Int64) (0 : Int32) = _ := e
          rw [e', lN_add]
          have e2 := ihn bl
          have e3 : hk co m s (10 ^ len) (fun i => sw sl la i q len len 0 b) m k = wP co m s (fun i => if i = k then sw sl la i q len len 0 b else 10 ^ len - sw sl la i q len len 0 b) m := by
            unfold hk; rw [hL, decide_eq_true h3]; rfl
          rw [e3] at e2
          exact e2
        · rw [if_neg (show ¬ nI (pc (gp co m s k m)) ≤ (1 : Int32) from nI_ge (a := 1) (by omega) (by omega))]
          have e2 := ihn bl
          have e3 : hk co m s (10 ^ len) (fun i => sw sl la i q len len 0 b) m k = 0 := by
            unfold hk; rw [decide_eq_false h3, Bool.and_false]; rfl
          rw [e3, Nat.add_zero] at e2
          exact e2
      · rw [if_neg (fun e => h2 ((nI_eq (by omega) (by omega)).mp e))]
        exact no (by unfold isL; rw [decide_eq_false h2, Bool.and_false]) bl
    · rw [if_neg h1]
      exact no (by unfold isL; rw [Bool.not_eq_true _ |>.mp h1, Bool.false_and]) bl
/-- in how many ways just one is left -/
def lf (sl la co : Nat → Nat) (m s b q len : Nat) : Nat := os co m s (10 ^ len) (fun i => sw sl la i q len len 0 b) m
theorem left_X10 {m s b q len : Nat} {bl : Int64} {sl la co : Nat → Nat} {f g c : Nat → Int32} (hC : Cl m sl la co) (hs : s < 64) (hb : b ≤ 9) (hf : Ar m f sl) (hg : Ar m g la) (hc : Ar m c co) (hq : q < 2 ^ 31) (hl : len ≤ 9) (hod : ∀ i, i < len → 1 ≤ od q len i ∧ od q len i ≤ 4) : f_X10_leftOf (nI m) (nI s) (nI b) bl f g c (nI q) (nI len) = some (lN (lf sl la co m s b q len), lN (10 ^ (len * nl co m s m))) := by
  have h := left_L8 hC hs hb hf hg hc hq hl hod m 0 300 bl (by omega) (by have := hC.1; omega)
  rw [← os_sum] at h
  exact h
theorem lf_le {m s b q len : Nat} {sl la co : Nat → Nat} : lf sl la co m s b q len ≤ 10 ^ (len * nl co m s m) := by
  have h := os_le (co := co) (m := m) (s := s) (T := 10 ^ len) (a := fun i => sw sl la i q len len 0 b) (fun i _ => sw_le len 0 b) m (Nat.le_refl _)
  rw [← Nat.pow_mul] at h
  unfold lf
  omega
theorem st_left {m s b : Nat} {wl : Int32} {bl : Int64} {wf : Nat → Int32} {sl la co : Nat → Nat} {f f' g g' c c' : Nat → Int32} (hC : Cl m sl la co) (hs : s < 64) (hb : b ≤ 9) (hf : Ar m f sl) (hf' : Ar m f' sl) (hg : Ar m g la) (hg' : Ar m g' la) (hc : Ar m c co) (hc' : Ar m c' co) (p1 p2 : Int32) : ∃ (r bl' : Int64) (wl' : Int32) (wf' : Nat → Int32), f_X9_left (nI s) (nI b) (nI m) f g c wl wf p1 p2 = some (r, wl', wf') ∧ f_X10_left (nI m) (nI s) (nI b) bl f' g' c' p1 p2 = some (r, bl') := by
  have hm := hC.1
  unfold f_X9_left f_X10_left
  rw [half_X9, half_X10]
  by_cases hn : p1 < 0
  · obtain ⟨wl', wf', e⟩ := read_neg hn 3 (by decide) wl wf
    have e' : f_X7_read wl wf p1 (3 : Int32) = some (0, wl', wf') := e
    rw [e', ob1, ordersIn_neg hn, ob1]
    exact ⟨-1, bl, _, _, rfl, rfl⟩
  · obtain ⟨q, hq, rfl⟩ := nI_of hn
    rw [ordersIn_nI hq, ob1]
    have hr := read_L (mo := 3) (by decide) 10 q 0 300 wf (by
      have : (2 : Nat) ^ 31 < 10 ^ 10 := by decide
      omega) hq (by decide) (by decide)
    rw [Nat.zero_add] at hr
    have hl10 := digs_len 10 q
    by_cases hc2 : okd (digs 10 q) = true ∧ (digs 10 q).length ≤ 3
    · obtain ⟨wf', e1, -, e3⟩ := hr.1 hc2
      have e1' : f_X7_read wl wf (nI q) (3 : Int32) = some (1, nI (digs 10 q).length, wf') := e1
      have hw : ∀ i, i < (digs 10 q).length → wf' i = nI ((digs 10 q).getD i 0) := fun i hi => by
        have := e3 i hi
        rw [Nat.zero_add] at this
        exact this
      have hlen := hc2.2
      rw [e1', ob1, if_pos hc2.1, if_neg (show ¬ ((1 : Int32), nI (digs 10 q).length, wf').1 = 0 from (by decide : ¬ (1 : Int32) = 0)), if_B, if_B, show f_X10_within (nI (digs 10 q).length).toInt64 0 3 = B01 (inR (nI (digs 10 q).length) 0 3) from within_i _ 0 3, if_B, inR_nI (by omega), if_pos (decide_eq_true (by omega))]
      by_cases h5 : inR p2 0 1 = true
      · rw [if_pos h5, if_pos h5, left_X10 hC hs hb hf' hg' hc' hq (by omega) (fun i hi => od_ok hc2.1 hi), ob1]
        dsimp only
        rw [just_X0 hC hs hb hf hg hc hc2.1 (by omega) hw, ob1, show f_X7_length (nI (digs 10 q).length) = nI (digs 10 q).length from rfl, low_X0 hC hs hc (by omega), ob1, Nat.mul_comm (nl co m s m)]
        have hnl := nl_le (co := co) (m := m) (s := s) m
        have h18 : (digs 10 q).length * nl co m s m ≤ 3 * 6 := Nat.mul_le_mul hlen (by omega)
        have hpow := t6 (k := (digs 10 q).length * nl co m s m) (by omega)
        have hle := lf_le (sl := sl) (la := la) (co := co) (m := m) (s := s) (b := b) (q := q) (len := (digs 10 q).length)
        obtain ⟨r, e4, e5⟩ := least_eq (a := lf sl la co m s b q (digs 10 q).length) (b := 10 ^ ((digs 10 q).length * nl co m s m)) (by omega) hpow (Nat.pow_pos (by decide)) h5
        have e4' : f_X9_leastTerms (lN (os co m s (10 ^ (digs 10 q).length) (fun i => sw sl la i q (digs 10 q).length (digs 10 q).length 0 b) m)) (lN (10 ^ ((digs 10 q).length * nl co m s m))) p2 = some r := e4
        rw [e4', e5, ob1, ob1]
        exact ⟨r, _, _, _, rfl, rfl⟩
      · rw [if_neg h5, if_neg h5]; exact ⟨_, _, _, _, rfl, rfl⟩
    · obtain ⟨wl', wf', e⟩ := hr.2 hc2
      have e' : f_X7_read wl wf (nI q) (3 : Int32) = some (0, wl', wf') := e
      rw [e', ob1]
      by_cases hok : okd (digs 10 q) = true
      · have hl : 3 < (digs 10 q).length := by
          rcases Nat.lt_or_ge 3 (digs 10 q).length with h | h
          · exact h
          · exact absurd ⟨hok, h⟩ hc2
        have hw0 : f_X10_within (nI (digs 10 q).length).toInt64 0 3 = 0 := by
          rw [show f_X10_within (nI (digs 10 q).length).toInt64 0 3 = B01 (inR (nI (digs 10 q).length) 0 3) from within_i _ 0 3, inR_nI (by omega), decide_eq_false (by omega)]; rfl
        rw [if_pos hok, if_pos hw0]
        exact ⟨-1, bl, _, _, rfl, rfl⟩
      · rw [if_neg hok]
        exact ⟨-1, bl, _, _, rfl, rfl⟩
theorem lure_L {m k c0 L : Nat} {s' b' : Int32} {s : Nat} {sl la co : Nat → Nat} {f f' g g' c c' : Nat → Int32} (hC : Cl m sl la co) (hs : s < 64) (hk : k < m) (hLe : L = ld co m s 6 k) (hc0 : c0 ≤ 10) (hf : Ar m f sl) (hf' : Ar m f' sl) (hg : Ar m g la) (hg' : Ar m g' la) (hc' : Ar m c' co) : ∀ (d a n b : Nat), a + d = 10 → b ≤ 9 → d < n → ∃ r, f_X6_fewestSaidAhead_L15 s' b' (nI m) f g c n (nI c0) (nI L) (nI b) (nI a) = some r ∧ f_X10_lure_L44 (nI m) (nI s) b' f' g' c' n (nI k) (nI c0) (nI b) (nI a) = some r := by
  have hm := hC.1
  have hL : L < m := by rw [hLe]; exact ld_lt 6 k hk
  intro d
  induction d with
  | zero =>
    intro a n b ha hb hn
    obtain ⟨n, rfl⟩ : ∃ i, n = i + 1 := ⟨n - 1, by omega⟩
    obtain rfl : a = 10 := by omega
    exact ⟨-9, by rw [f_X6_fewestSaidAhead_L15, if_pos (by decide)], by rw [f_X10_lure_L44, if_pos (by decide)]⟩
  | succ d ih =>
    intro a n b ha hb hn
    obtain ⟨n, rfl⟩ : ∃ i, n = i + 1 := ⟨n - 1, by omega⟩
    have he := er_le (o := 2) (b := b) hC hL
    rw [f_X6_fewestSaidAhead_L15, f_X10_lure_L44, if_neg (show ¬ (9 : Int32) < nI a from nI_nlt (a := 9) (by omega) (by decide)), if_neg (show ¬ (10 : Int32) ≤ nI a from nI_ge (a := a) (b := 10) (by omega) (by decide)), lead_X10 hC hc' hs hk, ob1, ← hLe, show (2 : Int32) = nI 2 from rfl, er_X1 hC hf hg hL (by decide) (by decide) hb, er_X10 hC hf' hg' hL (by decide) (by decide) hb, ob1, ob1, show (1 : Int32) = nI 1 from rfl, sb_X9 1 (by decide) (by decide) b (by omega), sb_X10 1 (by decide) (by decide) b (by omega), nI_add]
    by_cases h : nI (er sl la L 2 b) < nI c0
    · rw [if_pos h, if_pos h]; exact ih (a + 1) n _ (by omega) (sb_le _ _) (by omega)
    · rw [if_neg h, if_neg h]; exact ⟨_, rfl, rfl⟩
theorem st_lure {m s b : Nat} {sl la co : Nat → Nat} {f f' g g' c c' : Nat → Int32} (hC : Cl m sl la co) (hs : s < 64) (hb : b ≤ 9) (hf : Ar m f sl) (hf' : Ar m f' sl) (hg : Ar m g la) (hg' : Ar m g' la) (hc : Ar m c co) (hc' : Ar m c' co) (p1 p2 : Int32) : ∃ r, f_X9_lure (nI s) (nI b) (nI m) f g c p1 p2 = some r ∧ f_X10_lure (nI m) (nI s) (nI b) f' g' c' p1 p2 = some r := by
  have hm := hC.1
  unfold f_X9_lure f_X10_lure
  rw [has_X1 hm, child_X10 hm, if_B, if_B, show f_X10_within p2.toInt64 (0 : Int64) (10 : Int64) = B01 (inR p2 0 10) from within_i p2 0 10, if_B]
  have e0 : (0 : Int32).toInt = 0 := rfl
  have e10 : (10 : Int32).toInt = 10 := rfl
  by_cases h1 : inR p1 0 ((m : Int) - 1) = true
  · rw [if_pos h1, if_pos h1]
    obtain ⟨k, hk, rfl⟩ := inR_t (by omega) h1
    by_cases h2 : inR p2 0 10 = true
    · rw [if_pos h2]
      obtain ⟨c0, hc0, rfl⟩ : ∃ j, j < 11 ∧ p2 = nI j := inR_t (n := 11) (by decide) h2
      rw [if_neg (nI_pos (by omega)), if_pos (show nI c0 ≤ (10 : Int32) from nI_le (b := 10) (by omega) (by decide)), isIn1 hm hs hk, has_t s hs k (by omega), if_B, if_B]
      by_cases h3 : s.testBit k = true
      · rw [if_pos h3, if_pos h3]
        unfold f_X6_fewestSaidAhead
        obtain ⟨r, e1, e2⟩ := lure_L (s' := nI s) (b' := nI b) (c := c) hC hs hk rfl (show c0 ≤ 10 by omega) hf hf' hg hg' hc' 10 0 300 b rfl hb (by decide)
        have e1' : f_X6_fewestSaidAhead_L15 (nI s) (nI b) (nI m) f g c 300 (nI c0) (nI (ld co m s 6 k)) (nI b) (0 : Int32) = some r := e1
        rw [lead_X6 hC hc hs hk, ob1, e1', ob1]
        exact ⟨r, rfl, e2⟩
      · rw [if_neg h3, if_neg h3]; exact ⟨_, rfl, rfl⟩
    · rw [if_neg h2]
      by_cases hn : p2 < 0
      · rw [if_pos hn]; exact ⟨_, rfl, rfl⟩
      · rw [if_neg hn, if_neg (show ¬ p2 ≤ (10 : Int32) from fun q => h2 (by
          rw [i32t] at hn; rw [i32l] at q
          exact decide_eq_true (by omega)))]
        exact ⟨_, rfl, rfl⟩
  · rw [if_neg h1, if_neg h1]; exact ⟨_, rfl, rfl⟩
