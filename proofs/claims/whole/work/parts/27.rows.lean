/-! rows of orders -/
def digs : Nat → Nat → List Nat
  | 0, _ => []
  | n + 1, q => if q = 0 then [] else (q % 10) :: digs n (q / 10)
def okd (l : List Nat) : Bool := l.all (fun d => decide (1 ≤ d) && decide (d ≤ 4))
theorem okd_cons (d : Nat) (l : List Nat) : okd (d :: l) = ((decide (1 ≤ d) && decide (d ≤ 4)) && okd l) := rfl
theorem order_nI {d : Nat} (h : d < 2 ^ 31) : inR (nI d) 1 4 = (decide (1 ≤ d) && decide (d ≤ 4)) := by
  rw [inR_nI h]
  by_cases h1 : 1 ≤ d
  · by_cases h2 : d ≤ 4
    · rw [decide_eq_true h1, decide_eq_true h2, decide_eq_true (by omega)]; rfl
    · rw [decide_eq_false h2, decide_eq_false (by omega), Bool.and_false]
  · rw [decide_eq_false h1, decide_eq_false (by omega), Bool.false_and]
theorem rem10 {q : Nat} (h : q < 2 ^ 31) : nI q - nI q / (10 : Int32) * (10 : Int32) = nI (q % 10) := pk_rem (d := 10) h (by decide) (by decide)
theorem div10 {q : Nat} (h : q < 2 ^ 31) : nI q / (10 : Int32) = nI (q / 10) := pk_div (d := 10) h (by decide) (by decide)
theorem digs_len : ∀ (k q : Nat), (digs k q).length ≤ k := by
  intro k
  induction k with
  | zero => intro q; exact Nat.le_refl _
  | succ k ih =>
    intro q; rw [digs]; split
    · exact Nat.zero_le _
    · rw [List.length_cons]; have := ih (q / 10); omega
theorem digs_get : ∀ (k q i : Nat), i < (digs k q).length → (digs k q).getD i 0 = q / 10 ^ i % 10 := by
  intro k
  induction k with
  | zero => intro q i h; exact absurd h (Nat.not_lt_zero _)
  | succ k ih =>
    intro q i h
    rw [digs] at h ⊢
    by_cases h0 : q = 0
    · rw [if_pos h0] at h; exact absurd h (Nat.not_lt_zero _)
    · rw [if_neg h0] at h ⊢
      cases i with
      | zero => rw [List.getD_cons_zero, Nat.pow_zero, Nat.div_one]
      | succ i =>
        rw [List.getD_cons_succ, ih (q / 10) i (by rw [List.length_cons] at h; omega), Nat.div_div_eq_div_mul, Nat.pow_succ, Nat.mul_comm 10]
theorem okd_get : ∀ (l : List Nat) (i : Nat), okd l = true → i < l.length → 1 ≤ l.getD i 0 ∧ l.getD i 0 ≤ 4 := by
  intro l
  induction l with
  | nil => intro i _ h; exact absurd h (Nat.not_lt_zero _)
  | cons a l ih =>
    intro i h hi
    rw [okd_cons, Bool.and_eq_true, Bool.and_eq_true, decide_eq_true_eq, decide_eq_true_eq] at h
    cases i with
    | zero => exact h.1
    | succ i => rw [List.getD_cons_succ]; exact ih i h.2 (by rw [List.length_cons] at hi; omega)
theorem read_L {mo : Nat} (hmo : mo ≤ 9) : ∀ (k q t n : Nat) (wf : Nat → Int32), q < 10 ^ k → q < 2 ^ 31 → t ≤ mo → k < n → ((okd (digs k q) = true ∧ t + (digs k q).length ≤ mo → ∃ wf' : Nat → Int32, f_X7_read_L10 n (nI t) wf (nI mo) (nI q) (nI t) = some (1, nI (t + (digs k q).length), wf') ∧ (∀ i, i < t → wf' i = wf i) ∧ ∀ i, i < (digs k q).length → wf' (t + i) = nI ((digs k q).getD i 0)) ∧ (¬ (okd (digs k q) = true ∧ t + (digs k q).length ≤ mo) → ∃ (wl' : Int32) (wf' : Nat → Int32), f_X7_read_L10 n (nI t) wf (nI mo) (nI q) (nI t) = some (0, wl', wf'))) := by
  intro k
  induction k with
  | zero =>
    intro q t n wf hq hq2 ht hn
    obtain ⟨n, rfl⟩ : ∃ i, n = i + 1 := ⟨n - 1, by omega⟩
    obtain rfl : q = 0 := by rw [Nat.pow_zero] at hq; omega
    have e : f_X7_read_L10 (n + 1) (nI t) wf (nI mo) (nI 0) (nI t) = some (1, nI t, wf) := by
      rw [f_X7_read_L10]
      unfold f_X7_read_L71
      rw [if_pos (show nI 0 = (0 : Int32) from rfl), if_pos (show nI 0 ≤ (0 : Int32) from by decide)]
      split
      · rfl
      · split <;> rfl
    exact ⟨fun _ => ⟨wf, e, fun _ _ => rfl, fun i hi => absurd hi (Nat.not_lt_zero _)⟩, fun h => absurd ⟨rfl, ht⟩ h⟩
  | succ k ih =>
    intro q t n wf hq hq2 ht hn
    obtain ⟨n, rfl⟩ : ∃ i, n = i + 1 := ⟨n - 1, by omega⟩
    rw [digs]
    by_cases h0 : q = 0
    · subst h0
      rw [if_pos rfl]
      have e : f_X7_read_L10 (n + 1) (nI t) wf (nI mo) (nI 0) (nI t) = some (1, nI t, wf) := by
        rw [f_X7_read_L10]
        unfold f_X7_read_L71
        rw [if_pos (show nI 0 = (0 : Int32) from rfl), if_pos (show nI 0 ≤ (0 : Int32) from by decide)]
        split
        · rfl
        · split <;> rfl
      exact ⟨fun _ => ⟨wf, e, fun _ _ => rfl, fun i hi => absurd hi (Nat.not_lt_zero _)⟩, fun h => absurd ⟨rfl, ht⟩ h⟩
    · rw [if_neg h0, okd_cons, List.length_cons]
      have hne : ¬ nI q = 0 := fun e => h0 ((i0 hq2).mp e)
      have hpos : ¬ nI q ≤ (0 : Int32) := nI_nle (by omega) hq2
      have hmd : q % 10 < 10 := Nat.mod_lt _ (by decide)
      have hq10 : q / 10 < 10 ^ k := by rw [Nat.pow_succ] at hq; omega
      by_cases hm : mo ≤ t
      · have e : f_X7_read_L10 (n + 1) (nI t) wf (nI mo) (nI q) (nI t) = some (0, nI t, wf) := by
          rw [f_X7_read_L10, if_pos (nI_le hm (by omega))]
          unfold f_X7_read_L71
          rw [if_neg hne]
        exact ⟨fun h => by omega, fun _ => ⟨_, _, e⟩⟩
      · by_cases ho : (decide (1 ≤ q % 10) && decide (q % 10 ≤ 4)) = true
        · have e : f_X7_read_L10 (n + 1) (nI t) wf (nI mo) (nI q) (nI t) = f_X7_read_L10 n (nI (t + 1)) (upd wf t (nI (q % 10))) (nI mo) (nI (q / 10)) (nI (t + 1)) := by
            rw [f_X7_read_L10, if_neg (nI_ge (by omega) (by omega)), if_neg (show ¬ (9 : Int32) ≤ nI t from nI_ge (a := t) (b := 9) (by omega) (by decide)), if_neg hpos, rem10 hq2, div10 hq2, order_X9, order_nI (by omega), if_B, if_pos ho, if_pos (gin (by omega) (by decide)), nI_1, cl (by omega)]
          rw [e, ho, Bool.true_and]
          obtain ⟨h1, h2⟩ := ih (q / 10) (t + 1) n (upd wf t (nI (q % 10))) hq10 (by omega) (by omega) (by omega)
          refine ⟨fun h => ?_, fun h => ?_⟩
          · obtain ⟨wf', e1, e2, e3⟩ := h1 ⟨h.1, by omega⟩
            refine ⟨wf', by rw [e1, show t + 1 + (digs k (q / 10)).length = t + ((digs k (q / 10)).length + 1) by omega], fun i hi => by rw [e2 i (by omega), upd_n (by omega)], fun i hi => ?_⟩
            cases i with
            | zero => rw [Nat.add_zero, e2 t (by omega), upd_s, List.getD_cons_zero]
            | succ i => rw [show t + (i + 1) = t + 1 + i by omega, e3 i (by omega), List.getD_cons_succ]
          · exact h2 (fun q => h ⟨q.1, by omega⟩)
        · have e : f_X7_read_L10 (n + 1) (nI t) wf (nI mo) (nI q) (nI t) = some (0, nI t, wf) := by
            rw [f_X7_read_L10, if_neg (nI_ge (by omega) (by omega)), if_neg (show ¬ (9 : Int32) ≤ nI t from nI_ge (a := t) (b := 9) (by omega) (by decide)), if_neg hpos, rem10 hq2, div10 hq2, order_X9, order_nI (by omega), if_B, if_neg ho]
          rw [Bool.not_eq_true _ |>.mp ho, Bool.false_and]
          exact ⟨fun h => absurd h.1 Bool.false_ne_true, fun _ => ⟨_, _, e⟩⟩
theorem ordersIn_L : ∀ (k q ct n : Nat) (fl : Bool), q < 10 ^ k → q < 2 ^ 31 → k < n → f_X10_ordersIn_L14 n (nI ct) (B01 fl) (nI q) = some (if (fl && okd (digs k q)) = true then nI (ct + (digs k q).length) else -1) := by
  intro k
  have z : ∀ (n ct : Nat) (fl : Bool), f_X10_ordersIn_L14 (n + 1) (nI ct) (B01 fl) (nI 0) = some (if fl = true then nI ct else -1) := by
    intro n ct fl
    rw [f_X10_ordersIn_L14, if_pos (show nI 0 ≤ (0 : Int32) from by decide), if_B]
    cases fl <;> rfl
  induction k with
  | zero =>
    intro q ct n fl hq hq2 hn
    obtain ⟨n, rfl⟩ : ∃ i, n = i + 1 := ⟨n - 1, by omega⟩
    obtain rfl : q = 0 := by rw [Nat.pow_zero] at hq; omega
    rw [z, digs, show okd [] = true from rfl, Bool.and_true]; rfl
  | succ k ih =>
    intro q ct n fl hq hq2 hn
    obtain ⟨n, rfl⟩ : ∃ i, n = i + 1 := ⟨n - 1, by omega⟩
    rw [digs]
    by_cases h0 : q = 0
    · subst h0
      rw [if_pos rfl, z, show okd [] = true from rfl, Bool.and_true]; rfl
    · rw [if_neg h0, okd_cons, List.length_cons]
      have hpos : ¬ nI q ≤ (0 : Int32) := nI_nle (by omega) hq2
      have hmd : q % 10 < 10 := Nat.mod_lt _ (by decide)
      have hq10 : q / 10 < 10 ^ k := by rw [Nat.pow_succ] at hq; omega
      have ihn := fun fl => ih (q / 10) (ct + 1) n fl hq10 (by omega) (by omega)
      rw [f_X10_ordersIn_L14, if_neg hpos, rem10 hq2, div10 hq2, order_X10, order_nI (by omega), if_B, if_B]
      unfold f_X10_ordersIn_L36
      rw [nI_1, div10 hq2, show ct + ((digs k (q / 10)).length + 1) = ct + 1 + (digs k (q / 10)).length by omega]
      cases fl with
      | false => rw [if_neg (by decide), Bool.false_and]; exact ihn false
      | true =>
        rw [if_pos rfl, Bool.true_and]
        by_cases ho : (decide (1 ≤ q % 10) && decide (q % 10 ≤ 4)) = true
        · rw [if_pos ho, ho]; exact ihn true
        · rw [if_neg ho, Bool.not_eq_true _ |>.mp ho, Bool.false_and]; exact ihn false
theorem ordersIn_nI {q : Nat} (hq : q < 2 ^ 31) : f_X10_ordersIn (nI q) = some (if okd (digs 10 q) = true then nI (digs 10 q).length else -1) := by
  unfold f_X10_ordersIn
  rw [if_neg (nI_pos hq)]
  have h := ordersIn_L 10 q 0 300 true (by
    have : (2 : Nat) ^ 31 < 10 ^ 10 := by decide
    omega) hq (by decide)
  rw [Nat.zero_add, Bool.true_and] at h
  exact h
theorem ordersIn_neg {p : Int32} (h : p < 0) : f_X10_ordersIn p = some (-1) := by
  unfold f_X10_ordersIn
  rw [if_pos h, f_X10_ordersIn_L14, if_pos (by rw [i32t] at h; rw [i32l]; omega)]
  rfl
theorem read_neg {p : Int32} (h : p < 0) (mo : Nat) (hmo : mo ≤ 9) (wl : Int32) (wf : Nat → Int32) : ∃ (wl' : Int32) (wf' : Nat → Int32), f_X7_read wl wf p (nI mo) = some (0, wl', wf') := by
  have hle : p ≤ 0 := by rw [i32t] at h; rw [i32l]; omega
  have hne : ¬ p = 0 := by rw [i32t] at h; rw [i32e]; omega
  unfold f_X7_read
  rw [f_X7_read_L10]
  unfold f_X7_read_L71
  rw [if_pos hle, if_neg hne]
  split
  · exact ⟨_, _, rfl⟩
  · split <;> exact ⟨_, _, rfl⟩
/-- the i-th order of a row of so many -/
def od (q len i : Nat) : Nat := q / 10 ^ (len - 1 - i) % 10
theorem od_ok {q i : Nat} (h : okd (digs 10 q) = true) (hi : i < (digs 10 q).length) : 1 ≤ od q (digs 10 q).length i ∧ od q (digs 10 q).length i ≤ 4 := by
  unfold od
  rw [← digs_get 10 q _ (by omega)]
  exact okd_get _ _ h (by omega)
theorem orderAt_X10 : ∀ (d q i n : Nat), q < 2 ^ 31 → i + d < 2 ^ 31 → d < n → f_X10_orderAt_L7 n (nI i) (nI q) (nI (i + d)) = some (nI (q / 10 ^ d % 10)) := by
  intro d
  induction d with
  | zero =>
    intro q i n hq hi hn
    obtain ⟨n, rfl⟩ : ∃ j, n = j + 1 := ⟨n - 1, by omega⟩
    rw [f_X10_orderAt_L7, if_pos (show nI (i + 0) ≤ nI i from nI_le (Nat.le_refl i) (by omega)), rem10 hq, Nat.pow_zero, Nat.div_one]
  | succ d ih =>
    intro q i n hq hi hn
    obtain ⟨n, rfl⟩ : ∃ j, n = j + 1 := ⟨n - 1, by omega⟩
    have e : nI (i + (d + 1)) + (-1 : Int32) = nI (i + d) := pk_m1 (i + d)
    rw [f_X10_orderAt_L7, if_neg (nI_ge (by omega) (by omega)), div10 hq, e, ih (q / 10) i n (by omega) (by omega) (by omega), Nat.div_div_eq_div_mul, Nat.pow_succ, Nat.mul_comm 10]
theorem od_X10 {q len i : Nat} (hq : q < 2 ^ 31) (hl : len ≤ 10) (hi : i < len) : f_X10_orderAt (nI q) (nI len) (nI i) = some (nI (od q len i)) := by
  unfold f_X10_orderAt od
  have e : nI len - 1 = nI (i + (len - 1 - i)) := by
    have h := nI_pred (len - 1)
    rw [show len - 1 + 1 = len by omega] at h
    rw [h, show i + (len - 1 - i) = len - 1 by omega]
  rw [e]
  exact orderAt_X10 (len - 1 - i) q i 300 hq (by omega) (by omega)
theorem od_X7 {q i : Nat} {wf : Nat → Int32} (hl : (digs 10 q).length ≤ 9) (hi : i < (digs 10 q).length) (h : ∀ i, i < (digs 10 q).length → wf i = nI ((digs 10 q).getD i 0)) : f_X7_orderAt (nI (digs 10 q).length) wf (nI i) = some (nI (od q (digs 10 q).length i)) := by
  unfold f_X7_orderAt od
  rw [if_neg (nI_pos (by omega)), if_neg (nI_ge hi (by omega)), show (1 : Int32) = nI 1 from rfl, pk_sub (by omega), pk_sub (by omega), if_pos (gin (by omega) (by decide)), cl (by omega), h _ (by omega), digs_get _ _ _ (by omega)]
/-- in how many ways of tens one who leads stays: from the i-th order on -/
def sw (sl la : Nat → Nat) (k q len : Nat) : Nat → Nat → Nat → Nat
  | 0, _, _ => 1
  | d + 1, i, b => (10 - er sl la k (od q len i) b) * sw sl la k q len d (i + 1) (sb (od q len i) b)
theorem sw_le {sl la : Nat → Nat} {k q len : Nat} : ∀ (d i b : Nat), sw sl la k q len d i b ≤ 10 ^ d := by
  intro d
  induction d with
  | zero => intro i b; exact Nat.le_refl _
  | succ d ih =>
    intro i b
    rw [sw, Nat.pow_succ, Nat.mul_comm]
    exact Nat.mul_le_mul (ih _ _) (by omega)
theorem stays_X0L {m k q b0 : Nat} {sl la co : Nat → Nat} {f g wf : Nat → Int32} (hC : Cl m sl la co) (hk : k < m) (hf : Ar m f sl) (hg : Ar m g la) (hok : okd (digs 10 q) = true) (hl : (digs 10 q).length ≤ 9) (hw : ∀ i, i < (digs 10 q).length → wf i = nI ((digs 10 q).getD i 0)) : ∀ (d i b n u : Nat), i + d = (digs 10 q).length → b ≤ 9 → d < n → f_X0_leaderStays_L14 (nI b0) (nI m) f g (nI (digs 10 q).length) wf n (nI k) (lN u) (nI b) (nI i) = some (lN (u * sw sl la k q (digs 10 q).length d i b)) := by
  intro d
  induction d with
  | zero =>
    intro i b n u hi hb hn
    obtain ⟨n, rfl⟩ : ∃ j, n = j + 1 := ⟨n - 1, by omega⟩
    rw [f_X0_leaderStays_L14, show f_X7_length (nI (digs 10 q).length) = nI (digs 10 q).length from rfl, if_pos (nI_le (by omega) (by omega)), sw, Nat.mul_one]
  | succ d ih =>
    intro i b n u hi hb hn
    obtain ⟨n, rfl⟩ : ∃ j, n = j + 1 := ⟨n - 1, by omega⟩
    obtain ⟨h1, h4⟩ := od_ok hok (show i < (digs 10 q).length by omega)
    have he := er_le (o := od q (digs 10 q).length i) (b := b) hC hk
    rw [f_X0_leaderStays_L14, show f_X7_length (nI (digs 10 q).length) = nI (digs 10 q).length from rfl, if_neg (nI_ge (by omega) (by omega)), od_X7 hl (by omega) hw, ob1, er_X1 hC hf hg hk h1 h4 hb, ob1, fac (m := 0) (L := 0) he, lN_mul, sb_X9 _ (by omega) h1 b (by omega), nI_1, ih (i + 1) _ n _ (by omega) (sb_le _ _) (by omega), sw, Nat.mul_assoc]
theorem stays_X10L {m k q len b0 : Nat} {sl la co : Nat → Nat} {f g : Nat → Int32} (hC : Cl m sl la co) (hk : k < m) (hf : Ar m f sl) (hg : Ar m g la) (hq : q < 2 ^ 31) (hl : len ≤ 9) (hod : ∀ i, i < len → 1 ≤ od q len i ∧ od q len i ≤ 4) : ∀ (d i b n u : Nat), i + d = len → b ≤ 9 → d < n → f_X10_staysOf_L12 (nI b0) f g n (nI k) (nI q) (nI len) (nI b) (lN u) (nI i) = some (lN (u * sw sl la k q len d i b)) := by
  intro d
  induction d with
  | zero =>
    intro i b n u hi hb hn
    obtain ⟨n, rfl⟩ : ∃ j, n = j + 1 := ⟨n - 1, by omega⟩
    rw [f_X10_staysOf_L12, if_pos (nI_le (by omega) (by omega)), sw, Nat.mul_one]
  | succ d ih =>
    intro i b n u hi hb hn
    obtain ⟨n, rfl⟩ : ∃ j, n = j + 1 := ⟨n - 1, by omega⟩
    obtain ⟨h1, h4⟩ := hod i (by omega)
    have he := er_le (o := od q len i) (b := b) hC hk
    rw [f_X10_staysOf_L12, if_neg (nI_ge (by omega) (by omega)), od_X10 hq (by omega) (by omega), ob1, er_X10 hC hf hg hk h1 h4 hb, ob1, fac (m := 0) (L := 0) he, lN_mul, sb_X10 _ (by omega) h1 b (by omega), nI_1, ih (i + 1) _ n _ (by omega) (sb_le _ _) (by omega), sw, Nat.mul_assoc]
theorem stays_X0 {m k q b : Nat} {sl la co : Nat → Nat} {f g wf : Nat → Int32} (hC : Cl m sl la co) (hk : k < m) (hb : b ≤ 9) (hf : Ar m f sl) (hg : Ar m g la) (hok : okd (digs 10 q) = true) (hl : (digs 10 q).length ≤ 9) (hw : ∀ i, i < (digs 10 q).length → wf i = nI ((digs 10 q).getD i 0)) : f_X0_leaderStays (nI b) (nI m) f g (nI (digs 10 q).length) wf (nI k) = some (lN (sw sl la k q (digs 10 q).length (digs 10 q).length 0 b)) := by
  have h := stays_X0L (b0 := b) hC hk hf hg hok hl hw (digs 10 q).length 0 b 300 1 (by omega) hb (by omega)
  rw [Nat.one_mul] at h
  exact h
theorem stays_X10 {m k q len b : Nat} {sl la co : Nat → Nat} {f g : Nat → Int32} (hC : Cl m sl la co) (hk : k < m) (hb : b ≤ 9) (hf : Ar m f sl) (hg : Ar m g la) (hq : q < 2 ^ 31) (hl : len ≤ 9) (hod : ∀ i, i < len → 1 ≤ od q len i ∧ od q len i ≤ 4) : f_X10_staysOf (nI b) f g (nI k) (nI q) (nI len) = some (lN (sw sl la k q len len 0 b)) := by
  have h := stays_X10L (b0 := b) hC hk hf hg hq hl hod len 0 b 300 1 (by omega) hb (by omega)
  rw [Nat.one_mul] at h
  exact h
theorem part_val {a b : Nat} (ha : a < 2 ^ 60) (hb : b < 2 ^ 60) (h0 : 0 < b) (w : Int32) : f_X10_part (lN a) (lN b) w = some (if w = 0 then lN (a / Nat.gcd a b) else lN (b / Nat.gcd a b)) := by
  have hg : 0 < Nat.gcd a b := Nat.gcd_pos_of_pos_right _ h0
  have hg2 : Nat.gcd a b ≤ b := Nat.gcd_le_right _ h0
  have e2 : f_X10_part (lN a) (lN b) w = _ := part_L6 (lN a) (lN b) w 60 a b 300 (by omega) (by omega) hb (by decide)
  have hgne : ¬ lN (Nat.gcd a b) = 0 := fun q => by
    have := (pk_lEQ (a := Nat.gcd a b) (b := 0) (by omega) (by decide)).mp q
    omega
  rw [e2, f_X10_part_L6, if_pos (show lg_cmp (lN 0) 0 = 0 from by decide), if_neg hgne, if_neg hgne, pk_lDiv (by omega) hg (by omega), pk_lDiv (by omega) hg (by omega)]
  split <;> rfl
theorem st_stays {m s b : Nat} {wl : Int32} {wf : Nat → Int32} {sl la co : Nat → Nat} {f f' g g' c c' : Nat → Int32} (hC : Cl m sl la co) (hs : s < 64) (hb : b ≤ 9) (hf : Ar m f sl) (hf' : Ar m f' sl) (hg : Ar m g la) (hg' : Ar m g' la) (hc : Ar m c co) (hc' : Ar m c' co) (p1 p2 p3 : Int32) : ∃ (r : Int64) (wl' : Int32) (wf' : Nat → Int32), f_X9_stays (nI s) (nI b) (nI m) f g c wl wf p1 p2 p3 = some (r, wl', wf') ∧ f_X10_stays (nI m) (nI s) (nI b) f' g' c' p1 p2 p3 = some r := by
  have hm := hC.1
  unfold f_X9_stays f_X10_stays
  rw [has_X1 hm, child_X10 hm, half_X9, half_X10, if_B]
  have bad : ∀ y : Int32, (if B01 (inR p1 0 ((m : Int) - 1)) = 0 then some (-1 : Int64) else if f_X10_within (-1 : Int32).toInt64 0 9 = 0 then some (-1) else if B01 (inR p3 0 1) = 0 then some (-1) else if f_X10_has (nI s) p1 = 0 then f_X10_stays_L65 (nI m) (nI s) (nI b) f' g' c' 0 p3 y else Option.bind (f_X10_leaderOf (nI s) c' p1) (fun y10 => Option.bind (f_X10_staysOf (nI b) f' g' y10 p2 y) (fun y11 => f_X10_stays_L65 (nI m) (nI s) (nI b) f' g' c' y11 p3 y))) = some (-1) := by
    intro y
    rw [if_pos (show f_X10_within (-1 : Int32).toInt64 0 9 = 0 from by decide)]
    split <;> rfl
  have out : ∀ (z : Option Int32), (∃ y, z = some y) → inR p1 0 ((m : Int) - 1) = false → Option.bind z (fun y1 => if B01 (inR p1 0 ((m : Int) - 1)) = 0 then some (-1 : Int64) else if f_X10_within y1.toInt64 0 9 = 0 then some (-1) else if B01 (inR p3 0 1) = 0 then some (-1) else if f_X10_has (nI s) p1 = 0 then f_X10_stays_L65 (nI m) (nI s) (nI b) f' g' c' 0 p3 y1 else Option.bind (f_X10_leaderOf (nI s) c' p1) (fun y10 => Option.bind (f_X10_staysOf (nI b) f' g' y10 p2 y1) (fun y11 => f_X10_stays_L65 (nI m) (nI s) (nI b) f' g' c' y11 p3 y1))) = some (-1) := by
    rintro z ⟨y, rfl⟩ h
    rw [ob1, h]; rfl
  have hz : ∃ y, f_X10_ordersIn p2 = some y := by
    by_cases hn : p2 < 0
    · exact ⟨_, ordersIn_neg hn⟩
    · obtain ⟨q, hq, rfl⟩ := nI_of hn
      exact ⟨_, ordersIn_nI hq⟩
  by_cases h1 : inR p1 0 ((m : Int) - 1) = true
  · rw [if_pos h1]
    by_cases hn : p2 < 0
    · obtain ⟨wl', wf', e⟩ := read_neg hn 9 (by decide) wl wf
      have e' : f_X7_read wl wf p2 (9 : Int32) = some (0, wl', wf') := e
      rw [e', ob1, ordersIn_neg hn, ob1, bad]
      exact ⟨-1, _, _, rfl, rfl⟩
    · obtain ⟨q, hq, rfl⟩ := nI_of hn
      rw [ordersIn_nI hq, ob1]
      have hr := read_L (mo := 9) (by decide) 10 q 0 300 wf (by
        have : (2 : Nat) ^ 31 < 10 ^ 10 := by decide
        omega) hq (by decide) (by decide)
      rw [Nat.zero_add] at hr
      by_cases hc2 : okd (digs 10 q) = true ∧ (digs 10 q).length ≤ 9
      · obtain ⟨wf', e1, -, e3⟩ := hr.1 hc2
        have e1' : f_X7_read wl wf (nI q) (9 : Int32) = some (1, nI (digs 10 q).length, wf') := e1
        have hw : ∀ i, i < (digs 10 q).length → wf' i = nI ((digs 10 q).getD i 0) := fun i hi => by
          have := e3 i hi
          rw [Nat.zero_add] at this
          exact this
        rw [e1', ob1, if_pos hc2.1]
        obtain ⟨k, hk, rfl⟩ := inR_t (by omega) h1
        have hlead := ld_lt (co := co) (m := m) (s := s) 6 k hk
        have hlen := hc2.2
        rw [if_neg (show ¬ ((1 : Int32), nI (digs 10 q).length, wf').1 = 0 from (by decide : ¬ (1 : Int32) = 0)), if_B, if_B, if_B, show f_X10_within (nI (digs 10 q).length).toInt64 0 9 = B01 (inR (nI (digs 10 q).length) 0 9) from within_i _ 0 9, if_B, if_pos h1, inR_nI (by omega), if_pos (decide_eq_true (by omega)), isIn1 hm hs hk, has_t s hs k (by omega), if_B, if_B]
        by_cases h5 : inR p3 0 1 = true
        · rw [if_pos h5, if_pos h5]
          unfold f_X10_stays_L65
          rw [ten_X10 (by omega)]
          simp only [ob1]
          have hpow := t6 (k := (digs 10 q).length) (by omega)
          have hp0 : 0 < (10 : Nat) ^ (digs 10 q).length := Nat.pow_pos (by decide)
          by_cases h6 : s.testBit k = true
          · rw [if_pos h6, if_pos h6, lead_X6 hC hc hs hk, lead_X10 hC hc' hs hk, ob1, ob1, stays_X10 hC hlead hb hf' hg' hq (by omega) (fun i hi => od_ok hc2.1 hi), ob1]
            rw [stays_X0 hC hlead hb hf hg hc2.1 hc2.2 hw, ob1, show f_X7_length (nI (digs 10 q).length) = nI (digs 10 q).length from rfl, ten_X9 (by omega), ob1]
            have hle := sw_le (sl := sl) (la := la) (k := ld co m s 6 k) (q := q) (len := (digs 10 q).length) (digs 10 q).length 0 b
            obtain ⟨r, e4, e5⟩ := least_eq (a := sw sl la (ld co m s 6 k) q (digs 10 q).length (digs 10 q).length 0 b) (b := 10 ^ (digs 10 q).length) (by omega) hpow hp0 h5
            rw [e4, e5, ob1, ob1]
            exact ⟨r, _, _, rfl, rfl⟩
          · rw [if_neg h6, if_neg h6]
            obtain ⟨r, e4, e5⟩ := least_eq (a := 0) (b := 1) (by decide) (by decide) (by decide) h5
            have e4' : f_X9_leastTerms (0 : Int64) (1 : Int64) p3 = some r := e4
            rw [part_val (by decide) (by decide) (by decide)] at e5
            rw [e4', ob1, show (0 : Int64) = lN 0 from rfl, part_val (by decide) hpow hp0, ob1, Nat.gcd_zero_left, Nat.zero_div, Nat.div_self hp0]
            exact ⟨r, _, _, rfl, e5⟩
        · rw [if_neg h5, if_neg h5]; exact ⟨_, _, _, rfl, rfl⟩
      · obtain ⟨wl', wf', e⟩ := hr.2 hc2
        have e' : f_X7_read wl wf (nI q) (9 : Int32) = some (0, wl', wf') := e
        rw [e', ob1]
        by_cases hok : okd (digs 10 q) = true
        · have hl10 := digs_len 10 q
          have hl : (digs 10 q).length = 10 := by
            rcases Nat.lt_or_ge 9 (digs 10 q).length with h | h
            · omega
            · exact absurd ⟨hok, h⟩ hc2
          rw [if_pos hok, hl, if_pos (show f_X10_within (nI 10).toInt64 0 9 = 0 from by decide)]
          refine ⟨-1, _, _, rfl, ?_⟩
          split <;> rfl
        · rw [if_neg hok, bad]
          exact ⟨-1, _, _, rfl, rfl⟩
  · rw [if_neg h1, out _ hz (Bool.not_eq_true _ |>.mp h1)]
    exact ⟨_, _, _, rfl, rfl⟩
