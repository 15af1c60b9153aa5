/-! how many fall: the row that is filled group by group, and the sum over all sets -/
def sumL (l : List Nat) (f : Nat → Nat) : Nat := (l.map f).sum
theorem sumL_nil (f : Nat → Nat) : sumL [] f = 0 := rfl
theorem sumL_cons (a : Nat) (l : List Nat) (f : Nat → Nat) : sumL (a :: l) f = f a + sumL l f := by unfold sumL; rw [List.map_cons, List.sum_cons]
theorem sumL_congr {f g : Nat → Nat} : ∀ {l : List Nat}, (∀ t ∈ l, f t = g t) → sumL l f = sumL l g := by
  intro l
  induction l with
  | nil => intro _; rfl
  | cons a l ih =>
    intro h
    rw [sumL_cons, sumL_cons, h a List.mem_cons_self, ih (fun t ht => h t (List.mem_cons_of_mem _ ht))]
theorem sumL_add (f g : Nat → Nat) : ∀ l : List Nat, sumL l (fun t => f t + g t) = sumL l f + sumL l g := by
  intro l
  induction l with
  | nil => rfl
  | cons a l ih => rw [sumL_cons, sumL_cons, sumL_cons, ih]; omega
theorem sumL_mul (f : Nat → Nat) (c : Nat) : ∀ l : List Nat, sumL l (fun t => f t * c) = sumL l f * c := by
  intro l
  induction l with
  | nil => exact (Nat.zero_mul c).symm
  | cons a l ih => rw [sumL_cons, sumL_cons, ih, Nat.add_mul]
theorem sumL_map (f : Nat → Nat) (h : Nat → Nat) : ∀ l : List Nat, sumL (l.map h) f = sumL l (fun t => f (h t)) := by
  intro l
  induction l with
  | nil => rfl
  | cons a l ih => rw [List.map_cons, sumL_cons, sumL_cons, ih]
theorem sumL_filter (f : Nat → Nat) (p : Nat → Bool) : ∀ l : List Nat, sumL (l.filter p) f = sumL l (fun t => if p t = true then f t else 0) := by
  intro l
  induction l with
  | nil => rfl
  | cons a l ih =>
    rw [List.filter_cons, sumL_cons]
    by_cases h : p a = true
    · rw [if_pos h, sumL_cons, ih, if_pos h]
    · rw [if_neg h, ih, if_neg h, Nat.zero_add]
theorem sumL_zero {l : List Nat} : sumL l (fun _ => 0) = 0 := by
  induction l with
  | nil => rfl
  | cons a l ih => rw [sumL_cons, ih]
def sub (U t : Nat) : Bool := decide (t &&& (63 ^^^ U) = 0)
def subs (U : Nat) : List Nat := (List.range 64).filter (sub U)
theorem subs_B : ∀ U, U < 64 → ∀ g, g < 64 → U &&& g = 0 → (List.range 64).filter (fun t => sub (U ||| g) t && decide (g &&& t = g)) = (subs U).map (fun t => t ||| g) := by decide +kernel
theorem subs_A : ∀ U, U < 64 → ∀ g, g < 64 → U &&& g = 0 → (List.range 64).filter (fun t => sub (U ||| g) t && decide (g &&& t = 0)) = subs U := by decide +kernel
theorem pc_or : ∀ t, t < 64 → ∀ g, g < 64 → t &&& g = 0 → pc (t ||| g) = pc t + pc g := by decide +kernel
theorem sub_dis : ∀ U, U < 64 → ∀ g, g < 64 → U &&& g = 0 → ∀ t, t < 64 → sub U t = true → t &&& g = 0 := by
  intro U hU g hg h t ht hs
  have hs := of_decide_eq_true hs
  apply Nat.eq_of_testBit_eq
  intro i
  have h1 : (U &&& g).testBit i = false := by rw [h]; exact Nat.zero_testBit i
  have h2 : (t &&& (63 ^^^ U)).testBit i = false := by rw [hs]; exact Nat.zero_testBit i
  rw [Nat.testBit_and] at h1 h2 ⊢
  rw [Nat.testBit_xor] at h2
  rw [Nat.zero_testBit]
  by_cases hi : i < 6
  · have h3 : Nat.testBit 63 i = true := by
      have := Nat.testBit_two_pow_sub_one 6 i
      rw [show (63 : Nat) = 2 ^ 6 - 1 from rfl, this]; exact decide_eq_true hi
    rw [h3] at h2
    revert h1 h2
    cases t.testBit i <;> cases U.testBit i <;> cases g.testBit i <;> simp
  · have h4 : t.testBit i = false := Nat.testBit_lt_two_pow (Nat.lt_of_lt_of_le (show t < 2 ^ 6 from ht) (Nat.pow_le_pow_right (by decide) (by omega)))
    rw [h4, Bool.false_and]
/-- one more group -/
theorem step_sum {U g e n : Nat} (hU : U < 64) (hg : g < 64) (hd : U &&& g = 0) (hg0 : g ≠ 0) (X : Nat → Nat) : sumL (subs (U ||| g)) (fun t => X t * (if g &&& t = g then e else if g &&& t = 0 then 10 - e else 0)) = sumL (subs U) (fun t => X (t ||| g)) * e + sumL (subs U) X * (10 - e) := by
  have h1 : sumL (subs (U ||| g)) (fun t => X t * (if g &&& t = g then e else if g &&& t = 0 then 10 - e else 0)) = sumL ((List.range 64).filter (fun t => sub (U ||| g) t && decide (g &&& t = g))) (fun t => X t * e) + sumL ((List.range 64).filter (fun t => sub (U ||| g) t && decide (g &&& t = 0))) (fun t => X t * (10 - e)) := by
    rw [subs, sumL_filter, sumL_filter, sumL_filter, ← sumL_add]
    apply sumL_congr
    intro t _
    by_cases hs : sub (U ||| g) t = true
    · rw [if_pos hs, hs, Bool.true_and, Bool.true_and]
      by_cases h2 : g &&& t = g
      · rw [if_pos h2, if_pos (decide_eq_true h2), if_neg (by rw [decide_eq_false (by omega)]; decide)]; rfl
      · rw [if_neg h2, if_neg (c := decide (g &&& t = g) = true) (by rw [decide_eq_false h2]; decide)]
        by_cases h3 : g &&& t = 0
        · rw [if_pos h3, if_pos (decide_eq_true h3), Nat.zero_add]
        · rw [if_neg h3, if_neg (c := decide (g &&& t = 0) = true) (by rw [decide_eq_false h3]; decide), Nat.mul_zero]
    · rw [if_neg hs, Bool.not_eq_true _ |>.mp hs, Bool.false_and, Bool.false_and, if_neg (by decide), if_neg (by decide)]
  rw [h1, subs_B U hU g hg hd, subs_A U hU g hg hd, sumL_map, sumL_mul, sumL_mul]
/-- the leader of a leader is itself -/
theorem ld_fix {m s : Nat} {sl la co : Nat → Nat} (hC : Cl m sl la co) : ∀ (d k : Nat), k ≤ d → k < m → (decide (co (ld co m s d k) < m) && s.testBit (co (ld co m s d k))) = false := by
  have hm := hC.1
  intro d
  induction d with
  | zero =>
    intro k hk hkm
    obtain rfl : k = 0 := by omega
    rcases (hC.2 0 hkm).2.2 with h | h
    · show (decide (co 0 < m) && s.testBit (co 0)) = false
      rw [h, decide_eq_false (by omega)]; rfl
    · omega
  | succ d ih =>
    intro k hk hkm
    rw [ld]
    by_cases hc : (decide (co k < m) && s.testBit (co k)) = true
    · rw [if_pos hc]
      rw [Bool.and_eq_true, decide_eq_true_eq] at hc
      refine ih (co k) ?_ hc.1
      rcases (hC.2 k hkm).2.2 with h | h <;> omega
    · rw [if_neg hc]; exact Bool.not_eq_true _ |>.mp hc
theorem ld_idem {m s k : Nat} {sl la co : Nat → Nat} (hC : Cl m sl la co) (hk : k < m) : ld co m s 6 (ld co m s 6 k) = ld co m s 6 k := by
  have h := ld_fix (s := s) hC 6 k (by have := hC.1; omega) hk
  show (if (decide (co (ld co m s 6 k) < m) && s.testBit (co (ld co m s 6 k))) = true then _ else ld co m s 6 k) = _
  rw [h]; rfl
theorem gp_tb {co : Nat → Nat} {m s L k : Nat} : ∀ j, (gp co m s L j).testBit k = (decide (k < j) && (s.testBit k && decide (ld co m s 6 k = L))) := by
  intro j
  induction j with
  | zero => rw [gp, Nat.zero_testBit, decide_eq_false (by omega)]; rfl
  | succ j ih =>
    rw [gp]
    by_cases hc : (s.testBit j && decide (ld co m s 6 j = L)) = true
    · rw [if_pos hc, Nat.testBit_or, ih, Nat.testBit_two_pow]
      by_cases hq : j = k
      · subst hq
        rw [decide_eq_false (show ¬ j < j by omega), decide_eq_true (show j < j + 1 by omega), decide_eq_true rfl, hc]; rfl
      · rw [decide_eq_false hq, Bool.or_false]
        by_cases hl : k < j
        · rw [decide_eq_true hl, decide_eq_true (show k < j + 1 by omega)]
        · rw [decide_eq_false hl, decide_eq_false (show ¬ k < j + 1 by omega)]
    · rw [if_neg hc, ih]
      by_cases hq : j = k
      · subst hq
        rw [decide_eq_false (show ¬ j < j by omega), decide_eq_true (show j < j + 1 by omega), Bool.not_eq_true _ |>.mp hc]; rfl
      · by_cases hl : k < j
        · rw [decide_eq_true hl, decide_eq_true (show k < j + 1 by omega)]
        · rw [decide_eq_false hl, decide_eq_false (show ¬ k < j + 1 by omega)]
theorem gp_dis {co : Nat → Nat} {m s L L' : Nat} (h : L ≠ L') : gp co m s L m &&& gp co m s L' m = 0 := by
  apply Nat.eq_of_testBit_eq
  intro i
  rw [Nat.testBit_and, gp_tb, gp_tb, Nat.zero_testBit]
  by_cases h1 : ld co m s 6 i = L
  · rw [decide_eq_false (show ¬ ld co m s 6 i = L' from fun q => h (h1.symm.trans q))]; simp
  · rw [decide_eq_false h1]; simp
/-- those whose leader is among the first j -/
def un (co : Nat → Nat) (m s : Nat) : Nat → Nat
  | 0 => 0
  | j + 1 => if isL co m s j = true then un co m s j ||| gp co m s j m else un co m s j
theorem un_lt {co : Nat → Nat} {m s : Nat} (hm : m ≤ 6) : ∀ j, un co m s j < 64 := by
  intro j
  induction j with
  | zero => exact (by decide : (0 : Nat) < 64)
  | succ j ih =>
    rw [un]; split
    · exact or63 ih (gp64 hm)
    · exact ih
theorem un_tb {m s k : Nat} {sl la co : Nat → Nat} (hC : Cl m sl la co) : ∀ j, (un co m s j).testBit k = (decide (k < m) && (s.testBit k && decide (ld co m s 6 k < j))) := by
  intro j
  induction j with
  | zero => rw [un, Nat.zero_testBit, decide_eq_false (show ¬ ld co m s 6 k < 0 by omega)]; simp
  | succ j ih =>
    rw [un]
    by_cases hL : isL co m s j = true
    · rw [if_pos hL, Nat.testBit_or, ih, gp_tb]
      by_cases h1 : ld co m s 6 k < j
      · rw [decide_eq_true h1, decide_eq_true (show ld co m s 6 k < j + 1 by omega), decide_eq_false (show ¬ ld co m s 6 k = j by omega)]; simp
      · rw [decide_eq_false h1]
        by_cases h2 : ld co m s 6 k = j
        · rw [decide_eq_true h2, decide_eq_true (show ld co m s 6 k < j + 1 by omega)]; simp
        · rw [decide_eq_false h2, decide_eq_false (show ¬ ld co m s 6 k < j + 1 by omega)]; simp
    · rw [if_neg hL, ih]
      by_cases hk : k < m
      · by_cases hs : s.testBit k = true
        · have hne : ld co m s 6 k ≠ j := by
            intro q
            apply hL
            unfold isL
            rw [← q, ld_in 6 k hs, ld_idem hC hk, decide_eq_true rfl]; rfl
          by_cases h1 : ld co m s 6 k < j
          · rw [decide_eq_true h1, decide_eq_true (show ld co m s 6 k < j + 1 by omega)]
          · rw [decide_eq_false h1, decide_eq_false (show ¬ ld co m s 6 k < j + 1 by omega)]
        · rw [Bool.not_eq_true _ |>.mp hs]; simp
      · rw [decide_eq_false hk]; simp
theorem un_m {m s : Nat} {sl la co : Nat → Nat} (hC : Cl m sl la co) (hs : s < 2 ^ m) : un co m s m = s := by
  apply Nat.eq_of_testBit_eq
  intro i
  rw [un_tb hC]
  by_cases hi : i < m
  · rw [decide_eq_true hi, decide_eq_true (ld_lt 6 i hi)]; simp
  · have : s.testBit i = false := Nat.testBit_lt_two_pow (Nat.lt_of_lt_of_le hs (Nat.pow_le_pow_right (by decide) (by omega)))
    rw [this, decide_eq_false hi]; rfl
theorem un_dis {m s j : Nat} {sl la co : Nat → Nat} (hC : Cl m sl la co) : un co m s j &&& gp co m s j m = 0 := by
  apply Nat.eq_of_testBit_eq
  intro i
  rw [Nat.testBit_and, un_tb hC, gp_tb, Nat.zero_testBit]
  by_cases h : ld co m s 6 i = j
  · rw [decide_eq_false (show ¬ ld co m s 6 i < j by omega)]; simp
  · rw [decide_eq_false h]; simp
theorem gp_ne {m s j : Nat} {co : Nat → Nat} (hj : j < m) (h : isL co m s j = true) : gp co m s j m ≠ 0 := by
  intro q
  unfold isL at h
  have h2 : (gp co m s j m).testBit j = true := by rw [gp_tb, decide_eq_true hj, h]; rfl
  rw [q, Nat.zero_testBit] at h2
  cases h2
/-- the row -/
def dp (sl la co : Nat → Nat) (m s b o : Nat) : Nat → Nat → Nat
  | 0, n => if n = 0 then 1 else 0
  | j + 1, n => if isL co m s j = true then dp sl la co m s b o j n * (10 - er sl la j o b) + (if pc (gp co m s j m) ≤ n then dp sl la co m s b o j (n - pc (gp co m s j m)) else 0) * er sl la j o b else dp sl la co m s b o j n
theorem wP_congr {co : Nat → Nat} {m s : Nat} {F G : Nat → Nat} : ∀ j, (∀ i, i < j → isL co m s i = true → F i = G i) → wP co m s F j = wP co m s G j := by
  intro j
  induction j with
  | zero => intro _; rfl
  | succ j ih =>
    intro h
    rw [wP, wP, ih (fun i hi hl => h i (by omega) hl)]
    by_cases hl : isL co m s j = true
    · rw [if_pos hl, if_pos hl, h j (by omega) hl]
    · rw [if_neg hl, if_neg hl]
theorem dp_sum {m s b o : Nat} {sl la co : Nat → Nat} (hC : Cl m sl la co) : ∀ (j n : Nat), j ≤ m → dp sl la co m s b o j n = sumL (subs (un co m s j)) (fun t => if pc t = n then wP co m s (wf sl la co m s b o t) j else 0) := by
  have hm := hC.1
  intro j
  induction j with
  | zero =>
    intro n _
    rw [un, show subs 0 = [0] from by decide +kernel, sumL_cons, sumL_nil, dp, show pc 0 = 0 from rfl]
    by_cases h : n = 0
    · rw [if_pos h, if_pos h.symm]; rfl
    · rw [if_neg h, if_neg (fun q => h q.symm)]
  | succ j ih =>
    intro n hj
    have hjm : j < m := by omega
    rw [dp, un]
    by_cases hL : isL co m s j = true
    · rw [if_pos hL, if_pos hL]
      have hU := un_lt (co := co) (s := s) hm j
      have hG := gp64 (co := co) (m := m) (s := s) (L := j) hm
      have hd := un_dis (s := s) (j := j) hC
      have e := step_sum (e := er sl la j o b) (n := n) hU hG hd (gp_ne hjm hL) (fun t => if pc t = n then wP co m s (wf sl la co m s b o t) j else 0)
      have e0 : sumL (subs (un co m s j ||| gp co m s j m)) (fun t => if pc t = n then wP co m s (wf sl la co m s b o t) (j + 1) else 0) = sumL (subs (un co m s j ||| gp co m s j m)) (fun t => (if pc t = n then wP co m s (wf sl la co m s b o t) j else 0) * (if gp co m s j m &&& t = gp co m s j m then er sl la j o b else if gp co m s j m &&& t = 0 then 10 - er sl la j o b else 0)) := by
        apply sumL_congr
        intro t _
        rw [wP, if_pos hL]
        by_cases hp : pc t = n
        · rw [if_pos hp, if_pos hp]; rfl
        · rw [if_neg hp, if_neg hp, Nat.zero_mul]
      rw [e0, e, ← ih n (by omega), Nat.add_comm]
      congr 2
      by_cases hz : pc (gp co m s j m) ≤ n
      · rw [if_pos hz, ih (n - pc (gp co m s j m)) (by omega)]
        apply sumL_congr
        intro t ht
        have ht' := List.mem_filter.mp ht
        have ht64 : t < 64 := List.mem_range.mp ht'.1
        have htd := sub_dis _ hU _ hG hd t ht64 ht'.2
        rw [pc_or t ht64 _ hG htd]
        have ew : wP co m s (wf sl la co m s b o (t ||| gp co m s j m)) j = wP co m s (wf sl la co m s b o t) j := by
          apply wP_congr
          intro i hi _
          unfold wf
          rw [Nat.and_or_distrib_left, gp_dis (show i ≠ j by omega), Nat.or_zero]
        rw [ew]
        by_cases hp : pc t + pc (gp co m s j m) = n
        · rw [if_pos hp, if_pos (by omega)]
        · rw [if_neg hp, if_neg (by omega)]
      · rw [if_neg hz]
        have : sumL (subs (un co m s j)) (fun t => if pc (t ||| gp co m s j m) = n then wP co m s (wf sl la co m s b o (t ||| gp co m s j m)) j else 0) = sumL (subs (un co m s j)) (fun _ => 0) := by
          apply sumL_congr
          intro t ht
          have ht' := List.mem_filter.mp ht
          have ht64 : t < 64 := List.mem_range.mp ht'.1
          have htd := sub_dis _ hU _ hG hd t ht64 ht'.2
          rw [pc_or t ht64 _ hG htd, if_neg (by omega)]
        rw [this, sumL_zero]
    · rw [if_neg hL, if_neg hL, ih n (by omega)]
      apply sumL_congr
      intro t _
      rw [wP, if_neg hL]
/-- the reference's sum -/
def rs (h : Nat → Nat) : Nat → Nat
  | 0 => 0
  | k + 1 => rs h k + h k
theorem rs_sum (h : Nat → Nat) : ∀ k, rs h k = sumL (List.range k) h := by
  intro k
  induction k with
  | zero => rfl
  | succ k ih => rw [rs, ih, List.range_succ]; unfold sumL; rw [List.map_append, List.sum_append]; simp
theorem rs_pad (h : Nat → Nat) (k : Nat) : ∀ d, (∀ i, k ≤ i → i < k + d → h i = 0) → rs h (k + d) = rs h k := by
  intro d
  induction d with
  | zero => intro _; rfl
  | succ d ih =>
    intro hz
    rw [← Nat.add_assoc, rs, ih (fun i h1 h2 => hz i h1 (by omega)), hz (k + d) (by omega) (by omega), Nat.add_zero]
theorem sub_big {m s t : Nat} (hm : m ≤ 6) (hs : s < 2 ^ m) (ht : 2 ^ m ≤ t) (ht6 : t < 64) : ¬ t &&& (63 ^^^ s) = 0 := by
  intro h
  have hd := sub_dis s (by have := p6 hm; omega) (63 ^^^ s) (by
    have : s < 2 ^ 6 := by have := p6 hm; omega
    exact Nat.xor_lt_two_pow (n := 6) (by decide) this) (by
    apply Nat.eq_of_testBit_eq
    intro i
    rw [Nat.testBit_and, Nat.testBit_xor, Nat.zero_testBit]
    by_cases hi : i < 6
    · have h3 : Nat.testBit 63 i = true := by
        rw [show (63 : Nat) = 2 ^ 6 - 1 from rfl, Nat.testBit_two_pow_sub_one]; exact decide_eq_true hi
      rw [h3]; cases s.testBit i <;> rfl
    · have : s.testBit i = false := Nat.testBit_lt_two_pow (Nat.lt_of_lt_of_le hs (Nat.pow_le_pow_right (by decide) (by omega)))
      rw [this]; rfl) t ht6 (decide_eq_true h)
  have hlt : t < 2 ^ m := by
    apply Nat.lt_pow_two_of_testBit
    intro i hi
    have h2 : (t &&& (63 ^^^ s)).testBit i = false := by rw [h]; exact Nat.zero_testBit i
    rw [Nat.testBit_and, Nat.testBit_xor] at h2
    have hsi : s.testBit i = false := Nat.testBit_lt_two_pow (Nat.lt_of_lt_of_le hs (Nat.pow_le_pow_right (by decide) hi))
    by_cases h6 : i < 6
    · have h3 : Nat.testBit 63 i = true := by
        rw [show (63 : Nat) = 2 ^ 6 - 1 from rfl, Nat.testBit_two_pow_sub_one]; exact decide_eq_true h6
      rw [h3, hsi] at h2
      revert h2
      cases t.testBit i <;> simp
    · exact Nat.testBit_lt_two_pow (Nat.lt_of_lt_of_le (show t < 2 ^ 6 from ht6) (Nat.pow_le_pow_right (by decide) (by omega)))
  omega
theorem many_sum {m s b o n : Nat} {sl la co : Nat → Nat} (hC : Cl m sl la co) (hs : s < 2 ^ m) : rs (fun t => if pc t = n then ways sl la co m s b o t else 0) (2 ^ m) = dp sl la co m s b o m n := by
  have hm := hC.1
  have h6 := p6 hm
  rw [dp_sum hC m n (Nat.le_refl _), un_m hC hs]
  have h1 := rs_pad (fun t => if pc t = n then ways sl la co m s b o t else 0) (2 ^ m) (64 - 2 ^ m) (fun i h1 h2 => by
    have : ways sl la co m s b o i = 0 := by
      unfold ways
      rw [if_neg (sub_big hm hs h1 (by omega)), Nat.zero_mul]
    show (if pc i = n then ways sl la co m s b o i else 0) = 0
    rw [this]; split <;> rfl)
  rw [← h1, show 2 ^ m + (64 - 2 ^ m) = 64 by omega, rs_sum, subs, sumL_filter]
  apply sumL_congr
  intro t _
  unfold ways sub
  by_cases h : t &&& (63 ^^^ s) = 0
  · rw [if_pos h, if_pos (decide_eq_true h), Nat.one_mul]
  · rw [if_neg h, Nat.zero_mul, if_neg (c := decide (t &&& (63 ^^^ s) = 0) = true) (by rw [decide_eq_false h]; decide)]; split <;> rfl
theorem dp_le {m s b o : Nat} {sl la co : Nat → Nat} (hC : Cl m sl la co) : ∀ (j n : Nat), j ≤ m → dp sl la co m s b o j n ≤ 10 ^ nl co m s j := by
  intro j
  induction j with
  | zero => intro n _; show (if n = 0 then 1 else 0) ≤ 1; split <;> omega
  | succ j ih =>
    intro n hj
    have he := er_le (o := o) (b := b) hC (show j < m by omega)
    rw [dp, nl]
    by_cases hL : isL co m s j = true
    · rw [if_pos hL, if_pos hL, Nat.pow_succ]
      have h1 := Nat.mul_le_mul_right (10 - er sl la j o b) (ih n (by omega))
      have h2 : (if pc (gp co m s j m) ≤ n then dp sl la co m s b o j (n - pc (gp co m s j m)) else 0) * er sl la j o b ≤ 10 ^ nl co m s j * er sl la j o b := by
        apply Nat.mul_le_mul_right
        split
        · exact ih _ (by omega)
        · exact Nat.zero_le _
      have h3 : 10 ^ nl co m s j * (10 - er sl la j o b) + 10 ^ nl co m s j * er sl la j o b = 10 ^ nl co m s j * 10 := by
        rw [← Nat.mul_add]; congr 1; omega
      omega
    · rw [if_neg hL, if_neg hL]; exact ih n (by omega)
