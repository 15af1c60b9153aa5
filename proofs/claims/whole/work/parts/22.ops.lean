/-! the calls that look or write a little -/
theorem bit_t : ∀ s, s < 64 → ∀ k, k < 6 → ((nI s >>> (nI k &&& 31)) &&& (1 : Int32)) = B01 (s.testBit k) := by decide +kernel
theorem little_X1 {m li k : Nat} (hm : m ≤ 6) (hl : li < 64) (hk : k < m) : f_X1_isLittle (nI m) (nI li) (nI k) = B01 (li.testBit k) := by
  unfold f_X1_isLittle
  rw [has1 m (by omega) k hk, if_neg (by decide), bit_t li hl k (by omega)]
  cases li.testBit k <;> rfl
theorem six {p : Int32} (h : inR p 0 5 = true) : p = 0 ∨ p = 1 ∨ p = 2 ∨ p = 3 ∨ p = 4 ∨ p = 5 := by
  obtain ⟨j, hj, rfl⟩ := inR_t (n := 6) (by decide) h
  rcases (show j = 0 ∨ j = 1 ∨ j = 2 ∨ j = 3 ∨ j = 4 ∨ j = 5 by omega) with rfl | rfl | rfl | rfl | rfl | rfl
  · exact Or.inl rfl
  · exact Or.inr (Or.inl rfl)
  · exact Or.inr (Or.inr (Or.inl rfl))
  · exact Or.inr (Or.inr (Or.inr (Or.inl rfl)))
  · exact Or.inr (Or.inr (Or.inr (Or.inr (Or.inl rfl))))
  · exact Or.inr (Or.inr (Or.inr (Or.inr (Or.inr rfl))))
theorem n6 {p : Int32} (h : ¬ inR p 0 5 = true) : ¬ p = (0 : Int32) ∧ ¬ p = (1 : Int32) ∧ ¬ p = (2 : Int32) ∧ ¬ p = (3 : Int32) ∧ ¬ p = (4 : Int32) ∧ ¬ p = (5 : Int32) :=
  ⟨fun q => h (by rw [q]; decide), fun q => h (by rw [q]; decide), fun q => h (by rw [q]; decide), fun q => h (by rw [q]; decide), fun q => h (by rw [q]; decide), fun q => h (by rw [q]; decide)⟩
theorem st_child {m s li : Nat} {sl la co : Nat → Nat} {f f' g g' c c' : Nat → Int32} (hC : Cl m sl la co) (hs : s < 64) (hl : li < 64) (hf : Ar m f sl) (hf' : Ar m f' sl) (hg : Ar m g la) (hg' : Ar m g' la) (hc : Ar m c co) (hc' : Ar m c' co) (p1 p2 : Int32) : ∃ r, f_X9_child (nI s) (nI m) (nI li) f g c p1 p2 = some r ∧ f_X10_child (nI m) (nI li) (nI s) f' g' c' p1 p2 = some r := by
  have hm := hC.1
  unfold f_X9_child f_X10_child
  rw [has_X1 hm, child_X10 hm, if_B, if_B]
  by_cases h1 : inR p1 0 ((m : Int) - 1) = true
  · rw [if_pos h1, if_pos h1]
    obtain ⟨k, hk, rfl⟩ := inR_t (by omega) h1
    rw [show f_X10_within p2.toInt64 (0 : Int64) (5 : Int64) = B01 (inR p2 0 5) from within_i p2 0 5, if_B]
    by_cases h2 : inR p2 0 5 = true
    · rw [if_pos h2]
      rw [slip_X1 hm hk hf, late_X1 hm hk hg, copied_X1 hm hk hc, little_X1 hm hl hk, isIn1 hm hs hk, lead_X6 hC hc hs hk, lead_X10 hC hc' hs hk, bit_t li hl k (by omega), bit_t s hs k (by omega), has_t s hs k (by omega), gin (by omega) (by decide), cl (by omega), hf' k hk, hg' k hk, hc' k hk]
      simp only [ob1]
      rcases six h2 with rfl | rfl | rfl | rfl | rfl | rfl
      · exact ⟨_, rfl, rfl⟩
      · exact ⟨_, rfl, rfl⟩
      · exact ⟨_, rfl, rfl⟩
      · cases li.testBit k <;> exact ⟨_, rfl, rfl⟩
      · cases s.testBit k <;> exact ⟨_, rfl, rfl⟩
      · cases s.testBit k <;> exact ⟨_, rfl, rfl⟩
    · rw [if_neg h2]
      obtain ⟨n0, n1, n2, n3, n4, n5⟩ := n6 h2
      rw [if_neg n0, if_neg n1, if_neg n2, if_neg n3, if_neg n4, if_neg n5]
      exact ⟨_, rfl, rfl⟩
  · rw [if_neg h1, if_neg h1]
    exact ⟨_, rfl, rfl⟩
theorem fair_eq {m s li : Nat} (hm : m ≤ 6) (hs : s < 2 ^ m) (hl : li < 64) : f_X10_fair (nI m) (nI li) (nI s) = f_X6_isFair (nI s) (nI li) := by
  have h6 := p6 hm
  unfold f_X10_fair f_X6_isFair f_X1_littleOnes
  have e : (((1 : Int32) <<< (nI m &&& 31)) - (1 : Int32)) = nI (2 ^ m - 1) := eve_t m (by omega)
  rw [e, and_t s (by omega) (2 ^ m - 1) (by omega), Nat.and_two_pow_sub_one_eq_mod, Nat.mod_eq_of_lt hs]
theorem fair_zo (x y : Int32) : zo (f_X6_isFair x y) := by
  unfold f_X6_isFair
  split
  · exact Or.inr rfl
  · split
    · exact Or.inr rfl
    · exact Or.inl rfl
theorem st_now {m s li un : Nat} {b : Int32} (hm : m ≤ 6) (hs : s < 2 ^ m) (hl : li < 64) (p1 : Int32) : f_X9_now (nI s) b (nI li) (nI un) p1 = f_X10_now (nI m) (nI li) (nI s) b (nI un) p1 := by
  unfold f_X9_now f_X10_now
  rw [fair_eq hm hs hl]
  rcases fair_zo (nI s) (nI li) with h | h <;> rw [h] <;> rfl
theorem st_errs {m s b : Nat} {sl la co : Nat → Nat} {f f' g g' : Nat → Int32} (hC : Cl m sl la co) (hs : s < 64) (hb : b ≤ 9) (hf : Ar m f sl) (hf' : Ar m f' sl) (hg : Ar m g la) (hg' : Ar m g' la) (p1 p2 : Int32) : ∃ r, f_X9_errs (nI s) (nI b) (nI m) f g p1 p2 = some r ∧ f_X10_errs (nI m) (nI s) (nI b) f' g' p1 p2 = some r := by
  have hm := hC.1
  unfold f_X9_errs f_X10_errs
  rw [has_X1 hm, child_X10 hm, if_B, if_B, order_X9, order_X10, if_B, if_B]
  by_cases h1 : inR p1 0 ((m : Int) - 1) = true
  · rw [if_pos h1, if_pos h1]
    obtain ⟨k, hk, rfl⟩ := inR_t (by omega) h1
    by_cases h2 : inR p2 1 4 = true
    · rw [if_pos h2, if_pos h2]
      obtain ⟨o, h3, h4, rfl⟩ := inR_o h2
      rw [isIn1 hm hs hk, has_t s hs k (by omega), if_B, if_B, show f_X6_streak (nI b) = nI b from rfl, er_X1 hC hf hg hk h3 h4 hb, er_X10 hC hf' hg' hk h3 h4 hb, ob1]
      by_cases h5 : s.testBit k = true
      · rw [if_pos h5]; exact ⟨_, rfl, rfl⟩
      · rw [if_neg h5]; exact ⟨_, rfl, rfl⟩
    · rw [if_neg h2, if_neg h2]; exact ⟨_, rfl, rfl⟩
  · rw [if_neg h1, if_neg h1]; exact ⟨_, rfl, rfl⟩
theorem st_count {m s li tl : Nat} (hm : m ≤ 6) (hs : s < 64) (hl : li < 64) (p1 : Int32) : f_X10_count (nI tl) (nI m) (nI li) (nI s) p1 = some (f_X9_count (nI tl) (nI s) (nI m) (nI li) p1) := by
  unfold f_X9_count f_X10_count f_X6_howManyIn f_X1_littleOnes f_X1_size f_X8_length
  rw [pc_J s hs, pc_J li hl, pc_b s hs, pc_b li hl, ob1, ob1]
  by_cases h0 : p1 = 0
  · subst h0; rfl
  · rw [if_neg h0, if_neg h0]
    by_cases h1 : p1 = 1
    · subst h1; rfl
    · rw [if_neg h1, if_neg h1]
      by_cases h2 : p1 = 2
      · subst h2; rfl
      · rw [if_neg h2, if_neg h2]
        by_cases h3 : p1 = 3
        · subst h3; rfl
        · rw [if_neg h3, if_neg h3]
