/-! what can be taken back, images, rates -/
def RH (m un : Nat) (hi hs bf : Nat → Int32) : Prop := un ≤ 12 ∧ ∀ j, j < un → ∃ a c : Nat, a < 2 ^ m ∧ c ≤ 9 ∧ hi j = nI a ∧ bf (2 * j) = nI a ∧ hs j = nI c ∧ bf (2 * j + 1) = nI c
theorem upd_s {f : Nat → Int32} {k : Nat} {x : Int32} : upd f k x k = x := if_pos rfl
theorem upd_n {f : Nat → Int32} {k j : Nat} {x : Int32} (h : j ≠ k) : upd f k x j = f j := if_neg h
theorem add13 {un : Nat} {hi hs : Nat → Int32} (x y : Int32) (h : un < 12) : f_X2_add_L13 (nI un) hi hs x y = some (nI (un + 1), upd hi un x, upd hs un y) := by
  unfold f_X2_add_L13
  rw [if_pos (gin h (by decide)), if_pos (gin h (by decide)), nI_1, cl (by omega)]
theorem rem47 {un : Nat} {bf : Nat → Int32} (x y : Int32) (h : un < 12) : f_X10_remember_L47 x y (nI un) bf = some (nI (un + 1), upd (upd bf (2 * un) x) (2 * un + 1) y) := by
  unfold f_X10_remember_L47
  rw [il 2, pk_mul, nI_1, nI_1, if_pos (gin (by omega) (by decide)), if_pos (gin (by omega) (by decide)), cl (by omega), cl (by omega)]
theorem rem11 {x y : Int32} {bf : Nat → Int32} : ∀ (d k n : Nat) (bg : Nat → Int32), k + d = 22 → d < n → (∀ j, j < k → bg j = bf (j + 2)) → (∀ j, k ≤ j → bg j = bf j) → ∃ bh : Nat → Int32, f_X10_remember_L11 x y n (nI 12) bg (nI k) = f_X10_remember_L47 x y (nI 11) bh ∧ ∀ j, j < 22 → bh j = bf (j + 2) := by
  intro d
  induction d with
  | zero =>
    intro k n bg hk hn h1 h2
    obtain ⟨n, rfl⟩ : ∃ i, n = i + 1 := ⟨n - 1, by omega⟩
    obtain rfl : k = 22 := by omega
    exact ⟨bg, by rw [f_X10_remember_L11, if_pos (by decide)]; rfl, h1⟩
  | succ d ih =>
    intro k n bg hk hn h1 h2
    obtain ⟨n, rfl⟩ : ∃ i, n = i + 1 := ⟨n - 1, by omega⟩
    rw [f_X10_remember_L11, if_neg (show ¬ (22 : Int32) ≤ nI k from nI_ge (a := k) (b := 22) (by omega) (by decide)), il 2, nI_add, if_pos (gin (by omega) (by decide)), if_pos (gin (by omega) (by decide)), cl (by omega), cl (by omega), nI_1]
    refine ih (k + 1) n _ (by omega) (by omega) (fun j hj => ?_) (fun j hj => ?_)
    · by_cases hq : j = k
      · rw [hq, upd_s]; exact h2 _ (by omega)
      · rw [upd_n hq]; exact h1 j (by omega)
    · rw [upd_n (by omega)]; exact h2 j (by omega)
theorem st_rem {m un s b : Nat} {hi hs bf : Nat → Int32} (h : RH m un hi hs bf) (hs2 : s < 2 ^ m) (hb : b ≤ 9) : ∃ (un' : Nat) (hi' hs' bf' : Nat → Int32), f_X2_add (nI un) hi hs (nI s) (nI b) = some (nI un', hi', hs') ∧ f_X10_remember (nI s) (nI b) (nI un) bf = some (nI un', bf') ∧ RH m un' hi' hs' bf' := by
  obtain ⟨h12, hh⟩ := h
  by_cases hu : un < 12
  · refine ⟨un + 1, upd hi un (nI s), upd hs un (nI b), upd (upd bf (2 * un) (nI s)) (2 * un + 1) (nI b), ?_, ?_, by omega, fun j hj => ?_⟩
    · unfold f_X2_add
      rw [if_pos (show nI un < (12 : Int32) from nI_lt (b := 12) hu (by decide))]
      exact add13 _ _ hu
    · unfold f_X10_remember
      rw [if_neg (show ¬ nI un = (12 : Int32) from fun q => by have := (nI_eq (b := 12) (by omega) (by decide)).mp q; omega)]
      exact rem47 _ _ hu
    · by_cases hq : j = un
      · subst hq
        exact ⟨s, b, hs2, hb, upd_s, by rw [upd_n (by omega), upd_s], upd_s, upd_s⟩
      · obtain ⟨a, c, h1, h2, h3, h4, h5, h6⟩ := hh j (by omega)
        exact ⟨a, c, h1, h2, by rw [upd_n hq]; exact h3, by rw [upd_n (by omega), upd_n (by omega)]; exact h4, by rw [upd_n hq]; exact h5, by rw [upd_n (by omega), upd_n (by omega)]; exact h6⟩
  · obtain rfl : un = 12 := by omega
    obtain ⟨bh, e1, e2⟩ := rem11 (x := nI s) (y := nI b) (bf := bf) 22 0 300 bf rfl (by decide) (fun j hj => by omega) (fun _ _ => rfl)
    refine ⟨12, upd (va_cpy hi hi 1 0 11) 11 (nI s), upd (va_cpy hs hs 1 0 11) 11 (nI b), upd (upd bh (2 * 11) (nI s)) (2 * 11 + 1) (nI b), ?_, ?_, by omega, fun j hj => ?_⟩
    · unfold f_X2_add
      rw [if_neg (by decide)]
      unfold f_X2_loseOldest
      rw [if_pos (by decide), if_pos (by decide), ob1]
      exact add13 (un := 11) _ _ (by decide)
    · unfold f_X10_remember
      rw [if_pos (by decide)]
      exact e1.trans (rem47 (un := 11) _ _ (by decide))
    · by_cases hq : j = 11
      · subst hq
        exact ⟨s, b, hs2, hb, upd_s, by rw [upd_n (by omega), upd_s], upd_s, upd_s⟩
      · obtain ⟨a, c, h1, h2, h3, h4, h5, h6⟩ := hh (j + 1) (by omega)
        refine ⟨a, c, h1, h2, ?_, ?_, ?_, ?_⟩
        · rw [upd_n hq]
          refine (pk_cpy_in (f := hi) (g := hi) (sp := 1) (dp := 0) (n := 11) (Nat.zero_le _) (by omega)).trans ?_
          rw [← h3]; congr 1; omega
        · rw [upd_n (by omega), upd_n (by omega), e2 _ (by omega), ← h4]; congr 1
        · rw [upd_n hq]
          refine (pk_cpy_in (f := hs) (g := hs) (sp := 1) (dp := 0) (n := 11) (Nat.zero_le _) (by omega)).trans ?_
          rw [← h5]; congr 1; omega
        · rw [upd_n (by omega), upd_n (by omega), e2 _ (by omega), ← h6]; congr 1
theorem two_or {m s k : Nat} (hs : s < 2 ^ m) (hk : k < m) : s ||| 2 ^ k < 2 ^ m := Nat.or_lt_two_pow hs (Nat.pow_lt_pow_right (by decide) hk)
theorem st_comes {m s b un : Nat} {hi hs bf : Nat → Int32} (hm : m ≤ 6) (h : RH m un hi hs bf) (hs2 : s < 2 ^ m) (hb : b ≤ 9) (p1 : Int32) : ∃ (r : Int32) (s' un' : Nat) (hi' hs' bf' : Nat → Int32), f_X9_comesBack (nI s) (nI b) (nI m) (nI un) hi hs p1 = some (r, nI s', nI un', hi', hs') ∧ f_X10_comesBack (nI m) (nI s) (nI b) (nI un) bf p1 = some (r, nI s', nI un', bf') ∧ RH m un' hi' hs' bf' ∧ s' < 2 ^ m := by
  have h6 := p6 hm
  have hs6 : s < 64 := by omega
  unfold f_X9_comesBack f_X10_comesBack
  rw [has_X1 hm, child_X10 hm, if_B, if_B]
  by_cases h1 : inR p1 0 ((m : Int) - 1) = true
  · rw [if_pos h1, if_pos h1]
    obtain ⟨k, hk, rfl⟩ := inR_t (by omega) h1
    rw [isIn1 hm hs6 hk, has_t s hs6 k (by omega), if_B, if_B]
    by_cases h5 : s.testBit k = true
    · rw [if_pos h5, if_pos h5]; exact ⟨_, s, un, hi, hs, bf, rfl, rfl, h, hs2⟩
    · rw [if_neg h5, if_neg h5]
      obtain ⟨un', hi', hs', bf', e1, e2, h'⟩ := st_rem h hs2 hb
      have hor := two_or hs2 hk
      have hk64 : 2 ^ k < 64 := Nat.pow_lt_pow_right (n := 6) (by decide) (by omega)
      have eo : nI s ||| ((1 : Int32) <<< (nI k &&& 31)) = nI (s ||| 2 ^ k) := by rw [shl_t k (by omega), or_t s hs6 _ hk64]
      rw [show f_X6_whoIsIn (nI s) = nI s from rfl, show f_X6_streak (nI b) = nI b from rfl, e1, e2, ob1, ob1, eo, pc_b _ (by omega), ob1]
      refine ⟨nI (pc (s ||| 2 ^ k)), s ||| 2 ^ k, un', hi', hs', bf', ?_, rfl, h', hor⟩
      show some (f_X6_howManyIn (nI s ||| ((1 : Int32) <<< (nI k &&& 31))), _, _, _, _) = _
      rw [eo]
      unfold f_X6_howManyIn
      rw [pc_J _ (by omega)]
  · rw [if_neg h1, if_neg h1]; exact ⟨_, s, un, hi, hs, bf, rfl, rfl, h, hs2⟩
theorem st_undo {m s b un : Nat} {hi hs bf : Nat → Int32} (h : RH m un hi hs bf) (hs2 : s < 2 ^ m) (hb : b ≤ 9) : ∃ (r : Int32) (s' b' un' : Nat), f_X9_undo (nI s) (nI b) (nI un) hi hs = some (r, nI s', nI b', nI un') ∧ f_X10_undo (nI s) (nI b) (nI un) bf = some (r, nI s', nI b', nI un') ∧ RH m un' hi hs bf ∧ s' < 2 ^ m ∧ b' ≤ 9 := by
  obtain ⟨h12, hh⟩ := id h
  unfold f_X9_undo f_X10_undo f_X2_size
  by_cases hu : un = 0
  · subst hu
    rw [if_pos (show nI 0 = 0 from rfl), if_pos (show nI 0 = 0 from rfl)]
    exact ⟨_, s, b, 0, rfl, rfl, h, hs2, hb⟩
  · have hne : ¬ nI un = 0 := fun q => hu ((i0 (by omega)).mp q)
    obtain ⟨v, rfl⟩ : ∃ v, un = v + 1 := ⟨un - 1, by omega⟩
    obtain ⟨a, c, h1, h2, h3, h4, h5, h6⟩ := hh v (by omega)
    have ev : nI (v + 1) - 1 = nI v := nI_pred v
    rw [if_neg hne, if_neg hne, ev, il 2, pk_mul, nI_1, if_pos (gin (by omega) (by decide)), if_pos (gin (by omega) (by decide)), cl (by omega), cl (by omega), h4, h6]
    refine ⟨nI v, a, c, v, ?_, rfl, ⟨by omega, fun j hj => hh j (by omega)⟩, h1, h2⟩
    have ed : f_X2_dropLatest (nI (v + 1)) = some (nI v) := by
      unfold f_X2_dropLatest
      rw [if_neg (nI_nle (by omega) (by omega)), ev]
    have e3 : f_X2_droppedIn (nI v) hi = some (nI a) := by
      unfold f_X2_droppedIn
      rw [if_neg (show ¬ (12 : Int32) ≤ nI v from nI_ge (a := v) (b := 12) (by omega) (by decide)), if_pos (gin (by omega) (by decide)), cl (by omega), h3]
    have e4 : f_X2_droppedStreak (nI v) hs = some (nI c) := by
      unfold f_X2_droppedStreak
      rw [if_neg (show ¬ (12 : Int32) ≤ nI v from nI_ge (a := v) (b := 12) (by omega) (by decide)), if_pos (gin (by omega) (by decide)), cl (by omega), h5]
    rw [ed, ob1, e3, ob1, e4, ob1]
    rfl
/-- an image, beside the reference's three numbers -/
def RI (m : Nat) (kp iin ist ilo mk m0 m1 m2 : Int32) : Prop := (kp = 0 ∧ mk = 0) ∨ (kp = 1 ∧ mk = 1 ∧ ∃ a c : Nat, a < 2 ^ m ∧ c ≤ 9 ∧ iin = nI a ∧ m0 = nI a ∧ ist = nI c ∧ m1 = nI c ∧ ilo = m2)
theorem RI.zo {m : Nat} {kp iin ist ilo mk m0 m1 m2 : Int32} (h : RI m kp iin ist ilo mk m0 m1 m2) : zo kp := by
  rcases h with h | h
  · exact Or.inl h.1
  · exact Or.inr h.1
theorem two {p : Int32} (h : inR p 0 1 = true) : p = 0 ∨ p = 1 := by
  obtain ⟨j, hj, rfl⟩ := inR_t (n := 2) (by decide) h
  rcases (show j = 0 ∨ j = 1 by omega) with rfl | rfl
  · exact Or.inl rfl
  · exact Or.inr rfl
theorem st_keep {m s b : Nat} {lo : Int32} {k0 i0 s0 l0 k1 i1 s1 l1 : Int32} {mi mk : Nat → Int32} (hm : m ≤ 6) (hs : s < 2 ^ m) (hb : b ≤ 9) (h0 : RI m k0 i0 s0 l0 (mk 0) (mi 0) (mi 1) (mi 2)) (h1 : RI m k1 i1 s1 l1 (mk 1) (mi 3) (mi 4) (mi 5)) (p1 : Int32) : ∃ (r k0' i0' s0' l0' k1' i1' s1' l1' : Int32) (mi' mk' : Nat → Int32), f_X9_keep (nI s) (nI b) lo k0 i0 s0 l0 k1 i1 s1 l1 p1 = some (r, k0', i0', s0', l0', k1', i1', s1', l1') ∧ f_X10_keep (nI s) (nI b) lo mi mk p1 = some (r, mi', mk') ∧ RI m k0' i0' s0' l0' (mk' 0) (mi' 0) (mi' 1) (mi' 2) ∧ RI m k1' i1' s1' l1' (mk' 1) (mi' 3) (mi' 4) (mi' 5) := by
  have h6 := p6 hm
  unfold f_X9_keep f_X10_keep
  rw [image_X9, show f_X10_within p1.toInt64 (0 : Int64) (1 : Int64) = B01 (inR p1 0 1) from within_i p1 0 1, if_B, if_B]
  by_cases hp : inR p1 0 1 = true
  · rw [if_pos hp, if_pos hp]
    unfold f_X6_howManyIn
    rw [pc_J s (by omega), pc_b s (by omega), ob1]
    rcases two hp with rfl | rfl
    · exact ⟨_, _, _, _, _, _, _, _, _, _, _, rfl, rfl, Or.inr ⟨rfl, rfl, s, b, hs, hb, rfl, rfl, rfl, rfl, rfl⟩, h1⟩
    · exact ⟨_, _, _, _, _, _, _, _, _, _, _, rfl, rfl, h0, Or.inr ⟨rfl, rfl, s, b, hs, hb, rfl, rfl, rfl, rfl, rfl⟩⟩
  · rw [if_neg hp, if_neg hp]
    exact ⟨_, _, _, _, _, _, _, _, _, _, _, rfl, rfl, h0, h1⟩
theorem st_back {m s b un : Nat} {lo : Int32} {k0 i0 s0 l0 k1 i1 s1 l1 : Int32} {mi mk : Nat → Int32} (hm : m ≤ 6) (hs : s < 2 ^ m) (hb : b ≤ 9) (hu : un ≤ 12) (h0 : RI m k0 i0 s0 l0 (mk 0) (mi 0) (mi 1) (mi 2)) (h1 : RI m k1 i1 s1 l1 (mk 1) (mi 3) (mi 4) (mi 5)) (p1 : Int32) : ∃ (r lo' : Int32) (s' b' un' : Nat), f_X9_back (nI s) (nI b) lo (nI un) k0 i0 s0 l0 k1 i1 s1 l1 p1 = some (r, nI s', nI b', lo', nI un') ∧ f_X10_back (nI s) (nI b) lo (nI un) mi mk p1 = some (r, nI s', nI b', lo', nI un') ∧ s' < 2 ^ m ∧ b' ≤ 9 ∧ (un' = 0 ∨ un' = un) := by
  have h6 := p6 hm
  unfold f_X9_back f_X10_back
  rw [image_X9, show f_X10_within p1.toInt64 (0 : Int64) (1 : Int64) = B01 (inR p1 0 1) from within_i p1 0 1, if_B, if_B]
  by_cases hp : inR p1 0 1 = true
  · rw [if_pos hp, if_pos hp]
    rcases two hp with rfl | rfl
    · rcases h0 with ⟨e1, e2⟩ | ⟨e1, e2, a, c, ha, hc, e3, e4, e5, e6, e7⟩
      · subst e1
        refine ⟨-2, lo, s, b, un, rfl, ?_, hs, hb, Or.inr rfl⟩
        rw [if_pos (show gIn 0 2 = true from by decide), show mk (0 : Int32).toNatClampNeg = 0 from e2]; rfl
      · subst e1 e3 e5 e7
        refine ⟨nI (pc a), mi 2, a, c, 0, ?_, ?_, ha, hc, Or.inl rfl⟩
        · show some (f_J6_bitCount_0f7a4 (nI a), _, _, _, _) = _
          rw [pc_J a (by omega)]; rfl
        · rw [if_pos (show gIn 0 2 = true from by decide), show mk (0 : Int32).toNatClampNeg = 1 from e2, show mi ((3 : Int32) * 0).toNatClampNeg = nI a from e4, show mi ((3 : Int32) * 0 + 1).toNatClampNeg = nI c from e6, pc_b a (by omega)]; rfl
    · rcases h1 with ⟨e1, e2⟩ | ⟨e1, e2, a, c, ha, hc, e3, e4, e5, e6, e7⟩
      · subst e1
        refine ⟨-2, lo, s, b, un, rfl, ?_, hs, hb, Or.inr rfl⟩
        rw [if_pos (show gIn 1 2 = true from by decide), show mk (1 : Int32).toNatClampNeg = 0 from e2]; rfl
      · subst e1 e3 e5 e7
        refine ⟨nI (pc a), mi 5, a, c, 0, ?_, ?_, ha, hc, Or.inl rfl⟩
        · show some (f_J6_bitCount_0f7a4 (nI a), _, _, _, _) = _
          rw [pc_J a (by omega)]; rfl
        · rw [if_pos (show gIn 1 2 = true from by decide), show mk (1 : Int32).toNatClampNeg = 1 from e2, show mi ((3 : Int32) * 1).toNatClampNeg = nI a from e4, show mi ((3 : Int32) * 1 + 1).toNatClampNeg = nI c from e6, pc_b a (by omega)]; rfl
  · rw [if_neg hp, if_neg hp]
    exact ⟨_, lo, s, b, un, rfl, rfl, hs, hb, Or.inr rfl⟩
