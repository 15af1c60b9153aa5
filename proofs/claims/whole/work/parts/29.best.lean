/-! the best row -/
def rn : Nat → Nat → Nat
  | 0, _ => 0
  | n + 1, i => rn n (i / 4) * 10 + (i % 4 + 1)
theorem rn_X0 : ∀ n, n < 4 → ∀ i, i < 4 ^ n → f_X0_rowNumber (nI i) (nI n) = some (nI (rn n i)) := by decide +kernel
theorem rn_ok : ∀ n, n < 4 → ∀ i, i < 4 ^ n → okd (digs 10 (rn n i)) = true ∧ (digs 10 (rn n i)).length = n ∧ rn n i < 445 := by decide +kernel
def isRow (n q : Nat) : Bool := okd (digs 10 q) && decide ((digs 10 q).length = n)
theorem rows_eq : ∀ n, n < 4 → (List.range' 0 445).filter (isRow n) = (List.range' 0 (4 ^ n)).map (rn n) := by decide +kernel
def fb (v : Nat → Nat) : List Nat → Int32 → Int64 → Int32
  | [], x, _ => x
  | r :: l, x, y => if lg_cmp (lN (v r)) y ≤ 0 then fb v l x y else fb v l (nI r) (lN (v r))
theorem rows_top : ∀ n, n < 4 → ((1 : Int32) <<< (((2 : Int32) * nI n) &&& 31)) = nI (4 ^ n) := by decide +kernel
theorem best_X0L {m s b n : Nat} {sl la co : Nat → Nat} {f g c : Nat → Int32} (hn : n < 4) (hC : Cl m sl la co) (hs : s < 64) (hb : b ≤ 9) (hf : Ar m f sl) (hg : Ar m g la) (hc : Ar m c co) : ∀ (d i u : Nat) (wl : Int32) (wf : Nat → Int32) (x : Int32) (y : Int64), i + d = 4 ^ n → d < u → ∃ (wl' : Int32) (wf' : Nat → Int32), f_X0_bestRow_L9 (nI s) (nI b) (nI m) f g c u wl wf (nI n) x y (nI i) = some (fb (fun q => lf sl la co m s b q n) ((List.range' i d).map (rn n)) x y, wl', wf') := by
  have h4 : 4 ^ n ≤ 64 := Nat.pow_le_pow_right (n := 4) (by decide) (show n ≤ 3 by omega)
  intro d
  induction d with
  | zero =>
    intro i u wl wf x y hi hu
    obtain ⟨u, rfl⟩ : ∃ j, u = j + 1 := ⟨u - 1, by omega⟩
    rw [f_X0_bestRow_L9, rows_top n hn, if_pos (nI_le (by omega) (by omega))]
    exact ⟨wl, wf, rfl⟩
  | succ d ih =>
    intro i u wl wf x y hi hu
    obtain ⟨u, rfl⟩ : ∃ j, u = j + 1 := ⟨u - 1, by omega⟩
    obtain ⟨hok, hlen, hq⟩ := rn_ok n hn i (by omega)
    have hr := (read_L (mo := n) (by omega) 10 (rn n i) 0 300 wf (by omega) (by omega) (by omega) (by decide)).1 ⟨hok, by omega⟩
    obtain ⟨wf', e1, -, e3⟩ := hr
    rw [Nat.zero_add] at e1
    have e1' : f_X7_read wl wf (nI (rn n i)) (nI n) = some (1, nI (digs 10 (rn n i)).length, wf') := e1
    have hw : ∀ j, j < (digs 10 (rn n i)).length → wf' j = nI ((digs 10 (rn n i)).getD j 0) := fun j hj => by
      have := e3 j hj
      rw [Nat.zero_add] at this
      exact this
    have hj := just_X0 (wf := wf') hC hs hb hf hg hc hok (by omega) hw
    rw [f_X0_bestRow_L9, rows_top n hn, if_neg (nI_ge (by omega) (by omega)), rn_X0 n hn i (by omega), ob1, e1', ob1, if_neg (show ¬ ((1 : Int32), nI (digs 10 (rn n i)).length, wf').1 = 0 from (by decide : ¬ (1 : Int32) = 0)), hj, ob1, List.range'_succ, List.map_cons, fb, nI_1]
    rw [hlen] at *
    by_cases hle : lg_cmp (lN (lf sl la co m s b (rn n i) n)) y ≤ 0
    · rw [if_pos hle]
      obtain ⟨wl2, wf2, e⟩ := ih (i + 1) u (nI n) wf' x y (by omega) (by omega)
      refine ⟨wl2, wf2, ?_⟩
      rw [← e]
      exact if_pos hle
    · rw [if_neg hle]
      obtain ⟨wl2, wf2, e⟩ := ih (i + 1) u (nI n) wf' (nI (rn n i)) (lN (lf sl la co m s b (rn n i) n)) (by omega) (by omega)
      refine ⟨wl2, wf2, ?_⟩
      rw [← e]
      exact if_neg hle
theorem best_X10L {m s b n : Nat} {sl la co : Nat → Nat} {f g c : Nat → Int32} (hn : n < 4) (hC : Cl m sl la co) (hs : s < 64) (hb : b ≤ 9) (hf : Ar m f sl) (hg : Ar m g la) (hc : Ar m c co) : ∀ (d r u : Nat) (bl : Int64) (x : Int32) (y : Int64), r + d = 445 → d < u → ∃ bl' : Int64, f_X10_best_L23 (nI m) (nI s) (nI b) f g c u bl (nI n) x y (nI r) = some (fb (fun q => lf sl la co m s b q n) ((List.range' r d).filter (isRow n)) x y, bl') := by
  intro d
  induction d with
  | zero =>
    intro r u bl x y hr hu
    obtain ⟨u, rfl⟩ : ∃ j, u = j + 1 := ⟨u - 1, by omega⟩
    rw [f_X10_best_L23, if_pos (show (445 : Int32) ≤ nI r from nI_le (a := 445) (by omega) (by omega))]
    exact ⟨bl, rfl⟩
  | succ d ih =>
    intro r u bl x y hr hu
    obtain ⟨u, rfl⟩ : ∃ j, u = j + 1 := ⟨u - 1, by omega⟩
    rw [f_X10_best_L23, if_neg (show ¬ (445 : Int32) ≤ nI r from nI_ge (a := r) (b := 445) (by omega) (by decide)), ordersIn_nI (by omega), ob1, List.range'_succ, nI_1]
    have hl10 := digs_len 10 r
    by_cases h : isRow n r = true
    · have h' := h
      unfold isRow at h'
      rw [Bool.and_eq_true, decide_eq_true_eq] at h'
      obtain ⟨hok, hlen⟩ := h'
      rw [if_pos hok, hlen, if_pos rfl, left_X10 hC hs hb hf hg hc (by omega) (by omega) (fun i hi => by
        have := od_ok hok (i := i) (by omega)
        rw [hlen] at this
        exact this), ob1, List.filter_cons_of_pos h, fb]
      unfold f_X10_best_L65
      by_cases hle : lg_cmp (lN (lf sl la co m s b r n)) y ≤ 0
      · rw [if_pos hle, if_pos hle, if_pos hle, nI_1]
        exact ih (r + 1) u _ x y (by omega) (by omega)
      · rw [if_neg hle, if_neg hle, if_neg hle, nI_1]
        exact ih (r + 1) u _ (nI r) _ (by omega) (by omega)
    · have hne : ¬ (if okd (digs 10 r) = true then nI (digs 10 r).length else -1) = nI n := by
        intro e
        apply h
        unfold isRow
        by_cases hok : okd (digs 10 r) = true
        · rw [if_pos hok] at e
          rw [hok, decide_eq_true ((nI_eq (by omega) (by omega)).mp e)]
          rfl
        · rw [if_neg hok] at e
          exact absurd e (by
            have hall : ∀ n, n < 4 → ¬ (-1 : Int32) = nI n := by decide +kernel
            exact hall n hn)
      rw [if_neg hne, List.filter_cons_of_neg h]
      exact ih (r + 1) u bl x y (by omega) (by omega)
theorem st_best {m s b : Nat} {wl : Int32} {bl : Int64} {wf : Nat → Int32} {sl la co : Nat → Nat} {f f' g g' c c' : Nat → Int32} (hC : Cl m sl la co) (hs : s < 64) (hb : b ≤ 9) (hf : Ar m f sl) (hf' : Ar m f' sl) (hg : Ar m g la) (hg' : Ar m g' la) (hc : Ar m c co) (hc' : Ar m c' co) (p1 : Int32) : ∃ (r : Int32) (bl' : Int64) (wl' : Int32) (wf' : Nat → Int32), f_X9_best (nI s) (nI b) (nI m) f g c wl wf p1 = some (r, wl', wf') ∧ f_X10_best (nI m) (nI s) (nI b) bl f' g' c' p1 = some (r, bl') := by
  unfold f_X9_best f_X10_best
  rw [show f_X10_within p1.toInt64 (0 : Int64) (3 : Int64) = B01 (inR p1 0 3) from within_i p1 0 3, if_B]
  by_cases h : inR p1 0 3 = true
  · obtain ⟨n, hn, rfl⟩ := inR_t (n := 4) (by decide) h
    rw [if_pos h, if_neg (nI_pos (by omega)), if_pos (show nI n ≤ (3 : Int32) from nI_le (b := 3) (by omega) (by decide))]
    have h4 : 4 ^ n ≤ 64 := Nat.pow_le_pow_right (n := 4) (by decide) (show n ≤ 3 by omega)
    obtain ⟨wl', wf', e1⟩ := best_X0L hn hC hs hb hf hg hc (4 ^ n) 0 300 wl wf 0 (-1) (by omega) (by omega)
    obtain ⟨bl', e2⟩ := best_X10L hn hC hs hb hf' hg' hc' 445 0 600 bl 0 (-1) (by omega) (by omega)
    rw [rows_eq n hn] at e2
    refine ⟨_, bl', wl', wf', ?_, e2⟩
    unfold f_X0_bestRow
    rw [show (0 : Int32) = nI 0 from rfl] at e1
    rw [show (0 : Int32) = nI 0 from rfl, e1]
    rfl
  · rw [if_neg h]
    refine ⟨-1, bl, wl, wf, ?_, rfl⟩
    by_cases h1 : p1 < 0
    · rw [if_pos h1]
    · rw [if_neg h1, if_neg]
      intro h3
      apply h
      unfold inR
      rw [i32t] at h1
      rw [i32l] at h3
      have e0 : (0 : Int32).toInt = 0 := rfl
      have e3 : (3 : Int32).toInt = 3 := rfl
      exact decide_eq_true (by omega)
