/-! the law: every answer is the reference's -/
theorem law_true (xs : Nat → Int32) (L : Nat) (hL : L ≤ 256) : ∀ (d n i : Nat) {tl m s b un li : Nat} {sl la co : Nat → Nat} {lo D_token D_start D_end D_value F_size F_littleOnes I0_kept I0_in I0_streak I0_lot I1_kept I1_in I1_streak I1_lot W_length M_at M_begin M_kind M_readMany M_readLittle : Int32} {tr M_value M_below : Int64} {X_bytes F_slips F_lates F_copied T_slips T_lates T_copied H_ins H_streaks W_figures M_text M_slips M_lates M_copies M_before M_images M_kept M_read : Nat → Int32} {C_byNumber : Nat → Int64}, d < n → i ≤ 256 → L ≤ i + 4 * d → RX tl X_bytes M_text → Cl m sl la co → s < 2 ^ m → b ≤ 9 → li < 2 ^ m → Ar m T_slips sl → Ar m M_slips sl → Ar m T_lates la → Ar m M_lates la → Ar m T_copied co → Ar m M_copies co → RH m un H_ins H_streaks M_before → RI m I0_kept I0_in I0_streak I0_lot (M_kept 0) (M_images 0) (M_images 1) (M_images 2) → RI m I1_kept I1_in I1_streak I1_lot (M_kept 1) (M_images 3) (M_images 4) (M_images 5) → f_L_law_L18 xs L n (nI tl) X_bytes D_token D_start D_end D_value F_size F_littleOnes F_slips F_lates F_copied (nI s) (nI b) lo (nI m) (nI li) T_slips T_lates T_copied (nI un) H_ins H_streaks I0_kept I0_in I0_streak I0_lot I1_kept I1_in I1_streak I1_lot W_length W_figures C_byNumber tr (nI tl) (nI m) (nI li) (nI s) (nI b) lo (nI un) tr M_at M_begin M_kind M_value M_readMany M_readLittle M_below M_text M_slips M_lates M_copies M_before M_images M_kept M_read (nI i) = some 1 := by
  intro d
  have stop : ∀ (i : Nat), i ≤ 256 → (((Int32.ofNat L) - (4 : Int32)) < nI i ↔ L < i + 4) := by
    intro i hi
    have e := pk_sub_toInt (a := L) (b := 4) (by omega) (by decide)
    rw [i32t, show Int32.ofNat L - (4 : Int32) = nI L - nI 4 from rfl, e, nIt (by omega)]
    omega
  induction d with
  | zero =>
    intro n i tl m s b un li sl la co lo D_token D_start D_end D_value F_size F_littleOnes I0_kept I0_in I0_streak I0_lot I1_kept I1_in I1_streak I1_lot W_length M_at M_begin M_kind M_readMany M_readLittle tr M_value M_below X_bytes F_slips F_lates F_copied T_slips T_lates T_copied H_ins H_streaks W_figures M_text M_slips M_lates M_copies M_before M_images M_kept M_read C_byNumber hn hi hd hx hC hs2 hb hl hf hf' hg hg' hc hc' hh h0 h1
    obtain ⟨n, rfl⟩ : ∃ j, n = j + 1 := ⟨n - 1, by omega⟩
    rw [f_L_law_L18, if_pos ((stop i hi).mpr (by omega))]
  | succ d ih =>
    intro n i tl m s b un li sl la co lo D_token D_start D_end D_value F_size F_littleOnes I0_kept I0_in I0_streak I0_lot I1_kept I1_in I1_streak I1_lot W_length M_at M_begin M_kind M_readMany M_readLittle tr M_value M_below X_bytes F_slips F_lates F_copied T_slips T_lates T_copied H_ins H_streaks W_figures M_text M_slips M_lates M_copies M_before M_images M_kept M_read C_byNumber hn hi hd hx hC hs2 hb hl hf hf' hg hg' hc hc' hh h0 h1
    obtain ⟨n, rfl⟩ : ∃ j, n = j + 1 := ⟨n - 1, by omega⟩
    have hm := hC.1
    have hpow : 2 ^ m ≤ 64 := Nat.pow_le_pow_right (n := 2) (by decide) hm
    have hs : s < 64 := by omega
    have hl6 : li < 64 := by omega
    rw [f_L_law_L18]
    by_cases hq : L < i + 4
    · rw [if_pos ((stop i hi).mpr hq)]
    · rw [if_neg (fun q => hq ((stop i hi).mp q)), if_pos (gin (by omega) (by omega))]
      have g1 : gIn (nI i + (1 : Int32)) L = true := by rw [show nI i + (1 : Int32) = nI (i + 1) from nI_add i 1]; exact gin (by omega) (by omega)
      have g2 : gIn (nI i + (2 : Int32)) L = true := by rw [show nI i + (2 : Int32) = nI (i + 2) from nI_add i 2]; exact gin (by omega) (by omega)
      have g3 : gIn (nI i + (3 : Int32)) L = true := by rw [show nI i + (3 : Int32) = nI (i + 3) from nI_add i 3]; exact gin (by omega) (by omega)
      have g4 : nI i + (4 : Int32) = nI (i + 4) := nI_add i 4
      rw [g4]
      have hn2 : d < n := by omega
      have hi2 : i + 4 ≤ 256 := by omega
      have hd2 : L ≤ i + 4 + 4 * d := by omega
      have le : ∀ r : Int64, lg_cmp r r = 0 := fun r => (lg_cmp_eq _ _).mpr rfl
      generalize xs (nI i).toNatClampNeg = p0
      generalize xs (nI i + (1 : Int32)).toNatClampNeg = p1
      generalize xs (nI i + (2 : Int32)).toNatClampNeg = p2
      generalize xs (nI i + (3 : Int32)).toNatClampNeg = p3
      by_cases c0 : (p0 &&& (31 : Int32)) = (0 : Int32)
      · rw [if_pos c0]
        obtain ⟨r, tl', xb', mt', e1, e2, e3⟩ := st_type hx ((p1.toInt64 <<< ((32 : Int32).toInt64 &&& 63)) ||| (p2.toInt64 &&& (4294967295 : Int64))) p3
        rw [if_pos g1, if_pos g2, if_pos g3, e1, ob1, if_pos g1, if_pos g2, if_pos g3, e2, ob1, if_pos rfl]
        exact ih n (i + 4) hn2 hi2 hd2 e3 hC hs2 hb hl hf hf' hg hg' hc hc' hh h0 h1
      rw [if_neg c0]
      by_cases c1 : (p0 &&& (31 : Int32)) = (1 : Int32)
      · rw [if_pos c1]
        rw [show f_X9_clear (nI tl) = some (nI tl, nI 0) from rfl, show f_X10_clear (nI tl) = some (nI tl, nI 0) from rfl, ob1, ob1, if_pos rfl]
        exact ih n (i + 4) hn2 hi2 hd2 ⟨Nat.zero_le _, fun j q => absurd q (Nat.not_lt_zero _)⟩ hC hs2 hb hl hf hf' hg hg' hc hc' hh h0 h1
      rw [if_neg c1]
      by_cases c2 : (p0 &&& (31 : Int32)) = (2 : Int32)
      · rw [if_pos c2]
        obtain ⟨r, dt, ds, de, dv, fz, fl, at', bg, kd, rm, rl, k0', k1', va, tl', m', s', b', un', li', Fs', Fl', Fc', Ts', Tl', Tc', Ms', Ml', Mc', mk', rd', sl', la', co', e1, e2, a1, a2, a3, a4, a5, a6, a7, a8, a9, a10, a11, a12, a13, a14⟩ := st_children (dt0 := D_token) (ds0 := D_start) (de0 := D_end) (dv0 := D_value) (fz0 := F_size) (fl0 := F_littleOnes) (Fs := F_slips) (Fl := F_lates) (Fc := F_copied) (at0 := M_at) (bg0 := M_begin) (kd0 := M_kind) (va0 := M_value) (rm0 := M_readMany) (rl0 := M_readLittle) (rd := M_read) hx hC hs2 hb hl hf hf' hg hg' hc hc' hh h0 h1
        rw [e1, ob1, e2, ob1, if_pos rfl]
        exact ih n (i + 4) hn2 hi2 hd2 a1 a2 a3 a4 a5 a6 a7 a8 a9 a10 a11 a12 a13 a14
      rw [if_neg c2]
      by_cases c3 : (p0 &&& (31 : Int32)) = (3 : Int32)
      · rw [if_pos c3]
        obtain ⟨r, e1, e2⟩ := st_child hC hs hl6 hf hf' hg hg' hc hc' p1 p2
        rw [if_pos g1, if_pos g2, e1, ob1, if_pos g1, if_pos g2, e2, ob1, if_pos rfl]
        exact ih n (i + 4) hn2 hi2 hd2 hx hC hs2 hb hl hf hf' hg hg' hc hc' hh h0 h1
      rw [if_neg c3]
      by_cases c4 : (p0 &&& (31 : Int32)) = (4 : Int32)
      · rw [if_pos c4]
        rw [if_pos g1, if_pos g1, if_pos (st_now hm hs2 hl6 p1)]
        exact ih n (i + 4) hn2 hi2 hd2 hx hC hs2 hb hl hf hf' hg hg' hc hc' hh h0 h1
      rw [if_neg c4]
      by_cases c5 : (p0 &&& (31 : Int32)) = (5 : Int32)
      · rw [if_pos c5]
        obtain ⟨r, e1, e2⟩ := st_errs hC hs hb hf hf' hg hg' p1 p2
        rw [if_pos g1, if_pos g2, e1, ob1, if_pos g1, if_pos g2, e2, ob1, if_pos rfl]
        exact ih n (i + 4) hn2 hi2 hd2 hx hC hs2 hb hl hf hf' hg hg' hc hc' hh h0 h1
      rw [if_neg c5]
      by_cases c6 : (p0 &&& (31 : Int32)) = (6 : Int32)
      · rw [if_pos c6]
        obtain ⟨r, lo', s', b', un', hi', hs', bf', e1, e2, a1, a2, a3⟩ := st_call (lo := lo) hC hs2 hb hf hf' hg hg' hc hc' hh p1
        rw [if_pos g1, e1, ob1, if_pos g1, e2, ob1, if_pos rfl]
        exact ih n (i + 4) hn2 hi2 hd2 hx hC a2 a3 hl hf hf' hg hg' hc hc' a1 h0 h1
      rw [if_neg c6]
      by_cases c7 : (p0 &&& (31 : Int32)) = (7 : Int32)
      · rw [if_pos c7]
        obtain ⟨r, s', un', hi', hs', bf', e1, e2, a1, a2⟩ := st_comes hm hh hs2 hb p1
        rw [if_pos g1, e1, ob1, if_pos g1, e2, ob1, if_pos rfl]
        exact ih n (i + 4) hn2 hi2 hd2 hx hC a2 hb hl hf hf' hg hg' hc hc' a1 h0 h1
      rw [if_neg c7]
      by_cases c8 : (p0 &&& (31 : Int32)) = (8 : Int32)
      · rw [if_pos c8]
        obtain ⟨r, s', b', un', e1, e2, a1, a2, a3⟩ := st_undo hh hs2 hb
        rw [e1, ob1, e2, ob1, if_pos rfl]
        exact ih n (i + 4) hn2 hi2 hd2 hx hC a2 a3 hl hf hf' hg hg' hc hc' a1 h0 h1
      rw [if_neg c8]
      by_cases c9 : (p0 &&& (31 : Int32)) = (9 : Int32)
      · rw [if_pos c9]
        rw [if_pos g1, show f_X9_lot lo p1 = some (lo, p1) from rfl, ob1, if_pos g1, show f_X10_lot lo p1 = some (lo, p1) from rfl, ob1, if_pos rfl]
        exact ih n (i + 4) hn2 hi2 hd2 hx hC hs2 hb hl hf hf' hg hg' hc hc' hh h0 h1
      rw [if_neg c9]
      by_cases c10 : (p0 &&& (31 : Int32)) = (10 : Int32)
      · rw [if_pos c10]
        obtain ⟨r, bl', e1, e2⟩ := st_falls (bl := M_below) hC hs hb hf hf' hg hg' hc hc' p1 p2 p3
        rw [if_pos g1, if_pos g2, if_pos g3, e1, ob1, if_pos g1, if_pos g2, if_pos g3, e2, ob1, if_pos (le r)]
        exact ih n (i + 4) hn2 hi2 hd2 hx hC hs2 hb hl hf hf' hg hg' hc hc' hh h0 h1
      rw [if_neg c10]
      by_cases c11 : (p0 &&& (31 : Int32)) = (11 : Int32)
      · rw [if_pos c11]
        obtain ⟨r, bl', cb', e1, e2⟩ := st_many (bl := M_below) (cb := C_byNumber) hC hs2 hb hf hf' hg hg' hc hc' p1 p2 p3
        rw [if_pos g1, if_pos g2, if_pos g3, e1, ob1, if_pos g1, if_pos g2, if_pos g3, e2, ob1, if_pos (le r)]
        exact ih n (i + 4) hn2 hi2 hd2 hx hC hs2 hb hl hf hf' hg hg' hc hc' hh h0 h1
      rw [if_neg c11]
      by_cases c12 : (p0 &&& (31 : Int32)) = (12 : Int32)
      · rw [if_pos c12]
        obtain ⟨r, wl', wf', e1, e2⟩ := st_stays (wl := W_length) (wf := W_figures) hC hs hb hf hf' hg hg' hc hc' p1 p2 p3
        rw [if_pos g1, if_pos g2, if_pos g3, e1, ob1, if_pos g1, if_pos g2, if_pos g3, e2, ob1, if_pos (le r)]
        exact ih n (i + 4) hn2 hi2 hd2 hx hC hs2 hb hl hf hf' hg hg' hc hc' hh h0 h1
      rw [if_neg c12]
      by_cases c13 : (p0 &&& (31 : Int32)) = (13 : Int32)
      · rw [if_pos c13]
        obtain ⟨r, bl', wl', wf', e1, e2⟩ := st_left (wl := W_length) (wf := W_figures) (bl := M_below) hC hs hb hf hf' hg hg' hc hc' p1 p2
        rw [if_pos g1, if_pos g2, e1, ob1, if_pos g1, if_pos g2, e2, ob1, if_pos (le r)]
        exact ih n (i + 4) hn2 hi2 hd2 hx hC hs2 hb hl hf hf' hg hg' hc hc' hh h0 h1
      rw [if_neg c13]
      by_cases c14 : (p0 &&& (31 : Int32)) = (14 : Int32)
      · rw [if_pos c14]
        obtain ⟨r, bl', wl', wf', e1, e2⟩ := st_best (wl := W_length) (wf := W_figures) (bl := M_below) hC hs hb hf hf' hg hg' hc hc' p1
        rw [if_pos g1, e1, ob1, if_pos g1, e2, ob1, if_pos rfl]
        exact ih n (i + 4) hn2 hi2 hd2 hx hC hs2 hb hl hf hf' hg hg' hc hc' hh h0 h1
      rw [if_neg c14]
      by_cases c15 : (p0 &&& (31 : Int32)) = (15 : Int32)
      · rw [if_pos c15]
        obtain ⟨r, e1, e2⟩ := st_lure hC hs hb hf hf' hg hg' hc hc' p1 p2
        rw [if_pos g1, if_pos g2, e1, ob1, if_pos g1, if_pos g2, e2, ob1, if_pos rfl]
        exact ih n (i + 4) hn2 hi2 hd2 hx hC hs2 hb hl hf hf' hg hg' hc hc' hh h0 h1
      rw [if_neg c15]
      by_cases c16 : (p0 &&& (31 : Int32)) = (16 : Int32)
      · rw [if_pos c16]
        obtain ⟨r, bl', e1, e2⟩ := st_could (bl := M_below) hC hs hb hf hf' hg hg' hc hc' p1
        rw [if_pos g1, e1, ob1, if_pos g1, e2, ob1, if_pos rfl]
        exact ih n (i + 4) hn2 hi2 hd2 hx hC hs2 hb hl hf hf' hg hg' hc hc' hh h0 h1
      rw [if_neg c16]
      by_cases c17 : (p0 &&& (31 : Int32)) = (17 : Int32)
      · rw [if_pos c17]
        obtain ⟨r, bl', e1, e2⟩ := st_likely (bl := M_below) hC hs hb hf hf' hg hg' hc hc' p1
        rw [if_pos g1, e1, ob1, if_pos g1, e2, ob1, if_pos rfl]
        exact ih n (i + 4) hn2 hi2 hd2 hx hC hs2 hb hl hf hf' hg hg' hc hc' hh h0 h1
      rw [if_neg c17]
      by_cases c18 : (p0 &&& (31 : Int32)) = (18 : Int32)
      · rw [if_pos c18]
        obtain ⟨r, tr', e1, e2⟩ := st_rate (b := b) (tr := tr) hC hs hf hf' hg hg' hc hc' p1 p2
        rw [if_pos g1, if_pos g2, e1, ob1, if_pos g1, if_pos g2, e2, ob1, if_pos rfl]
        exact ih n (i + 4) hn2 hi2 hd2 hx hC hs2 hb hl hf hf' hg hg' hc hc' hh h0 h1
      rw [if_neg c18]
      by_cases c19 : (p0 &&& (31 : Int32)) = (19 : Int32)
      · rw [if_pos c19]
        obtain ⟨r, k0', i0', s0', l0', k1', i1', s1', l1', mi', mk', e1, e2, a1, a2⟩ := st_keep (lo := lo) hm hs2 hb h0 h1 p1
        rw [if_pos g1, e1, ob1, if_pos g1, e2, ob1, if_pos rfl]
        exact ih n (i + 4) hn2 hi2 hd2 hx hC hs2 hb hl hf hf' hg hg' hc hc' hh a1 a2
      rw [if_neg c19]
      by_cases c20 : (p0 &&& (31 : Int32)) = (20 : Int32)
      · rw [if_pos c20]
        obtain ⟨r, lo', s', b', un', e1, e2, a1, a2, a3⟩ := st_back (lo := lo) hm hs2 hb hh.1 h0 h1 p1
        rw [if_pos g1, e1, ob1, if_pos g1, e2, ob1, if_pos rfl]
        have hh2 : RH m un' H_ins H_streaks M_before := by
          rcases a3 with q | q
          · rw [q]; exact ⟨by omega, fun j q => absurd q (Nat.not_lt_zero _)⟩
          · rw [q]; exact hh
        exact ih n (i + 4) hn2 hi2 hd2 hx hC a1 a2 hl hf hf' hg hg' hc hc' hh2 h0 h1
      rw [if_neg c20]
      by_cases c21 : (p0 &&& (31 : Int32)) = (21 : Int32)
      · rw [if_pos c21]
        rw [if_pos g1, if_pos g1, st_count hm hs hl6 p1, ob1, if_pos rfl]
        exact ih n (i + 4) hn2 hi2 hd2 hx hC hs2 hb hl hf hf' hg hg' hc hc' hh h0 h1
      rw [if_neg c21]
      by_cases c22 : (p0 &&& (31 : Int32)) = (22 : Int32)
      · rw [if_pos c22]
        rw [if_pos (show lg_cmp (f_X9_trace tr) (f_X10_trace tr) = 0 from le tr)]
        exact ih n (i + 4) hn2 hi2 hd2 hx hC hs2 hb hl hf hf' hg hg' hc hc' hh h0 h1
      rw [if_neg c22]
      exact ih n (i + 4) hn2 hi2 hd2 hx hC hs2 hb hl hf hf' hg hg' hc hc' hh h0 h1
