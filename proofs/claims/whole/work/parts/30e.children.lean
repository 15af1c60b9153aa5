/-! the children of a text taken over -/
theorem take_L {fm : Nat} {FL tlit : Int32} {Fs Fl Fc : Nat → Int32} {sl la co : Nat → Nat} (hC : Cl fm sl la co) (hf : Ar fm Fs sl) (hg : Ar fm Fl la) (hc : Ar fm Fc co) : ∀ (d j n : Nat) (Ts Tl Tc : Nat → Int32), j + d = fm → d < n → Ar j Ts sl → Ar j Tl la → Ar j Tc co → ∃ Ts' Tl' Tc' : Nat → Int32, f_X1_takeOver_L6 (nI fm) FL Fs Fl Fc n (nI j) tlit Ts Tl Tc (nI j) = some (nI fm, FL, Ts', Tl', Tc') ∧ Ar fm Ts' sl ∧ Ar fm Tl' la ∧ Ar fm Tc' co := by
  have hm := hC.1
  intro d
  induction d with
  | zero =>
    intro j n Ts Tl Tc hj hn h1 h2 h3
    obtain ⟨n, rfl⟩ : ∃ i, n = i + 1 := ⟨n - 1, by omega⟩
    obtain rfl : j = fm := by omega
    rw [f_X1_takeOver_L6, if_pos (nI_le (Nat.le_refl _) (by omega))]
    exact ⟨Ts, Tl, Tc, rfl, h1, h2, h3⟩
  | succ d ih =>
    intro j n Ts Tl Tc hj hn h1 h2 h3
    obtain ⟨n, rfl⟩ : ∃ i, n = i + 1 := ⟨n - 1, by omega⟩
    have ea : f_X1_add (nI j) Ts Tl Tc (nI (sl j)) (nI (la j)) (nI (co j)) = some (nI (j + 1), upd Ts j (nI (sl j)), upd Tl j (nI (la j)), upd Tc j (nI (co j))) := by
      unfold f_X1_add
      rw [if_neg (show ¬ (6 : Int32) ≤ nI j from nI_ge (b := 6) (by omega) (by decide)), if_pos (gin (by omega) (by decide)), if_pos (gin (by omega) (by decide)), if_pos (gin (by omega) (by decide)), cl (by omega), nI_1]
    rw [f_X1_takeOver_L6, if_neg (nI_ge (by omega) (by omega)), slip_X1 hm (by omega) hf, ob1, late_X1 hm (by omega) hg, ob1, copied_X1 hm (by omega) hc, ob1, ea, ob1, nI_1]
    have st : ∀ (f : Nat → Int32) (g : Nat → Nat), Ar j f g → Ar (j + 1) (upd f j (nI (g j))) g := by
      intro f g hfg k hk
      by_cases e : k = j
      · rw [e, upd_s]
      · rw [upd_n e]; exact hfg k (by omega)
    exact ih (j + 1) n _ _ _ (by omega) (by omega) (st _ _ h1) (st _ _ h2) (st _ _ h3)
theorem l113 {fm : Nat} {mt mk mr : Nat → Int32} {sl la co : Nat → Nat} (hm : fm ≤ 6) (hr : Rd fm mr sl la co) (sz li0 ii sk un at' b k rm rl x1 : Int32) (v : Int64) : ∀ (d j n : Nat) (Ms Ml Mc : Nat → Int32), j + d = fm → d < n → Ar j Ms sl → Ar j Ml la → Ar j Mc co → ∃ Ms' Ml' Mc' mk' : Nat → Int32, f_X10_children_L113 mt n sz (nI fm) li0 ii sk un at' b k v rm rl Ms Ml Mc mk mr x1 (nI j) = some (x1, 0, nI fm, rl, nI (2 ^ fm - 1), 0, 0, at', b, k, v, rm, rl, Ms', Ml', Mc', mk', mr) ∧ Ar fm Ms' sl ∧ Ar fm Ml' la ∧ Ar fm Mc' co ∧ mk' 0 = 0 ∧ mk' 1 = 0 := by
  intro d
  induction d with
  | zero =>
    intro j n Ms Ml Mc hj hn h1 h2 h3
    obtain ⟨n, rfl⟩ : ∃ i, n = i + 1 := ⟨n - 1, by omega⟩
    obtain rfl : j = fm := by omega
    rw [f_X10_children_L113, if_pos (nI_le (Nat.le_refl _) (by omega)), if_pos (show gIn (0 : Int32) 2 = true from gin (k := 0) (by decide) (by decide)), if_pos (show gIn (1 : Int32) 2 = true from gin (k := 1) (by decide) (by decide)), show (((1 : Int32) <<< (nI j &&& 31)) - (1 : Int32)) = nI (2 ^ j - 1) from eve_t j (by omega)]
    have z : vp_nar .boolean (0 : Int32) = 0 := by decide
    have c0 : (0 : Int32).toNatClampNeg = 0 := by decide
    have c1 : (1 : Int32).toNatClampNeg = 1 := by decide
    rw [z, c0, c1]
    exact ⟨Ms, Ml, Mc, _, rfl, h1, h2, h3, by rw [upd_n (by decide), upd_s], upd_s⟩
  | succ d ih =>
    intro j n Ms Ml Mc hj hn h1 h2 h3
    obtain ⟨n, rfl⟩ : ∃ i, n = i + 1 := ⟨n - 1, by omega⟩
    obtain ⟨r1, r2, r3⟩ := hr j (by omega)
    rw [f_X10_children_L113, if_neg (nI_ge (by omega) (by omega)), il 3, pk_mul, nI_1, il 2, nI_add, if_pos (gin (by omega) (by decide)), if_pos (gin (by omega) (by decide)), if_pos (gin (by omega) (by decide)), if_pos (gin (by omega) (by decide)), if_pos (gin (by omega) (by decide)), if_pos (gin (by omega) (by decide)), cl (by omega), cl (by omega), cl (by omega), cl (by omega), r1, r2, r3, nI_1]
    have st : ∀ (f : Nat → Int32) (g : Nat → Nat), Ar j f g → Ar (j + 1) (upd f j (nI (g j))) g := by
      intro f g hfg k hk
      by_cases e : k = j
      · rw [e, upd_s]
      · rw [upd_n e]; exact hfg k (by omega)
    exact ih (j + 1) n _ _ _ (by omega) (by omega) (st _ _ h1) (st _ _ h2) (st _ _ h3)
theorem st_children {tl m s b un li : Nat} {xb mt Fs Fl Fc Ts Tl Tc Ms Ml Mc hi hs bf mi mk rd : Nat → Int32} {k0 i0 s0 l0 k1 i1 s1 l1 dt0 ds0 de0 dv0 fz0 fl0 at0 bg0 kd0 rm0 rl0 : Int32} {va0 : Int64} {sl la co : Nat → Nat} (hx : RX tl xb mt) (hC : Cl m sl la co) (hs2 : s < 2 ^ m) (hb : b ≤ 9) (hl : li < 2 ^ m) (hf : Ar m Ts sl) (hf' : Ar m Ms sl) (hg : Ar m Tl la) (hg' : Ar m Ml la) (hc : Ar m Tc co) (hc' : Ar m Mc co) (hh : RH m un hi hs bf) (h0 : RI m k0 i0 s0 l0 (mk 0) (mi 0) (mi 1) (mi 2)) (h1 : RI m k1 i1 s1 l1 (mk 1) (mi 3) (mi 4) (mi 5)) :
    ∃ (r dt ds de dv fz fl at' bg kd rm rl k0' k1' : Int32) (va : Int64) (tl' m' s' b' un' li' : Nat) (Fs' Fl' Fc' Ts' Tl' Tc' Ms' Ml' Mc' mk' rd' : Nat → Int32) (sl' la' co' : Nat → Nat),
    f_X9_children (nI tl) xb dt0 ds0 de0 dv0 fz0 fl0 Fs Fl Fc (nI s) (nI b) (nI m) (nI li) Ts Tl Tc (nI un) k0 k1 = some (r, nI tl', dt, ds, de, dv, fz, fl, Fs', Fl', Fc', nI s', nI b', nI m', nI li', Ts', Tl', Tc', nI un', k0', k1') ∧
    f_X10_children (nI tl) (nI m) (nI li) (nI s) (nI b) (nI un) at0 bg0 kd0 va0 rm0 rl0 mt Ms Ml Mc mk rd = some (r, nI tl', nI m', nI li', nI s', nI b', nI un', at', bg, kd, va, rm, rl, Ms', Ml', Mc', mk', rd') ∧
    RX tl' xb mt ∧ Cl m' sl' la' co' ∧ s' < 2 ^ m' ∧ b' ≤ 9 ∧ li' < 2 ^ m' ∧ Ar m' Ts' sl' ∧ Ar m' Ms' sl' ∧ Ar m' Tl' la' ∧ Ar m' Ml' la' ∧ Ar m' Tc' co' ∧ Ar m' Mc' co' ∧ RH m' un' hi hs bf ∧ RI m' k0' i0 s0 l0 (mk' 0) (mi 0) (mi 1) (mi 2) ∧ RI m' k1' i1 s1 l1 (mk' 1) (mi 3) (mi 4) (mi 5) := by
  obtain ⟨T, hT⟩ := hx.tx
  have h200 := hx.1
  unfold f_X9_children f_X10_children f_X5_readItems f_X1_forget
  rw [ob1]
  obtain ⟨st, en, at1, tk, dv, k, v, e1, e2, e3, e4, e5, e6⟩ := token hT (p := 0) (Nat.zero_le _) dt0 ds0 dv0 bg0 kd0 va0
  have e1' : f_X5_advance (nI tl) xb dt0 ds0 (0 : Int32) dv0 = _ := e1
  have e2' : f_X10_next (nI tl) (0 : Int32) bg0 kd0 va0 mt = _ := e2
  rw [e1', e2', ob1, ob1]
  have hz : Cl 0 (fun _ => 0) (fun _ => 0) (fun _ => 0) := ⟨by decide, fun _ q => absurd q (Nat.not_lt_zero _)⟩
  have az : ∀ (f : Nat → Int32) (g : Nat → Nat), Ar 0 f g := fun _ _ _ q => absurd q (Nat.not_lt_zero _)
  rcases items (Ms := Ms) (Ml := Ml) (Mc := Mc) (kept := mk) hT (nI m) (nI li) (nI s) (nI b) (nI un) 200 300 300 0 st 0 0 tk en dv at1 k v Fs Fl Fc rd _ _ _ (by omega) e5 (Nat.zero_le _) (by decide) (by decide) e3 e6 hz (az Fs _) (az Fl _) (az Fc _) (fun _ q => absurd q (Nat.not_lt_zero _)) (by decide) with ⟨st', tk', en', dv', fz, fl, at2, k2, rm, rl, v2, Fs', Fl', Fc', mr', eA, eB⟩ | ⟨ct', fm', li', tk', st', en', dv', at2, b2, k2, v2, Fs', Fl', Fc', mr', sl', la', co', hct, eA, eB, hC', hf2, hg2, hc2, hr2, hli2⟩
  · have eA' : f_X5_readItems_L18 (nI tl) xb 300 tk (nI st) en dv (0 : Int32) (0 : Int32) Fs Fl Fc (0 : Int32) = _ := eA
    have eB' : f_X10_children_L21 mt 300 (nI tl) (nI m) (nI li) (nI s) (nI b) (nI un) at1 (nI st) k v (0 : Int32) (0 : Int32) Ms Ml Mc mk rd (0 : Int32) = _ := eB
    rw [eA', eB', ob1, if_neg (show ¬ (0 : Int32) ≤ -1 by decide)]
    exact ⟨_, _, _, _, _, _, _, _, _, _, _, _, _, _, _, _, _, _, _, _, _, _, _, _, _, _, _, _, _, _, _, _, _, _, _, rfl, rfl, hx, hC, hs2, hb, hl, hf, hf', hg, hg', hc, hc', hh, h0, h1⟩
  · have eA' : f_X5_readItems_L18 (nI tl) xb 300 tk (nI st) en dv (0 : Int32) (0 : Int32) Fs Fl Fc (0 : Int32) = _ := eA
    have eB' : f_X10_children_L21 mt 300 (nI tl) (nI m) (nI li) (nI s) (nI b) (nI un) at1 (nI st) k v (0 : Int32) (0 : Int32) Ms Ml Mc mk rd (0 : Int32) = _ := eB
    have hm' := hC'.1
    obtain ⟨Ts', Tl', Tc', t1, t2, t3, t4⟩ := take_L (FL := nI li') (tlit := 0) hC' hf2 hg2 hc2 fm' 0 300 Ts Tl Tc (by omega) (by omega) (az _ _) (az _ _) (az _ _)
    obtain ⟨Ms', Ml', Mc', mk', m1, m2, m3, m4, m5, m6⟩ := l113 (mt := mt) (mk := mk) hm' hr2 (nI tl) (nI li) (nI s) (nI b) (nI un) at2 b2 k2 (nI fm') (nI li') (nI ct') v2 fm' 0 300 Ms Ml Mc (by omega) (by omega) (az _ _) (az _ _) (az _ _)
    have m1' : f_X10_children_L113 mt 300 (nI tl) (nI fm') (nI li) (nI s) (nI b) (nI un) at2 b2 k2 v2 (nI fm') (nI li') Ms Ml Mc mk mr' (nI ct') (0 : Int32) = _ := m1
    have t1' : f_X1_takeOver (nI fm') (nI li') Fs' Fl' Fc' (nI m) (nI li) Ts Tl Tc = some (nI fm', nI li', Ts', Tl', Tc') := by
      unfold f_X1_takeOver f_X1_forget
      rw [ob1]
      exact t1
    have es : f_X6_startAnew (nI s) (nI b) (nI fm') = some (nI (2 ^ fm' - 1), (0 : Int32)) := by
      unfold f_X6_startAnew f_X6_become
      rw [ob1, eve_t fm' (by omega)]
    rw [eA', eB', m1', ob1, if_pos (nI_pos' (by omega)), t1', ob1, es, ob1]
    unfold f_X2_forget
    rw [ob1]
    have el : f_X9_children_L53 xb 300 (nI tl) tk' st' en' dv' (nI fm') (nI li') Fs' Fl' Fc' (nI (2 ^ fm' - 1)) (0 : Int32) (nI fm') (nI li') Ts' Tl' Tc' (0 : Int32) k0 k1 (nI ct') (0 : Int32) = some (nI ct', (0 : Int32), tk', st', en', dv', nI fm', nI li', Fs', Fl', Fc', nI (2 ^ fm' - 1), (0 : Int32), nI fm', nI li', Ts', Tl', Tc', (0 : Int32), (0 : Int32), (0 : Int32)) := by
      rw [f_X9_children_L53, if_neg (by decide), if_pos rfl]
      rw [show f_X3_forget k0 = some 0 from rfl, ob1, f_X9_children_L53, if_neg (by decide), if_neg (by decide), if_pos (by decide), show f_X3_forget k1 = some 0 from rfl, ob1, f_X9_children_L53, if_pos (by decide)]
      rfl
    have hpow : 1 ≤ 2 ^ fm' := Nat.one_le_two_pow
    refine ⟨_, _, _, _, _, _, _, _, _, _, _, _, _, _, _, 0, fm', 2 ^ fm' - 1, 0, 0, li', _, _, _, _, _, _, _, _, _, mk', _, sl', la', co', el, rfl, ⟨by omega, fun j q => absurd q (Nat.not_lt_zero _)⟩, hC', by omega, by omega, hli2, t2, m2, t3, m3, t4, m4, ⟨by omega, fun j q => absurd q (Nat.not_lt_zero _)⟩, Or.inl ⟨rfl, m5⟩, Or.inl ⟨rfl, m6⟩⟩
