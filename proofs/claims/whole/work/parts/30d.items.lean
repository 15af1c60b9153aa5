/-! little ones; the items one after the other -/
def OL (tl p fm li : Nat) (xb : Nat → Int32) (A : Option (Int32 × Int32 × Int32 × Int32 × Int32 × Int32)) (B : Option (Int32 × Int32 × Int32 × Int32 × Int64 × Int32)) : Prop :=
  (∃ (st' : Nat) (tk en dv at' k : Int32) (v : Int64) (rl : Int32), A = some (0, tk, nI st', en, dv, nI li) ∧ B = some (0, at', nI st', k, v, rl)) ∨
  (∃ (q : Nat) (tk st1 v1 b k : Int32) (v : Int64) (li' : Nat), p < q ∧ q ≤ tl ∧ A = Option.bind (f_X5_advance (nI tl) xb tk st1 (nI q) v1) (fun y => some (1, y.1, y.2.1, y.2.2.1, y.2.2.2, nI li')) ∧ B = some (1, nI q, b, k, v, nI li') ∧ li' < 2 ^ fm)
theorem rd_little {tl p fm li : Nat} {T : Nat → Nat} {xb mt : Nat → Int32} (h : TX tl T xb mt) (hp : p ≤ tl) (hm : fm ≤ 6) (hli : li < 2 ^ fm) (tk0 st0 v0 b0 k0 : Int32) (w0 : Int64) : OL tl p fm li xb (f_X5_readLittle (nI tl) xb tk0 st0 (nI p) v0 (nI fm) (nI li)) (f_X10_takesLittle (nI tl) (nI p) b0 k0 w0 (nI fm) (nI li) mt) := by
  have hpow : 2 ^ fm ≤ 64 := Nat.pow_le_pow_right (n := 2) (by decide) hm
  have em : (nI fm - (1 : Int32)).toInt = (fm : Int) - 1 := pk_sub_toInt (a := fm) (b := 1) (by omega) (by decide)
  unfold f_X5_readLittle f_X10_takesLittle
  obtain ⟨st1, c1⟩ := tk_num h hp tk0 st0 v0 b0 k0 w0
  rcases c1 with ⟨n1, q1, hn1, hq1, hq1', e1, t1⟩ | ⟨tk, en, dv, hne, e1, t1⟩
  · rw [e1, t1, ob1, ob1, if_pos rfl, has_X1 hm, inR_nI (by omega), em]
    by_cases g : n1 < fm
    · have g1 : ¬ B01 (decide ((0 : Int) ≤ (n1 : Int) ∧ (n1 : Int) ≤ (fm : Int) - 1)) = 0 := by rw [decide_eq_true (by omega)]; decide
      have g2 : ¬ B01 (decide ((n1 : Int) ≤ (fm : Int) - 1)) = 0 := by rw [decide_eq_true (by omega)]; decide
      rw [if_neg g1, if_neg g2]
      obtain ⟨st2, c2⟩ := tk_stop h hq1' 3 (nI st1) (nI n1) (nI st1) 2 (lN n1)
      rcases c2 with ⟨q', dv, v, hq2, hq2', e2, t2⟩ | ⟨tk, en, dv, at', k, v, hne, e2, t2⟩
      · rw [e2, t2, ob1, ob1, if_pos rfl]
        have ea : f_X1_makeLittle (nI li) (nI n1) = some (nI (li ||| 2 ^ n1)) := by
          unfold f_X1_makeLittle
          rw [shl_t n1 (by omega), or_t li (by omega) (2 ^ n1) (Nat.lt_of_lt_of_le (Nat.pow_lt_pow_right (by decide) g) hpow)]
        have eb : (nI li ||| ((1 : Int32) <<< ((lN n1).toInt32 &&& 31))) = nI (li ||| 2 ^ n1) := by
          rw [lN_i, shl_t n1 (by omega), or_t li (by omega) (2 ^ n1) (Nat.lt_of_lt_of_le (Nat.pow_lt_pow_right (by decide) g) hpow)]
        rw [ea, ob1, eb]
        exact Or.inr ⟨q', 2, nI st2, dv, nI st2, 3, v, li ||| 2 ^ n1, by omega, hq2', rfl, rfl, two_or hli g⟩
      · rw [e2, t2, ob1, ob1, if_neg hne]
        exact Or.inl ⟨st2, tk, en, dv, at', k, v, _, rfl, rfl⟩
    · have g1 : B01 (decide ((0 : Int) ≤ (n1 : Int) ∧ (n1 : Int) ≤ (fm : Int) - 1)) = 0 := by rw [decide_eq_false (by omega)]; rfl
      have g2 : B01 (decide ((n1 : Int) ≤ (fm : Int) - 1)) = 0 := by rw [decide_eq_false (by omega)]; rfl
      rw [if_pos g1, if_pos g2]
      exact Or.inl ⟨st1, _, _, _, _, _, _, _, rfl, rfl⟩
  · obtain ⟨a3, k3, v3, t1'⟩ := t1 (nI fm - 1) (by omega)
    rw [e1, t1', ob1, ob1, if_neg hne, if_pos rfl]
    exact Or.inl ⟨st1, tk, en, dv, a3, k3, v3, _, rfl, rfl⟩
def g_item (X_length : Int32) (X_bytes : Nat → Int32) (D_token : Int32) (D_start : Int32) (D_end : Int32) (D_value : Int32) (F_size : Int32) (F_littleOnes : Int32) (F_slips : Nat → Int32) (F_lates : Nat → Int32) (F_copied : Nat → Int32) : Option (Int32 × Int32 × Int32 × Int32 × Int32 × Int32 × Int32 × (Nat → Int32) × (Nat → Int32) × (Nat → Int32)) := (if D_token = (4 : Int32) then (Option.bind (f_X5_readChild X_length X_bytes D_token D_start D_end D_value F_size F_slips F_lates F_copied) (fun y6 => some (y6.1, y6.2.1, y6.2.2.1, y6.2.2.2.1, y6.2.2.2.2.1, y6.2.2.2.2.2.1, F_littleOnes, y6.2.2.2.2.2.2.1, y6.2.2.2.2.2.2.2.1, y6.2.2.2.2.2.2.2.2))) else (if D_token = (5 : Int32) then (Option.bind (f_X5_readLittle X_length X_bytes D_token D_start D_end D_value F_size F_littleOnes) (fun y3 => (if y3.1 = 0 then some ((0 : Int32), y3.2.1, y3.2.2.1, y3.2.2.2.1, y3.2.2.2.2.1, F_size, y3.2.2.2.2.2, F_slips, F_lates, F_copied) else some ((1 : Int32), y3.2.1, y3.2.2.1, y3.2.2.2.1, y3.2.2.2.2.1, F_size, y3.2.2.2.2.2, F_slips, F_lates, F_copied)))) else some ((0 : Int32), D_token, D_start, D_end, D_value, F_size, F_littleOnes, F_slips, F_lates, F_copied)))
theorem rI_step (X_length : Int32) (X_bytes : Nat → Int32) (n : Nat) (D_token D_start D_end D_value F_size F_littleOnes : Int32) (F_slips F_lates F_copied : Nat → Int32) (x1 : Int32) : f_X5_readItems_L18 X_length X_bytes (n + 1) D_token D_start D_end D_value F_size F_littleOnes F_slips F_lates F_copied x1 = (if (200 : Int32) < x1 then some ((-1 : Int32), D_token, D_start, D_end, D_value, F_size, F_littleOnes, F_slips, F_lates, F_copied) else (if D_token = 0 then some (x1, D_token, D_start, D_end, D_value, F_size, F_littleOnes, F_slips, F_lates, F_copied) else (Option.bind (g_item X_length X_bytes D_token D_start D_end D_value F_size F_littleOnes F_slips F_lates F_copied) (fun y5 => (if y5.1 = 0 then some ((-1 : Int32), y5.2.1, y5.2.2.1, y5.2.2.2.1, y5.2.2.2.2.1, y5.2.2.2.2.2.1, y5.2.2.2.2.2.2.1, y5.2.2.2.2.2.2.2.1, y5.2.2.2.2.2.2.2.2.1, y5.2.2.2.2.2.2.2.2.2) else f_X5_readItems_L18 X_length X_bytes n y5.2.1 y5.2.2.1 y5.2.2.2.1 y5.2.2.2.2.1 y5.2.2.2.2.2.1 y5.2.2.2.2.2.2.1 y5.2.2.2.2.2.2.2.1 y5.2.2.2.2.2.2.2.2.1 y5.2.2.2.2.2.2.2.2.2 (x1 + (1 : Int32))))))) := by
  rw [f_X5_readItems_L18]
  by_cases a : (200 : Int32) < x1
  · rw [if_pos a, if_pos a]
  · rw [if_neg a, if_neg a]
    by_cases b : D_token = 0
    · rw [if_pos b, if_pos b]
    · rw [if_neg b, if_neg b]
      unfold f_X5_readItems_L68 f_X5_readItems_L69 g_item
      by_cases c : D_token = (4 : Int32)
      · rw [if_pos c, if_pos c]
        cases f_X5_readChild X_length X_bytes D_token D_start D_end D_value F_size F_slips F_lates F_copied with
        | none => rfl
        | some y => rfl
      · rw [if_neg c, if_neg c]
        by_cases e : D_token = (5 : Int32)
        · rw [if_pos e, if_pos e]
          cases f_X5_readLittle X_length X_bytes D_token D_start D_end D_value F_size F_littleOnes with
          | none => rfl
          | some y =>
            rw [ob1, ob1]
            by_cases g : y.1 = 0
            · rw [if_pos g, if_pos g, ob1]
            · rw [if_neg g, if_neg g, ob1]
        · rw [if_neg e, if_neg e, ob1]
theorem items {tl : Nat} {T : Nat → Nat} {xb mt Ms Ml Mc kept : Nat → Int32} (h : TX tl T xb mt) (ma li0 ii sk un : Int32) : ∀ (d n1 n2 ct st fm li : Nat) (tk en dv at' k : Int32) (v : Int64) (Fs Fl Fc mr : Nat → Int32) (sl la co : Nat → Nat), tl - st ≤ d → st ≤ tl → ct ≤ st → d < n1 → d < n2 → TK tk dv k v → (tk = 0 ∨ ∃ q : Nat, en = nI q ∧ st < q ∧ q ≤ tl ∧ (tk = 1 ∨ at' = nI q)) → Cl fm sl la co → Ar fm Fs sl → Ar fm Fl la → Ar fm Fc co → Rd fm mr sl la co → li < 2 ^ fm →
    (∃ (st' : Nat) (tk' en' dv' fz fl at2 k2 rm rl : Int32) (v2 : Int64) (Fs' Fl' Fc' mr' : Nat → Int32), f_X5_readItems_L18 (nI tl) xb n1 tk (nI st) en dv (nI fm) (nI li) Fs Fl Fc (nI ct) = some (-1, tk', nI st', en', dv', fz, fl, Fs', Fl', Fc') ∧ f_X10_children_L21 mt n2 (nI tl) ma li0 ii sk un at' (nI st) k v (nI fm) (nI li) Ms Ml Mc kept mr (nI ct) = some ((-10 : Int32) - nI st', nI tl, ma, li0, ii, sk, un, at2, nI st', k2, v2, rm, rl, Ms, Ml, Mc, kept, mr')) ∨
    (∃ (ct' fm' li' : Nat) (tk' st' en' dv' at2 b2 k2 : Int32) (v2 : Int64) (Fs' Fl' Fc' mr' : Nat → Int32) (sl' la' co' : Nat → Nat), ct' ≤ 200 ∧ f_X5_readItems_L18 (nI tl) xb n1 tk (nI st) en dv (nI fm) (nI li) Fs Fl Fc (nI ct) = some (nI ct', tk', st', en', dv', nI fm', nI li', Fs', Fl', Fc') ∧ f_X10_children_L21 mt n2 (nI tl) ma li0 ii sk un at' (nI st) k v (nI fm) (nI li) Ms Ml Mc kept mr (nI ct) = f_X10_children_L113 mt 300 (nI tl) (nI fm') li0 ii sk un at2 b2 k2 v2 (nI fm') (nI li') Ms Ml Mc kept mr' (nI ct') 0 ∧ Cl fm' sl' la' co' ∧ Ar fm' Fs' sl' ∧ Ar fm' Fl' la' ∧ Ar fm' Fc' co' ∧ Rd fm' mr' sl' la' co' ∧ li' < 2 ^ fm') := by
  have h200 := h.1
  intro d
  induction d using Nat.strongRecOn with
  | ind d ih =>
    intro n1 n2 ct st fm li tk en dv at' k v Fs Fl Fc mr sl la co hd hst hct hn1 hn2 hT hE hC hf hg hc hr hli
    obtain ⟨n1, rfl⟩ : ∃ j, n1 = j + 1 := ⟨n1 - 1, by omega⟩
    obtain ⟨n2, rfl⟩ : ∃ j, n2 = j + 1 := ⟨n2 - 1, by omega⟩
    rw [rI_step, f_X10_children_L21, if_neg (show ¬ (200 : Int32) < nI ct from nI_nlt (a := 200) (by omega) (by decide))]
    have bad : ∀ (tk' : Int32), ¬ tk' = 0 → ¬ tk' = 4 → ¬ tk' = 5 → (if tk' = 0 then some (nI ct, tk', nI st, en, dv, nI fm, nI li, Fs, Fl, Fc) else (Option.bind (g_item (nI tl) xb tk' (nI st) en dv (nI fm) (nI li) Fs Fl Fc) (fun y5 => (if y5.1 = 0 then some ((-1 : Int32), y5.2.1, y5.2.2.1, y5.2.2.2.1, y5.2.2.2.2.1, y5.2.2.2.2.2.1, y5.2.2.2.2.2.2.1, y5.2.2.2.2.2.2.2.1, y5.2.2.2.2.2.2.2.2.1, y5.2.2.2.2.2.2.2.2.2) else f_X5_readItems_L18 (nI tl) xb n1 y5.2.1 y5.2.2.1 y5.2.2.2.1 y5.2.2.2.2.1 y5.2.2.2.2.2.1 y5.2.2.2.2.2.2.1 y5.2.2.2.2.2.2.2.1 y5.2.2.2.2.2.2.2.2.1 y5.2.2.2.2.2.2.2.2.2 (nI ct + (1 : Int32)))))) = some ((-1 : Int32), tk', nI st, en, dv, nI fm, nI li, Fs, Fl, Fc) := by
      intro tk' h0 h4 h5
      unfold g_item
      rw [if_neg h0, if_neg h4, if_neg h5, ob1, if_pos rfl]
    have bad2 : ∀ (K) (k' : Int32) (v' : Int64), f_X10_children_L79 mt K (nI tl) ma li0 ii sk un at' (nI st) k' v' (nI fm) (nI li) Ms Ml Mc kept mr (nI ct) = some ((-10 : Int32) - nI st, nI tl, ma, li0, ii, sk, un, at', nI st, k', v', nI fm, nI li, Ms, Ml, Mc, kept, mr) := by
      intro K k' v'
      unfold f_X10_children_L79 f_X10_children_L80
      rw [if_pos rfl]
    rcases hT with ⟨rfl, rfl⟩ | ⟨rfl, rfl, rfl⟩ | ⟨rfl, rfl, rfl⟩ | ⟨n, hn, rfl, rfl, rfl, rfl⟩ | ⟨rfl, rfl⟩ | ⟨rfl, hk⟩
    · rw [if_pos rfl, if_pos rfl]
      exact Or.inr ⟨ct, fm, li, 0, nI st, en, dv, at', nI st, 0, v, Fs, Fl, Fc, mr, sl, la, co, by omega, rfl, rfl, hC, hf, hg, hc, hr, hli⟩
    · rcases hE with hE | ⟨q, rfl, hq1, hq2, hE | rfl⟩
      · exact absurd hE (by decide)
      · exact absurd hE (by decide)
      · rw [if_neg (by decide), if_neg (by decide), if_pos rfl, if_pos (show lg_cmp (3417476 : Int64) (3417476 : Int64) = 0 by decide)]
        unfold g_item
        rw [if_pos rfl]
        rcases rd_child (st := st) h hq2 hC hf hg hc hr 4 dv 1 3417476 with ⟨st', tk, en, dv', at', k, v, mr', eA, eB⟩ | ⟨st', tk, en, dv', at', k, v, mr', eA, eB⟩ | ⟨q', tk, st1, v1, b, k, v, Fs', Fl', Fc', mr', sl', la', co', hq3, hq4, eA, eB, hC', hf', hg', hc', hr'⟩
        · rw [eA, eB, ob1, ob1, ob1, if_pos rfl, if_pos rfl]
          unfold f_X10_children_L79 f_X10_children_L80
          rw [if_pos rfl]
          exact Or.inl ⟨st', tk, en, dv', nI fm, nI li, at', k, nI fm, nI li, v, Fs, Fl, Fc, mr', rfl, rfl⟩
        · rw [eA, eB, ob1, ob1, ob1, if_pos rfl, if_pos rfl]
          unfold f_X10_children_L79 f_X10_children_L80
          rw [if_pos rfl]
          exact Or.inl ⟨st', tk, en, dv', nI fm, nI li, at', k, nI (fm + 1), nI li, v, Fs, Fl, Fc, mr', rfl, rfl⟩
        · obtain ⟨st2, en2, at2, tk2, dv2, k2, v2, a1, a2, a3, a4, a5, a6⟩ := token h hq4 tk st1 v1 b k v
          rw [eA, eB, a1, ob1, ob1, ob1, ob1, if_neg (show ¬ (1 : Int32) = 0 by decide), if_neg (show ¬ (1 : Int32) = 0 by decide)]
          unfold f_X10_children_L75 f_X10_children_L80
          rw [if_neg (show ¬ (1 : Int32) = 0 by decide), a2, ob1, nI_1]
          have hpow : 2 ^ fm ≤ 2 ^ (fm + 1) := Nat.pow_le_pow_right (n := 2) (by decide) (by omega)
          exact ih (d - 1) (by omega) n1 n2 (ct + 1) st2 (fm + 1) li tk2 en2 dv2 at2 k2 v2 Fs' Fl' Fc' mr' sl' la' co' (by omega) a5 (by omega) (by omega) (by omega) a3 a6 hC' hf' hg' hc' hr' (by omega)
    · rcases hE with hE | ⟨q, rfl, hq1, hq2, hE | rfl⟩
      · exact absurd hE (by decide)
      · exact absurd hE (by decide)
      · rw [if_neg (by decide), if_neg (by decide), if_pos rfl, if_neg (show ¬ lg_cmp (412766597 : Int64) (3417476 : Int64) = 0 by decide), if_pos (show lg_cmp (412766597 : Int64) (412766597 : Int64) = 0 by decide)]
        unfold g_item
        rw [if_neg (show ¬ (5 : Int32) = 4 by decide), if_pos rfl]
        rcases rd_little h hq2 hC.1 hli 5 (nI st) dv (nI st) 1 412766597 with ⟨st', tk, en, dv', at', k, v, rl, eA, eB⟩ | ⟨q', tk, st1, v1, b, k, v, li', hq3, hq4, eA, eB, hli'⟩
        · rw [eA, eB, ob1, ob1, if_pos rfl, if_pos rfl, ob1, if_pos rfl]
          unfold f_X10_children_L79 f_X10_children_L80
          rw [if_pos rfl]
          exact Or.inl ⟨st', tk, en, dv', nI fm, nI li, at', k, nI fm, rl, v, Fs, Fl, Fc, mr, rfl, rfl⟩
        · obtain ⟨st2, en2, at2, tk2, dv2, k2, v2, a1, a2, a3, a4, a5, a6⟩ := token h hq4 tk st1 v1 b k v
          rw [eA, eB, a1, ob1, ob1, ob1, if_neg (show ¬ (1 : Int32) = 0 by decide), if_neg (show ¬ (1 : Int32) = 0 by decide), ob1, if_neg (show ¬ (1 : Int32) = 0 by decide)]
          unfold f_X10_children_L75 f_X10_children_L80
          rw [if_neg (show ¬ (1 : Int32) = 0 by decide), a2, ob1, nI_1]
          exact ih (d - 1) (by omega) n1 n2 (ct + 1) st2 fm li' tk2 en2 dv2 at2 k2 v2 Fs Fl Fc mr sl la co (by omega) a5 (by omega) (by omega) (by omega) a3 a6 hC hf hg hc hr hli'
    · rw [bad 3 (by decide) (by decide) (by decide), if_neg (by decide), if_neg (by decide), bad2]
      exact Or.inl ⟨st, _, _, _, _, _, _, _, _, _, _, _, _, _, _, rfl, rfl⟩
    · rw [bad 2 (by decide) (by decide) (by decide), if_neg (by decide), if_neg (by decide), bad2]
      exact Or.inl ⟨st, _, _, _, _, _, _, _, _, _, _, _, _, _, _, rfl, rfl⟩
    · rw [bad 1 (by decide) (by decide) (by decide)]
      rcases hk with ⟨rfl, g1, g2⟩ | ⟨rfl, rfl⟩ | rfl
      · rw [if_neg (by decide), if_pos rfl, if_neg (fun q => g1 ((lg_cmp_eq _ _).mp q)), if_neg (fun q => g2 ((lg_cmp_eq _ _).mp q)), bad2]
        exact Or.inl ⟨st, _, _, _, _, _, _, _, _, _, _, _, _, _, _, rfl, rfl⟩
      · rw [if_neg (by decide), if_neg (by decide), bad2]
        exact Or.inl ⟨st, _, _, _, _, _, _, _, _, _, _, _, _, _, _, rfl, rfl⟩
      · rw [if_neg (by decide), if_neg (by decide), bad2]
        exact Or.inl ⟨st, _, _, _, _, _, _, _, _, _, _, _, _, _, _, rfl, rfl⟩
