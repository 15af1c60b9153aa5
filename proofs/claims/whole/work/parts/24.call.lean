/-! the text's bytes; an order called; rates -/
def RX (tl : Nat) (xb mt : Nat → Int32) : Prop := tl ≤ 200 ∧ ∀ j, j < tl → xb j = mt j ∧ ∃ c : Nat, c < 256 ∧ mt j = nI c
theorem byte_bv (P : BitVec 64) (a : Nat) (ha : a ≤ 56) : (P >>> a).setWidth 32 &&& 255#32 = (P.sshiftRight a &&& 255#64).setWidth 32 := by
  apply BitVec.eq_of_getLsbD_eq
  intro i hi
  have hm : Nat.testBit 255 i = decide (i < 8) := Nat.testBit_two_pow_sub_one 8 i
  simp only [BitVec.getLsbD_and, BitVec.getLsbD_setWidth, BitVec.getLsbD_ushiftRight, BitVec.getLsbD_sshiftRight, BitVec.getLsbD_ofNat, hi, decide_true, Bool.true_and, hm]
  by_cases h8 : i < 8
  · have h1 : ¬ 64 ≤ i := by omega
    have h2 : a + i < 64 := by omega
    have h3 : i < 64 := by omega
    simp [h8, h1, h2, h3]
  · simp [h8]
theorem byte_eq (v : Int64) (k : Nat) (hk : k < 8) : ((v.toUInt64 >>> (((8 : Int32) * nI k).toInt64.toUInt64 &&& Int64.toUInt64 63)).toInt64).toInt32 &&& (255 : Int32) = ((v >>> (((8 : Int32) * nI k).toInt64 &&& 63)) &&& (255 : Int64)).toInt32 := by
  apply Int32.toBitVec_inj.mp
  have e1 : ∀ k, k < 8 → ((((8 : Int32) * nI k).toInt64.toUInt64 &&& Int64.toUInt64 63).toBitVec % 64).toNat = 8 * k := by decide +kernel
  have e2 : ∀ k, k < 8 → ((((8 : Int32) * nI k).toInt64 &&& 63).toBitVec.smod 64).toNat = 8 * k := by decide +kernel
  have h := byte_bv v.toBitVec (8 * k) (by omega)
  rw [Int32.toBitVec_and, Int64.toBitVec_toInt32, Int64.toBitVec_toInt32, BitVec.signExtend_eq_setWidth_of_le _ (by decide), BitVec.signExtend_eq_setWidth_of_le _ (by decide)]
  show ((v.toUInt64 >>> (((8 : Int32) * nI k).toInt64.toUInt64 &&& Int64.toUInt64 63)).toBitVec).setWidth 32 &&& 255#32 = (((v >>> (((8 : Int32) * nI k).toInt64 &&& 63)) &&& (255 : Int64)).toBitVec).setWidth 32
  rw [UInt64.toBitVec_shiftRight, Int64.toBitVec_and, Int64.toBitVec_shiftRight, BitVec.ushiftRight_eq', BitVec.sshiftRight_eq', e1 k hk, e2 k hk]
  exact h
theorem type_L {v : Int64} : ∀ (d n tl : Nat) (xb mt : Nat → Int32), d ≤ 8 → d < n → tl + d ≤ 200 → RX tl xb mt → ∃ xb' mt' : Nat → Int32, f_X9_type_L36 n (nI tl) xb v (nI d - 1) = some (nI (tl + d), nI (tl + d), xb') ∧ f_X10_type_L34 n (nI tl) mt v (nI d - 1) = some (nI (tl + d), nI (tl + d), mt') ∧ RX (tl + d) xb' mt' := by
  intro d
  induction d with
  | zero =>
    intro n tl xb mt hd hn ht h
    obtain ⟨n, rfl⟩ : ∃ i, n = i + 1 := ⟨n - 1, by omega⟩
    refine ⟨xb, mt, ?_, ?_, h⟩
    · rw [f_X9_type_L36, if_pos (by decide)]; rfl
    · rw [f_X10_type_L34, if_pos (by decide)]; rfl
  | succ d ih =>
    intro n tl xb mt hd hn ht h
    obtain ⟨n, rfl⟩ : ∃ i, n = i + 1 := ⟨n - 1, by omega⟩
    have e1 : nI (d + 1) - 1 = nI d := nI_pred d
    have e2 : nI d + (-1 : Int32) = nI d - 1 := (Int32.sub_eq_add_neg _ _).symm
    have hneg : ¬ nI d < 0 := nI_pos (by omega)
    obtain ⟨c, hc, hce⟩ := pk_andE (((v.toUInt64 >>> (((8 : Int32) * nI d).toInt64.toUInt64 &&& Int64.toUInt64 63)).toInt64).toInt32) (m := 255) 8 (by decide)
    have hb := byte_eq v d (by omega)
    rw [f_X9_type_L36, f_X10_type_L34, e1, if_neg hneg, if_neg hneg, if_pos (gin (by omega) (by decide)), ← hb, hce]
    have ha : f_X8_append (nI tl) xb (nI c) = some (nI (tl + 1), upd xb tl (nI c)) := by
      unfold f_X8_append
      rw [if_neg (show ¬ (200 : Int32) ≤ nI tl from nI_ge (a := tl) (b := 200) (by omega) (by decide)), if_pos (gin (by omega) (by decide)), nI_1, cl (by omega)]
    rw [ha, ob1, nI_1, cl (by omega), e2]
    have hn' : RX (tl + 1) (upd xb tl (nI c)) (upd mt tl (nI c)) := by
      refine ⟨by omega, fun j hj => ?_⟩
      by_cases hq : j = tl
      · subst hq; exact ⟨by rw [upd_s, upd_s], c, hc, upd_s⟩
      · rw [upd_n hq, upd_n hq]; exact h.2 j (by omega)
    obtain ⟨xb', mt', h1, h2, h3⟩ := ih n (tl + 1) _ _ (by omega) (by omega) (by omega) hn'
    rw [show tl + (d + 1) = tl + 1 + d by omega]
    exact ⟨xb', mt', h1, h2, h3⟩
theorem st_type {tl : Nat} {xb mt : Nat → Int32} (h : RX tl xb mt) (v : Int64) (p3 : Int32) : ∃ (r : Int32) (tl' : Nat) (xb' mt' : Nat → Int32), f_X9_type (nI tl) xb v p3 = some (r, nI tl', xb') ∧ f_X10_type (nI tl) mt v p3 = some (r, nI tl', mt') ∧ RX tl' xb' mt' := by
  have h200 := h.1
  unfold f_X9_type f_X10_type
  rw [show f_X10_within p3.toInt64 (1 : Int64) (8 : Int64) = B01 (inR p3 1 8) from within_i p3 1 8, if_B]
  have e1 : (1 : Int32).toInt = 1 := rfl
  have e8 : (8 : Int32).toInt = 8 := rfl
  by_cases hp : inR p3 1 8 = true
  · have hq := of_decide_eq_true hp
    obtain ⟨k, hk, rfl⟩ : ∃ k : Nat, k ≤ 8 ∧ p3 = nI k := ⟨p3.toInt.toNat, by omega, by rw [i32e, nIt (by omega)]; omega⟩
    rw [nIt (by omega)] at hq
    rw [if_pos hp, if_neg (show ¬ nI k < (1 : Int32) from by rw [i32t, nIt (by omega)]; omega), if_pos (show nI k ≤ (8 : Int32) from by rw [i32l, nIt (by omega)]; omega), show f_X8_length (nI tl) = nI tl from rfl, nI_add]
    by_cases hl : tl + k ≤ 200
    · rw [if_pos (show nI (tl + k) ≤ (200 : Int32) from nI_le (b := 200) hl (by decide)), if_pos (show nI (tl + k) ≤ (200 : Int32) from nI_le (b := 200) hl (by decide))]
      obtain ⟨xb', mt', h1, h2, h3⟩ := type_L (v := v) k 300 tl xb mt hk (by omega) hl h
      exact ⟨_, _, _, _, h1, h2, h3⟩
    · rw [if_neg (show ¬ nI (tl + k) ≤ (200 : Int32) from nI_ge (a := 200) (by omega) (by omega)), if_neg (show ¬ nI (tl + k) ≤ (200 : Int32) from nI_ge (a := 200) (by omega) (by omega))]
      exact ⟨_, tl, xb, mt, rfl, rfl, h⟩
  · rw [if_neg hp]
    by_cases h1 : p3 < 1
    · rw [if_pos h1]; exact ⟨_, tl, xb, mt, rfl, rfl, h⟩
    · have h8 : ¬ p3 ≤ (8 : Int32) := fun q => hp (by
        rw [i32t] at h1; rw [i32l] at q
        exact decide_eq_true (by omega))
      rw [if_neg h1, if_neg h8]; exact ⟨_, tl, xb, mt, rfl, rfl, h⟩
theorem gp64 {co : Nat → Nat} {m s L : Nat} (hm : m ≤ 6) : gp co m s L m < 64 := by
  have h1 := gp_lt (co := co) (m := m) (s := s) (L := L) m
  have h2 := p6 hm
  omega
theorem call_L {m s b o un : Nat} {bf : Nat → Int32} {sl la co : Nat → Nat} {f f' g g' c c' : Nat → Int32} (hC : Cl m sl la co) (hs : s < 64) (hb : b ≤ 9) (ho : 1 ≤ o) (ho4 : o ≤ 4) (hf : Ar m f sl) (hf' : Ar m f' sl) (hg : Ar m g la) (hg' : Ar m g' la) (hc : Ar m c co) (hc' : Ar m c' co) : ∀ (d j n : Nat) (lo : Int32) (fa : Nat), j + d = m → d < n → fa < 64 → ∃ (fa' : Nat) (lo' : Int32), fa' < 64 ∧ f_X6_obey_L4 (nI m) f g c n (nI s) (nI b) lo (nI o) (nI fa) (nI j) = some (nI fa', nI (s &&& (63 ^^^ fa')), nI (sb o b), lo') ∧ f_X10_call_L23 (nI m) f' g' c' n (nI s) (nI b) lo (nI un) bf (nI o) (nI fa) (nI j) = Option.bind (f_X10_remember (nI s) (nI b) (nI un) bf) (fun y5 => some (nI fa', nI (s &&& (63 ^^^ fa')), nI (sb o b), lo', y5.1, y5.2)) := by
  have hm := hC.1
  intro d
  induction d with
  | zero =>
    intro j n lo fa hj hn hfa
    obtain ⟨n, rfl⟩ : ∃ i, n = i + 1 := ⟨n - 1, by omega⟩
    obtain rfl : j = m := by omega
    refine ⟨fa, lo, hfa, ?_, ?_⟩
    · rw [f_X6_obey_L4, show f_X1_size (nI j) = nI j from rfl, if_pos (nI_le (Nat.le_refl _) (by omega)), andN_t s hs fa hfa, sb_X9 o (by omega) ho b (by omega)]
      rfl
    · rw [f_X10_call_L23, if_pos (nI_le (Nat.le_refl _) (by omega)), andN_t s hs fa hfa, sb_X10 o (by omega) ho b (by omega)]
  | succ d ih =>
    intro j n lo fa hj hn hfa
    obtain ⟨n, rfl⟩ : ∃ i, n = i + 1 := ⟨n - 1, by omega⟩
    have hjm : j < m := by omega
    have hl := ld_lt (co := co) (m := m) (s := s) 6 j hjm
    have hG := gp64 (co := co) (m := m) (s := s) (L := j) hm
    have hno := fun (lo : Int32) => ih (j + 1) n lo fa (by omega) (by omega) hfa
    rw [f_X6_obey_L4, f_X10_call_L23, show f_X1_size (nI m) = nI m from rfl, if_neg (nI_ge hjm (by omega)), if_neg (nI_ge hjm (by omega)), isL_X6 hC hc hs hjm, ob1, if_B, has_t s hs j (by omega), if_B, lead_X10 hC hc' hs hjm, ob1, nI_1]
    unfold isL
    by_cases h1 : s.testBit j = true
    · rw [if_pos h1, h1, Bool.true_and]
      by_cases h2 : ld co m s 6 j = j
      · rw [if_pos (decide_eq_true h2), if_pos (congrArg nI h2), show f_X6_draw lo = some (((((lo * (1103515245 : Int32)) + (12345 : Int32)).toUInt32 >>> ((16 : Int32).toUInt32 &&& Int32.toUInt32 31)).toInt32) - ((((lo * (1103515245 : Int32)) + (12345 : Int32)).toUInt32 >>> ((16 : Int32).toUInt32 &&& Int32.toUInt32 31)).toInt32) / (10 : Int32) * (10 : Int32), (lo * (1103515245 : Int32)) + (12345 : Int32)) from rfl, ob1, er_X1 hC hf hg hjm ho ho4 hb, er_X10 hC hf' hg' hjm ho ho4 hb, ob1, ob1, gp_X6 hC hc hs hjm, gp_X10 hC hc' hs hjm, ob1, ob1, or_0, or_t fa hfa _ hG]
        dsimp only
        by_cases h3 : nI (er sl la j o b) ≤ ((((lo * (1103515245 : Int32)) + (12345 : Int32)).toUInt32 >>> ((16 : Int32).toUInt32 &&& Int32.toUInt32 31)).toInt32) - ((((lo * (1103515245 : Int32)) + (12345 : Int32)).toUInt32 >>> ((16 : Int32).toUInt32 &&& Int32.toUInt32 31)).toInt32) / (10 : Int32) * (10 : Int32)
        · rw [if_pos h3, if_pos h3]; exact hno _
        · rw [if_neg h3, if_neg h3]; exact ih (j + 1) n _ _ (by omega) (by omega) (or63 hfa hG)
      · rw [if_neg (by rw [decide_eq_false h2]; decide), if_neg (fun q => h2 ((nI_eq (by omega) (by omega)).mp q))]; exact hno _
    · rw [if_neg h1, if_neg (by rw [Bool.not_eq_true _ |>.mp h1]; simp)]; exact hno _
theorem st_call {m s b un : Nat} {lo : Int32} {sl la co : Nat → Nat} {f f' g g' c c' hi hs bf : Nat → Int32} (hC : Cl m sl la co) (hs2 : s < 2 ^ m) (hb : b ≤ 9) (hf : Ar m f sl) (hf' : Ar m f' sl) (hg : Ar m g la) (hg' : Ar m g' la) (hc : Ar m c co) (hc' : Ar m c' co) (h : RH m un hi hs bf) (p1 : Int32) : ∃ (r lo' : Int32) (s' b' un' : Nat) (hi' hs' bf' : Nat → Int32), f_X9_call (nI s) (nI b) lo (nI m) f g c (nI un) hi hs p1 = some (r, nI s', nI b', lo', nI un', hi', hs') ∧ f_X10_call (nI m) (nI s) (nI b) lo (nI un) f' g' c' bf p1 = some (r, nI s', nI b', lo', nI un', bf') ∧ RH m un' hi' hs' bf' ∧ s' < 2 ^ m ∧ b' ≤ 9 := by
  have hm := hC.1
  have h6 := p6 hm
  have hs6 : s < 64 := by omega
  unfold f_X9_call f_X10_call
  rw [order_X9, order_X10, if_B, if_B]
  by_cases h2 : inR p1 1 4 = true
  · rw [if_pos h2, if_pos h2]
    obtain ⟨o, h3, h4, rfl⟩ := inR_o h2
    rw [show f_X6_whoIsIn (nI s) = nI s from rfl, show f_X6_streak (nI b) = nI b from rfl]
    by_cases h0 : s = 0
    · subst h0
      exact ⟨_, lo, 0, b, un, hi, hs, bf, rfl, rfl, h, hs2, hb⟩
    · have hne : ¬ nI s = 0 := fun q => h0 ((i0 (by omega)).mp q)
      rw [if_neg hne, if_neg hne]
      obtain ⟨un', hi', hs', bf', e1, e2, h'⟩ := st_rem h hs2 hb
      obtain ⟨fa, lo', hfa, e3, e4⟩ := call_L (un := un) (bf := bf) hC hs6 hb h3 h4 hf hf' hg hg' hc hc' m 0 300 lo 0 (by omega) (by omega) (by decide)
      have e3' : f_X6_obey (nI s) (nI b) lo (nI m) f g c (nI o) = some (nI fa, nI (s &&& (63 ^^^ fa)), nI (sb o b), lo') := e3
      have e4' : f_X10_call_L23 (nI m) f' g' c' 300 (nI s) (nI b) lo (nI un) bf (nI o) (0 : Int32) (0 : Int32) = _ := e4
      rw [e1, ob1, e3', ob1, e4', e2, ob1]
      exact ⟨nI fa, lo', s &&& (63 ^^^ fa), sb o b, un', hi', hs', bf', rfl, rfl, h', Nat.lt_of_le_of_lt Nat.and_le_left hs2, sb_le o b⟩
  · rw [if_neg h2, if_neg h2]; exact ⟨_, lo, s, b, un, hi, hs, bf, rfl, rfl, h, hs2, hb⟩
/-- how many of the first j copy one -/
def cnt (co : Nat → Nat) (k : Nat) : Nat → Nat
  | 0 => 0
  | j + 1 => if co j = k then cnt co k j + 1 else cnt co k j
theorem copy_L {m k : Nat} {sl la co : Nat → Nat} {f : Nat → Int32} (hC : Cl m sl la co) (hf : Ar m f co) (hk : k < m) : ∀ (d j n : Nat), j + d = m → d < n → f_X1_howManyCopy_L4 (nI m) f n (nI k) (nI (cnt co k j)) (nI j) = some (nI (cnt co k m)) := by
  have hm := hC.1
  intro d
  induction d with
  | zero =>
    intro j n hj hn
    obtain ⟨n, rfl⟩ : ∃ i, n = i + 1 := ⟨n - 1, by omega⟩
    obtain rfl : j = m := by omega
    rw [f_X1_howManyCopy_L4, if_pos (nI_le (Nat.le_refl _) (by omega))]
  | succ d ih =>
    intro j n hj hn
    obtain ⟨n, rfl⟩ : ∃ i, n = i + 1 := ⟨n - 1, by omega⟩
    have hjm : j < m := by omega
    have ihn := ih (j + 1) n (by omega) (by omega)
    have hco : co j < 10 := by rcases (hC.2 j hjm).2.2 with h | h <;> omega
    rw [f_X1_howManyCopy_L4, if_neg (nI_ge hjm (by omega)), copied_X1 hm hjm hf, ob1, nI_1, nI_1]
    rw [cnt] at ihn
    by_cases hq : co j = k
    · rw [if_pos (congrArg nI hq)]; rw [if_pos hq] at ihn; exact ihn
    · rw [if_neg (fun h => hq ((nI_eq (by omega) (by omega)).mp h))]; rw [if_neg hq] at ihn; exact ihn
theorem rate_L {m k : Nat} {s b : Int32} {sl la co : Nat → Nat} {f g c : Nat → Int32} (hC : Cl m sl la co) (hc : Ar m c co) (hk : k < m) (tr : Int64) (x1 : Int32) : ∀ (d j n : Nat), j + d = m → d < n → f_X10_rate_L92 (nI m) s b f g c n tr x1 (nI k) (nI (cnt co k j)) (nI j) = f_X10_rate_L92 (nI m) s b f g c 1 tr x1 (nI k) (nI (cnt co k m)) (nI m) := by
  have hm := hC.1
  intro d
  induction d with
  | zero =>
    intro j n hj hn
    obtain ⟨n, rfl⟩ : ∃ i, n = i + 1 := ⟨n - 1, by omega⟩
    obtain rfl : j = m := by omega
    rw [f_X10_rate_L92, f_X10_rate_L92, if_pos (nI_le (Nat.le_refl _) (by omega)), if_pos (nI_le (Nat.le_refl _) (by omega))]
  | succ d ih =>
    intro j n hj hn
    obtain ⟨n, rfl⟩ : ∃ i, n = i + 1 := ⟨n - 1, by omega⟩
    have hjm : j < m := by omega
    have ihn := ih (j + 1) n (by omega) (by omega)
    have hco : co j < 10 := by rcases (hC.2 j hjm).2.2 with h | h <;> omega
    rw [f_X10_rate_L92, if_neg (nI_ge hjm (by omega)), if_pos (gin (by omega) (by decide)), cl (by omega), hc j hjm, nI_1, nI_1, show nI (cnt co k j) + (0 : Int32) = nI (cnt co k j) from Int32.add_zero _]
    rw [← ihn, cnt]
    by_cases hq : co j = k
    · rw [if_pos (congrArg nI hq), if_pos hq]
    · rw [if_neg (fun h => hq ((nI_eq (by omega) (by omega)).mp h)), if_neg hq]
theorem st_rate {m s b : Nat} {tr : Int64} {sl la co : Nat → Nat} {f f' g g' c c' : Nat → Int32} (hC : Cl m sl la co) (hs : s < 64) (hf : Ar m f sl) (hf' : Ar m f' sl) (hg : Ar m g la) (hg' : Ar m g' la) (hc : Ar m c co) (hc' : Ar m c' co) (p1 p2 : Int32) : ∃ (r : Int32) (tr' : Int64), f_X9_rate (nI s) (nI b) (nI m) f g c tr p1 p2 = some (r, tr') ∧ f_X10_rate (nI m) (nI s) (nI b) tr f' g' c' p1 p2 = some (r, tr') := by
  have hm := hC.1
  unfold f_X9_rate f_X10_rate
  rw [has_X1 hm, child_X10 hm, if_B, if_B, show f_X10_within p1.toInt64 (0 : Int64) (5 : Int64) = B01 (inR p1 0 5) from within_i p1 0 5, if_B]
  by_cases h1 : inR p2 0 ((m : Int) - 1) = true
  · rw [if_pos h1, if_pos h1]
    obtain ⟨k, hk, rfl⟩ := inR_t (by omega) h1
    by_cases h2 : inR p1 0 5 = true
    · rw [if_pos h2]
      have hr := fun (t : Int64) => rate_L (s := nI s) (b := nI b) (f := f') (g := g') hC hc' hk t p1 m 0 300 (by omega) (by omega)
      have hr' : ∀ t : Int64, f_X10_rate_L92 (nI m) (nI s) (nI b) f' g' c' 300 t p1 (nI k) (0 : Int32) (0 : Int32) = _ := hr
      rw [hr', hr', hr', hr', hr', hr']
      have hcp : f_X1_howManyCopy (nI m) c (nI k) = some (nI (cnt co k m)) := copy_L hC hc hk m 0 300 (by omega) (by omega)
      have hgi : gIn (nI k) 6 = true := gin (by omega) (by decide)
      have hfin : ∀ t : Int64, f_X10_rate_L92 (nI m) (nI s) (nI b) f' g' c' 1 t p1 (nI k) (nI (cnt co k m)) (nI m) = (if p1 = 0 then some (nI (sl k), t) else if p1 = (1 : Int32) then some (nI (sl k) + nI b, t) else if p1 = (2 : Int32) then some (nI (sl k) - nI (la k), t) else if p1 = (3 : Int32) then some ((2 : Int32) * (nI (sl k) + nI b), t) else if p1 = (4 : Int32) then some (nI (sl k) - nI (la k) + nI (cnt co k m), t) else some (nI (sl k) + nI (pc s), t)) := by
        intro t
        rw [f_X10_rate_L92, if_pos (nI_le (Nat.le_refl _) (by omega)), hgi, cl (by omega), hf' k hk, hg' k hk, pc_b s hs, ob1]
        rfl
      rw [hfin, hfin, hfin, hfin, hfin, hfin]
      unfold f_X4_rateAs f_X4_asListener f_X4_asCopier f_X4_asRunner f_X4_asWatcher f_X4_asDreamer f_X4_asChild f_X6_howManyIn
      rw [hcp, slip_X1 hm hk hf, late_X1 hm hk hg, pc_J s hs]
      have a3 : ∀ x y : Int64, tr + x + y = tr + (x + y) := fun x y => Int64.add_assoc _ _ _
      rcases six h2 with rfl | rfl | rfl | rfl | rfl | rfl
      · exact ⟨_, _, rfl, rfl⟩
      · refine ⟨_, _, rfl, ?_⟩
        show some (_, tr + 11) = some (_, tr + 10 + 1)
        rw [a3]; rfl
      · refine ⟨_, _, rfl, ?_⟩
        show some (_, tr + 101) = some (_, tr + 100 + 1)
        rw [a3]; rfl
      · refine ⟨_, _, rfl, ?_⟩
        show some (_, tr + 1011) = some (_, tr + 1000 + 10 + 1)
        rw [a3, a3]; rfl
      · refine ⟨_, _, rfl, ?_⟩
        show some (_, tr + 10101) = some (_, tr + 10000 + 100 + 1)
        rw [a3, a3]; rfl
      · refine ⟨_, _, rfl, ?_⟩
        show some (_, tr + 100001) = some (_, tr + 100000 + 1)
        rw [a3]; rfl
    · rw [if_neg h2]
      obtain ⟨n0, n1, n2, n3, n4, n5⟩ := n6 h2
      unfold f_X4_rateAs
      rw [if_neg n0, if_neg n1, if_neg n2, if_neg n3, if_neg n4, if_neg n5]
      exact ⟨_, _, rfl, rfl⟩
  · rw [if_neg h1, if_neg h1]
    by_cases h2 : inR p1 0 5 = true
    · rw [if_pos h2]; exact ⟨_, _, rfl, rfl⟩
    · rw [if_neg h2]; exact ⟨_, _, rfl, rfl⟩
