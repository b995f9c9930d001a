/-! 38: the reference: tax and prepayments -/
/-- what is seen of a ledger, out of a setup and a state -/
abbrev V9 (Z : SV) (S : StV) : LV := (4, 0, 0, S, Z)
def mTx (Z : SV) (am : Int64) : Nat → Int64 × Int64
  | 0 => (0, 0)
  | k + 1 => ((mTx Z am k).1 + (if 0 < (if (if k < Z.1 then (Z.2.2 0 k).toInt64 else 9223372036854775807) < am then (if k < Z.1 then (Z.2.2 0 k).toInt64 else 9223372036854775807) else am) - (mTx Z am k).2 then ((if (if k < Z.1 then (Z.2.2 0 k).toInt64 else 9223372036854775807) < am then (if k < Z.1 then (Z.2.2 0 k).toInt64 else 9223372036854775807) else am) - (mTx Z am k).2) * (if k < Z.1 then Z.2.2 1 k else Z.2.1 4).toInt64 else 0), if k < Z.1 then (Z.2.2 0 k).toInt64 else 9223372036854775807)
theorem pos_mul (x r : Int64) : (if 0 < x then x * r else 0) = (if x < 0 then 0 else x) * r := by
  by_cases h : 0 < x
  · rw [if_pos h, if_neg (Int64.lt_asymm h)]
  · rw [if_neg h]
    by_cases h2 : x < 0
    · rw [if_pos h2, Int64.zero_mul]
    · rw [if_neg h2, Int64.le_antisymm (Int64.not_lt.mp h) (Int64.not_lt.mp h2), Int64.zero_mul]
theorem mTx_at {Z : SV} {am : Int64} : ∀ k, k ≤ Z.1 → mTx Z am k = taxSt Z am k
  | 0, _ => rfl
  | k + 1, h => by
    have ih := mTx_at (Z := Z) (am := am) k (by omega)
    have hk : k < Z.1 := by omega
    rw [mTx, taxSt, ih, if_pos hk, if_pos hk, pos_mul]
theorem le_max64 (x : Int64) : ¬ (9223372036854775807 : Int64) < x := by
  rw [Int64.lt_iff_toInt_lt]
  have := Int64.toInt_lt x
  rw [show (9223372036854775807 : Int64).toInt = 9223372036854775807 by decide]
  omega
theorem mTx_top {Z : SV} {am : Int64} : (mTx Z am (Z.1 + 1)).1 = (taxSt Z am Z.1).1 + (if am - (taxSt Z am Z.1).2 < 0 then 0 else am - (taxSt Z am Z.1).2) * (Z.2.1 4).toInt64 := by
  rw [mTx, mTx_at _ (Nat.le_refl _), if_neg (Nat.lt_irrefl _), if_neg (Nat.lt_irrefl _), if_neg (le_max64 _), pos_mul]
theorem taxSt_2 {Z : SV} (hgz : RngZ Z) {am : Int64} : ∀ k, k ≤ Z.1 → ∃ b, b ≤ 99999999 ∧ (taxSt Z am k).2 = lN b
  | 0, _ => ⟨0, by decide, rfl⟩
  | k + 1, h => by
    obtain ⟨b, -, b2, b3⟩ := (hgz.1 k (by omega)).1
    exact ⟨b, b2, by rw [taxSt]; show (Z.2.2 0 k).toInt64 = lN b; rw [b3, nI_l (by omega)]⟩
theorem sub_n {am : Int64} {b : Nat} (h1 : am ≤ 0) (h2 : -(2 ^ 62) ≤ am.toInt) (hb : b ≤ 99999999) : ¬ 0 < am - lN b := by
  have h3 : am.toInt ≤ 0 := by have := Int64.le_iff_toInt_le.mp h1; simpa using this
  rw [Int64.lt_iff_toInt_lt, Int64.toInt_sub, pk_lT (by omega), Int.bmod_eq_of_le (by omega) (by omega)]
  show ¬ (0 : Int) < _
  omega
theorem neg_tax {Z : SV} (hgz : RngZ Z) {am : Int64} (h1 : am ≤ 0) (h2 : -(2 ^ 62) ≤ am.toInt) : ∀ k, k ≤ Z.1 → (taxSt Z am k).1 = 0
  | 0, _ => rfl
  | k + 1, h => by
    obtain ⟨b, b1, b2⟩ := taxSt_2 hgz (am := am) k (by omega)
    obtain ⟨x, x1, x2, x3⟩ := (hgz.1 k (by omega)).1
    have hlim : ¬ (Z.2.2 0 k).toInt64 < am := by
      rw [x3, nI_l (by omega), Int64.lt_iff_toInt_lt, pk_lT (by omega)]
      have h3 : am.toInt ≤ 0 := by have := Int64.le_iff_toInt_le.mp h1; simpa using this
      omega
    rw [taxSt]
    show (taxSt Z am k).1 + (if (if (Z.2.2 0 k).toInt64 < am then (Z.2.2 0 k).toInt64 else am) - (taxSt Z am k).2 < 0 then 0 else (if (Z.2.2 0 k).toInt64 < am then (Z.2.2 0 k).toInt64 else am) - (taxSt Z am k).2) * (Z.2.2 1 k).toInt64 = 0
    rw [neg_tax hgz h1 h2 k (by omega), if_neg hlim, ← pos_mul, b2, if_neg (sub_n h1 h2 b1)]
    decide
theorem tax_eq {Z : SV} (hgz : RngZ Z) {am : Int64} (h2 : -(2 ^ 62) ≤ am.toInt) : (mTx Z am (Z.1 + 1)).1 / 1000 = sTax Z am := by
  rw [mTx_top]
  unfold sTax
  by_cases h1 : am ≤ 0
  · obtain ⟨b, b1, b2⟩ := taxSt_2 hgz (am := am) Z.1 (Nat.le_refl _)
    rw [if_pos h1, neg_tax hgz h1 h2 _ (Nat.le_refl _), ← pos_mul, b2, if_neg (sub_n h1 h2 b1)]
    decide
  · rw [if_neg h1]
/-- what the brackets up to k take of an amount, in numbers -/
theorem taxSt_N {Z : SV} (hgz : RngZ Z) {e : Nat} (he : e < 2 ^ 40) : ∀ k, k ≤ Z.1 → ∃ s L, (taxSt Z (lN e) k) = (lN s, lN L) ∧ s ≤ 900 * min e L ∧ L ≤ 99999999 ∧ (∀ j, j + 1 = k → Z.2.2 0 j = nI L) ∧ (k = 0 → L = 0)
  | 0, _ => ⟨0, 0, rfl, by omega, by omega, fun j hj => by omega, fun _ => rfl⟩
  | k + 1, h => by
    obtain ⟨s, L, e1, e2, e3, e4, e5⟩ := taxSt_N hgz he k (by omega)
    obtain ⟨x, x1, x2, x3⟩ := (hgz.1 k (by omega)).1
    obtain ⟨r, -, r2, r3⟩ := (hgz.1 k (by omega)).2
    have hL : L < x := by
      rcases Nat.eq_zero_or_pos k with h0 | h0
      · have := e5 h0; omega
      · obtain ⟨a, b, c1, c2, c3, c4⟩ := hgz.2.1 (k - 1) (by omega)
        rw [show k - 1 + 1 = k by omega, x3] at c2
        have q1 := e4 (k - 1) (by omega)
        rw [c1] at q1
        have q2 := (nI_eq (by omega) (by omega)).mp q1
        have q3 := (nI_eq (by omega) (by omega)).mp c2
        omega
    have hmn : (if (Z.2.2 0 k).toInt64 < lN e then (Z.2.2 0 k).toInt64 else lN e) = lN (min e x) := by
      rw [x3, nI_l (by omega)]
      simp only [show (lN x < lN e) = (x < e) from propext (pk_lLT (by omega) (by omega))]
      split
      · rw [Nat.min_eq_right (by omega)]
      · rw [Nat.min_eq_left (by omega)]
    have hpt : (if lN (min e x) - lN L < 0 then 0 else lN (min e x) - lN L) = lN (min e x - L) := by
      by_cases hl : L ≤ min e x
      · rw [lN_sub hl, if_neg]
        rw [Int64.lt_iff_toInt_lt, pk_lT (by omega)]
        show ¬ ((_ : Nat) : Int) < (0 : Int)
        omega
      · rw [if_pos, show min e x - L = 0 by omega]; rfl
        rw [Int64.lt_iff_toInt_lt, Int64.toInt_sub, pk_lT (by omega), pk_lT (by omega), Int.bmod_eq_of_le (by omega) (by omega)]
        show _ < (0 : Int)
        omega
    refine ⟨s + (min e x - L) * r, x, ?_, ?_, x2, fun j hj => by rw [show j = k by omega, x3], fun q => by omega⟩
    · rw [taxSt, e1]
      show ((lN s + (if (if (Z.2.2 0 k).toInt64 < lN e then (Z.2.2 0 k).toInt64 else lN e) - lN L < 0 then 0 else (if (Z.2.2 0 k).toInt64 < lN e then (Z.2.2 0 k).toInt64 else lN e) - lN L) * (Z.2.2 1 k).toInt64), (Z.2.2 0 k).toInt64) = _
      rw [hmn, hpt, r3, nI_l (by omega), lN_mul, lN_add, x3, nI_l (by omega)]
    · have h9 : (min e x - L) * r ≤ (min e x - L) * 900 := Nat.mul_le_mul_left _ r2
      omega
theorem sTax_N {Z : SV} (hgz : RngZ Z) {e : Nat} (he : e < 2 ^ 40) : ∃ t, t ≤ e ∧ sTax Z (lN e) = lN t := by
  unfold sTax
  by_cases h1 : lN e ≤ 0
  · rw [if_pos h1]; exact ⟨0, Nat.zero_le _, rfl⟩
  · obtain ⟨s, L, e1, e2, e3, -, -⟩ := taxSt_N hgz he Z.1 (Nat.le_refl _)
    obtain ⟨r, -, r2, r3⟩ := hgz.2.2.2
    have hpt : (if lN e - lN L < 0 then 0 else lN e - lN L) = lN (e - L) := by
      by_cases hl : L ≤ e
      · rw [lN_sub hl, if_neg]
        rw [Int64.lt_iff_toInt_lt, pk_lT (by omega)]
        show ¬ ((_ : Nat) : Int) < (0 : Int)
        omega
      · rw [if_pos, show e - L = 0 by omega]; rfl
        rw [Int64.lt_iff_toInt_lt, Int64.toInt_sub, pk_lT (by omega), pk_lT (by omega), Int.bmod_eq_of_le (by omega) (by omega)]
        show _ < (0 : Int)
        omega
    have h9 : (e - L) * r ≤ (e - L) * 900 := Nat.mul_le_mul_left _ r2
    rw [if_neg h1, e1]
    show ∃ t, t ≤ e ∧ (lN s + (if lN e - lN L < 0 then 0 else lN e - lN L) * (Z.2.1 4).toInt64) / 1000 = lN t
    rw [hpt, r3, nI_l (by omega), lN_mul, lN_add, show (1000 : Int64) = lN 1000 from rfl, pk_lDiv (by omega) (by decide) (by decide)]
    exact ⟨_, by omega, rfl⟩
theorem pf_pos {a c : Nat} (ha : a ≤ 660000000) (hc : c ≤ 700000000) : (lN a - lN c < 0) = (a < c) := by
  apply propext
  rw [Int64.lt_iff_toInt_lt, Int64.toInt_sub, pk_lT (by omega), pk_lT (by omega), Int.bmod_eq_of_le (by omega) (by omega)]
  show (_ : Int) < (0 : Int) ↔ _
  omega
theorem pf_bd {a c : Nat} (ha : a ≤ 660000000) (hc : c ≤ 700000000) : -(2 ^ 31) ≤ (lN a - lN c).toInt ∧ (lN a - lN c).toInt ≤ 2 ^ 31 := by
  rw [Int64.toInt_sub, pk_lT (by omega), pk_lT (by omega), Int.bmod_eq_of_le (by omega) (by omega)]
  omega
theorem est_N {a c q : Nat} (h : c ≤ a) (hq : q ≤ 3) (ha : a ≤ 660000000) : (lN a - lN c) * 4 / (nI q + nI 1).toInt64 = lN ((a - c) * 4 / (q + 1)) := by
  rw [lN_sub h, nI_add, nI_l (by omega), show (4 : Int64) = lN 4 from rfl, lN_mul, pk_lDiv (by omega) (by omega) (by omega)]
theorem sTgt_N {Z : SV} {S : StV} (hgz : RngZ Z) (hg : Rng Z S) (hw : WfS S) {q : Nat} (hq : q ≤ 3) : ∃ t, t ≤ 660000000 ∧ sTgt Z (nI q) (sProf S (nI q)) = lN t := by
  obtain ⟨a, c, a1, c1, e⟩ := sProf_N hg hw hq
  unfold sTgt
  rw [e]
  split
  · exact ⟨0, by decide, rfl⟩
  · rename_i h
    rw [pf_pos a1 c1] at h
    have hca : c ≤ a := Nat.not_lt.mp (fun z => h (Or.inl z))
    rw [est_N hca hq a1]
    obtain ⟨t, t1, t2⟩ := sTax_N hgz (e := (a - c) * 4 / (q + 1)) (by have := Nat.div_le_self ((a - c) * 4) (q + 1); omega)
    have h9 : t * (q + 1) ≤ (a - c) * 4 := Nat.le_trans (Nat.mul_le_mul_right _ t1) (Nat.div_mul_le_self _ _)
    rw [t2, nI_add, nI_l (by omega), lN_mul, show (4 : Int64) = lN 4 from rfl, pk_lDiv (by omega) (by decide) (by decide)]
    exact ⟨_, by omega, rfl⟩
theorem due_N {t s : Nat} (ht : t ≤ 660000000) (hs : s < 2 ^ 40) : (if lN t - lN s < 0 then 0 else lN t - lN s) = lN (t - s) := by
  by_cases hl : s ≤ t
  · rw [lN_sub hl, if_neg]
    rw [Int64.lt_iff_toInt_lt, pk_lT (by omega)]
    show ¬ ((_ : Nat) : Int) < (0 : Int)
    omega
  · rw [if_pos, show t - s = 0 by omega]; rfl
    rw [Int64.lt_iff_toInt_lt, Int64.toInt_sub, pk_lT (by omega), pk_lT (by omega), Int.bmod_eq_of_le (by omega) (by omega)]
    show _ < (0 : Int)
    omega
theorem pp_N {Z : SV} {S : StV} (hgz : RngZ Z) (hg : Rng Z S) (hw : WfS S) : ∀ k, k ≤ 4 → ∃ s n, s ≤ k * 660000000 ∧ n ≤ 660000000 ∧ ppSt (V9 Z S) k = (lN s, lN n)
  | 0, _ => ⟨0, 0, by omega, by omega, rfl⟩
  | k + 1, h => by
    obtain ⟨s, n, s1, n1, e⟩ := pp_N hgz hg hw k (by omega)
    obtain ⟨t, t1, t2⟩ := sTgt_N hgz hg hw (q := k) (by omega)
    refine ⟨s + (t - s), t - s, by omega, by omega, ?_⟩
    rw [ppSt, e]
    show (lN s + (if sTgt Z (nI k) (sProf S (nI k)) - lN s < 0 then 0 else sTgt Z (nI k) (sProf S (nI k)) - lN s), (if sTgt Z (nI k) (sProf S (nI k)) - lN s < 0 then 0 else sTgt Z (nI k) (sProf S (nI k)) - lN s)) = _
    rw [t2, due_N t1 (by omega), lN_add]
/-- what was recomputed of the quarter before -/
def mAg (V : LV) : Nat → Int32
  | 0 => nI 0
  | n + 1 => (ppSt V (n + 1)).2.toInt32
theorem pp_l {Z : SV} {S : StV} (hgz : RngZ Z) (hg : Rng Z S) (hw : WfS S) {k : Nat} (hk : k ≤ 4) : (ppSt (V9 Z S) k).2.toInt32.toInt64 = (ppSt (V9 Z S) k).2 := by
  obtain ⟨s, n, s1, n1, e⟩ := pp_N hgz hg hw k hk
  rw [e]
  show (lN n).toInt32.toInt64 = lN n
  rw [lN_i, nI_l (by omega)]
set_option maxRecDepth 100000 in
set_option maxHeartbeats 400000 in
theorem cr_X8_limitOf (l : Launch) (D : va_G) (cy : Nat → ClassId) (B : Nat) (od : Nat → Option Nat) {A : AH} {f : MF} {r : Nat → Int32} {Z : SV} {S : StV} (hm : MdR cy A f r Z S) (hg : Rng Z S) {k : Nat} (hk : k < Z.1) : CR l D cy B od yX8_limitOf cX8_limitOf 2 (some .int) rmX8_limitOf [.ref 231, .int (nI k)] A (.int (Z.2.2 0 k)) := by
  intro z
  refine CT.of (by decide) tX8_limitOf okX8_limitOf (Nat.le_of_ble_eq_true rfl) (q0 := tX8_limitOf[0]) rfl rfl ?_
  intro p e s m args below meth c X _
  obtain ⟨hM, hn, hc, hw, hwb, hz⟩ := id hm
  obtain ⟨c0, ⟨c1, c2, c3, c4, c5⟩, cb, ⟨c16, cr⟩, ⟨c35, ce⟩, ⟨c456, ca⟩, c517, cp⟩ := id hc
  obtain ⟨w1, w2, w3, w4, w5⟩ := id hw
  refine g_aload_n X rfl rfl ?_
  refine g_get X rfl flX8_16 (ci := 8) rfl hM rfl ?_
  refine g_bipush X rfl (v := nI 6) (by decide) ?_
  refine g_iconst X rfl (v := nI 2) (by decide) ?_
  refine g_iload_n X rfl rfl ?_
  refine g_imul X rfl ?_
  refine g_iadd X rfl ?_
  rw [pk_mul, nI_add]
  refine g_ialdN X rfl hn (by omega) (by decide) ?_
  rw [(cb k hk).1]
  refine g_iret X rfl rfl (by first | rfl | exact bI_nar _ | decide) (Nat.le_refl _) (Nat.le_refl _) ⟨?_, rfl, rfl⟩
  rfl
set_option maxRecDepth 100000 in
set_option maxHeartbeats 400000 in
theorem cr_X8_rateOf (l : Launch) (D : va_G) (cy : Nat → ClassId) (B : Nat) (od : Nat → Option Nat) {A : AH} {f : MF} {r : Nat → Int32} {Z : SV} {S : StV} (hm : MdR cy A f r Z S) (hg : Rng Z S) {k : Nat} (hk : k ≤ Z.1) : CR l D cy B od yX8_rateOf cX8_rateOf 2 (some .int) rmX8_rateOf [.ref 231, .int (nI k)] A (.int (if k < Z.1 then Z.2.2 1 k else Z.2.1 4)) := by
  intro z
  refine CT.of (by decide) tX8_rateOf okX8_rateOf (Nat.le_of_ble_eq_true rfl) (q0 := tX8_rateOf[0]) rfl rfl ?_
  intro p e s m args below meth c X _
  obtain ⟨hM, hn, hc, hw, hwb, hz⟩ := id hm
  obtain ⟨c0, ⟨c1, c2, c3, c4, c5⟩, cb, ⟨c16, cr⟩, ⟨c35, ce⟩, ⟨c456, ca⟩, c517, cp⟩ := id hc
  obtain ⟨w1, w2, w3, w4, w5⟩ := id hw
  refine g_iload_n X rfl rfl ?_
  refine g_aload_n X rfl rfl ?_
  refine g_get X rfl flX8_16 (ci := 8) rfl hM rfl ?_
  refine g_iconst X rfl (v := nI 5) (by decide) ?_
  refine g_ialdN X rfl hn (by omega) (by decide) ?_
  rw [c5]
  first | refine g_ic_geN X rfl (by omega) (by omega) (fun h1 => ?_) (fun h1 => ?_) | refine g_icmp_ge X rfl (fun h1 => ?_) (fun h1 => ?_)
  · refine g_aload_n X rfl rfl ?_
    refine g_get X rfl flX8_16 (ci := 8) rfl hM rfl ?_
    refine g_iconst X rfl (v := nI 4) (by decide) ?_
    refine g_ialdN X rfl hn (by omega) (by decide) ?_
    rw [c4]
    refine g_iret X rfl rfl (by first | rfl | exact bI_nar _ | decide) (Nat.le_refl _) (Nat.le_refl _) ⟨?_, rfl, rfl⟩
    first | rw [if_pos (by omega)] | rw [if_neg (by omega)]
  · refine g_aload_n X rfl rfl ?_
    refine g_get X rfl flX8_16 (ci := 8) rfl hM rfl ?_
    refine g_bipush X rfl (v := nI 6) (by decide) ?_
    refine g_iconst X rfl (v := nI 2) (by decide) ?_
    refine g_iload_n X rfl rfl ?_
    refine g_imul X rfl ?_
    refine g_iadd X rfl ?_
    refine g_iconst X rfl (v := nI 1) (by decide) ?_
    refine g_iadd X rfl ?_
    rw [pk_mul, nI_add, nI_add, show 6 + 2 * k + 1 = 7 + 2 * k by omega]
    refine g_ialdN X rfl hn (by omega) (by decide) ?_
    rw [(cb k (by omega)).2]
    refine g_goto X rfl ?_
    refine g_iret X rfl rfl (by first | rfl | exact bI_nar _ | decide) (Nat.le_refl _) (Nat.le_refl _) ⟨?_, rfl, rfl⟩
    first | rw [if_pos (by omega)] | rw [if_neg (by omega)]
set_option maxRecDepth 100000 in
set_option maxHeartbeats 1600000 in
theorem lp_X8_taxOf (l : Launch) (D : va_G) (cy : Nat → ClassId) (B : Nat) (od : Nat → Option Nat) {p : Program} {e : Env} {s : State} {m : MethodId} {args : Array Value} {below : List Frame} {meth : Method} {c : Code} {A : AH} {z : Nat} {f : MF} {r : Nat → Int32} {Z : SV} {S : StV} (hm : MdR cy A f r Z S) (hg : Rng Z S) (hgz : RngZ Z) {am : Int64} (ham : -(2 ^ 62) ≤ am.toInt) (X : Cx p s m args meth c D cy B od cX8_taxOf 12 tX8_taxOf RX8 (some .long)) : ∀ (k i : Nat) (o0 o1 : Option Value), 0 ≤ i → i ≤ (Z.1 + 1) → (Z.1 + 1) - i < k → G p l e rmX8_taxOf s m args below meth c D B od 12 tX8_taxOf (FinQ false D B od (fun v A' z' => v = some (.long (sTax Z am)) ∧ A' = A ∧ z' = z) (fun _ _ => True) args s below 0 0) 0 0 A z 6 [some (.ref 231), some (.long am), none, some (.long (mTx Z am i).1), none, some (.long (mTx Z am i).2), none, some (.int (nI i)), o0, none, o1, none] [] := by
  obtain ⟨hM, hn, hc, hw, hwb, hz⟩ := id hm
  obtain ⟨c0, ⟨c1, c2, c3, c4, c5⟩, cb, ⟨c16, cr⟩, ⟨c35, ce⟩, ⟨c456, ca⟩, c517, cp⟩ := id hc
  obtain ⟨w1, w2, w3, w4, w5⟩ := id hw
  intro k
  induction k with
  | zero => intro i _ _ _ _ h; omega
  | succ k ih =>
    intro i o0 o1 hlo hi hk
    refine g_iload X rfl rfl ?_
    refine g_aload_n X rfl rfl ?_
    refine g_get X rfl flX8_16 (ci := 8) rfl hM rfl ?_
    refine g_iconst X rfl (v := nI 5) (by decide) ?_
    refine g_ialdN X rfl hn (by omega) (by decide) ?_
    rw [c5]
    first | refine g_ic_gtN X rfl (by omega) (by omega) (fun h1 => ?_) (fun h1 => ?_) | refine g_icmp_gt X rfl (fun h1 => ?_) (fun h1 => ?_)
    · refine g_lload_n X rfl rfl ?_
      refine g_ldc2 X rfl kcX8_322 ?_
      refine g_ldiv X rfl (by decide) ?_
      refine g_lret X rfl rfl (Nat.le_refl _) (Nat.le_refl _) ⟨?_, rfl, rfl⟩
      rw [show i = Z.1 + 1 by omega, tax_eq hgz ham]
    · refine g_iload X rfl rfl ?_
      refine g_aload_n X rfl rfl ?_
      refine g_get X rfl flX8_16 (ci := 8) rfl hM rfl ?_
      refine g_iconst X rfl (v := nI 5) (by decide) ?_
      refine g_ialdN X rfl hn (by omega) (by decide) ?_
      rw [c5]
      first | refine g_ic_geN X rfl (by omega) (by omega) (fun h2 => ?_) (fun h2 => ?_) | refine g_icmp_ge X rfl (fun h2 => ?_) (fun h2 => ?_)
      · refine g_ldc2 X rfl kcX8_317 ?_
        refine g_lstore X rfl (by decide) ?_
        refine g_lload_n X rfl rfl ?_
        refine g_lload X rfl rfl ?_
        refine g_m_min_l X rfl lmX8_90 (Nat.le_of_ble_eq_true rfl) ⟨by decide, by decide⟩ ⟨Nat.le_of_ble_eq_true rfl, Nat.le_of_ble_eq_true rfl⟩ ?_
        refine g_lload X rfl rfl ?_
        refine g_lsub X rfl ?_
        refine g_lstore X rfl (by decide) ?_
        refine g_lload_n X rfl rfl ?_
        refine g_lload X rfl rfl ?_
        refine g_lconst X rfl (v := 0) (by decide) ?_
        refine g_l_le X rfl rfl (fun h3 => ?_) (fun h3 => ?_)
        · refine g_lconst X rfl (v := 0) (by decide) ?_
          refine g_ladd X rfl ?_
          refine g_lstore_n X rfl (by decide) ?_
          refine g_lload X rfl rfl ?_
          refine g_lstore X rfl (by decide) ?_
          refine g_iinc1 X rfl rfl (by decide) ?_
          refine g_goto X rfl ?_
          have K9 := fun u0 u1 => ih (i + 1) u0 u1 (by omega) (by omega) (by omega)
          first | (rw [mTx, if_pos (show i < Z.1 from by omega), if_pos (show i < Z.1 from by omega), if_pos (Int64.not_le.mp (by assumption))] at K9; exact K9 _ _) | (rw [mTx, if_pos (show i < Z.1 from by omega), if_pos (show i < Z.1 from by omega), if_neg (Int64.not_lt.mpr (by assumption))] at K9; exact K9 _ _) | (rw [mTx, if_neg (show ¬ i < Z.1 from by omega), if_neg (show ¬ i < Z.1 from by omega), if_pos (Int64.not_le.mp (by assumption))] at K9; exact K9 _ _) | (rw [mTx, if_neg (show ¬ i < Z.1 from by omega), if_neg (show ¬ i < Z.1 from by omega), if_neg (Int64.not_lt.mpr (by assumption))] at K9; exact K9 _ _)
        · refine g_lload X rfl rfl ?_
          refine g_aload_n X rfl rfl ?_
          refine g_iload X rfl rfl ?_
          refine g_rV X rfl lcX8_rateOf lmX8_319 lsX8_rateOf (cr_X8_rateOf l D cy B od hm hg (by omega)) (ci := 8) hM rfl rfl rfl (Nat.le_of_ble_eq_true rfl) ⟨⟨by decide, by decide⟩, rfl, rfl⟩ ⟨Nat.le_of_ble_eq_true rfl, Nat.le_of_ble_eq_true rfl⟩ ?_
          first | rw [if_pos (show i < Z.1 from by omega)] | rw [if_neg (show ¬ i < Z.1 from by omega)]
          refine g_i2l X rfl ?_
          refine g_lmul X rfl ?_
          refine g_goto X rfl ?_
          refine g_ladd X rfl ?_
          refine g_lstore_n X rfl (by decide) ?_
          refine g_lload X rfl rfl ?_
          refine g_lstore X rfl (by decide) ?_
          refine g_iinc1 X rfl rfl (by decide) ?_
          refine g_goto X rfl ?_
          have K9 := fun u0 u1 => ih (i + 1) u0 u1 (by omega) (by omega) (by omega)
          first | (rw [mTx, if_pos (show i < Z.1 from by omega), if_pos (show i < Z.1 from by omega), if_pos (Int64.not_le.mp (by assumption))] at K9; exact K9 _ _) | (rw [mTx, if_pos (show i < Z.1 from by omega), if_pos (show i < Z.1 from by omega), if_neg (Int64.not_lt.mpr (by assumption))] at K9; exact K9 _ _) | (rw [mTx, if_neg (show ¬ i < Z.1 from by omega), if_neg (show ¬ i < Z.1 from by omega), if_pos (Int64.not_le.mp (by assumption))] at K9; exact K9 _ _) | (rw [mTx, if_neg (show ¬ i < Z.1 from by omega), if_neg (show ¬ i < Z.1 from by omega), if_neg (Int64.not_lt.mpr (by assumption))] at K9; exact K9 _ _)
      · refine g_aload_n X rfl rfl ?_
        refine g_iload X rfl rfl ?_
        refine g_rV X rfl lcX8_limitOf lmX8_312 lsX8_limitOf (cr_X8_limitOf l D cy B od hm hg (by omega)) (ci := 8) hM rfl rfl rfl (Nat.le_of_ble_eq_true rfl) ⟨⟨by decide, by decide⟩, rfl, rfl⟩ ⟨Nat.le_of_ble_eq_true rfl, Nat.le_of_ble_eq_true rfl⟩ ?_
        refine g_i2l X rfl ?_
        refine g_goto X rfl ?_
        refine g_lstore X rfl (by decide) ?_
        refine g_lload_n X rfl rfl ?_
        refine g_lload X rfl rfl ?_
        refine g_m_min_l X rfl lmX8_90 (Nat.le_of_ble_eq_true rfl) ⟨by decide, by decide⟩ ⟨Nat.le_of_ble_eq_true rfl, Nat.le_of_ble_eq_true rfl⟩ ?_
        refine g_lload X rfl rfl ?_
        refine g_lsub X rfl ?_
        refine g_lstore X rfl (by decide) ?_
        refine g_lload_n X rfl rfl ?_
        refine g_lload X rfl rfl ?_
        refine g_lconst X rfl (v := 0) (by decide) ?_
        refine g_l_le X rfl rfl (fun h4 => ?_) (fun h4 => ?_)
        · refine g_lconst X rfl (v := 0) (by decide) ?_
          refine g_ladd X rfl ?_
          refine g_lstore_n X rfl (by decide) ?_
          refine g_lload X rfl rfl ?_
          refine g_lstore X rfl (by decide) ?_
          refine g_iinc1 X rfl rfl (by decide) ?_
          refine g_goto X rfl ?_
          have K9 := fun u0 u1 => ih (i + 1) u0 u1 (by omega) (by omega) (by omega)
          first | (rw [mTx, if_pos (show i < Z.1 from by omega), if_pos (show i < Z.1 from by omega), if_pos (Int64.not_le.mp (by assumption))] at K9; exact K9 _ _) | (rw [mTx, if_pos (show i < Z.1 from by omega), if_pos (show i < Z.1 from by omega), if_neg (Int64.not_lt.mpr (by assumption))] at K9; exact K9 _ _) | (rw [mTx, if_neg (show ¬ i < Z.1 from by omega), if_neg (show ¬ i < Z.1 from by omega), if_pos (Int64.not_le.mp (by assumption))] at K9; exact K9 _ _) | (rw [mTx, if_neg (show ¬ i < Z.1 from by omega), if_neg (show ¬ i < Z.1 from by omega), if_neg (Int64.not_lt.mpr (by assumption))] at K9; exact K9 _ _)
        · refine g_lload X rfl rfl ?_
          refine g_aload_n X rfl rfl ?_
          refine g_iload X rfl rfl ?_
          refine g_rV X rfl lcX8_rateOf lmX8_319 lsX8_rateOf (cr_X8_rateOf l D cy B od hm hg (by omega)) (ci := 8) hM rfl rfl rfl (Nat.le_of_ble_eq_true rfl) ⟨⟨by decide, by decide⟩, rfl, rfl⟩ ⟨Nat.le_of_ble_eq_true rfl, Nat.le_of_ble_eq_true rfl⟩ ?_
          first | rw [if_pos (show i < Z.1 from by omega)] | rw [if_neg (show ¬ i < Z.1 from by omega)]
          refine g_i2l X rfl ?_
          refine g_lmul X rfl ?_
          refine g_goto X rfl ?_
          refine g_ladd X rfl ?_
          refine g_lstore_n X rfl (by decide) ?_
          refine g_lload X rfl rfl ?_
          refine g_lstore X rfl (by decide) ?_
          refine g_iinc1 X rfl rfl (by decide) ?_
          refine g_goto X rfl ?_
          have K9 := fun u0 u1 => ih (i + 1) u0 u1 (by omega) (by omega) (by omega)
          first | (rw [mTx, if_pos (show i < Z.1 from by omega), if_pos (show i < Z.1 from by omega), if_pos (Int64.not_le.mp (by assumption))] at K9; exact K9 _ _) | (rw [mTx, if_pos (show i < Z.1 from by omega), if_pos (show i < Z.1 from by omega), if_neg (Int64.not_lt.mpr (by assumption))] at K9; exact K9 _ _) | (rw [mTx, if_neg (show ¬ i < Z.1 from by omega), if_neg (show ¬ i < Z.1 from by omega), if_pos (Int64.not_le.mp (by assumption))] at K9; exact K9 _ _) | (rw [mTx, if_neg (show ¬ i < Z.1 from by omega), if_neg (show ¬ i < Z.1 from by omega), if_neg (Int64.not_lt.mpr (by assumption))] at K9; exact K9 _ _)
set_option maxRecDepth 100000 in
set_option maxHeartbeats 400000 in
theorem cr_X8_taxOf (l : Launch) (D : va_G) (cy : Nat → ClassId) (B : Nat) (od : Nat → Option Nat) {A : AH} {f : MF} {r : Nat → Int32} {Z : SV} {S : StV} (hm : MdR cy A f r Z S) (hg : Rng Z S) (hgz : RngZ Z) {am : Int64} (ham : -(2 ^ 62) ≤ am.toInt) : CR l D cy B od yX8_taxOf cX8_taxOf 12 (some .long) rmX8_taxOf [.ref 231, .long am] A (.long (sTax Z am)) := by
  intro z
  refine CT.of (by decide) tX8_taxOf okX8_taxOf (Nat.le_of_ble_eq_true rfl) (q0 := tX8_taxOf[0]) rfl rfl ?_
  intro p e s m args below meth c X _
  obtain ⟨hM, hn, hc, hw, hwb, hz⟩ := id hm
  obtain ⟨c0, ⟨c1, c2, c3, c4, c5⟩, cb, ⟨c16, cr⟩, ⟨c35, ce⟩, ⟨c456, ca⟩, c517, cp⟩ := id hc
  obtain ⟨w1, w2, w3, w4, w5⟩ := id hw
  refine g_lconst X rfl (v := 0) (by decide) ?_
  refine g_lstore_n X rfl (by decide) ?_
  refine g_lconst X rfl (v := 0) (by decide) ?_
  refine g_lstore X rfl (by decide) ?_
  refine g_iconst X rfl (v := nI 0) (by decide) ?_
  refine g_istore X rfl (by decide) ?_
  exact lp_X8_taxOf l D cy B od hm hg hgz ham X ((Z.1 + 1) + 1) 0 _ _ (by omega) (by omega) (by omega)
set_option maxRecDepth 100000 in
set_option maxHeartbeats 400000 in
theorem cr_X8_prepaymentFor (l : Launch) (D : va_G) (cy : Nat → ClassId) (B : Nat) (od : Nat → Option Nat) {A : AH} {f : MF} {r : Nat → Int32} {Z : SV} {S : StV} (hm : MdR cy A f r Z S) (hg : Rng Z S) (hgz : RngZ Z) {q : Nat} (hq : q ≤ 3) {b9 : Int64} : CR l D cy B od yX8_prepaymentFor cX8_prepaymentFor 10 (some .int) rmX8_prepaymentFor [.ref 231, .int (nI q), .long b9] A (.int (if sTgt Z (nI q) (sProf S (nI q)) - b9 < 0 then 0 else sTgt Z (nI q) (sProf S (nI q)) - b9).toInt32) := by
  intro z
  refine CT.of (by decide) tX8_prepaymentFor okX8_prepaymentFor (Nat.le_of_ble_eq_true rfl) (q0 := tX8_prepaymentFor[0]) rfl rfl ?_
  intro p e s m args below meth c X _
  obtain ⟨hM, hn, hc, hw, hwb, hz⟩ := id hm
  obtain ⟨c0, ⟨c1, c2, c3, c4, c5⟩, cb, ⟨c16, cr⟩, ⟨c35, ce⟩, ⟨c456, ca⟩, c517, cp⟩ := id hc
  obtain ⟨w1, w2, w3, w4, w5⟩ := id hw
  refine g_aload_n X rfl rfl ?_
  refine g_iload_n X rfl rfl ?_
  refine g_rV X rfl lcX8_profitsTo lmX8_309 lsX8_profitsTo (cr_X8_profitsTo l D cy B od hm hg hq) (ci := 8) hM rfl rfl rfl (Nat.le_of_ble_eq_true rfl) ⟨⟨by decide, by decide⟩, rfl, rfl⟩ ⟨Nat.le_of_ble_eq_true rfl, Nat.le_of_ble_eq_true rfl⟩ ?_
  obtain ⟨a9, c9, ha9, hc9, hpf⟩ := sProf_N hg hw hq
  rw [hpf]
  refine g_lstore X rfl (by decide) ?_
  refine g_lload X rfl rfl ?_
  refine g_lconst X rfl (v := 0) (by decide) ?_
  refine g_l_ge X rfl rfl (fun h1 => ?_) (fun h1 => ?_)
  · refine g_lload X rfl rfl ?_
    refine g_ldc2 X rfl kcX8_324 ?_
    refine g_lmul X rfl ?_
    refine g_iload_n X rfl rfl ?_
    refine g_iconst X rfl (v := nI 1) (by decide) ?_
    refine g_iadd X rfl ?_
    refine g_i2l X rfl ?_
    refine g_ldiv X rfl (ne_q q (by omega)) ?_
    refine g_lstore X rfl (by decide) ?_
    refine g_aload_n X rfl rfl ?_
    refine g_lload X rfl rfl ?_
    refine g_rV X rfl lcX8_taxOf lmX8_326 lsX8_taxOf (cr_X8_taxOf l D cy B od hm hg hgz (by first | decide | (rw [est_N (Nat.not_lt.mp (fun z => absurd h1 (Int64.not_le.mpr ((pf_pos ha9 hc9).mpr z)))) hq ha9, pk_lT (by have := Nat.div_le_self ((a9 - c9) * 4) (q + 1); omega)]; exact Int.le_trans (by decide) (Int.natCast_nonneg _)))) (ci := 8) hM rfl rfl rfl (Nat.le_of_ble_eq_true rfl) ⟨⟨by decide, by decide⟩, rfl, rfl⟩ ⟨Nat.le_of_ble_eq_true rfl, Nat.le_of_ble_eq_true rfl⟩ ?_
    refine g_iload_n X rfl rfl ?_
    refine g_iconst X rfl (v := nI 1) (by decide) ?_
    refine g_iadd X rfl ?_
    refine g_i2l X rfl ?_
    refine g_lmul X rfl ?_
    refine g_ldc2 X rfl kcX8_324 ?_
    refine g_ldiv X rfl (by decide) ?_
    refine g_lstore X rfl (by decide) ?_
    refine g_lconst X rfl (v := 0) (by decide) ?_
    refine g_lload X rfl rfl ?_
    refine g_lload_n X rfl rfl ?_
    refine g_lsub X rfl ?_
    refine g_m_max_l X rfl lmX8_330 (Nat.le_of_ble_eq_true rfl) ⟨by decide, by decide⟩ ⟨Nat.le_of_ble_eq_true rfl, Nat.le_of_ble_eq_true rfl⟩ ?_
    refine g_l2i X rfl ?_
    refine g_iret X rfl rfl (by first | rfl | exact bI_nar _ | decide) (Nat.le_refl _) (Nat.le_refl _) ⟨?_, rfl, rfl⟩
    have hq0 : ¬ nI q < 0 := nI_pos (by omega)
    rw [sTgt]
    first | (rw [if_neg (show ¬ (lN a9 - lN c9 < 0 ∨ nI q < 0) from fun z => z.elim (fun z => absurd h1 (Int64.not_le.mpr z)) hq0)]; done) | (rw [if_pos (show (lN a9 - lN c9 < 0 ∨ nI q < 0) from Or.inl (Int64.not_le.mp h1)), show sTax Z 0 = 0 from if_pos (by decide), Int64.zero_mul]; rfl)
  · refine g_lconst X rfl (v := 0) (by decide) ?_
    refine g_goto X rfl ?_
    refine g_lstore X rfl (by decide) ?_
    refine g_aload_n X rfl rfl ?_
    refine g_lload X rfl rfl ?_
    refine g_rV X rfl lcX8_taxOf lmX8_326 lsX8_taxOf (cr_X8_taxOf l D cy B od hm hg hgz (by first | decide | (rw [est_N (Nat.not_lt.mp (fun z => absurd h1 (Int64.not_le.mpr ((pf_pos ha9 hc9).mpr z)))) hq ha9, pk_lT (by have := Nat.div_le_self ((a9 - c9) * 4) (q + 1); omega)]; exact Int.le_trans (by decide) (Int.natCast_nonneg _)))) (ci := 8) hM rfl rfl rfl (Nat.le_of_ble_eq_true rfl) ⟨⟨by decide, by decide⟩, rfl, rfl⟩ ⟨Nat.le_of_ble_eq_true rfl, Nat.le_of_ble_eq_true rfl⟩ ?_
    refine g_iload_n X rfl rfl ?_
    refine g_iconst X rfl (v := nI 1) (by decide) ?_
    refine g_iadd X rfl ?_
    refine g_i2l X rfl ?_
    refine g_lmul X rfl ?_
    refine g_ldc2 X rfl kcX8_324 ?_
    refine g_ldiv X rfl (by decide) ?_
    refine g_lstore X rfl (by decide) ?_
    refine g_lconst X rfl (v := 0) (by decide) ?_
    refine g_lload X rfl rfl ?_
    refine g_lload_n X rfl rfl ?_
    refine g_lsub X rfl ?_
    refine g_m_max_l X rfl lmX8_330 (Nat.le_of_ble_eq_true rfl) ⟨by decide, by decide⟩ ⟨Nat.le_of_ble_eq_true rfl, Nat.le_of_ble_eq_true rfl⟩ ?_
    refine g_l2i X rfl ?_
    refine g_iret X rfl rfl (by first | rfl | exact bI_nar _ | decide) (Nat.le_refl _) (Nat.le_refl _) ⟨?_, rfl, rfl⟩
    have hq0 : ¬ nI q < 0 := nI_pos (by omega)
    rw [sTgt]
    first | (rw [if_neg (show ¬ (lN a9 - lN c9 < 0 ∨ nI q < 0) from fun z => z.elim (fun z => absurd h1 (Int64.not_le.mpr z)) hq0)]; done) | (rw [if_pos (show (lN a9 - lN c9 < 0 ∨ nI q < 0) from Or.inl (Int64.not_le.mp h1)), show sTax Z 0 = 0 from if_pos (by decide), Int64.zero_mul]; rfl)
set_option maxRecDepth 100000 in
set_option maxHeartbeats 400000 in
theorem lp_X8_prepaidTo (l : Launch) (D : va_G) (cy : Nat → ClassId) (B : Nat) (od : Nat → Option Nat) {p : Program} {e : Env} {s : State} {m : MethodId} {args : Array Value} {below : List Frame} {meth : Method} {c : Code} {A : AH} {z : Nat} {f : MF} {r : Nat → Int32} {Z : SV} {S : StV} (hm : MdR cy A f r Z S) (hg : Rng Z S) {q : Nat} (hq : q ≤ S.2.2.2.2.1) (X : Cx p s m args meth c D cy B od cX8_prepaidTo 5 tX8_prepaidTo RX8 (some .long)) : ∀ (k i : Nat), 0 ≤ i → i ≤ q → q - i < k → G p l e rmX8_prepaidTo s m args below meth c D B od 5 tX8_prepaidTo (FinQ false D B od (fun v A' z' => v = some (.long (sumL 0 (fun i => (S.2.2.2.1 i).toInt64) q)) ∧ A' = A ∧ z' = z) (fun _ _ => True) args s below 0 0) 0 0 A z 4 [some (.ref 231), some (.int (nI q)), some (.long (sumL 0 (fun i => (S.2.2.2.1 i).toInt64) i)), none, some (.int (nI i))] [] := by
  obtain ⟨hM, hn, hc, hw, hwb, hz⟩ := id hm
  obtain ⟨c0, ⟨c1, c2, c3, c4, c5⟩, cb, ⟨c16, cr⟩, ⟨c35, ce⟩, ⟨c456, ca⟩, c517, cp⟩ := id hc
  obtain ⟨w1, w2, w3, w4, w5⟩ := id hw
  intro k
  induction k with
  | zero => intro i _ _ h; omega
  | succ k ih =>
    intro i hlo hi hk
    refine g_iload X rfl rfl ?_
    refine g_iload_n X rfl rfl ?_
    first | refine g_ic_geN X rfl (by omega) (by omega) (fun h1 => ?_) (fun h1 => ?_) | refine g_icmp_ge X rfl (fun h1 => ?_) (fun h1 => ?_)
    · refine g_lload_n X rfl rfl ?_
      refine g_lret X rfl rfl (Nat.le_refl _) (Nat.le_refl _) ⟨?_, rfl, rfl⟩
      rw [show i = q by omega]
    · refine g_lload_n X rfl rfl ?_
      refine g_aload_n X rfl rfl ?_
      refine g_get X rfl flX8_16 (ci := 8) rfl hM rfl ?_
      refine g_sipush X rfl (v := nI 518) (by decide) ?_
      refine g_iload X rfl rfl ?_
      refine g_iadd X rfl ?_
      rw [nI_add]
      refine g_ialdN X rfl hn (by omega) (by decide) ?_
      rw [cp i (by omega)]
      refine g_i2l X rfl ?_
      refine g_ladd X rfl ?_
      refine g_lstore_n X rfl (by decide) ?_
      refine g_iinc1 X rfl rfl (by decide) ?_
      refine g_goto X rfl ?_
      exact ih (i + 1) (by omega) (by omega) (by omega)
set_option maxRecDepth 100000 in
set_option maxHeartbeats 400000 in
theorem cr_X8_prepaidTo (l : Launch) (D : va_G) (cy : Nat → ClassId) (B : Nat) (od : Nat → Option Nat) {A : AH} {f : MF} {r : Nat → Int32} {Z : SV} {S : StV} (hm : MdR cy A f r Z S) (hg : Rng Z S) {q : Nat} (hq : q ≤ S.2.2.2.2.1) : CR l D cy B od yX8_prepaidTo cX8_prepaidTo 5 (some .long) rmX8_prepaidTo [.ref 231, .int (nI q)] A (.long (sumL 0 (fun i => (S.2.2.2.1 i).toInt64) q)) := by
  intro z
  refine CT.of (by decide) tX8_prepaidTo okX8_prepaidTo (Nat.le_of_ble_eq_true rfl) (q0 := tX8_prepaidTo[0]) rfl rfl ?_
  intro p e s m args below meth c X _
  obtain ⟨hM, hn, hc, hw, hwb, hz⟩ := id hm
  obtain ⟨c0, ⟨c1, c2, c3, c4, c5⟩, cb, ⟨c16, cr⟩, ⟨c35, ce⟩, ⟨c456, ca⟩, c517, cp⟩ := id hc
  obtain ⟨w1, w2, w3, w4, w5⟩ := id hw
  refine g_lconst X rfl (v := 0) (by decide) ?_
  refine g_lstore_n X rfl (by decide) ?_
  refine g_iconst X rfl (v := nI 0) (by decide) ?_
  refine g_istore X rfl (by decide) ?_
  exact lp_X8_prepaidTo l D cy B od hm hg hq X (q + 1) 0 (by omega) (by omega) (by omega)
set_option maxRecDepth 100000 in
set_option maxHeartbeats 400000 in
theorem lp_X8_againFor (l : Launch) (D : va_G) (cy : Nat → ClassId) (B : Nat) (od : Nat → Option Nat) {p : Program} {e : Env} {s : State} {m : MethodId} {args : Array Value} {below : List Frame} {meth : Method} {c : Code} {A : AH} {z : Nat} {f : MF} {r : Nat → Int32} {Z : SV} {S : StV} (hm : MdR cy A f r Z S) (hg : Rng Z S) (hgz : RngZ Z) {q : Nat} (hq : q ≤ 3) (X : Cx p s m args meth c D cy B od cX8_againFor 6 tX8_againFor RX8 (some .int)) : ∀ (k i : Nat), 0 ≤ i → i ≤ (q + 1) → (q + 1) - i < k → G p l e rmX8_againFor s m args below meth c D B od 6 tX8_againFor (FinQ false D B od (fun v A' z' => v = some (.int (ppNow (V9 Z S) q)) ∧ A' = A ∧ z' = z) (fun _ _ => True) args s below 0 0) 0 0 A z 6 [some (.ref 231), some (.int (nI q)), some (.long (ppSt (V9 Z S) i).1), none, some (.int (mAg (V9 Z S) i)), some (.int (nI i))] [] := by
  obtain ⟨hM, hn, hc, hw, hwb, hz⟩ := id hm
  obtain ⟨c0, ⟨c1, c2, c3, c4, c5⟩, cb, ⟨c16, cr⟩, ⟨c35, ce⟩, ⟨c456, ca⟩, c517, cp⟩ := id hc
  obtain ⟨w1, w2, w3, w4, w5⟩ := id hw
  intro k
  induction k with
  | zero => intro i _ _ h; omega
  | succ k ih =>
    intro i hlo hi hk
    refine g_iload X rfl rfl ?_
    refine g_iload_n X rfl rfl ?_
    first | refine g_ic_gtN X rfl (by omega) (by omega) (fun h1 => ?_) (fun h1 => ?_) | refine g_icmp_gt X rfl (fun h1 => ?_) (fun h1 => ?_)
    · refine g_iload X rfl rfl ?_
      refine g_iret X rfl rfl (by first | rfl | exact bI_nar _ | decide) (Nat.le_refl _) (Nat.le_refl _) ⟨?_, rfl, rfl⟩
      rw [show i = q + 1 by omega]; rfl
    · refine g_aload_n X rfl rfl ?_
      refine g_iload X rfl rfl ?_
      refine g_lload_n X rfl rfl ?_
      refine g_rV X rfl lcX8_prepaymentFor lmX8_245 lsX8_prepaymentFor (cr_X8_prepaymentFor l D cy B od hm hg hgz (by omega)) (ci := 8) hM rfl rfl rfl (Nat.le_of_ble_eq_true rfl) ⟨⟨by decide, by decide⟩, rfl, rfl⟩ ⟨Nat.le_of_ble_eq_true rfl, Nat.le_of_ble_eq_true rfl⟩ ?_
      refine g_istore X rfl (by decide) ?_
      refine g_lload_n X rfl rfl ?_
      refine g_iload X rfl rfl ?_
      refine g_i2l X rfl ?_
      refine g_ladd X rfl ?_
      refine g_lstore_n X rfl (by decide) ?_
      refine g_iinc1 X rfl rfl (by decide) ?_
      refine g_goto X rfl ?_
      have K9 := ih (i + 1) (by omega) (by omega) (by omega)
      rw [show (ppSt (V9 Z S) (i + 1)).1 = (ppSt (V9 Z S) i).1 + (ppSt (V9 Z S) (i + 1)).2 from rfl, ← pp_l hgz hg hw (k := i + 1) (by omega)] at K9
      exact K9
set_option maxRecDepth 100000 in
set_option maxHeartbeats 400000 in
theorem cr_X8_againFor (l : Launch) (D : va_G) (cy : Nat → ClassId) (B : Nat) (od : Nat → Option Nat) {A : AH} {f : MF} {r : Nat → Int32} {Z : SV} {S : StV} (hm : MdR cy A f r Z S) (hg : Rng Z S) (hgz : RngZ Z) {q : Nat} (hq : q ≤ 3) : CR l D cy B od yX8_againFor cX8_againFor 6 (some .int) rmX8_againFor [.ref 231, .int (nI q)] A (.int (ppNow (V9 Z S) q)) := by
  intro z
  refine CT.of (by decide) tX8_againFor okX8_againFor (Nat.le_of_ble_eq_true rfl) (q0 := tX8_againFor[0]) rfl rfl ?_
  intro p e s m args below meth c X _
  obtain ⟨hM, hn, hc, hw, hwb, hz⟩ := id hm
  obtain ⟨c0, ⟨c1, c2, c3, c4, c5⟩, cb, ⟨c16, cr⟩, ⟨c35, ce⟩, ⟨c456, ca⟩, c517, cp⟩ := id hc
  obtain ⟨w1, w2, w3, w4, w5⟩ := id hw
  refine g_lconst X rfl (v := 0) (by decide) ?_
  refine g_lstore_n X rfl (by decide) ?_
  refine g_iconst X rfl (v := nI 0) (by decide) ?_
  refine g_istore X rfl (by decide) ?_
  refine g_iconst X rfl (v := nI 0) (by decide) ?_
  refine g_istore X rfl (by decide) ?_
  exact lp_X8_againFor l D cy B od hm hg hgz hq X ((q + 1) + 1) 0 (by omega) (by omega) (by omega)
set_option maxRecDepth 100000 in
set_option maxHeartbeats 400000 in
theorem cr_X8_correctionOf (l : Launch) (D : va_G) (cy : Nat → ClassId) (B : Nat) (od : Nat → Option Nat) {A : AH} {f : MF} {r : Nat → Int32} {Z : SV} {S : StV} (hm : MdR cy A f r Z S) (hg : Rng Z S) (hgz : RngZ Z) {q : Nat} (hq : q < S.2.2.2.2.1) : CR l D cy B od yX8_correctionOf cX8_correctionOf 2 (some .int) rmX8_correctionOf [.ref 231, .int (nI q)] A (.int (ppNow (V9 Z S) q - S.2.2.2.1 q)) := by
  intro z
  refine CT.of (by decide) tX8_correctionOf okX8_correctionOf (Nat.le_of_ble_eq_true rfl) (q0 := tX8_correctionOf[0]) rfl rfl ?_
  intro p e s m args below meth c X _
  obtain ⟨hM, hn, hc, hw, hwb, hz⟩ := id hm
  obtain ⟨c0, ⟨c1, c2, c3, c4, c5⟩, cb, ⟨c16, cr⟩, ⟨c35, ce⟩, ⟨c456, ca⟩, c517, cp⟩ := id hc
  obtain ⟨w1, w2, w3, w4, w5⟩ := id hw
  refine g_aload_n X rfl rfl ?_
  refine g_iload_n X rfl rfl ?_
  refine g_rV X rfl lcX8_againFor lmX8_366 lsX8_againFor (cr_X8_againFor l D cy B od hm hg hgz (by omega)) (ci := 8) hM rfl rfl rfl (Nat.le_of_ble_eq_true rfl) ⟨⟨by decide, by decide⟩, rfl, rfl⟩ ⟨Nat.le_of_ble_eq_true rfl, Nat.le_of_ble_eq_true rfl⟩ ?_
  refine g_aload_n X rfl rfl ?_
  refine g_get X rfl flX8_16 (ci := 8) rfl hM rfl ?_
  refine g_sipush X rfl (v := nI 518) (by decide) ?_
  refine g_iload_n X rfl rfl ?_
  refine g_iadd X rfl ?_
  rw [nI_add]
  refine g_ialdN X rfl hn (by omega) (by decide) ?_
  rw [cp q hq]
  refine g_isub X rfl ?_
  refine g_iret X rfl rfl (by first | rfl | exact bI_nar _ | decide) (Nat.le_refl _) (Nat.le_refl _) ⟨?_, rfl, rfl⟩
  rfl
set_option maxRecDepth 100000 in
set_option maxHeartbeats 400000 in
theorem cr_X8_isClosed (l : Launch) (D : va_G) (cy : Nat → ClassId) (B : Nat) (od : Nat → Option Nat) {A : AH} {f : MF} {r : Nat → Int32} {Z : SV} {S : StV} (hm : MdR cy A f r Z S) (hg : Rng Z S) {q : Nat} (hq : q ≤ 3) : CR l D cy B od yX8_isClosed cX8_isClosed 2 (some .boolean) rmX8_isClosed [.ref 231, .int (nI q)] A (.int (bI (decide (q < S.2.2.2.2.1)))) := by
  intro z
  refine CT.of (by decide) tX8_isClosed okX8_isClosed (Nat.le_of_ble_eq_true rfl) (q0 := tX8_isClosed[0]) rfl rfl ?_
  intro p e s m args below meth c X _
  obtain ⟨hM, hn, hc, hw, hwb, hz⟩ := id hm
  obtain ⟨c0, ⟨c1, c2, c3, c4, c5⟩, cb, ⟨c16, cr⟩, ⟨c35, ce⟩, ⟨c456, ca⟩, c517, cp⟩ := id hc
  obtain ⟨w1, w2, w3, w4, w5⟩ := id hw
  refine g_iload_n X rfl rfl ?_
  refine g_aload_n X rfl rfl ?_
  refine g_get X rfl flX8_16 (ci := 8) rfl hM rfl ?_
  refine g_sipush X rfl (v := nI 517) (by decide) ?_
  refine g_ialdN X rfl hn (by omega) (by decide) ?_
  rw [c517]
  first | refine g_ic_geN X rfl (by omega) (by omega) (fun h1 => ?_) (fun h1 => ?_) | refine g_icmp_ge X rfl (fun h1 => ?_) (fun h1 => ?_)
  · refine g_iconst X rfl (v := nI 0) (by decide) ?_
    refine g_iret X rfl rfl (by first | rfl | exact bI_nar _ | decide) (Nat.le_refl _) (Nat.le_refl _) ⟨?_, rfl, rfl⟩
    first | exact bR1 (decide_eq_true (by omega)) | exact bR0 (decide_eq_false (by omega))
  · refine g_iconst X rfl (v := nI 1) (by decide) ?_
    refine g_goto X rfl ?_
    refine g_iret X rfl rfl (by first | rfl | exact bI_nar _ | decide) (Nat.le_refl _) (Nat.le_refl _) ⟨?_, rfl, rfl⟩
    first | exact bR1 (decide_eq_true (by omega)) | exact bR0 (decide_eq_false (by omega))
set_option maxRecDepth 100000 in
set_option maxHeartbeats 400000 in
theorem cr_X8_netOf (l : Launch) (D : va_G) (cy : Nat → ClassId) (B : Nat) (od : Nat → Option Nat) {A : AH} {a9 b9 c9 : Int64} : CR l D cy B od yX8_netOf cX8_netOf 6 (some .long) rmX8_netOf [.long a9, .long b9, .long c9] A (.long (a9 - b9 + c9)) := by
  intro z
  refine CT.of (by decide) tX8_netOf okX8_netOf (Nat.le_of_ble_eq_true rfl) (q0 := tX8_netOf[0]) rfl rfl ?_
  intro p e s m args below meth c X _
  refine g_lload_n X rfl rfl ?_
  refine g_lload_n X rfl rfl ?_
  refine g_lsub X rfl ?_
  refine g_lload X rfl rfl ?_
  refine g_ladd X rfl ?_
  refine g_lret X rfl rfl (Nat.le_refl _) (Nat.le_refl _) ⟨?_, rfl, rfl⟩
  rfl
set_option maxRecDepth 100000 in
set_option maxHeartbeats 400000 in
theorem lp_X8_openMany (l : Launch) (D : va_G) (cy : Nat → ClassId) (B : Nat) (od : Nat → Option Nat) {p : Program} {e : Env} {s : State} {m : MethodId} {args : Array Value} {below : List Frame} {meth : Method} {c : Code} {A : AH} {z : Nat} {f : MF} {r : Nat → Int32} {Z : SV} {S : StV} (hm : MdR cy A f r Z S) (hg : Rng Z S)  (X : Cx p s m args meth c D cy B od cX8_openMany 3 tX8_openMany RX8 (some .int)) : ∀ (k i : Nat), 0 ≤ i → i ≤ S.1.1 → S.1.1 - i < k → G p l e rmX8_openMany s m args below meth c D B od 3 tX8_openMany (FinQ false D B od (fun v A' z' => v = some (.int (nI (cntN (eOpen S.1) S.1.1))) ∧ A' = A ∧ z' = z) (fun _ _ => True) args s below 0 0) 0 0 A z 4 [some (.ref 231), some (.int (nI (cntN (eOpen S.1) i))), some (.int (nI i))] [] := by
  obtain ⟨hM, hn, hc, hw, hwb, hz⟩ := id hm
  obtain ⟨c0, ⟨c1, c2, c3, c4, c5⟩, cb, ⟨c16, cr⟩, ⟨c35, ce⟩, ⟨c456, ca⟩, c517, cp⟩ := id hc
  obtain ⟨w1, w2, w3, w4, w5⟩ := id hw
  intro k
  induction k with
  | zero => intro i _ _ h; omega
  | succ k ih =>
    intro i hlo hi hk
    refine g_iload_n X rfl rfl ?_
    refine g_aload_n X rfl rfl ?_
    refine g_get X rfl flX8_16 (ci := 8) rfl hM rfl ?_
    refine g_bipush X rfl (v := nI 35) (by decide) ?_
    refine g_ialdN X rfl hn (by omega) (by decide) ?_
    rw [c35]
    first | refine g_ic_geN X rfl (by omega) (by omega) (fun h1 => ?_) (fun h1 => ?_) | refine g_icmp_ge X rfl (fun h1 => ?_) (fun h1 => ?_)
    · refine g_iload_n X rfl rfl ?_
      refine g_iret X rfl rfl (by first | rfl | exact bI_nar _ | decide) (Nat.le_refl _) (Nat.le_refl _) ⟨?_, rfl, rfl⟩
      rw [show i = S.1.1 by omega]
    · refine g_iload_n X rfl rfl ?_
      refine g_aload_n X rfl rfl ?_
      refine g_iload_n X rfl rfl ?_
      refine g_rV X rfl lcX8_isOpen lmX8_341 lsX8_isOpen (cr_X8_isOpen l D cy B od hm (by omega)) (ci := 8) hM rfl rfl rfl (Nat.le_of_ble_eq_true rfl) ⟨⟨by decide, by decide⟩, rfl, rfl⟩ ⟨Nat.le_of_ble_eq_true rfl, Nat.le_of_ble_eq_true rfl⟩ ?_
      first | refine g_if_eqB X rfl (fun h2 => ?_) (fun h2 => ?_) | refine g_if_eq X rfl (fun h2 => ?_) (fun h2 => ?_)
      · refine g_iconst X rfl (v := nI 0) (by decide) ?_
        refine g_iadd X rfl ?_
        refine g_istore_n X rfl (by decide) ?_
        refine g_iinc1 X rfl rfl (by decide) ?_
        refine g_goto X rfl ?_
        have K9 := ih (i + 1) (by omega) (by omega) (by omega)
        first | (rw [show nI (cntN (eOpen S.1) (i + 1)) = nI (cntN (eOpen S.1) i) + nI 1 by rw [cntN, if_pos (by simp_all), nI_add]] at K9; exact K9) | (rw [show nI (cntN (eOpen S.1) (i + 1)) = nI (cntN (eOpen S.1) i) + nI 0 by rw [cntN, if_neg (by simp_all), nI_0, Int32.add_zero]] at K9; exact K9)
      · refine g_iconst X rfl (v := nI 1) (by decide) ?_
        refine g_goto X rfl ?_
        refine g_iadd X rfl ?_
        refine g_istore_n X rfl (by decide) ?_
        refine g_iinc1 X rfl rfl (by decide) ?_
        refine g_goto X rfl ?_
        have K9 := ih (i + 1) (by omega) (by omega) (by omega)
        first | (rw [show nI (cntN (eOpen S.1) (i + 1)) = nI (cntN (eOpen S.1) i) + nI 1 by rw [cntN, if_pos (by simp_all), nI_add]] at K9; exact K9) | (rw [show nI (cntN (eOpen S.1) (i + 1)) = nI (cntN (eOpen S.1) i) + nI 0 by rw [cntN, if_neg (by simp_all), nI_0, Int32.add_zero]] at K9; exact K9)
set_option maxRecDepth 100000 in
set_option maxHeartbeats 400000 in
theorem cr_X8_openMany (l : Launch) (D : va_G) (cy : Nat → ClassId) (B : Nat) (od : Nat → Option Nat) {A : AH} {f : MF} {r : Nat → Int32} {Z : SV} {S : StV} (hm : MdR cy A f r Z S) (hg : Rng Z S)  : CR l D cy B od yX8_openMany cX8_openMany 3 (some .int) rmX8_openMany [.ref 231] A (.int (nI (cntN (eOpen S.1) S.1.1))) := by
  intro z
  refine CT.of (by decide) tX8_openMany okX8_openMany (Nat.le_of_ble_eq_true rfl) (q0 := tX8_openMany[0]) rfl rfl ?_
  intro p e s m args below meth c X _
  obtain ⟨hM, hn, hc, hw, hwb, hz⟩ := id hm
  obtain ⟨c0, ⟨c1, c2, c3, c4, c5⟩, cb, ⟨c16, cr⟩, ⟨c35, ce⟩, ⟨c456, ca⟩, c517, cp⟩ := id hc
  obtain ⟨w1, w2, w3, w4, w5⟩ := id hw
  refine g_iconst X rfl (v := nI 0) (by decide) ?_
  refine g_istore_n X rfl (by decide) ?_
  refine g_iconst X rfl (v := nI 0) (by decide) ?_
  refine g_istore_n X rfl (by decide) ?_
  exact lp_X8_openMany l D cy B od hm hg  X (S.1.1 + 1) 0 (by omega) (by omega) (by omega)
set_option maxRecDepth 100000 in
set_option maxHeartbeats 400000 in
theorem lp_X8_soldMany (l : Launch) (D : va_G) (cy : Nat → ClassId) (B : Nat) (od : Nat → Option Nat) {p : Program} {e : Env} {s : State} {m : MethodId} {args : Array Value} {below : List Frame} {meth : Method} {c : Code} {A : AH} {z : Nat} {f : MF} {r : Nat → Int32} {Z : SV} {S : StV} (hm : MdR cy A f r Z S) (hg : Rng Z S)  (X : Cx p s m args meth c D cy B od cX8_soldMany 3 tX8_soldMany RX8 (some .int)) : ∀ (k i : Nat), 0 ≤ i → i ≤ S.2.2.1.1 → S.2.2.1.1 - i < k → G p l e rmX8_soldMany s m args below meth c D B od 3 tX8_soldMany (FinQ false D B od (fun v A' z' => v = some (.int (nI (cntN (fun i => !(S.2.2.1.2 4 i == -1)) S.2.2.1.1))) ∧ A' = A ∧ z' = z) (fun _ _ => True) args s below 0 0) 0 0 A z 4 [some (.ref 231), some (.int (nI (cntN (fun i => !(S.2.2.1.2 4 i == -1)) i))), some (.int (nI i))] [] := by
  obtain ⟨hM, hn, hc, hw, hwb, hz⟩ := id hm
  obtain ⟨c0, ⟨c1, c2, c3, c4, c5⟩, cb, ⟨c16, cr⟩, ⟨c35, ce⟩, ⟨c456, ca⟩, c517, cp⟩ := id hc
  obtain ⟨w1, w2, w3, w4, w5⟩ := id hw
  intro k
  induction k with
  | zero => intro i _ _ h; omega
  | succ k ih =>
    intro i hlo hi hk
    refine g_iload_n X rfl rfl ?_
    refine g_aload_n X rfl rfl ?_
    refine g_get X rfl flX8_16 (ci := 8) rfl hM rfl ?_
    refine g_sipush X rfl (v := nI 456) (by decide) ?_
    refine g_ialdN X rfl hn (by omega) (by decide) ?_
    rw [c456]
    first | refine g_ic_geN X rfl (by omega) (by omega) (fun h1 => ?_) (fun h1 => ?_) | refine g_icmp_ge X rfl (fun h1 => ?_) (fun h1 => ?_)
    · refine g_iload_n X rfl rfl ?_
      refine g_iret X rfl rfl (by first | rfl | exact bI_nar _ | decide) (Nat.le_refl _) (Nat.le_refl _) ⟨?_, rfl, rfl⟩
      rw [show i = S.2.2.1.1 by omega]
    · refine g_iload_n X rfl rfl ?_
      refine g_aload_n X rfl rfl ?_
      refine g_iload_n X rfl rfl ?_
      refine g_rV X rfl lcX8_isSold lmX8_235 lsX8_isSold (cr_X8_isSold l D cy B od hm (by omega)) (ci := 8) hM rfl rfl rfl (Nat.le_of_ble_eq_true rfl) ⟨⟨by decide, by decide⟩, rfl, rfl⟩ ⟨Nat.le_of_ble_eq_true rfl, Nat.le_of_ble_eq_true rfl⟩ ?_
      first | refine g_if_eqB X rfl (fun h2 => ?_) (fun h2 => ?_) | refine g_if_eq X rfl (fun h2 => ?_) (fun h2 => ?_)
      · refine g_iconst X rfl (v := nI 0) (by decide) ?_
        refine g_iadd X rfl ?_
        refine g_istore_n X rfl (by decide) ?_
        refine g_iinc1 X rfl rfl (by decide) ?_
        refine g_goto X rfl ?_
        have K9 := ih (i + 1) (by omega) (by omega) (by omega)
        first | (rw [show nI (cntN (fun i => !(S.2.2.1.2 4 i == -1)) (i + 1)) = nI (cntN (fun i => !(S.2.2.1.2 4 i == -1)) i) + nI 1 by rw [cntN, if_pos (by simp_all), nI_add]] at K9; exact K9) | (rw [show nI (cntN (fun i => !(S.2.2.1.2 4 i == -1)) (i + 1)) = nI (cntN (fun i => !(S.2.2.1.2 4 i == -1)) i) + nI 0 by rw [cntN, if_neg (by simp_all), nI_0, Int32.add_zero]] at K9; exact K9)
      · refine g_iconst X rfl (v := nI 1) (by decide) ?_
        refine g_goto X rfl ?_
        refine g_iadd X rfl ?_
        refine g_istore_n X rfl (by decide) ?_
        refine g_iinc1 X rfl rfl (by decide) ?_
        refine g_goto X rfl ?_
        have K9 := ih (i + 1) (by omega) (by omega) (by omega)
        first | (rw [show nI (cntN (fun i => !(S.2.2.1.2 4 i == -1)) (i + 1)) = nI (cntN (fun i => !(S.2.2.1.2 4 i == -1)) i) + nI 1 by rw [cntN, if_pos (by simp_all), nI_add]] at K9; exact K9) | (rw [show nI (cntN (fun i => !(S.2.2.1.2 4 i == -1)) (i + 1)) = nI (cntN (fun i => !(S.2.2.1.2 4 i == -1)) i) + nI 0 by rw [cntN, if_neg (by simp_all), nI_0, Int32.add_zero]] at K9; exact K9)
set_option maxRecDepth 100000 in
set_option maxHeartbeats 400000 in
theorem cr_X8_soldMany (l : Launch) (D : va_G) (cy : Nat → ClassId) (B : Nat) (od : Nat → Option Nat) {A : AH} {f : MF} {r : Nat → Int32} {Z : SV} {S : StV} (hm : MdR cy A f r Z S) (hg : Rng Z S)  : CR l D cy B od yX8_soldMany cX8_soldMany 3 (some .int) rmX8_soldMany [.ref 231] A (.int (nI (cntN (fun i => !(S.2.2.1.2 4 i == -1)) S.2.2.1.1))) := by
  intro z
  refine CT.of (by decide) tX8_soldMany okX8_soldMany (Nat.le_of_ble_eq_true rfl) (q0 := tX8_soldMany[0]) rfl rfl ?_
  intro p e s m args below meth c X _
  obtain ⟨hM, hn, hc, hw, hwb, hz⟩ := id hm
  obtain ⟨c0, ⟨c1, c2, c3, c4, c5⟩, cb, ⟨c16, cr⟩, ⟨c35, ce⟩, ⟨c456, ca⟩, c517, cp⟩ := id hc
  obtain ⟨w1, w2, w3, w4, w5⟩ := id hw
  refine g_iconst X rfl (v := nI 0) (by decide) ?_
  refine g_istore_n X rfl (by decide) ?_
  refine g_iconst X rfl (v := nI 0) (by decide) ?_
  refine g_istore_n X rfl (by decide) ?_
  exact lp_X8_soldMany l D cy B od hm hg  X (S.2.2.1.1 + 1) 0 (by omega) (by omega) (by omega)
set_option maxRecDepth 100000 in
set_option maxHeartbeats 400000 in
theorem lp_X8_flagged (l : Launch) (D : va_G) (cy : Nat → ClassId) (B : Nat) (od : Nat → Option Nat) {p : Program} {e : Env} {s : State} {m : MethodId} {args : Array Value} {below : List Frame} {meth : Method} {c : Code} {A : AH} {z : Nat} {f : MF} {r : Nat → Int32} {Z : SV} {S : StV} (hm : MdR cy A f r Z S) (hg : Rng Z S) {w9 : Nat} (hw9 : w9 = 5 ∨ w9 = 6) (X : Cx p s m args meth c D cy B od cX8_flagged 4 tX8_flagged RX8 (some .int)) : ∀ (k i : Nat), 0 ≤ i → i ≤ S.1.1 → S.1.1 - i < k → G p l e rmX8_flagged s m args below meth c D B od 4 tX8_flagged (FinQ false D B od (fun v A' z' => v = some (.int (nI (cntN (fun i => !(S.1.2 w9 i == 0)) S.1.1))) ∧ A' = A ∧ z' = z) (fun _ _ => True) args s below 0 0) 0 0 A z 4 [some (.ref 231), some (.int (nI w9)), some (.int (nI (cntN (fun i => !(S.1.2 w9 i == 0)) i))), some (.int (nI i))] [] := by
  obtain ⟨hM, hn, hc, hw, hwb, hz⟩ := id hm
  obtain ⟨c0, ⟨c1, c2, c3, c4, c5⟩, cb, ⟨c16, cr⟩, ⟨c35, ce⟩, ⟨c456, ca⟩, c517, cp⟩ := id hc
  obtain ⟨w1, w2, w3, w4, w5⟩ := id hw
  intro k
  induction k with
  | zero => intro i _ _ h; omega
  | succ k ih =>
    intro i hlo hi hk
    refine g_iload_n X rfl rfl ?_
    refine g_aload_n X rfl rfl ?_
    refine g_get X rfl flX8_16 (ci := 8) rfl hM rfl ?_
    refine g_bipush X rfl (v := nI 35) (by decide) ?_
    refine g_ialdN X rfl hn (by omega) (by decide) ?_
    rw [c35]
    first | refine g_ic_geN X rfl (by omega) (by omega) (fun h1 => ?_) (fun h1 => ?_) | refine g_icmp_ge X rfl (fun h1 => ?_) (fun h1 => ?_)
    · refine g_iload_n X rfl rfl ?_
      refine g_iret X rfl rfl (by first | rfl | exact bI_nar _ | decide) (Nat.le_refl _) (Nat.le_refl _) ⟨?_, rfl, rfl⟩
      rw [show i = S.1.1 by omega]
    · refine g_iload_n X rfl rfl ?_
      refine g_aload_n X rfl rfl ?_
      refine g_iload_n X rfl rfl ?_
      refine g_iload_n X rfl rfl ?_
      refine g_rV X rfl lcX8_entryPart lmX8_184 lsX8_entryPart (cr_X8_entryPart l D cy B od hm (by omega) (by omega)) (ci := 8) hM rfl rfl rfl (Nat.le_of_ble_eq_true rfl) ⟨⟨by decide, by decide⟩, rfl, rfl⟩ ⟨Nat.le_of_ble_eq_true rfl, Nat.le_of_ble_eq_true rfl⟩ ?_
      refine g_iadd X rfl ?_
      refine g_istore_n X rfl (by decide) ?_
      refine g_iinc1 X rfl rfl (by decide) ?_
      refine g_goto X rfl ?_
      have K9 := ih (i + 1) (by omega) (by omega) (by omega)
      have hfl : S.1.2 w9 i = 0 ∨ S.1.2 w9 i = 1 := by rcases hw9 with rfl | rfl; exact (hwb i (by omega)).1; exact (hwb i (by omega)).2
      rcases hfl with hfl | hfl
      · rw [hfl, Int32.add_zero]
        rw [show nI (cntN (fun i => !(S.1.2 w9 i == 0)) (i + 1)) = nI (cntN (fun i => !(S.1.2 w9 i == 0)) i) by rw [cntN, if_neg (by simp [hfl])]] at K9
        exact K9
      · rw [hfl, show (1 : Int32) = nI 1 by decide]
        rw [show nI (cntN (fun i => !(S.1.2 w9 i == 0)) (i + 1)) = nI (cntN (fun i => !(S.1.2 w9 i == 0)) i) + nI 1 by rw [cntN, if_pos (by simp [hfl]), nI_add]] at K9
        exact K9
set_option maxRecDepth 100000 in
set_option maxHeartbeats 400000 in
theorem cr_X8_flagged (l : Launch) (D : va_G) (cy : Nat → ClassId) (B : Nat) (od : Nat → Option Nat) {A : AH} {f : MF} {r : Nat → Int32} {Z : SV} {S : StV} (hm : MdR cy A f r Z S) (hg : Rng Z S) {w9 : Nat} (hw9 : w9 = 5 ∨ w9 = 6) : CR l D cy B od yX8_flagged cX8_flagged 4 (some .int) rmX8_flagged [.ref 231, .int (nI w9)] A (.int (nI (cntN (fun i => !(S.1.2 w9 i == 0)) S.1.1))) := by
  intro z
  refine CT.of (by decide) tX8_flagged okX8_flagged (Nat.le_of_ble_eq_true rfl) (q0 := tX8_flagged[0]) rfl rfl ?_
  intro p e s m args below meth c X _
  obtain ⟨hM, hn, hc, hw, hwb, hz⟩ := id hm
  obtain ⟨c0, ⟨c1, c2, c3, c4, c5⟩, cb, ⟨c16, cr⟩, ⟨c35, ce⟩, ⟨c456, ca⟩, c517, cp⟩ := id hc
  obtain ⟨w1, w2, w3, w4, w5⟩ := id hw
  refine g_iconst X rfl (v := nI 0) (by decide) ?_
  refine g_istore_n X rfl (by decide) ?_
  refine g_iconst X rfl (v := nI 0) (by decide) ?_
  refine g_istore_n X rfl (by decide) ?_
  exact lp_X8_flagged l D cy B od hm hg hw9 X (S.1.1 + 1) 0 (by omega) (by omega) (by omega)
