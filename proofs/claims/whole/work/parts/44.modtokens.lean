/-! 44: the reference: tokens of a text -/
abbrev mP (th : Int32) (len : Nat) (at9 fr kd wr : Int32) (num : Int64) (en : Nat) (td sv : Int32) : va_E := .inr (8, [.int th, .ref 232, .int (nI len), .int at9, .int fr, .int kd, .int wr, .long num, .ref 233, .ref 234, .ref 235, .ref 236, .int (nI en), .int td, .int sv, .ref 237])
/-- the reference's text below len -/
def TX (cy : Nat → ClassId) (A : AH) (len : Nat) (mb tx : Nat → Int32) : Prop := A 232 = some (.inl (cy 0, 400, .inl mb)) ∧ len ≤ 400 ∧ (∀ j, j < len → mb j = tx j) ∧ ∀ j, j < len → 0 ≤ tx j
theorem TX.up {cy : Nat → ClassId} {A : AH} {len : Nat} {mb tx : Nat → Int32} {k : Nat} {x : va_E} (h : TX cy A len mb tx) (hk : k ≠ 232) : TX cy (upA A k x) len mb tx := ⟨(upA_ne (fun q => hk q.symm)).trans h.1, h.2⟩
def pk9 (tx : Nat → Int32) (len i : Nat) : Int32 := if i < len then tx i else -1
theorem pk_at {tx : Nat → Int32} {len i : Nat} (h : i < len) : pk9 tx len i = tx i := if_pos h
theorem pk_w {tx : Nat → Int32} {len i : Nat} {a b : Int32} (ha : 0 ≤ a) : within9 (pk9 tx len i) a b = (decide (i < len) && inR tx a b i) := by
  unfold pk9 within9 inR
  by_cases h : i < len
  · rw [if_pos h, decide_eq_true h, Bool.true_and]
  · rw [if_neg h, decide_eq_false h, Bool.false_and, decide_eq_false, Bool.false_and]
    rw [Int32.not_le]
    exact Int32.lt_of_lt_of_le (by decide) ha
theorem pk_t {tx : Nat → Int32} {len i : Nat} {a b : Int32} (ha : 0 ≤ a) (h : within9 (pk9 tx len i) a b = true) : i < len ∧ inR tx a b i = true := by
  rw [pk_w ha, Bool.and_eq_true, decide_eq_true_eq] at h
  exact h
theorem pk_f {tx : Nat → Int32} {len i : Nat} {a b : Int32} (ha : 0 ≤ a) (h : within9 (pk9 tx len i) a b = false) : ¬ (i < len ∧ inR tx a b i = true) := by
  rw [pk_w ha] at h
  rintro ⟨h1, h2⟩
  rw [decide_eq_true h1, h2] at h
  cases h
theorem pk_sp {tx : Nat → Int32} {len i : Nat} (h : pk9 tx len i = nI 32) : i < len ∧ spR tx i = true := by
  refine pk_t (by decide) ?_
  rw [h]; decide
theorem pk_nsp {tx : Nat → Int32} {len i : Nat} (h : ¬ pk9 tx len i = nI 32) : ¬ (i < len ∧ spR tx i = true) := by
  rintro ⟨h1, h2⟩
  apply h
  rw [pk_at h1]
  unfold spR inR at h2
  rw [Bool.and_eq_true, decide_eq_true_eq, decide_eq_true_eq] at h2
  exact Int32.le_antisymm h2.2 h2.1
/-- the number as the reference counts it -/
def mNum (tx : Nat → Int32) (a : Nat) : Nat → Int64
  | 0 => 0
  | n + 1 => if 10 * mNum tx a n + (tx (a + n)).toInt64 - 48 < 10000000000 then 10 * mNum tx a n + (tx (a + n)).toInt64 - 48 else 10000000000
theorem mNum_s {tx : Nat → Int32} {a i : Nat} (h : a ≤ i) : mNum tx a (i + 1 - a) = if 10 * mNum tx a (i - a) + (tx i).toInt64 - 48 < 10000000000 then 10 * mNum tx a (i - a) + (tx i).toInt64 - 48 else 10000000000 := by
  rw [show i + 1 - a = (i - a) + 1 by omega, mNum, show a + (i - a) = i by omega]
theorem num_N {tx : Nat → Int32} {a : Nat} : ∀ n, n ≤ 8 → (∀ j, j < n → diR tx (a + j) = true) → ∃ v, v < 10 ^ n ∧ vD tx a n = nI v ∧ mNum tx a n = lN v
  | 0, _, _ => ⟨0, by decide, rfl, rfl⟩
  | n + 1, hn, h => by
    obtain ⟨v, v1, v2, v3⟩ := num_N n (by omega) (fun j hj => h j (by omega))
    have hd := h n (by omega)
    unfold diR inR at hd
    rw [Bool.and_eq_true, decide_eq_true_eq, decide_eq_true_eq] at hd
    obtain ⟨x, hx, ex⟩ := nI_of (x := tx (a + n)) (Int32.not_lt.mpr (Int32.le_trans (by decide) hd.1))
    rw [ex] at hd
    have h1 := (nI_leI (by decide) hx).mp hd.1
    have h2 := (nI_leI hx (by decide)).mp hd.2
    have h10 : 10 ^ (n + 1) = 10 * 10 ^ n := by rw [Nat.pow_succ]; omega
    have h8 : 10 ^ (n + 1) ≤ 10 ^ 8 := Nat.pow_le_pow_right (by decide) hn
    refine ⟨10 * v + (x - 48), by omega, ?_, ?_⟩
    · rw [vD, v2, ex, pk_mul, nI_add, pk_sub (by omega), show v * 10 + x - 48 = 10 * v + (x - 48) by omega]
    · rw [mNum, v3, ex, nI_l hx, show (10 : Int64) = lN 10 from rfl, show (48 : Int64) = lN 48 from rfl, show (10000000000 : Int64) = lN 10000000000 from rfl, lN_mul, lN_add, lN_sub (by omega), if_pos ((pk_lLT (by omega) (by decide)).mpr (by omega)), show 10 * v + x - 48 = 10 * v + (x - 48) by omega]
/-- the reference's number beside a token's -/
def NumK (n : Int64) (tk : TK) : Prop := tk.2.1 = nI 2 → (8 < tk.1 - tk.2.2.1 ∧ tk.2.2.2 = -1) ∨ (tk.1 - tk.2.2.1 ≤ 8 ∧ n = tk.2.2.2.toInt64)
theorem NumK.no {n : Int64} {tk : TK} (h : ¬ tk.2.1 = nI 2) : NumK n tk := fun q => absurd q h
theorem numK_d {tx : Nat → Int32} {len a : Nat} : NumK (mNum tx a (scan (diR tx) len a - a)) (scan (diR tx) len a, nI 2, a, tokV tx a (scan (diR tx) len a)) := by
  intro _
  show (8 < scan (diR tx) len a - a ∧ tokV tx a (scan (diR tx) len a) = -1) ∨ (scan (diR tx) len a - a ≤ 8 ∧ mNum tx a (scan (diR tx) len a - a) = (tokV tx a (scan (diR tx) len a)).toInt64)
  unfold tokV
  by_cases h : 8 < scan (diR tx) len a - a
  · exact Or.inl ⟨h, if_pos h⟩
  · refine Or.inr ⟨by omega, ?_⟩
    obtain ⟨v, v1, v2, v3⟩ := num_N (tx := tx) (a := a) (scan (diR tx) len a - a) (by omega) (fun j hj => scan_in (diR tx) len (len - a + 1) a (by omega) (a + j) (by omega) (by omega))
    have h8 : 10 ^ (scan (diR tx) len a - a) ≤ 10 ^ 8 := Nat.pow_le_pow_right (by decide) (by omega)
    rw [if_neg h, v2, v3, nI_l (by omega)]
set_option maxRecDepth 100000 in
set_option maxHeartbeats 400000 in
theorem cr_X8_peek (l : Launch) (D : va_G) (cy : Nat → ClassId) (B : Nat) (od : Nat → Option Nat) {A : AH} {th fr kd wr at9 : Int32} {num : Int64} {len en : Nat} {td sv : Int32} {mb tx : Nat → Int32} (hM : A 231 = some (mP th len (at9) fr kd wr num en td sv)) (hX : TX cy A len mb tx) {i : Nat} (hi : i ≤ len) : CR l D cy B od yX8_peek cX8_peek 2 (some .int) rmX8_peek [.ref 231, .int (nI i)] A (.int (pk9 tx len i)) := by
  intro z
  refine CT.of (by decide) tX8_peek okX8_peek (Nat.le_of_ble_eq_true rfl) (q0 := tX8_peek[0]) rfl rfl ?_
  intro p e s m args below meth c X _
  obtain ⟨hb, hlen, hal, hpos⟩ := id hX
  refine g_iload_n X rfl rfl ?_
  refine g_aload_n X rfl rfl ?_
  refine g_get X rfl flX8_49 (ci := 8) rfl hM rfl ?_
  first | refine g_ic_geN X rfl (by omega) (by omega) (fun h1 => ?_) (fun h1 => ?_) | refine g_icmp_ge X rfl (fun h1 => ?_) (fun h1 => ?_)
  · refine g_iconst X rfl (v := (-1)) (by decide) ?_
    refine g_iret X rfl rfl (by first | rfl | exact bI_nar _ | decide) (Nat.le_refl _) (Nat.le_refl _) ⟨?_, rfl, rfl⟩
    first | rw [pk9, if_pos (show i < len from by omega), hal i (by omega)] | rw [pk9, if_neg (show ¬ i < len from by omega)]
  · refine g_aload_n X rfl rfl ?_
    refine g_get X rfl flX8_9 (ci := 8) rfl hM rfl ?_
    refine g_iload_n X rfl rfl ?_
    refine g_ialdN X rfl hb (by omega) (by decide) ?_
    refine g_goto X rfl ?_
    refine g_iret X rfl rfl (by first | rfl | exact bI_nar _ | decide) (Nat.le_refl _) (Nat.le_refl _) ⟨?_, rfl, rfl⟩
    first | rw [pk9, if_pos (show i < len from by omega), hal i (by omega)] | rw [pk9, if_neg (show ¬ i < len from by omega)]
set_option maxRecDepth 100000 in
set_option maxHeartbeats 400000 in
theorem cr_X8_isLetter (l : Launch) (D : va_G) (cy : Nat → ClassId) (B : Nat) (od : Nat → Option Nat) {A : AH} {x : Int32} : CR l D cy B od yX8_isLetter cX8_isLetter 1 (some .boolean) rmX8_isLetter [.int x] A (.int (bI (within9 x (nI 97) (nI 122)))) := by
  intro z
  refine CT.of (by decide) tX8_isLetter okX8_isLetter (Nat.le_of_ble_eq_true rfl) (q0 := tX8_isLetter[0]) rfl rfl ?_
  intro p e s m args below meth c X _
  refine g_iload_n X rfl rfl ?_
  refine g_bipush X rfl (v := nI 97) (by decide) ?_
  first | refine g_ic_ltN X rfl (by omega) (by omega) (fun h1 => ?_) (fun h1 => ?_) | refine g_icmp_lt X rfl (fun h1 => ?_) (fun h1 => ?_)
  · refine g_iconst X rfl (v := nI 0) (by decide) ?_
    refine g_iret X rfl rfl (by first | rfl | exact bI_nar _ | decide) (Nat.le_refl _) (Nat.le_refl _) ⟨?_, rfl, rfl⟩
    first | exact bR1 (by unfold within9; rw [Bool.and_eq_true, decide_eq_true_eq, decide_eq_true_eq]; exact ⟨Int32.not_lt.mp (by assumption), Int32.not_lt.mp (by assumption)⟩) | exact bR0 (by rw [← Bool.not_eq_true]; unfold within9; rw [Bool.and_eq_true, decide_eq_true_eq, decide_eq_true_eq]; first | exact fun q => absurd q.1 (Int32.not_le.mpr (by assumption)) | exact fun q => absurd q.2 (Int32.not_le.mpr (by assumption)))
  · refine g_iload_n X rfl rfl ?_
    refine g_bipush X rfl (v := nI 122) (by decide) ?_
    first | refine g_ic_gtN X rfl (by omega) (by omega) (fun h2 => ?_) (fun h2 => ?_) | refine g_icmp_gt X rfl (fun h2 => ?_) (fun h2 => ?_)
    · refine g_iconst X rfl (v := nI 0) (by decide) ?_
      refine g_iret X rfl rfl (by first | rfl | exact bI_nar _ | decide) (Nat.le_refl _) (Nat.le_refl _) ⟨?_, rfl, rfl⟩
      first | exact bR1 (by unfold within9; rw [Bool.and_eq_true, decide_eq_true_eq, decide_eq_true_eq]; exact ⟨Int32.not_lt.mp (by assumption), Int32.not_lt.mp (by assumption)⟩) | exact bR0 (by rw [← Bool.not_eq_true]; unfold within9; rw [Bool.and_eq_true, decide_eq_true_eq, decide_eq_true_eq]; first | exact fun q => absurd q.1 (Int32.not_le.mpr (by assumption)) | exact fun q => absurd q.2 (Int32.not_le.mpr (by assumption)))
    · refine g_iconst X rfl (v := nI 1) (by decide) ?_
      refine g_goto X rfl ?_
      refine g_iret X rfl rfl (by first | rfl | exact bI_nar _ | decide) (Nat.le_refl _) (Nat.le_refl _) ⟨?_, rfl, rfl⟩
      first | exact bR1 (by unfold within9; rw [Bool.and_eq_true, decide_eq_true_eq, decide_eq_true_eq]; exact ⟨Int32.not_lt.mp (by assumption), Int32.not_lt.mp (by assumption)⟩) | exact bR0 (by rw [← Bool.not_eq_true]; unfold within9; rw [Bool.and_eq_true, decide_eq_true_eq, decide_eq_true_eq]; first | exact fun q => absurd q.1 (Int32.not_le.mpr (by assumption)) | exact fun q => absurd q.2 (Int32.not_le.mpr (by assumption)))
set_option maxRecDepth 100000 in
set_option maxHeartbeats 400000 in
theorem cr_X8_isDigit (l : Launch) (D : va_G) (cy : Nat → ClassId) (B : Nat) (od : Nat → Option Nat) {A : AH} {x : Int32} : CR l D cy B od yX8_isDigit cX8_isDigit 1 (some .boolean) rmX8_isDigit [.int x] A (.int (bI (within9 x (nI 48) (nI 57)))) := by
  intro z
  refine CT.of (by decide) tX8_isDigit okX8_isDigit (Nat.le_of_ble_eq_true rfl) (q0 := tX8_isDigit[0]) rfl rfl ?_
  intro p e s m args below meth c X _
  refine g_iload_n X rfl rfl ?_
  refine g_bipush X rfl (v := nI 48) (by decide) ?_
  first | refine g_ic_ltN X rfl (by omega) (by omega) (fun h1 => ?_) (fun h1 => ?_) | refine g_icmp_lt X rfl (fun h1 => ?_) (fun h1 => ?_)
  · refine g_iconst X rfl (v := nI 0) (by decide) ?_
    refine g_iret X rfl rfl (by first | rfl | exact bI_nar _ | decide) (Nat.le_refl _) (Nat.le_refl _) ⟨?_, rfl, rfl⟩
    first | exact bR1 (by unfold within9; rw [Bool.and_eq_true, decide_eq_true_eq, decide_eq_true_eq]; exact ⟨Int32.not_lt.mp (by assumption), Int32.not_lt.mp (by assumption)⟩) | exact bR0 (by rw [← Bool.not_eq_true]; unfold within9; rw [Bool.and_eq_true, decide_eq_true_eq, decide_eq_true_eq]; first | exact fun q => absurd q.1 (Int32.not_le.mpr (by assumption)) | exact fun q => absurd q.2 (Int32.not_le.mpr (by assumption)))
  · refine g_iload_n X rfl rfl ?_
    refine g_bipush X rfl (v := nI 57) (by decide) ?_
    first | refine g_ic_gtN X rfl (by omega) (by omega) (fun h2 => ?_) (fun h2 => ?_) | refine g_icmp_gt X rfl (fun h2 => ?_) (fun h2 => ?_)
    · refine g_iconst X rfl (v := nI 0) (by decide) ?_
      refine g_iret X rfl rfl (by first | rfl | exact bI_nar _ | decide) (Nat.le_refl _) (Nat.le_refl _) ⟨?_, rfl, rfl⟩
      first | exact bR1 (by unfold within9; rw [Bool.and_eq_true, decide_eq_true_eq, decide_eq_true_eq]; exact ⟨Int32.not_lt.mp (by assumption), Int32.not_lt.mp (by assumption)⟩) | exact bR0 (by rw [← Bool.not_eq_true]; unfold within9; rw [Bool.and_eq_true, decide_eq_true_eq, decide_eq_true_eq]; first | exact fun q => absurd q.1 (Int32.not_le.mpr (by assumption)) | exact fun q => absurd q.2 (Int32.not_le.mpr (by assumption)))
    · refine g_iconst X rfl (v := nI 1) (by decide) ?_
      refine g_goto X rfl ?_
      refine g_iret X rfl rfl (by first | rfl | exact bI_nar _ | decide) (Nat.le_refl _) (Nat.le_refl _) ⟨?_, rfl, rfl⟩
      first | exact bR1 (by unfold within9; rw [Bool.and_eq_true, decide_eq_true_eq, decide_eq_true_eq]; exact ⟨Int32.not_lt.mp (by assumption), Int32.not_lt.mp (by assumption)⟩) | exact bR0 (by rw [← Bool.not_eq_true]; unfold within9; rw [Bool.and_eq_true, decide_eq_true_eq, decide_eq_true_eq]; first | exact fun q => absurd q.1 (Int32.not_le.mpr (by assumption)) | exact fun q => absurd q.2 (Int32.not_le.mpr (by assumption)))
set_option maxRecDepth 100000 in
set_option maxHeartbeats 400000 in
theorem cm_X8_fail (l : Launch) (D : va_G) (cy : Nat → ClassId) (B : Nat) (od : Nat → Option Nat) {A : AH} {th fr kd wr at9 : Int32} {num : Int64} {len en : Nat} {td sv : Int32} {mb tx : Nat → Int32} (hM : A 231 = some (mP th len (at9) fr kd wr num en td sv)) (hw : wr = -1) : CM l D cy B od yX8_fail cX8_fail 1 none rmX8_fail [.ref 231] A (fun v A' => v = none ∧ A' = upA A 231 (mP th len at9 fr kd fr num en td sv)) := by
  intro z
  refine CT.of (by decide) tX8_fail okX8_fail (Nat.le_of_ble_eq_true rfl) (q0 := tX8_fail[0]) rfl rfl ?_
  intro p e s m args below meth c X _
  subst hw
  refine g_aload_n X rfl rfl ?_
  refine g_aload_n X rfl rfl ?_
  refine g_get X rfl flX8_96 (ci := 8) rfl (by (repeat (first | exact hM | exact upA_eq | refine (upA_ne (by omega)).trans ?_))) rfl ?_
  refine g_if_ge X rfl (fun h1 => ?_) (fun h1 => ?_)
  · exact absurd h1 (by decide)
  · refine g_aload_n X rfl rfl ?_
    refine g_get X rfl flX8_67 (ci := 8) rfl (by (repeat (first | exact hM | exact upA_eq | refine (upA_ne (by omega)).trans ?_))) rfl ?_
    refine g_goto X rfl ?_
    refine g_put X rfl flX8_96 rfl (ci := 8) rfl (by (repeat (first | exact hM | exact upA_eq | refine (upA_ne (by omega)).trans ?_))) (Nat.le_of_ble_eq_true rfl) (by first | rfl | exact bI_nar _) (by first | rfl | decide) ?_
    refine g_vret X rfl rfl (Nat.le_of_ble_eq_true rfl) (Nat.le_of_ble_eq_true rfl) ⟨rfl, ?_⟩
    exact ⟨rfl, rfl⟩
set_option maxRecDepth 100000 in
set_option maxHeartbeats 400000 in
theorem cm_X8_failB (l : Launch) (D : va_G) (cy : Nat → ClassId) (B : Nat) (od : Nat → Option Nat) {A : AH} {th fr kd wr at9 : Int32} {num : Int64} {len en : Nat} {td sv : Int32} {mb tx : Nat → Int32} (hM : A 231 = some (mP th len (at9) fr kd wr num en td sv)) (hw : ¬ wr < 0) : CM l D cy B od yX8_fail cX8_fail 1 none rmX8_fail [.ref 231] A (fun v A' => v = none ∧ A' = A) := by
  intro z
  refine CT.of (by decide) tX8_fail okX8_fail (Nat.le_of_ble_eq_true rfl) (q0 := tX8_fail[0]) rfl rfl ?_
  intro p e s m args below meth c X _
  refine g_aload_n X rfl rfl ?_
  refine g_aload_n X rfl rfl ?_
  refine g_get X rfl flX8_96 (ci := 8) rfl (by (repeat (first | exact hM | exact upA_eq | refine (upA_ne (by omega)).trans ?_))) rfl ?_
  refine g_if_ge X rfl (fun h1 => ?_) (fun h1 => ?_)
  · refine g_aload_n X rfl rfl ?_
    refine g_get X rfl flX8_96 (ci := 8) rfl (by (repeat (first | exact hM | exact upA_eq | refine (upA_ne (by omega)).trans ?_))) rfl ?_
    refine g_put X rfl flX8_96 rfl (ci := 8) rfl (by (repeat (first | exact hM | exact upA_eq | refine (upA_ne (by omega)).trans ?_))) (Nat.le_of_ble_eq_true rfl) (by first | rfl | exact bI_nar _) (by first | rfl | decide) ?_
    refine g_vret X rfl rfl (Nat.le_of_ble_eq_true rfl) (Nat.le_of_ble_eq_true rfl) ⟨rfl, ?_⟩
    exact ⟨rfl, upA_same hM⟩
  · exact absurd (Int32.not_le.mp h1) hw
set_option maxRecDepth 100000 in
set_option maxHeartbeats 400000 in
theorem cr_X8_isGood (l : Launch) (D : va_G) (cy : Nat → ClassId) (B : Nat) (od : Nat → Option Nat) {A : AH} {th fr kd wr at9 : Int32} {num : Int64} {len en : Nat} {td sv : Int32} {mb tx : Nat → Int32} (hM : A 231 = some (mP th len (at9) fr kd wr num en td sv))  : CR l D cy B od yX8_isGood cX8_isGood 1 (some .boolean) rmX8_isGood [.ref 231] A (.int (bI (decide (wr < 0)))) := by
  intro z
  refine CT.of (by decide) tX8_isGood okX8_isGood (Nat.le_of_ble_eq_true rfl) (q0 := tX8_isGood[0]) rfl rfl ?_
  intro p e s m args below meth c X _
  refine g_aload_n X rfl rfl ?_
  refine g_get X rfl flX8_96 (ci := 8) rfl hM rfl ?_
  refine g_if_ge X rfl (fun h1 => ?_) (fun h1 => ?_)
  · refine g_iconst X rfl (v := nI 0) (by decide) ?_
    refine g_iret X rfl rfl (by first | rfl | exact bI_nar _ | decide) (Nat.le_refl _) (Nat.le_refl _) ⟨?_, rfl, rfl⟩
    first | exact bR1 (decide_eq_true (Int32.not_le.mp (by assumption))) | exact bR0 (decide_eq_false (Int32.not_lt.mpr (by assumption)))
  · refine g_iconst X rfl (v := nI 1) (by decide) ?_
    refine g_goto X rfl ?_
    refine g_iret X rfl rfl (by first | rfl | exact bI_nar _ | decide) (Nat.le_refl _) (Nat.le_refl _) ⟨?_, rfl, rfl⟩
    first | exact bR1 (decide_eq_true (Int32.not_le.mp (by assumption))) | exact bR0 (decide_eq_false (Int32.not_lt.mpr (by assumption)))
set_option maxRecDepth 100000 in
set_option maxHeartbeats 400000 in
theorem lp_X8_stepW (l : Launch) (D : va_G) (cy : Nat → ClassId) (B : Nat) (od : Nat → Option Nat) {p : Program} {e : Env} {s : State} {m : MethodId} {args : Array Value} {below : List Frame} {meth : Method} {c : Code} {A : AH} {z : Nat} {th fr kd wr : Int32} {num : Int64} {len en : Nat} {td sv : Int32} {mb tx : Nat → Int32} (hX : TX cy A len mb tx) {e9 a9 : Nat} {Qf : Option Value → AH → Prop} (hQ : Qf none (upA A 231 (mP th len (nI e9) (nI a9) (nI 1) wr 0 en td sv))) (X : Cx p s m args meth c D cy B od cX8_step 2 tX8_step RX8 none) : ∀ (k i : Nat) (o0 : Option Value) (_ : scan (leR tx) len i = e9), 0 ≤ i → i ≤ len → len - i < k → G p l e rmX8_step s m args below meth c D B od 2 tX8_step (FinQ false D B od (fun v A' z' => z' = z ∧ (Qf) v A') (fun _ _ => True) args s below rmX8_step.cells rmX8_step.slots) 0 0 (upA A 231 (mP th len (nI i) (nI a9) (nI 1) wr 0 en td sv)) z 52 [some (.ref 231), o0] [] := by
  intro k
  induction k with
  | zero => intro i _ _ _ _ h; omega
  | succ k ih =>
    intro i o0 o1 hlo hi hk
    obtain ⟨hb, hlen, hal, hpos⟩ := id hX
    refine g_aload_n X rfl rfl ?_
    refine g_get X rfl flX8_77 (ci := 8) rfl (by (repeat (first | exact hM | exact upA_eq | refine (upA_ne (by omega)).trans ?_))) rfl ?_
    refine g_iconst X rfl (v := nI 1) (by decide) ?_
    refine g_icmp_ne X rfl (fun h => absurd h (by decide)) (fun _ => ?_)
    refine g_aload_n X rfl rfl ?_
    refine g_aload_n X rfl rfl ?_
    refine g_get X rfl flX8_60 (ci := 8) rfl (by (repeat (first | exact hM | exact upA_eq | refine (upA_ne (by omega)).trans ?_))) rfl ?_
    refine g_rV X rfl lcX8_peek lmX8_63 lsX8_peek (cr_X8_peek l D cy B od upA_eq (hX.up (by decide)) (i := i) (by omega)) (ci := 8) (by (repeat (first | exact hM | exact upA_eq | refine (upA_ne (by omega)).trans ?_))) rfl rfl rfl (Nat.le_of_ble_eq_true rfl) ⟨⟨by decide, by decide⟩, rfl, rfl⟩ ⟨Nat.le_of_ble_eq_true rfl, Nat.le_of_ble_eq_true rfl⟩ ?_
    refine g_rS X rfl lcX8_isLetter lmX8_70 stX8_isLetter (cr_X8_isLetter l D cy B od) rfl rfl (Nat.le_of_ble_eq_true rfl) ⟨⟨by decide, by decide⟩, rfl, rfl⟩ ⟨Nat.le_of_ble_eq_true rfl, Nat.le_of_ble_eq_true rfl⟩ ?_
    first | refine g_if_eqB X rfl (fun h1 => ?_) (fun h1 => ?_) | refine g_if_eq X rfl (fun h1 => ?_) (fun h1 => ?_)
    · have hq := pk_f (a := nI 97) (b := nI 122) (by decide) h1
      refine g_aload_n X rfl rfl ?_
      refine g_get X rfl flX8_77 (ci := 8) rfl (by (repeat (first | exact hM | exact upA_eq | refine (upA_ne (by omega)).trans ?_))) rfl ?_
      refine g_iconst X rfl (v := nI 2) (by decide) ?_
      refine g_icmp_ne X rfl (fun _ => ?_) (fun h => absurd h (by decide))
      refine g_vret X rfl rfl (Nat.le_of_ble_eq_true rfl) (Nat.le_of_ble_eq_true rfl) ⟨rfl, ?_⟩
      rw [show e9 = i by rw [← o1]; exact scan_no hq] at hQ; exact hQ
    · have hq := pk_t (a := nI 97) (b := nI 122) (by decide) h1
      refine g_aload_n X rfl rfl ?_
      refine g_dup X rfl rfl ?_
      refine g_get X rfl flX8_60 (ci := 8) rfl (by (repeat (first | exact hM | exact upA_eq | refine (upA_ne (by omega)).trans ?_))) rfl ?_
      refine g_iconst X rfl (v := nI 1) (by decide) ?_
      refine g_iadd X rfl ?_
      rw [nI_add]
      refine g_put X rfl flX8_60 rfl (ci := 8) rfl (by (repeat (first | exact hM | exact upA_eq | refine (upA_ne (by omega)).trans ?_))) (Nat.le_of_ble_eq_true rfl) (by first | rfl | exact bI_nar _) (by first | rfl | decide) ?_
      rw [upA_up]
      refine g_goto X rfl ?_
      exact ih (i + 1) _ (by rw [← scan_go hq.1 hq.2]; exact o1) (by omega) (by omega) (by omega)
set_option maxRecDepth 100000 in
set_option maxHeartbeats 400000 in
theorem lp_X8_stepN (l : Launch) (D : va_G) (cy : Nat → ClassId) (B : Nat) (od : Nat → Option Nat) {p : Program} {e : Env} {s : State} {m : MethodId} {args : Array Value} {below : List Frame} {meth : Method} {c : Code} {A : AH} {z : Nat} {th fr kd wr : Int32} {num : Int64} {len en : Nat} {td sv : Int32} {mb tx : Nat → Int32} (hX : TX cy A len mb tx) {e9 a9 : Nat} {Qf : Option Value → AH → Prop} (hQ : Qf none (upA A 231 (mP th len (nI e9) (nI a9) (nI 2) wr (mNum tx a9 (e9 - a9)) en td sv))) (X : Cx p s m args meth c D cy B od cX8_step 2 tX8_step RX8 none) : ∀ (k i : Nat) (o0 : Option Value) (_ : scan (diR tx) len i = e9), a9 ≤ i → i ≤ len → len - i < k → G p l e rmX8_step s m args below meth c D B od 2 tX8_step (FinQ false D B od (fun v A' z' => z' = z ∧ (Qf) v A') (fun _ _ => True) args s below rmX8_step.cells rmX8_step.slots) 0 0 (upA A 231 (mP th len (nI i) (nI a9) (nI 2) wr (mNum tx a9 (i - a9)) en td sv)) z 69 [some (.ref 231), o0] [] := by
  intro k
  induction k with
  | zero => intro i _ _ _ _ h; omega
  | succ k ih =>
    intro i o0 o1 hlo hi hk
    obtain ⟨hb, hlen, hal, hpos⟩ := id hX
    refine g_aload_n X rfl rfl ?_
    refine g_get X rfl flX8_77 (ci := 8) rfl (by (repeat (first | exact hM | exact upA_eq | refine (upA_ne (by omega)).trans ?_))) rfl ?_
    refine g_iconst X rfl (v := nI 2) (by decide) ?_
    refine g_icmp_ne X rfl (fun h => absurd h (by decide)) (fun _ => ?_)
    refine g_aload_n X rfl rfl ?_
    refine g_aload_n X rfl rfl ?_
    refine g_get X rfl flX8_60 (ci := 8) rfl (by (repeat (first | exact hM | exact upA_eq | refine (upA_ne (by omega)).trans ?_))) rfl ?_
    refine g_rV X rfl lcX8_peek lmX8_63 lsX8_peek (cr_X8_peek l D cy B od upA_eq (hX.up (by decide)) (i := i) (by omega)) (ci := 8) (by (repeat (first | exact hM | exact upA_eq | refine (upA_ne (by omega)).trans ?_))) rfl rfl rfl (Nat.le_of_ble_eq_true rfl) ⟨⟨by decide, by decide⟩, rfl, rfl⟩ ⟨Nat.le_of_ble_eq_true rfl, Nat.le_of_ble_eq_true rfl⟩ ?_
    refine g_rS X rfl lcX8_isDigit lmX8_74 stX8_isDigit (cr_X8_isDigit l D cy B od) rfl rfl (Nat.le_of_ble_eq_true rfl) ⟨⟨by decide, by decide⟩, rfl, rfl⟩ ⟨Nat.le_of_ble_eq_true rfl, Nat.le_of_ble_eq_true rfl⟩ ?_
    first | refine g_if_eqB X rfl (fun h1 => ?_) (fun h1 => ?_) | refine g_if_eq X rfl (fun h1 => ?_) (fun h1 => ?_)
    · have hq := pk_f (a := nI 48) (b := nI 57) (by decide) h1
      refine g_vret X rfl rfl (Nat.le_of_ble_eq_true rfl) (Nat.le_of_ble_eq_true rfl) ⟨rfl, ?_⟩
      rw [show e9 = i by rw [← o1]; exact scan_no hq] at hQ; exact hQ
    · have hq := pk_t (a := nI 48) (b := nI 57) (by decide) h1
      refine g_aload_n X rfl rfl ?_
      refine g_ldc2 X rfl kcX8_84 ?_
      refine g_ldc2 X rfl kcX8_86 ?_
      refine g_aload_n X rfl rfl ?_
      refine g_get X rfl flX8_80 (ci := 8) rfl (by (repeat (first | exact hM | exact upA_eq | refine (upA_ne (by omega)).trans ?_))) rfl ?_
      refine g_lmul X rfl ?_
      refine g_aload_n X rfl rfl ?_
      refine g_aload_n X rfl rfl ?_
      refine g_get X rfl flX8_60 (ci := 8) rfl (by (repeat (first | exact hM | exact upA_eq | refine (upA_ne (by omega)).trans ?_))) rfl ?_
      refine g_rV X rfl lcX8_peek lmX8_63 lsX8_peek (cr_X8_peek l D cy B od upA_eq (hX.up (by decide)) (i := i) (by omega)) (ci := 8) (by (repeat (first | exact hM | exact upA_eq | refine (upA_ne (by omega)).trans ?_))) rfl rfl rfl (Nat.le_of_ble_eq_true rfl) ⟨⟨by decide, by decide⟩, rfl, rfl⟩ ⟨Nat.le_of_ble_eq_true rfl, Nat.le_of_ble_eq_true rfl⟩ ?_
      rw [pk_at hq.1]
      refine g_i2l X rfl ?_
      refine g_ladd X rfl ?_
      refine g_ldc2 X rfl kcX8_88 ?_
      refine g_lsub X rfl ?_
      refine g_m_min_l X rfl lmX8_90 (Nat.le_of_ble_eq_true rfl) ⟨by decide, by decide⟩ ⟨Nat.le_of_ble_eq_true rfl, Nat.le_of_ble_eq_true rfl⟩ ?_
      refine g_put X rfl flX8_80 rfl (ci := 8) rfl (by (repeat (first | exact hM | exact upA_eq | refine (upA_ne (by omega)).trans ?_))) (Nat.le_of_ble_eq_true rfl) (by first | rfl | exact bI_nar _) (by first | rfl | decide) ?_
      rw [upA_up]
      refine g_aload_n X rfl rfl ?_
      refine g_dup X rfl rfl ?_
      refine g_get X rfl flX8_60 (ci := 8) rfl (by (repeat (first | exact hM | exact upA_eq | refine (upA_ne (by omega)).trans ?_))) rfl ?_
      refine g_iconst X rfl (v := nI 1) (by decide) ?_
      refine g_iadd X rfl ?_
      rw [nI_add]
      refine g_put X rfl flX8_60 rfl (ci := 8) rfl (by (repeat (first | exact hM | exact upA_eq | refine (upA_ne (by omega)).trans ?_))) (Nat.le_of_ble_eq_true rfl) (by first | rfl | exact bI_nar _) (by first | rfl | decide) ?_
      rw [upA_up]
      refine g_goto X rfl ?_
      have K9 := ih (i + 1) o0 (by rw [← scan_go hq.1 hq.2]; exact o1) (by omega) (by omega) (by omega)
      rw [mNum_s hlo] at K9
      exact K9
set_option maxRecDepth 100000 in
set_option maxHeartbeats 400000 in
theorem tl_X8_step (l : Launch) (D : va_G) (cy : Nat → ClassId) (B : Nat) (od : Nat → Option Nat) {p : Program} {e : Env} {s : State} {m : MethodId} {args : Array Value} {below : List Frame} {meth : Method} {c : Code} {A : AH} {z : Nat} {th fr kd wr : Int32} {num : Int64} {len en : Nat} {td sv : Int32} {mb tx : Nat → Int32} (hX : TX cy A len mb tx) {pp : Nat} {nm : Int32} {Qf : Option Value → AH → Prop} (hQ : ∀ (n : Int64) (tk : TK), NumK n tk → tk = tokAt tx len pp nm → Qf none (upA A 231 (mP th len (nI tk.1) (nI tk.2.2.1) tk.2.1 wr n en td sv))) (hp : pp ≤ len) {o0 : Option Value} (X : Cx p s m args meth c D cy B od cX8_step 2 tX8_step RX8 none) : G p l e rmX8_step s m args below meth c D B od 2 tX8_step (FinQ false D B od (fun v A' z' => z' = z ∧ (Qf) v A') (fun _ _ => True) args s below rmX8_step.cells rmX8_step.slots) 0 0 (upA A 231 (mP th len (nI pp) fr kd wr num en td sv)) z 13 [some (.ref 231), o0] [] := by
  refine g_aload_n X rfl rfl ?_
  refine g_aload_n X rfl rfl ?_
  refine g_get X rfl flX8_60 (ci := 8) rfl (by (repeat (first | exact hM | exact upA_eq | refine (upA_ne (by omega)).trans ?_))) rfl ?_
  refine g_put X rfl flX8_67 rfl (ci := 8) rfl (by (repeat (first | exact hM | exact upA_eq | refine (upA_ne (by omega)).trans ?_))) (Nat.le_of_ble_eq_true rfl) (by first | rfl | exact bI_nar _) (by first | rfl | decide) ?_
  rw [upA_up]
  refine g_aload_n X rfl rfl ?_
  refine g_aload_n X rfl rfl ?_
  refine g_get X rfl flX8_60 (ci := 8) rfl (by (repeat (first | exact hM | exact upA_eq | refine (upA_ne (by omega)).trans ?_))) rfl ?_
  refine g_rV X rfl lcX8_peek lmX8_63 lsX8_peek (cr_X8_peek l D cy B od upA_eq (hX.up (by decide)) (i := pp) (by omega)) (ci := 8) (by (repeat (first | exact hM | exact upA_eq | refine (upA_ne (by omega)).trans ?_))) rfl rfl rfl (Nat.le_of_ble_eq_true rfl) ⟨⟨by decide, by decide⟩, rfl, rfl⟩ ⟨Nat.le_of_ble_eq_true rfl, Nat.le_of_ble_eq_true rfl⟩ ?_
  refine g_istore_n X rfl (by decide) ?_
  refine g_aload_n X rfl rfl ?_
  refine g_iload_n X rfl rfl ?_
  refine g_if_ge X rfl (fun h1 => ?_) (fun h1 => ?_)
  · have hlt : pp < len := Nat.not_le.mp (fun q => absurd h1 (by rw [pk9, if_neg (by omega)]; decide))
    refine g_iload_n X rfl rfl ?_
    refine g_rS X rfl lcX8_isLetter lmX8_70 stX8_isLetter (cr_X8_isLetter l D cy B od) rfl rfl (Nat.le_of_ble_eq_true rfl) ⟨⟨by decide, by decide⟩, rfl, rfl⟩ ⟨Nat.le_of_ble_eq_true rfl, Nat.le_of_ble_eq_true rfl⟩ ?_
    first | refine g_if_eqB X rfl (fun h2 => ?_) (fun h2 => ?_) | refine g_if_eq X rfl (fun h2 => ?_) (fun h2 => ?_)
    · have hnl := pk_f (a := nI 97) (b := nI 122) (by decide) h2
      refine g_iload_n X rfl rfl ?_
      refine g_rS X rfl lcX8_isDigit lmX8_74 stX8_isDigit (cr_X8_isDigit l D cy B od) rfl rfl (Nat.le_of_ble_eq_true rfl) ⟨⟨by decide, by decide⟩, rfl, rfl⟩ ⟨Nat.le_of_ble_eq_true rfl, Nat.le_of_ble_eq_true rfl⟩ ?_
      first | refine g_if_eqB X rfl (fun h3 => ?_) (fun h3 => ?_) | refine g_if_eq X rfl (fun h3 => ?_) (fun h3 => ?_)
      · have hnd := pk_f (a := nI 48) (b := nI 57) (by decide) h3
        refine g_iconst X rfl (v := nI 3) (by decide) ?_
        refine g_put X rfl flX8_77 rfl (ci := 8) rfl (by (repeat (first | exact hM | exact upA_eq | refine (upA_ne (by omega)).trans ?_))) (Nat.le_of_ble_eq_true rfl) (by first | rfl | exact bI_nar _) (by first | rfl | decide) ?_
        rw [upA_up]
        refine g_aload_n X rfl rfl ?_
        refine g_lconst X rfl (v := 0) (by decide) ?_
        refine g_put X rfl flX8_80 rfl (ci := 8) rfl (by (repeat (first | exact hM | exact upA_eq | refine (upA_ne (by omega)).trans ?_))) (Nat.le_of_ble_eq_true rfl) (by first | rfl | exact bI_nar _) (by first | rfl | decide) ?_
        rw [upA_up]
        refine g_aload_n X rfl rfl ?_
        refine g_get X rfl flX8_77 (ci := 8) rfl (by (repeat (first | exact hM | exact upA_eq | refine (upA_ne (by omega)).trans ?_))) rfl ?_
        refine g_iconst X rfl (v := nI 3) (by decide) ?_
        refine g_icmp_ne X rfl (fun h => absurd h (by decide)) (fun _ => ?_)
        refine g_aload_n X rfl rfl ?_
        refine g_dup X rfl rfl ?_
        refine g_get X rfl flX8_60 (ci := 8) rfl (by (repeat (first | exact hM | exact upA_eq | refine (upA_ne (by omega)).trans ?_))) rfl ?_
        refine g_iconst X rfl (v := nI 1) (by decide) ?_
        refine g_iadd X rfl ?_
        rw [nI_add]
        refine g_put X rfl flX8_60 rfl (ci := 8) rfl (by (repeat (first | exact hM | exact upA_eq | refine (upA_ne (by omega)).trans ?_))) (Nat.le_of_ble_eq_true rfl) (by first | rfl | exact bI_nar _) (by first | rfl | decide) ?_
        rw [upA_up]
        refine g_aload_n X rfl rfl ?_
        refine g_get X rfl flX8_77 (ci := 8) rfl (by (repeat (first | exact hM | exact upA_eq | refine (upA_ne (by omega)).trans ?_))) rfl ?_
        refine g_iconst X rfl (v := nI 1) (by decide) ?_
        refine g_icmp_ne X rfl (fun _ => ?_) (fun h => absurd h (by decide))
        refine g_aload_n X rfl rfl ?_
        refine g_get X rfl flX8_77 (ci := 8) rfl (by (repeat (first | exact hM | exact upA_eq | refine (upA_ne (by omega)).trans ?_))) rfl ?_
        refine g_iconst X rfl (v := nI 2) (by decide) ?_
        refine g_icmp_ne X rfl (fun _ => ?_) (fun h => absurd h (by decide))
        refine g_vret X rfl rfl (Nat.le_of_ble_eq_true rfl) (Nat.le_of_ble_eq_true rfl) ⟨rfl, ?_⟩
        exact hQ 0 (pp + 1, nI 3, pp, nm) (NumK.no (by show ¬ nI 3 = nI 2; decide)) (by rw [tokAt, if_neg (by omega), if_neg (fun q => hnl ⟨by omega, q⟩), if_neg (fun q => hnd ⟨by omega, q⟩)])
      · have hyd := pk_t (a := nI 48) (b := nI 57) (by decide) h3
        refine g_iconst X rfl (v := nI 2) (by decide) ?_
        refine g_goto X rfl ?_
        refine g_put X rfl flX8_77 rfl (ci := 8) rfl (by (repeat (first | exact hM | exact upA_eq | refine (upA_ne (by omega)).trans ?_))) (Nat.le_of_ble_eq_true rfl) (by first | rfl | exact bI_nar _) (by first | rfl | decide) ?_
        rw [upA_up]
        refine g_aload_n X rfl rfl ?_
        refine g_lconst X rfl (v := 0) (by decide) ?_
        refine g_put X rfl flX8_80 rfl (ci := 8) rfl (by (repeat (first | exact hM | exact upA_eq | refine (upA_ne (by omega)).trans ?_))) (Nat.le_of_ble_eq_true rfl) (by first | rfl | exact bI_nar _) (by first | rfl | decide) ?_
        rw [upA_up]
        refine g_aload_n X rfl rfl ?_
        refine g_get X rfl flX8_77 (ci := 8) rfl (by (repeat (first | exact hM | exact upA_eq | refine (upA_ne (by omega)).trans ?_))) rfl ?_
        refine g_iconst X rfl (v := nI 3) (by decide) ?_
        refine g_icmp_ne X rfl (fun _ => ?_) (fun h => absurd h (by decide))
        refine g_aload_n X rfl rfl ?_
        refine g_get X rfl flX8_77 (ci := 8) rfl (by (repeat (first | exact hM | exact upA_eq | refine (upA_ne (by omega)).trans ?_))) rfl ?_
        refine g_iconst X rfl (v := nI 1) (by decide) ?_
        refine g_icmp_ne X rfl (fun _ => ?_) (fun h => absurd h (by decide))
        refine G.cast (A2 := upA A 231 (mP th len (nI pp) (nI pp) (nI 2) wr (mNum tx pp (pp - pp)) en td sv)) (by rw [Nat.sub_self]; rfl) ?_
        exact lp_X8_stepN l D cy B od (fr := fr) (kd := kd) (num := num) hX (e9 := scan (diR tx) len pp) (a9 := pp) (hQ _ (scan (diR tx) len pp, nI 2, pp, tokV tx pp (scan (diR tx) len pp)) numK_d (by rw [tokAt, if_neg (by omega), if_neg (fun q => hnl ⟨by omega, q⟩), if_pos hyd.2])) X (len - pp + 1) pp _ rfl (by omega) (by omega) (by omega)
    · have hyl := pk_t (a := nI 97) (b := nI 122) (by decide) h2
      refine g_iconst X rfl (v := nI 1) (by decide) ?_
      refine g_goto X rfl ?_
      refine g_put X rfl flX8_77 rfl (ci := 8) rfl (by (repeat (first | exact hM | exact upA_eq | refine (upA_ne (by omega)).trans ?_))) (Nat.le_of_ble_eq_true rfl) (by first | rfl | exact bI_nar _) (by first | rfl | decide) ?_
      rw [upA_up]
      refine g_aload_n X rfl rfl ?_
      refine g_lconst X rfl (v := 0) (by decide) ?_
      refine g_put X rfl flX8_80 rfl (ci := 8) rfl (by (repeat (first | exact hM | exact upA_eq | refine (upA_ne (by omega)).trans ?_))) (Nat.le_of_ble_eq_true rfl) (by first | rfl | exact bI_nar _) (by first | rfl | decide) ?_
      rw [upA_up]
      refine g_aload_n X rfl rfl ?_
      refine g_get X rfl flX8_77 (ci := 8) rfl (by (repeat (first | exact hM | exact upA_eq | refine (upA_ne (by omega)).trans ?_))) rfl ?_
      refine g_iconst X rfl (v := nI 3) (by decide) ?_
      refine g_icmp_ne X rfl (fun _ => ?_) (fun h => absurd h (by decide))
      exact lp_X8_stepW l D cy B od (fr := fr) (kd := kd) (num := num) hX (hQ 0 (scan (leR tx) len pp, nI 1, pp, nm) (NumK.no (by show ¬ nI 1 = nI 2; decide)) (by rw [tokAt, if_neg (by omega), if_pos hyl.2])) X (len + 1) pp _ rfl (by omega) (by omega) (by omega)
  · have hge : len ≤ pp := Nat.not_lt.mp (fun q => h1 (by rw [pk_at q]; exact hX.2.2.2 pp q))
    refine g_iconst X rfl (v := nI 0) (by decide) ?_
    refine g_goto X rfl ?_
    refine g_put X rfl flX8_77 rfl (ci := 8) rfl (by (repeat (first | exact hM | exact upA_eq | refine (upA_ne (by omega)).trans ?_))) (Nat.le_of_ble_eq_true rfl) (by first | rfl | exact bI_nar _) (by first | rfl | decide) ?_
    rw [upA_up]
    refine g_aload_n X rfl rfl ?_
    refine g_lconst X rfl (v := 0) (by decide) ?_
    refine g_put X rfl flX8_80 rfl (ci := 8) rfl (by (repeat (first | exact hM | exact upA_eq | refine (upA_ne (by omega)).trans ?_))) (Nat.le_of_ble_eq_true rfl) (by first | rfl | exact bI_nar _) (by first | rfl | decide) ?_
    rw [upA_up]
    refine g_aload_n X rfl rfl ?_
    refine g_get X rfl flX8_77 (ci := 8) rfl (by (repeat (first | exact hM | exact upA_eq | refine (upA_ne (by omega)).trans ?_))) rfl ?_
    refine g_iconst X rfl (v := nI 3) (by decide) ?_
    refine g_icmp_ne X rfl (fun _ => ?_) (fun h => absurd h (by decide))
    refine g_aload_n X rfl rfl ?_
    refine g_get X rfl flX8_77 (ci := 8) rfl (by (repeat (first | exact hM | exact upA_eq | refine (upA_ne (by omega)).trans ?_))) rfl ?_
    refine g_iconst X rfl (v := nI 1) (by decide) ?_
    refine g_icmp_ne X rfl (fun _ => ?_) (fun h => absurd h (by decide))
    refine g_aload_n X rfl rfl ?_
    refine g_get X rfl flX8_77 (ci := 8) rfl (by (repeat (first | exact hM | exact upA_eq | refine (upA_ne (by omega)).trans ?_))) rfl ?_
    refine g_iconst X rfl (v := nI 2) (by decide) ?_
    refine g_icmp_ne X rfl (fun _ => ?_) (fun h => absurd h (by decide))
    refine g_vret X rfl rfl (Nat.le_of_ble_eq_true rfl) (Nat.le_of_ble_eq_true rfl) ⟨rfl, ?_⟩
    exact hQ 0 (pp, nI 0, pp, nm) (NumK.no (by show ¬ nI 0 = nI 2; decide)) (by rw [tokAt, if_pos (by omega)])
set_option maxRecDepth 100000 in
set_option maxHeartbeats 400000 in
theorem lp_X8_stepB (l : Launch) (D : va_G) (cy : Nat → ClassId) (B : Nat) (od : Nat → Option Nat) {p : Program} {e : Env} {s : State} {m : MethodId} {args : Array Value} {below : List Frame} {meth : Method} {c : Code} {A : AH} {z : Nat} {th fr kd wr : Int32} {num : Int64} {len en : Nat} {td sv : Int32} {mb tx : Nat → Int32} (hX : TX cy A len mb tx) {pp : Nat} {nm : Int32} {Qf : Option Value → AH → Prop} (hQ : ∀ (n : Int64) (tk : TK), NumK n tk → tk = tokAt tx len pp nm → Qf none (upA A 231 (mP th len (nI tk.1) (nI tk.2.2.1) tk.2.1 wr n en td sv))) (X : Cx p s m args meth c D cy B od cX8_step 2 tX8_step RX8 none) : ∀ (k i : Nat) (o0 : Option Value) (_ : scan (spR tx) len i = pp), 0 ≤ i → i ≤ len → len - i < k → G p l e rmX8_step s m args below meth c D B od 2 tX8_step (FinQ false D B od (fun v A' z' => z' = z ∧ (Qf) v A') (fun _ _ => True) args s below rmX8_step.cells rmX8_step.slots) 0 0 (upA A 231 (mP th len (nI i) fr kd wr num en td sv)) z 0 [some (.ref 231), o0] [] := by
  intro k
  induction k with
  | zero => intro i _ _ _ _ h; omega
  | succ k ih =>
    intro i o0 o1 hlo hi hk
    obtain ⟨hb, hlen, hal, hpos⟩ := id hX
    refine g_aload_n X rfl rfl ?_
    refine g_aload_n X rfl rfl ?_
    refine g_get X rfl flX8_60 (ci := 8) rfl (by (repeat (first | exact hM | exact upA_eq | refine (upA_ne (by omega)).trans ?_))) rfl ?_
    refine g_rV X rfl lcX8_peek lmX8_63 lsX8_peek (cr_X8_peek l D cy B od upA_eq (hX.up (by decide)) (i := i) (by omega)) (ci := 8) (by (repeat (first | exact hM | exact upA_eq | refine (upA_ne (by omega)).trans ?_))) rfl rfl rfl (Nat.le_of_ble_eq_true rfl) ⟨⟨by decide, by decide⟩, rfl, rfl⟩ ⟨Nat.le_of_ble_eq_true rfl, Nat.le_of_ble_eq_true rfl⟩ ?_
    refine g_bipush X rfl (v := nI 32) (by decide) ?_
    refine g_icmp_ne X rfl (fun h1 => ?_) (fun h1 => ?_)
    · have hq := pk_nsp h1
      have hip : pp = i := by rw [← o1]; exact scan_no hq
      subst hip
      exact tl_X8_step l D cy B od hX hQ (by omega) X
    · have hq := pk_sp h1
      refine g_aload_n X rfl rfl ?_
      refine g_dup X rfl rfl ?_
      refine g_get X rfl flX8_60 (ci := 8) rfl (by (repeat (first | exact hM | exact upA_eq | refine (upA_ne (by omega)).trans ?_))) rfl ?_
      refine g_iconst X rfl (v := nI 1) (by decide) ?_
      refine g_iadd X rfl ?_
      rw [nI_add]
      refine g_put X rfl flX8_60 rfl (ci := 8) rfl (by (repeat (first | exact hM | exact upA_eq | refine (upA_ne (by omega)).trans ?_))) (Nat.le_of_ble_eq_true rfl) (by first | rfl | exact bI_nar _) (by first | rfl | decide) ?_
      rw [upA_up]
      refine g_goto X rfl ?_
      exact ih (i + 1) _ (by rw [← scan_go hq.1 hq.2]; exact o1) (by omega) (by omega) (by omega)
set_option maxRecDepth 100000 in
set_option maxHeartbeats 400000 in
theorem cm_X8_step (l : Launch) (D : va_G) (cy : Nat → ClassId) (B : Nat) (od : Nat → Option Nat) {A : AH} {th fr kd wr nm : Int32} {num : Int64} {len en : Nat} {td sv : Int32} {mb tx : Nat → Int32} {a9 : Nat} (hM : A 231 = some (mP th len (nI a9) fr kd wr num en td sv)) (hX : TX cy A len mb tx) (ha : a9 ≤ len) : CM l D cy B od yX8_step cX8_step 2 none rmX8_step [.ref 231] A (fun v A' => v = none ∧ ∃ (n : Int64) (tk : TK), NumK n tk ∧ tk = tokAt tx len (scan (spR tx) len a9) nm ∧ A' = upA A 231 (mP th len (nI tk.1) (nI tk.2.2.1) tk.2.1 wr n en td sv)) := by
  intro z
  refine CT.of (by decide) tX8_step okX8_step (Nat.le_of_ble_eq_true rfl) (q0 := tX8_step[0]) rfl rfl ?_
  intro p e s m args below meth c X _
  refine G.cast (A2 := upA A 231 (mP th len (nI a9) fr kd wr num en td sv)) (upA_same hM).symm ?_
  exact lp_X8_stepB l D cy B od hX (pp := scan (spR tx) len a9) (nm := nm) (Qf := fun v A' => v = none ∧ ∃ (n : Int64) (tk : TK), NumK n tk ∧ tk = tokAt tx len (scan (spR tx) len a9) nm ∧ A' = upA A 231 (mP th len (nI tk.1) (nI tk.2.2.1) tk.2.1 wr n en td sv)) (fun n tk h1 h2 => ⟨rfl, n, tk, h1, h2, rfl⟩) X (len + 1) a9 _ rfl (by omega) (by omega) (by omega)
