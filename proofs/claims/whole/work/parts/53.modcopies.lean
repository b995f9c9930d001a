/-! 53: the reference: bytes, copies, texts -/
theorem upA_sw {A : AH} {i j : Nat} {x y x2 y2 : va_E} (h : i ≠ j) : upA (upA (upA (upA A i x) j y) i x2) j y2 = upA (upA A i x2) j y2 := by
  rw [upA_comm (i := j) (j := i) (fun q => h q.symm), upA_up, upA_up]
/-- the bytes of five words -/
def wdM (a b c d e : Int32) (k : Nat) : Int32 := if k < 4 then a else if k < 8 then b else if k < 12 then c else if k < 16 then d else e
def byM (a b c d e : Int32) (k : Nat) : Int32 := byW (wdM a b c d e k) (k % 4)
theorem toInt_c (y : Int32) : y.toInt = if 2 * y.toBitVec.toNat < 2 ^ 32 then (y.toBitVec.toNat : Int) else (y.toBitVec.toNat : Int) - 2 ^ 32 := by
  show y.toBitVec.toInt = _
  rw [BitVec.toInt_eq_toNat_cond]
  rfl
theorem sar_k (w : Int32) (k : Nat) (s : Int32) (hs : (s.toBitVec.smod 32).toNat = k) (t : Int32) (ht : ((t.toUInt32 &&& Int32.toUInt32 31).toBitVec % 32).toNat = k) (hk : k = 0 ∨ k = 8 ∨ k = 16 ∨ k = 24) : (w >>> s) &&& nI 255 = (w.toUInt32 >>> (t.toUInt32 &&& Int32.toUInt32 31)).toInt32 &&& nI 255 := by
  rw [pk_and _ 8 (by decide), pk_and _ 8 (by decide), pk_ushr w t k ht]
  have h1 := pk_shr w s k hs
  rw [Int.shiftRight_eq_div_pow] at h1
  have h2 := toInt_c (w >>> s)
  have h3 := toInt_c w
  have h4 : (w >>> s).toBitVec.toNat < 2 ^ 32 := (w >>> s).toBitVec.isLt
  have h5 : w.toBitVec.toNat < 2 ^ 32 := w.toBitVec.isLt
  congr 1
  rcases hk with rfl | rfl | rfl | rfl <;> (simp only [Nat.reducePow] at *; split at h2 <;> split at h3 <;> omega)
theorem sar_eq (w : Int32) : ∀ k, k < 4 → (w >>> (nI (24 - 8 * k) &&& 31)) &&& nI 255 = byW w k
  | 0, _ => sar_k w 24 _ (by decide) (nI 24) (by decide) (by decide)
  | 1, _ => sar_k w 16 _ (by decide) (nI 16) (by decide) (by decide)
  | 2, _ => sar_k w 8 _ (by decide) (nI 8) (by decide) (by decide)
  | 3, _ => sar_k w 0 _ (by decide) (nI 0) (by decide) (by decide)
  | k + 4, h => absurd h (by omega)
def mPu (st : (Nat → Int32) × Nat) (g : Nat → Int32) : Nat → (Nat → Int32) × Nat
  | 0 => st
  | k + 1 => pushB (mPu st g k) (g k)
abbrev cM (g : Nat → Int32) : Nat → Nat := cntN (fun i => !(g i == 0))
theorem mPu_n (st : (Nat → Int32) × Nat) (g : Nat → Int32) : ∀ k, (mPu st g k).2 = st.2 + cM g k
  | 0 => rfl
  | k + 1 => by
    have ih := mPu_n st g k
    rw [mPu, cM, cntN]
    unfold pushB
    by_cases h : g k = 0
    · rw [if_pos h, if_neg (by simp [h]), ih]
    · rw [if_neg h, if_pos (by simp [h])]
      show (mPu st g k).2 + 1 = _
      rw [ih]; exact Nat.add_assoc _ _ _
theorem cntN_mono (q : Nat → Bool) : ∀ a b, cntN q a ≤ cntN q (a + b)
  | a, 0 => Nat.le_refl _
  | a, b + 1 => by
    have ih := cntN_mono q a b
    rw [show a + (b + 1) = (a + b) + 1 from rfl, cntN]
    split <;> omega
theorem cntN_add (q : Nat → Bool) (a : Nat) : ∀ b, cntN q (a + b) = cntN q a + cntN (fun i => q (a + i)) b
  | 0 => rfl
  | b + 1 => by
    rw [show a + (b + 1) = (a + b) + 1 from rfl, cntN, cntN, cntN_add q a b]
    split <;> omega
theorem cntN_ext {q q2 : Nat → Bool} : ∀ n, (∀ i, i < n → q i = q2 i) → cntN q n = cntN q2 n
  | 0, _ => rfl
  | n + 1, h => by rw [cntN, cntN, h n (by omega), cntN_ext n (fun i hi => h i (by omega))]
theorem byM_at (a b c d e : Int32) : (∀ i, i < 4 → byM a b c d e (0 + i) = byW a i) ∧ (∀ i, i < 4 → byM a b c d e (4 + i) = byW b i) ∧ (∀ i, i < 4 → byM a b c d e (8 + i) = byW c i) ∧ (∀ i, i < 4 → byM a b c d e (12 + i) = byW d i) ∧ ∀ i, i < 4 → byM a b c d e (16 + i) = byW e i := by
  unfold byM wdM
  refine ⟨fun i hi => ?_, fun i hi => ?_, fun i hi => ?_, fun i hi => ?_, fun i hi => ?_⟩
  · rw [if_pos (by omega), show (0 + i) % 4 = i by omega]
  · rw [if_neg (by omega), if_pos (by omega), show (4 + i) % 4 = i by omega]
  · rw [if_neg (by omega), if_neg (by omega), if_pos (by omega), show (8 + i) % 4 = i by omega]
  · rw [if_neg (by omega), if_neg (by omega), if_neg (by omega), if_pos (by omega), show (12 + i) % 4 = i by omega]
  · rw [if_neg (by omega), if_neg (by omega), if_neg (by omega), if_neg (by omega), show (16 + i) % 4 = i by omega]
theorem cM_20 (a b c d e : Int32) : cM (byM a b c d e) 20 = bCnt a 4 + bCnt b 4 + bCnt c 4 + bCnt d 4 + bCnt e 4 := by
  obtain ⟨h0, h1, h2, h3, h4⟩ := byM_at a b c d e
  have q0 : ∀ n (w : Int32), (∀ i, i < 4 → byM a b c d e (n + i) = byW w i) → cntN (fun i => (fun i => !(byM a b c d e i == 0)) (n + i)) 4 = bCnt w 4 := fun n w h => cntN_ext 4 (fun i hi => by show (!(byM a b c d e (n + i) == 0)) = _; rw [h i hi])
  show cntN (fun i => !(byM a b c d e i == 0)) 20 = _
  rw [show 20 = 0 + 4 + 4 + 4 + 4 + 4 from rfl, cntN_add, cntN_add, cntN_add, cntN_add, cntN_add]
  rw [show (0 + 4 + 4 + 4 + 4 : Nat) = 16 from rfl, show (0 + 4 + 4 + 4 : Nat) = 12 from rfl, show (0 + 4 + 4 : Nat) = 8 from rfl, show (0 + 4 : Nat) = 4 from rfl]
  rw [q0 0 a h0, q0 4 b h1, q0 8 c h2, q0 12 d h3, q0 16 e h4]
  show 0 + _ + _ + _ + _ + _ = _
  omega
def Bu (s1 s2 : (Nat → Int32) × Nat) : Prop := s1.2 = s2.2 ∧ ∀ j, j < s2.2 → s1.1 j = s2.1 j
theorem Bu.push {s1 s2 : (Nat → Int32) × Nat} {v : Int32} (h : Bu s1 s2) (hl : (pushB s1 v).2 ≤ 400) : Bu (pushB s1 v) (pushC s2 v) := by
  unfold pushB pushC at *
  by_cases hv : v = 0
  · rw [if_pos hv, if_pos (Or.inl hv)]; exact h
  · rw [if_neg hv] at hl ⊢
    have h1 := h.1
    have h2 : s1.2 + 1 ≤ 400 := hl
    rw [if_neg (by rintro (q | q); exact hv q; omega)]
    refine ⟨by show s1.2 + 1 = s2.2 + 1; omega, fun j hj => ?_⟩
    have hj2 : j < s2.2 + 1 := hj
    show upd s1.1 s1.2 v j = upd s2.1 s2.2 v j
    rw [h1]
    by_cases e : j = s2.2
    · subst e; rw [pk_us, pk_us]
    · rw [pk_un e, pk_un e]; exact h.2 j (by omega)
theorem Bu.word {st s2 : (Nat → Int32) × Nat} {g : Nat → Int32} {n : Nat} {w : Int32} (h : Bu (mPu st g n) s2) (hw : ∀ i, i < 4 → g (n + i) = byW w i) (hl : st.2 + cM g 20 ≤ 400) (hn : n ≤ 16) : ∀ r, r ≤ 4 → Bu (mPu st g (n + r)) (putW s2 w r)
  | 0, _ => h
  | r + 1, hr => by
    have ih := Bu.word h hw hl hn r (by omega)
    have e : pushB (mPu st g (n + r)) (byW w r) = mPu st g (n + (r + 1)) := by rw [← hw r (by omega)]; rfl
    rw [putW, ← e]
    refine ih.push ?_
    rw [e, mPu_n]
    have := cntN_mono (fun i => !(g i == 0)) (n + (r + 1)) (20 - (n + (r + 1)))
    rw [show n + (r + 1) + (20 - (n + (r + 1))) = 20 by omega] at this
    show st.2 + cntN _ _ ≤ 400
    have h9 : st.2 + cntN (fun i => !(g i == 0)) 20 ≤ 400 := hl
    omega
theorem Bu.all {st s2 : (Nat → Int32) × Nat} {a b c d e : Int32} (h : Bu st s2) (hl : st.2 + cM (byM a b c d e) 20 ≤ 400) : Bu (mPu st (byM a b c d e) 20) (putL s2 [a, b, c, d, e]) := by
  obtain ⟨h0, h1, h2, h3, h4⟩ := byM_at a b c d e
  have b0 := Bu.word (n := 0) h h0 hl (by decide) 4 (by decide)
  have b1 := Bu.word (n := 4) b0 h1 hl (by decide) 4 (by decide)
  have b2 := Bu.word (n := 8) b1 h2 hl (by decide) 4 (by decide)
  have b3 := Bu.word (n := 12) b2 h3 hl (by decide) 4 (by decide)
  exact Bu.word (n := 16) b3 h4 hl (by decide) 4 (by decide)
theorem byW_rng (w : Int32) (i : Nat) : ∃ n, n ≤ 255 ∧ byW w i = nI n := by
  unfold byW
  rw [pk_and _ 8 (by decide)]
  exact ⟨_, by omega, rfl⟩
theorem mPu_rng {st : (Nat → Int32) × Nat} {g : Nat → Int32} (h : ∀ j, j < st.2 → ∃ n, n ≤ 255 ∧ st.1 j = nI n) (hg : ∀ i, ∃ n, n ≤ 255 ∧ g i = nI n) : ∀ k j, j < (mPu st g k).2 → ∃ n, n ≤ 255 ∧ (mPu st g k).1 j = nI n
  | 0 => h
  | k + 1 => by
    have ih := mPu_rng h hg k
    intro j
    rw [mPu]
    unfold pushB
    by_cases hv : g k = 0
    · rw [if_pos hv]; exact ih j
    · rw [if_neg hv]
      intro hj
      have hj2 : j < (mPu st g k).2 + 1 := hj
      show ∃ n, n ≤ 255 ∧ upd (mPu st g k).1 (mPu st g k).2 (g k) j = nI n
      by_cases e : j = (mPu st g k).2
      · rw [e, pk_us]; exact hg k
      · rw [pk_un e]; exact ih j (by omega)
set_option maxRecDepth 100000 in
set_option maxHeartbeats 400000 in
theorem cr_X8_byteOf (l : Launch) (D : va_G) (cy : Nat → ClassId) (B : Nat) (od : Nat → Option Nat) {A : AH} {a9 b9 c9 d9 e9 : Int32} {k9 : Nat} (hk : k9 < 20) : CR l D cy B od yX8_byteOf cX8_byteOf 7 (some .int) rmX8_byteOf [.int a9, .int b9, .int c9, .int d9, .int e9, .int (nI k9)] A (.int (byM a9 b9 c9 d9 e9 k9)) := by
  intro z
  refine CT.of (by decide) tX8_byteOf okX8_byteOf (Nat.le_of_ble_eq_true rfl) (q0 := tX8_byteOf[0]) rfl rfl ?_
  intro p e s m args below meth c X _
  refine g_iload X rfl rfl ?_
  refine g_iconst X rfl (v := nI 4) (by decide) ?_
  first | refine g_ic_geN X rfl (by omega) (by omega) (fun h1 => ?_) (fun h1 => ?_) | refine g_icmp_ge X rfl (fun h1 => ?_) (fun h1 => ?_)
  · refine g_iload X rfl rfl ?_
    refine g_bipush X rfl (v := nI 8) (by decide) ?_
    first | refine g_ic_geN X rfl (by omega) (by omega) (fun h2 => ?_) (fun h2 => ?_) | refine g_icmp_ge X rfl (fun h2 => ?_) (fun h2 => ?_)
    · refine g_iload X rfl rfl ?_
      refine g_bipush X rfl (v := nI 12) (by decide) ?_
      first | refine g_ic_geN X rfl (by omega) (by omega) (fun h3 => ?_) (fun h3 => ?_) | refine g_icmp_ge X rfl (fun h3 => ?_) (fun h3 => ?_)
      · refine g_iload X rfl rfl ?_
        refine g_bipush X rfl (v := nI 16) (by decide) ?_
        first | refine g_ic_geN X rfl (by omega) (by omega) (fun h4 => ?_) (fun h4 => ?_) | refine g_icmp_ge X rfl (fun h4 => ?_) (fun h4 => ?_)
        · refine g_iload X rfl rfl ?_
          refine g_istore X rfl (by decide) ?_
          refine g_iload X rfl rfl ?_
          refine g_bipush X rfl (v := nI 24) (by decide) ?_
          refine g_bipush X rfl (v := nI 8) (by decide) ?_
          refine g_iload X rfl rfl ?_
          refine g_iconst X rfl (v := nI 4) (by decide) ?_
          refine g_irem X rfl (by decide) ?_
          rw [pk_rem (by omega) (by decide) (by decide)]
          refine g_imul X rfl ?_
          rw [pk_mul]
          refine g_isub X rfl ?_
          rw [pk_sub (by omega)]
          refine g_ishr X rfl ?_
          refine g_sipush X rfl (v := nI 255) (by decide) ?_
          refine g_iand X rfl ?_
          rw [sar_eq _ (k9 % 4) (by omega)]
          refine g_iret X rfl rfl (by first | rfl | exact bI_nar _ | decide) (Nat.le_refl _) (Nat.le_refl _) ⟨?_, rfl, rfl⟩
          unfold byM wdM
          first | rw [if_pos (show k9 < 4 from by omega)] | rw [if_neg (show ¬ k9 < 4 from by omega), if_pos (show k9 < 8 from by omega)] | rw [if_neg (show ¬ k9 < 4 from by omega), if_neg (show ¬ k9 < 8 from by omega), if_pos (show k9 < 12 from by omega)] | rw [if_neg (show ¬ k9 < 4 from by omega), if_neg (show ¬ k9 < 8 from by omega), if_neg (show ¬ k9 < 12 from by omega), if_pos (show k9 < 16 from by omega)] | rw [if_neg (show ¬ k9 < 4 from by omega), if_neg (show ¬ k9 < 8 from by omega), if_neg (show ¬ k9 < 12 from by omega), if_neg (show ¬ k9 < 16 from by omega)]
        · refine g_iload_n X rfl rfl ?_
          refine g_goto X rfl ?_
          refine g_istore X rfl (by decide) ?_
          refine g_iload X rfl rfl ?_
          refine g_bipush X rfl (v := nI 24) (by decide) ?_
          refine g_bipush X rfl (v := nI 8) (by decide) ?_
          refine g_iload X rfl rfl ?_
          refine g_iconst X rfl (v := nI 4) (by decide) ?_
          refine g_irem X rfl (by decide) ?_
          rw [pk_rem (by omega) (by decide) (by decide)]
          refine g_imul X rfl ?_
          rw [pk_mul]
          refine g_isub X rfl ?_
          rw [pk_sub (by omega)]
          refine g_ishr X rfl ?_
          refine g_sipush X rfl (v := nI 255) (by decide) ?_
          refine g_iand X rfl ?_
          rw [sar_eq _ (k9 % 4) (by omega)]
          refine g_iret X rfl rfl (by first | rfl | exact bI_nar _ | decide) (Nat.le_refl _) (Nat.le_refl _) ⟨?_, rfl, rfl⟩
          unfold byM wdM
          first | rw [if_pos (show k9 < 4 from by omega)] | rw [if_neg (show ¬ k9 < 4 from by omega), if_pos (show k9 < 8 from by omega)] | rw [if_neg (show ¬ k9 < 4 from by omega), if_neg (show ¬ k9 < 8 from by omega), if_pos (show k9 < 12 from by omega)] | rw [if_neg (show ¬ k9 < 4 from by omega), if_neg (show ¬ k9 < 8 from by omega), if_neg (show ¬ k9 < 12 from by omega), if_pos (show k9 < 16 from by omega)] | rw [if_neg (show ¬ k9 < 4 from by omega), if_neg (show ¬ k9 < 8 from by omega), if_neg (show ¬ k9 < 12 from by omega), if_neg (show ¬ k9 < 16 from by omega)]
      · refine g_iload_n X rfl rfl ?_
        refine g_goto X rfl ?_
        refine g_istore X rfl (by decide) ?_
        refine g_iload X rfl rfl ?_
        refine g_bipush X rfl (v := nI 24) (by decide) ?_
        refine g_bipush X rfl (v := nI 8) (by decide) ?_
        refine g_iload X rfl rfl ?_
        refine g_iconst X rfl (v := nI 4) (by decide) ?_
        refine g_irem X rfl (by decide) ?_
        rw [pk_rem (by omega) (by decide) (by decide)]
        refine g_imul X rfl ?_
        rw [pk_mul]
        refine g_isub X rfl ?_
        rw [pk_sub (by omega)]
        refine g_ishr X rfl ?_
        refine g_sipush X rfl (v := nI 255) (by decide) ?_
        refine g_iand X rfl ?_
        rw [sar_eq _ (k9 % 4) (by omega)]
        refine g_iret X rfl rfl (by first | rfl | exact bI_nar _ | decide) (Nat.le_refl _) (Nat.le_refl _) ⟨?_, rfl, rfl⟩
        unfold byM wdM
        first | rw [if_pos (show k9 < 4 from by omega)] | rw [if_neg (show ¬ k9 < 4 from by omega), if_pos (show k9 < 8 from by omega)] | rw [if_neg (show ¬ k9 < 4 from by omega), if_neg (show ¬ k9 < 8 from by omega), if_pos (show k9 < 12 from by omega)] | rw [if_neg (show ¬ k9 < 4 from by omega), if_neg (show ¬ k9 < 8 from by omega), if_neg (show ¬ k9 < 12 from by omega), if_pos (show k9 < 16 from by omega)] | rw [if_neg (show ¬ k9 < 4 from by omega), if_neg (show ¬ k9 < 8 from by omega), if_neg (show ¬ k9 < 12 from by omega), if_neg (show ¬ k9 < 16 from by omega)]
    · refine g_iload_n X rfl rfl ?_
      refine g_goto X rfl ?_
      refine g_istore X rfl (by decide) ?_
      refine g_iload X rfl rfl ?_
      refine g_bipush X rfl (v := nI 24) (by decide) ?_
      refine g_bipush X rfl (v := nI 8) (by decide) ?_
      refine g_iload X rfl rfl ?_
      refine g_iconst X rfl (v := nI 4) (by decide) ?_
      refine g_irem X rfl (by decide) ?_
      rw [pk_rem (by omega) (by decide) (by decide)]
      refine g_imul X rfl ?_
      rw [pk_mul]
      refine g_isub X rfl ?_
      rw [pk_sub (by omega)]
      refine g_ishr X rfl ?_
      refine g_sipush X rfl (v := nI 255) (by decide) ?_
      refine g_iand X rfl ?_
      rw [sar_eq _ (k9 % 4) (by omega)]
      refine g_iret X rfl rfl (by first | rfl | exact bI_nar _ | decide) (Nat.le_refl _) (Nat.le_refl _) ⟨?_, rfl, rfl⟩
      unfold byM wdM
      first | rw [if_pos (show k9 < 4 from by omega)] | rw [if_neg (show ¬ k9 < 4 from by omega), if_pos (show k9 < 8 from by omega)] | rw [if_neg (show ¬ k9 < 4 from by omega), if_neg (show ¬ k9 < 8 from by omega), if_pos (show k9 < 12 from by omega)] | rw [if_neg (show ¬ k9 < 4 from by omega), if_neg (show ¬ k9 < 8 from by omega), if_neg (show ¬ k9 < 12 from by omega), if_pos (show k9 < 16 from by omega)] | rw [if_neg (show ¬ k9 < 4 from by omega), if_neg (show ¬ k9 < 8 from by omega), if_neg (show ¬ k9 < 12 from by omega), if_neg (show ¬ k9 < 16 from by omega)]
  · refine g_iload_n X rfl rfl ?_
    refine g_goto X rfl ?_
    refine g_istore X rfl (by decide) ?_
    refine g_iload X rfl rfl ?_
    refine g_bipush X rfl (v := nI 24) (by decide) ?_
    refine g_bipush X rfl (v := nI 8) (by decide) ?_
    refine g_iload X rfl rfl ?_
    refine g_iconst X rfl (v := nI 4) (by decide) ?_
    refine g_irem X rfl (by decide) ?_
    rw [pk_rem (by omega) (by decide) (by decide)]
    refine g_imul X rfl ?_
    rw [pk_mul]
    refine g_isub X rfl ?_
    rw [pk_sub (by omega)]
    refine g_ishr X rfl ?_
    refine g_sipush X rfl (v := nI 255) (by decide) ?_
    refine g_iand X rfl ?_
    rw [sar_eq _ (k9 % 4) (by omega)]
    refine g_iret X rfl rfl (by first | rfl | exact bI_nar _ | decide) (Nat.le_refl _) (Nat.le_refl _) ⟨?_, rfl, rfl⟩
    unfold byM wdM
    first | rw [if_pos (show k9 < 4 from by omega)] | rw [if_neg (show ¬ k9 < 4 from by omega), if_pos (show k9 < 8 from by omega)] | rw [if_neg (show ¬ k9 < 4 from by omega), if_neg (show ¬ k9 < 8 from by omega), if_pos (show k9 < 12 from by omega)] | rw [if_neg (show ¬ k9 < 4 from by omega), if_neg (show ¬ k9 < 8 from by omega), if_neg (show ¬ k9 < 12 from by omega), if_pos (show k9 < 16 from by omega)] | rw [if_neg (show ¬ k9 < 4 from by omega), if_neg (show ¬ k9 < 8 from by omega), if_neg (show ¬ k9 < 12 from by omega), if_neg (show ¬ k9 < 16 from by omega)]
set_option maxRecDepth 100000 in
set_option maxHeartbeats 400000 in
theorem cm_X8_truncate (l : Launch) (D : va_G) (cy : Nat → ClassId) (B : Nat) (od : Nat → Option Nat) {A : AH} {f : MF} {r : Nat → Int32} {Z : SV} {S : StV} (hm : MdR cy A f r Z S) (hg : Rng Z S) (hgz : RngZ Z) {mb rd sv hy : Nat → Int32} (hD : MdA cy A f mb rd r sv hy) (hE : f.2.2.1 ≤ 8) (hlen : f.2.1.1 ≤ 400)  {x : Int32} : CM l D cy B od yX8_truncate cX8_truncate 2 (some .int) rmX8_truncate [.ref 231, .int x] A (fun v A' => v = some (mV (.int (nI 0)) (ocTrun ((4, f.2.1.1, 0, S, Z) : LV) x)) ∧ ((∃ E, (ocTrun ((4, f.2.1.1, 0, S, Z) : LV) x) = .inl E ∧ A' = upA A 231 (moE (nI (cX [eIAE] (ocTrun ((4, f.2.1.1, 0, S, Z) : LV) x)), f.2))) ∨ ((∃ y9, (ocTrun ((4, f.2.1.1, 0, S, Z) : LV) x) = .inr y9) ∧ (MOff A A' ∧ MdA cy A' (fL (nI 0, f.2) x.toNatClampNeg) (mb) (rd) (r) (sv) (hy))))) := by
  intro z
  refine CT.of (by decide) tX8_truncate okX8_truncate (Nat.le_of_ble_eq_true rfl) (q0 := tX8_truncate[0]) rfl rfl ?_
  intro p e s m args below meth c X _
  have hM := hm.1
  refine g_aload_n X rfl rfl ?_
  refine g_iconst X rfl (v := nI 0) (by decide) ?_
  refine g_put X rfl flX8_41 rfl (ci := 8) rfl (by (repeat (first | exact hM | exact upA_eq | refine (upA_ne (by omega)).trans ?_))) (Nat.le_of_ble_eq_true rfl) (by first | rfl | exact bI_nar _) (by first | rfl | decide) ?_
  refine G.cast (A2 := upA A 231 (moE (nI 0, f.2))) rfl ?_
  obtain ⟨A1, hA1⟩ : ∃ A1, A1 = upA A 231 (moE (nI 0, f.2)) := ⟨_, rfl⟩
  refine G.cast (A2 := A1) hA1.symm ?_
  have hm := hm.thr (nI 0)
  rw [← hA1] at hm
  obtain ⟨hM, hn, hc, hw, hwb, hz⟩ := id hm
  obtain ⟨c0, ⟨c1, c2, c3, c4, c5⟩, cb, ⟨c16, cr⟩, ⟨c35, ce⟩, ⟨c456, ca⟩, c517, cp⟩ := id hc
  obtain ⟨w1, w2, w3, w4, w5⟩ := id hw
  have hD := hD.uf (nI 0, f.2)
  rw [← hA1] at hD
  obtain ⟨hM, hb, hr, hn, hs, hh, -⟩ := id hD
  have hO1 := MOff.r1 hA1
  refine g_aload_n X rfl rfl ?_
  refine g_iload_n X rfl rfl ?_
  refine g_i2l X rfl ?_
  refine g_lconst X rfl (v := 0) (by decide) ?_
  refine g_aload_n X rfl rfl ?_
  refine g_get X rfl flX8_49 (ci := 8) rfl (by (repeat (first | exact hM | exact upA_eq | refine (upA_ne (by omega)).trans ?_))) rfl ?_
  refine g_i2l X rfl ?_
  refine g_rS X rfl lcX8_in lmX8_56 stX8_in (cr_X8_in l D cy B od) rfl rfl (Nat.le_of_ble_eq_true rfl) ⟨⟨by decide, by decide⟩, rfl, rfl⟩ ⟨Nat.le_of_ble_eq_true rfl, Nat.le_of_ble_eq_true rfl⟩ ?_
  rw [in64 (lo := nI 0) (hi := nI f.2.1.1) (by decide) rfl]
  refine g_iconst X rfl (v := nI 1) (by decide) ?_
  refine g_mV X rfl lcX8_fails lmX8_52 lsX8_fails (cm_X8_failsB l D cy B od (by (repeat (first | exact hM | exact upA_eq | refine (upA_ne (by omega)).trans ?_)))) (ci := 8) (by (repeat (first | exact hM | exact upA_eq | refine (upA_ne (by omega)).trans ?_))) rfl rfl rfl (Nat.le_of_ble_eq_true rfl) ⟨⟨by decide, by decide⟩, rfl, rfl⟩ ⟨Nat.le_of_ble_eq_true rfl, Nat.le_of_ble_eq_true rfl⟩ (fun v1 A1 q1 => ?_)
  rcases q1 with ⟨h1, rfl, rfl⟩ | ⟨h1, rfl, rfl⟩
  · obtain ⟨i9, hi9, e9⟩ := wi_of h1 (by have := hlen; omega)
    subst e9
    have hcl := nI_clamp (n := i9) (by omega)
    refine g_if_eq X rfl (fun _ => ?_) (fun h => absurd nI_0 h) 
    refine g_aload_n X rfl rfl ?_
    refine g_iload_n X rfl rfl ?_
    refine g_put X rfl flX8_49 rfl (ci := 8) rfl (by (repeat (first | exact hM | exact upA_eq | refine (upA_ne (by omega)).trans ?_))) (Nat.le_of_ble_eq_true rfl) (by first | rfl | exact bI_nar _) (by first | rfl | decide) ?_
    refine g_iload_n X rfl rfl ?_
    refine g_iret X rfl rfl (by first | rfl | exact bI_nar _ | decide) (Nat.le_of_ble_eq_true rfl) (Nat.le_of_ble_eq_true rfl) ⟨rfl, ?_⟩
    exact mG0 (f := f) (by first | (simp_all [ocTrun, nI_eq, vS, vZ, V9]; done) | (simp_all [ocTrun, nI_eq, vS, vZ, V9, nI_0, n10]; done) | (simp_all [ocTrun, nI_eq, vS, vZ, V9, nI_0, n10, ← Int32.not_le]; done) | (simp_all [ocTrun, nI_eq, vS, vZ, V9, ← Int64.not_le]; done) | (simp_all [ocTrun, nI_eq, vS, vZ, V9, nI_0, n10, ← Int64.not_le, ← Int32.not_le]; done)) ⟨(by repeat (first | exact hO1 | refine MOff.up ?_ (by decide) (by decide))), by rw [hcl]; exact hD.uf (fL (nI 0, f.2) i9)⟩
  · refine g_if_eq X rfl (fun h => absurd h n10) (fun _ => ?_)
    refine g_iconst X rfl (v := nI 0) (by decide) ?_
    refine g_iret X rfl rfl (by first | rfl | exact bI_nar _ | decide) (Nat.le_of_ble_eq_true rfl) (Nat.le_of_ble_eq_true rfl) ⟨rfl, ?_⟩
    exact mBx (E := eIAE) (by first | (simp_all [ocTrun, nI_eq, vS, vZ, V9]; done) | (simp_all [ocTrun, nI_eq, vS, vZ, V9, nI_0, n10]; done) | (simp_all [ocTrun, nI_eq, vS, vZ, V9, nI_0, n10, ← Int32.not_le]; done) | (simp_all [ocTrun, nI_eq, vS, vZ, V9, ← Int64.not_le]; done) | (simp_all [ocTrun, nI_eq, vS, vZ, V9, nI_0, n10, ← Int64.not_le, ← Int32.not_le]; done)) (by decide) hA1
set_option maxRecDepth 100000 in
set_option maxHeartbeats 400000 in
theorem lp_X8_save (l : Launch) (D : va_G) (cy : Nat → ClassId) (B : Nat) (od : Nat → Option Nat) {p : Program} {e : Env} {s : State} {m : MethodId} {args : Array Value} {below : List Frame} {meth : Method} {c : Code} {A : AH} {z : Nat} {f : MF} {mb rd r sv hy : Nat → Int32} (hD : MdA cy A f mb rd r sv hy) {Qf : Option Value → AH → Prop} (hQ : Qf (some (.int (r 35))) (upA (upA A 235 (.inl (cy 0, 522, .inl (cpF sv 0 r 522)))) 231 (moE (fSv f (nI 1))))) (X : Cx p s m args meth c D cy B od cX8_save 2 tX8_save RX8 (some .int)) : ∀ (k i : Nat), 0 ≤ i → i ≤ 522 → 522 - i < k → G p l e rmX8_save s m args below meth c D B od 2 tX8_save (FinQ false D B od (fun v A' z' => z' = z ∧ (Qf) v A') (fun _ _ => True) args s below rmX8_save.cells rmX8_save.slots) 0 0 (upA A 235 (.inl (cy 0, 522, .inl (cpF sv 0 (r) i)))) z 5 [some (.ref 231), some (.int (nI i))] [] := by
  intro k
  induction k with
  | zero => intro i _ _ h; omega
  | succ k ih =>
    intro i  hlo hi hk
    obtain ⟨hM, hb, hr, hn, hs, hh, -⟩ := id hD
    have hw : upA A 235 (.inl (cy 0, 522, .inl (cpF sv 0 (r) i))) 235 = some (.inl (cy 0, 522, .inl (cpF sv 0 (r) i))) := upA_eq
    refine g_iload_n X rfl rfl ?_
    refine g_sipush X rfl (v := nI 522) (by decide) ?_
    first | refine g_ic_geN X rfl (by omega) (by omega) (fun h1 => ?_) (fun h1 => ?_) | refine g_icmp_ge X rfl (fun h1 => ?_) (fun h1 => ?_)
    · refine g_aload_n X rfl rfl ?_
      refine g_iconst X rfl (v := nI 1) (by decide) ?_
      refine g_put X rfl flX8_170 rfl (ci := 8) rfl (by (repeat (first | exact hM | exact upA_eq | refine (upA_ne (by omega)).trans ?_))) (Nat.le_of_ble_eq_true rfl) (show narrow .boolean (.int (nI 1)) = .int (nI 1) from by decide) (by first | rfl | decide) ?_
      first | rw [upA_up] | skip
      refine g_aload_n X rfl rfl ?_
      refine g_get X rfl flX8_16 (ci := 8) rfl (by (repeat (first | exact hM | exact upA_eq | refine (upA_ne (by omega)).trans ?_))) rfl ?_
      refine g_bipush X rfl (v := nI 35) (by decide) ?_
      refine g_ialdN X rfl (by (repeat (first | exact hn | exact upA_eq | refine (upA_ne (by decide)).trans ?_))) (by omega) (by decide) ?_
      refine g_iret X rfl rfl (by first | rfl | exact bI_nar _ | decide) (Nat.le_of_ble_eq_true rfl) (Nat.le_of_ble_eq_true rfl) ⟨rfl, ?_⟩
      have e22 : i = 522 := by omega
      subst e22
      exact hQ
    · refine g_aload_n X rfl rfl ?_
      refine g_get X rfl flX8_19 (ci := 8) rfl (by (repeat (first | exact hM | exact upA_eq | refine (upA_ne (by omega)).trans ?_))) rfl ?_
      refine g_iload_n X rfl rfl ?_
      refine g_aload_n X rfl rfl ?_
      refine g_get X rfl flX8_16 (ci := 8) rfl (by (repeat (first | exact hM | exact upA_eq | refine (upA_ne (by omega)).trans ?_))) rfl ?_
      refine g_iload_n X rfl rfl ?_
      refine g_ialdN X rfl ((upA_ne (by decide)).trans hn) (by omega) (by decide) ?_
      refine g_iastN X rfl hw (by omega) (by decide) ?_
      rw [upA_up]
      refine g_iinc1 X rfl rfl (by decide) ?_
      refine g_goto X rfl ?_
      have K9 := ih (i + 1) (by omega) (by omega) (by omega)
      rw [show cpF sv 0 (r) (i + 1) = upd (cpF sv 0 (r) i) i ((r) i) by rw [← cpF_s, Nat.zero_add]] at K9
      exact K9
set_option maxRecDepth 100000 in
set_option maxHeartbeats 400000 in
theorem cm_X8_save (l : Launch) (D : va_G) (cy : Nat → ClassId) (B : Nat) (od : Nat → Option Nat) {A : AH} {f : MF} {r : Nat → Int32} {Z : SV} {S : StV} (hm : MdR cy A f r Z S) (hg : Rng Z S) (hgz : RngZ Z) {mb rd sv hy : Nat → Int32} (hD : MdA cy A f mb rd r sv hy) (hE : f.2.2.1 ≤ 8)  : CM l D cy B od yX8_save cX8_save 2 (some .int) rmX8_save [.ref 231] A (fun v A' => v = some (.int (nI S.1.1)) ∧ MOff A A' ∧ MdA cy A' (fSv (nI 0, f.2) (nI 1)) (mb) (rd) (r) (cpF sv 0 r 522) (hy)) := by
  intro z
  refine CT.of (by decide) tX8_save okX8_save (Nat.le_of_ble_eq_true rfl) (q0 := tX8_save[0]) rfl rfl ?_
  intro p e s m args below meth c X _
  have hM := hm.1
  refine g_aload_n X rfl rfl ?_
  refine g_iconst X rfl (v := nI 0) (by decide) ?_
  refine g_put X rfl flX8_41 rfl (ci := 8) rfl (by (repeat (first | exact hM | exact upA_eq | refine (upA_ne (by omega)).trans ?_))) (Nat.le_of_ble_eq_true rfl) (by first | rfl | exact bI_nar _) (by first | rfl | decide) ?_
  refine G.cast (A2 := upA A 231 (moE (nI 0, f.2))) rfl ?_
  obtain ⟨A1, hA1⟩ : ∃ A1, A1 = upA A 231 (moE (nI 0, f.2)) := ⟨_, rfl⟩
  refine G.cast (A2 := A1) hA1.symm ?_
  have hm := hm.thr (nI 0)
  rw [← hA1] at hm
  obtain ⟨hM, hn, hc, hw, hwb, hz⟩ := id hm
  obtain ⟨c0, ⟨c1, c2, c3, c4, c5⟩, cb, ⟨c16, cr⟩, ⟨c35, ce⟩, ⟨c456, ca⟩, c517, cp⟩ := id hc
  obtain ⟨w1, w2, w3, w4, w5⟩ := id hw
  have hD := hD.uf (nI 0, f.2)
  rw [← hA1] at hD
  obtain ⟨hM, hb, hr, hn, hs, hh, -⟩ := id hD
  have hO1 := MOff.r1 hA1
  refine g_iconst X rfl (v := nI 0) (by decide) ?_
  refine g_istore_n X rfl (by decide) ?_
  refine G.cast (A2 := upA A1 235 (.inl (cy 0, 522, .inl (cpF sv 0 r 0)))) (by rw [cpF_0]; exact (upA_same hs).symm) ?_
  exact lp_X8_save l D cy B od hD (Qf := fun v A' => v = some (.int (nI S.1.1)) ∧ MOff A A' ∧ MdA cy A' (fSv (nI 0, f.2) (nI 1)) (mb) (rd) (r) (cpF sv 0 r 522) (hy)) ⟨by rw [c35], (by repeat (first | exact hO1 | refine MOff.up ?_ (by decide) (by decide))), (hD.usv (cpF sv 0 r 522)).uf (fSv (nI 0, f.2) (nI 1))⟩ X 523 0 (by omega) (by omega) (by omega)
set_option maxRecDepth 100000 in
set_option maxHeartbeats 400000 in
theorem lp_X8_restore (l : Launch) (D : va_G) (cy : Nat → ClassId) (B : Nat) (od : Nat → Option Nat) {p : Program} {e : Env} {s : State} {m : MethodId} {args : Array Value} {below : List Frame} {meth : Method} {c : Code} {A : AH} {z : Nat} {f : MF} {mb rd r sv hy : Nat → Int32} (hD : MdA cy A f mb rd r sv hy) {Qf : Option Value → AH → Prop} (hQ : Qf (some (.int (sv 35))) (upA (upA A 234 (.inl (cy 0, 522, .inl (cpF r 0 sv 522)))) 231 (moE (fN f 0)))) (X : Cx p s m args meth c D cy B od cX8_restore 2 tX8_restore RX8 (some .int)) : ∀ (k i : Nat), 0 ≤ i → i ≤ 522 → 522 - i < k → G p l e rmX8_restore s m args below meth c D B od 2 tX8_restore (FinQ false D B od (fun v A' z' => z' = z ∧ (Qf) v A') (fun _ _ => True) args s below rmX8_restore.cells rmX8_restore.slots) 0 0 (upA A 234 (.inl (cy 0, 522, .inl (cpF r 0 (sv) i)))) z 13 [some (.ref 231), some (.int (nI i))] [] := by
  intro k
  induction k with
  | zero => intro i _ _ h; omega
  | succ k ih =>
    intro i  hlo hi hk
    obtain ⟨hM, hb, hr, hn, hs, hh, -⟩ := id hD
    have hw : upA A 234 (.inl (cy 0, 522, .inl (cpF r 0 (sv) i))) 234 = some (.inl (cy 0, 522, .inl (cpF r 0 (sv) i))) := upA_eq
    refine g_iload_n X rfl rfl ?_
    refine g_sipush X rfl (v := nI 522) (by decide) ?_
    first | refine g_ic_geN X rfl (by omega) (by omega) (fun h1 => ?_) (fun h1 => ?_) | refine g_icmp_ge X rfl (fun h1 => ?_) (fun h1 => ?_)
    · refine g_aload_n X rfl rfl ?_
      refine g_iconst X rfl (v := nI 0) (by decide) ?_
      refine g_put X rfl flX8_167 rfl (ci := 8) rfl (by (repeat (first | exact hM | exact upA_eq | refine (upA_ne (by omega)).trans ?_))) (Nat.le_of_ble_eq_true rfl) (by first | rfl | exact bI_nar _) (by first | rfl | decide) ?_
      first | rw [upA_up] | skip
      refine g_aload_n X rfl rfl ?_
      refine g_get X rfl flX8_16 (ci := 8) rfl (by (repeat (first | exact hM | exact upA_eq | refine (upA_ne (by omega)).trans ?_))) rfl ?_
      refine g_bipush X rfl (v := nI 35) (by decide) ?_
      refine g_ialdN X rfl ((upA_ne (by decide)).trans upA_eq) (by omega) (by decide) ?_
      rw [show cpF r 0 sv i 35 = sv 35 from if_pos (by omega)]
      refine g_iret X rfl rfl (by first | rfl | exact bI_nar _ | decide) (Nat.le_of_ble_eq_true rfl) (Nat.le_of_ble_eq_true rfl) ⟨rfl, ?_⟩
      have e22 : i = 522 := by omega
      subst e22
      exact hQ
    · refine g_aload_n X rfl rfl ?_
      refine g_get X rfl flX8_16 (ci := 8) rfl (by (repeat (first | exact hM | exact upA_eq | refine (upA_ne (by omega)).trans ?_))) rfl ?_
      refine g_iload_n X rfl rfl ?_
      refine g_aload_n X rfl rfl ?_
      refine g_get X rfl flX8_19 (ci := 8) rfl (by (repeat (first | exact hM | exact upA_eq | refine (upA_ne (by omega)).trans ?_))) rfl ?_
      refine g_iload_n X rfl rfl ?_
      refine g_ialdN X rfl ((upA_ne (by decide)).trans hs) (by omega) (by decide) ?_
      refine g_iastN X rfl hw (by omega) (by decide) ?_
      rw [upA_up]
      refine g_iinc1 X rfl rfl (by decide) ?_
      refine g_goto X rfl ?_
      have K9 := ih (i + 1) (by omega) (by omega) (by omega)
      rw [show cpF r 0 (sv) (i + 1) = upd (cpF r 0 (sv) i) i ((sv) i) by rw [← cpF_s, Nat.zero_add]] at K9
      exact K9
set_option maxRecDepth 100000 in
set_option maxHeartbeats 400000 in
theorem cm_X8_restore (l : Launch) (D : va_G) (cy : Nat → ClassId) (B : Nat) (od : Nat → Option Nat) {A : AH} {f : MF} {r : Nat → Int32} {Z : SV} {S : StV} (hm : MdR cy A f r Z S) (hg : Rng Z S) (hgz : RngZ Z) {mb rd sv hy : Nat → Int32} (hD : MdA cy A f mb rd r sv hy) (hE : f.2.2.1 ≤ 8)  {q9 : Bool} (hq9 : f.2.2.2.2 = bI q9) : CM l D cy B od yX8_restore cX8_restore 2 (some .int) rmX8_restore [.ref 231] A (fun v A' => v = some (mV (.int (nI 0)) (if q9 = true then .inr (.int (sv 35)) else .inl eISE : OC)) ∧ ((∃ E, (if q9 = true then .inr (.int (sv 35)) else .inl eISE : OC) = .inl E ∧ A' = upA A 231 (moE (nI (cX [eISE] (if q9 = true then .inr (.int (sv 35)) else .inl eISE : OC)), f.2))) ∨ ((∃ y9, (if q9 = true then .inr (.int (sv 35)) else .inl eISE : OC) = .inr y9) ∧ (MOff A A' ∧ MdA cy A' (fN (nI 0, f.2) 0) (mb) (rd) (cpF r 0 sv 522) (sv) (hy))))) := by
  intro z
  refine CT.of (by decide) tX8_restore okX8_restore (Nat.le_of_ble_eq_true rfl) (q0 := tX8_restore[0]) rfl rfl ?_
  intro p e s m args below meth c X _
  have hM := hm.1
  refine g_aload_n X rfl rfl ?_
  refine g_iconst X rfl (v := nI 0) (by decide) ?_
  refine g_put X rfl flX8_41 rfl (ci := 8) rfl (by (repeat (first | exact hM | exact upA_eq | refine (upA_ne (by omega)).trans ?_))) (Nat.le_of_ble_eq_true rfl) (by first | rfl | exact bI_nar _) (by first | rfl | decide) ?_
  refine G.cast (A2 := upA A 231 (moE (nI 0, f.2))) rfl ?_
  obtain ⟨A1, hA1⟩ : ∃ A1, A1 = upA A 231 (moE (nI 0, f.2)) := ⟨_, rfl⟩
  refine G.cast (A2 := A1) hA1.symm ?_
  have hm := hm.thr (nI 0)
  rw [← hA1] at hm
  obtain ⟨hM, hn, hc, hw, hwb, hz⟩ := id hm
  obtain ⟨c0, ⟨c1, c2, c3, c4, c5⟩, cb, ⟨c16, cr⟩, ⟨c35, ce⟩, ⟨c456, ca⟩, c517, cp⟩ := id hc
  obtain ⟨w1, w2, w3, w4, w5⟩ := id hw
  have hD := hD.uf (nI 0, f.2)
  rw [← hA1] at hD
  obtain ⟨hM, hb, hr, hn, hs, hh, -⟩ := id hD
  have hO1 := MOff.r1 hA1
  refine g_aload_n X rfl rfl ?_
  refine g_aload_n X rfl rfl ?_
  refine g_get X rfl flX8_170 (ci := 8) rfl (by (repeat (first | exact hM | exact upA_eq | refine (upA_ne (by omega)).trans ?_))) rfl ?_
  rw [show (nI 0, f.2).2.2.2.2 = bI q9 from hq9]
  refine g_iconst X rfl (v := nI 1) (by decide) ?_
  refine g_mV X rfl lcX8_fails lmX8_52 lsX8_fails (cm_X8_failsB l D cy B od (by (repeat (first | exact hM | exact upA_eq | refine (upA_ne (by omega)).trans ?_)))) (ci := 8) (by (repeat (first | exact hM | exact upA_eq | refine (upA_ne (by omega)).trans ?_))) rfl rfl rfl (Nat.le_of_ble_eq_true rfl) ⟨⟨by decide, by decide⟩, rfl, rfl⟩ ⟨Nat.le_of_ble_eq_true rfl, Nat.le_of_ble_eq_true rfl⟩ (fun v1 A1 q1 => ?_)
  rcases q1 with ⟨h1, rfl, rfl⟩ | ⟨h1, rfl, rfl⟩
  · refine g_if_eq X rfl (fun _ => ?_) (fun h => absurd nI_0 h) 
    refine g_iconst X rfl (v := nI 0) (by decide) ?_
    refine g_istore_n X rfl (by decide) ?_
    refine G.cast (A2 := upA A1 234 (.inl (cy 0, 522, .inl (cpF r 0 sv 0)))) (by rw [cpF_0]; exact (upA_same hn).symm) ?_
    exact lp_X8_restore l D cy B od hD (Qf := fun v A' => v = some (mV (.int (nI 0)) (if q9 = true then .inr (.int (sv 35)) else .inl eISE : OC)) ∧ ((∃ E, (if q9 = true then .inr (.int (sv 35)) else .inl eISE : OC) = .inl E ∧ A' = upA A 231 (moE (nI (cX [eISE] (if q9 = true then .inr (.int (sv 35)) else .inl eISE : OC)), f.2))) ∨ ((∃ y9, (if q9 = true then .inr (.int (sv 35)) else .inl eISE : OC) = .inr y9) ∧ (MOff A A' ∧ MdA cy A' (fN (nI 0, f.2) 0) (mb) (rd) (cpF r 0 sv 522) (sv) (hy))))) (mG0 (f := f) (if_pos (by assumption)) ⟨(by repeat (first | exact hO1 | refine MOff.up ?_ (by decide) (by decide))), (hD.ur (cpF r 0 sv 522)).uf (fN (nI 0, f.2) 0)⟩) X 523 0 (by omega) (by omega) (by omega)
  · refine g_if_eq X rfl (fun h => absurd h n10) (fun _ => ?_)
    refine g_iconst X rfl (v := nI 0) (by decide) ?_
    refine g_iret X rfl rfl (by first | rfl | exact bI_nar _ | decide) (Nat.le_of_ble_eq_true rfl) (Nat.le_of_ble_eq_true rfl) ⟨rfl, ?_⟩
    exact mBx (E := eISE) (by first | (simp_all [V9, nI_eq, vS, vZ, V9]; done) | (simp_all [V9, nI_eq, vS, vZ, V9, nI_0, n10]; done) | (simp_all [V9, nI_eq, vS, vZ, V9, nI_0, n10, ← Int32.not_le]; done) | (simp_all [V9, nI_eq, vS, vZ, V9, ← Int64.not_le]; done) | (simp_all [V9, nI_eq, vS, vZ, V9, nI_0, n10, ← Int64.not_le, ← Int32.not_le]; done)) (by decide) hA1
set_option maxRecDepth 100000 in
set_option maxHeartbeats 400000 in
theorem lp_X8_undo (l : Launch) (D : va_G) (cy : Nat → ClassId) (B : Nat) (od : Nat → Option Nat) {p : Program} {e : Env} {s : State} {m : MethodId} {args : Array Value} {below : List Frame} {meth : Method} {c : Code} {A : AH} {z : Nat} {f : MF} {mb rd r sv hy : Nat → Int32} (hD : MdA cy A f mb rd r sv hy) {Qf : Option Value → AH → Prop} {n9 : Nat} (hn9 : n9 ≤ 7) (hf9 : f.2.2.1 = n9) (hQ : Qf (some (.int (nI n9))) (upA A 234 (.inl (cy 0, 522, .inl (cpF r 0 (fun q => hy (522 * n9 + q)) 522))))) (X : Cx p s m args meth c D cy B od cX8_undo 2 tX8_undo RX8 (some .int)) : ∀ (k i : Nat), 0 ≤ i → i ≤ 522 → 522 - i < k → G p l e rmX8_undo s m args below meth c D B od 2 tX8_undo (FinQ false D B od (fun v A' z' => z' = z ∧ (Qf) v A') (fun _ _ => True) args s below rmX8_undo.cells rmX8_undo.slots) 0 0 (upA A 234 (.inl (cy 0, 522, .inl (cpF r 0 (fun q => hy (522 * n9 + q)) i)))) z 23 [some (.ref 231), some (.int (nI i))] [] := by
  intro k
  induction k with
  | zero => intro i _ _ h; omega
  | succ k ih =>
    intro i  hlo hi hk
    obtain ⟨hM, hb, hr, hn, hs, hh, -⟩ := id hD
    have hw : upA A 234 (.inl (cy 0, 522, .inl (cpF r 0 (fun q => hy (522 * n9 + q)) i))) 234 = some (.inl (cy 0, 522, .inl (cpF r 0 (fun q => hy (522 * n9 + q)) i))) := upA_eq
    refine g_iload_n X rfl rfl ?_
    refine g_sipush X rfl (v := nI 522) (by decide) ?_
    first | refine g_ic_geN X rfl (by omega) (by omega) (fun h1 => ?_) (fun h1 => ?_) | refine g_icmp_ge X rfl (fun h1 => ?_) (fun h1 => ?_)
    · refine g_aload_n X rfl rfl ?_
      refine g_get X rfl flX8_167 (ci := 8) rfl (by (repeat (first | exact hM | exact upA_eq | refine (upA_ne (by omega)).trans ?_))) rfl ?_
      rw [hf9]
      refine g_iret X rfl rfl (by first | rfl | exact bI_nar _ | decide) (Nat.le_of_ble_eq_true rfl) (Nat.le_of_ble_eq_true rfl) ⟨rfl, ?_⟩
      have e22 : i = 522 := by omega
      subst e22
      exact hQ
    · refine g_aload_n X rfl rfl ?_
      refine g_get X rfl flX8_16 (ci := 8) rfl (by (repeat (first | exact hM | exact upA_eq | refine (upA_ne (by omega)).trans ?_))) rfl ?_
      refine g_iload_n X rfl rfl ?_
      refine g_aload_n X rfl rfl ?_
      refine g_get X rfl flX8_22 (ci := 8) rfl (by (repeat (first | exact hM | exact upA_eq | refine (upA_ne (by omega)).trans ?_))) rfl ?_
      refine g_sipush X rfl (v := nI 522) (by decide) ?_
      refine g_aload_n X rfl rfl ?_
      refine g_get X rfl flX8_167 (ci := 8) rfl (by (repeat (first | exact hM | exact upA_eq | refine (upA_ne (by omega)).trans ?_))) rfl ?_
      rw [hf9]
      refine g_imul X rfl ?_
      refine g_iload_n X rfl rfl ?_
      refine g_iadd X rfl ?_
      rw [pk_mul, nI_add]
      refine g_ialdN X rfl ((upA_ne (by decide)).trans hh) (by omega) (by decide) ?_
      refine g_iastN X rfl hw (by omega) (by decide) ?_
      rw [upA_up]
      refine g_iinc1 X rfl rfl (by decide) ?_
      refine g_goto X rfl ?_
      have K9 := ih (i + 1) (by omega) (by omega) (by omega)
      rw [show cpF r 0 (fun q => hy (522 * n9 + q)) (i + 1) = upd (cpF r 0 (fun q => hy (522 * n9 + q)) i) i ((fun q => hy (522 * n9 + q)) i) by rw [← cpF_s, Nat.zero_add]] at K9
      exact K9
set_option maxRecDepth 100000 in
set_option maxHeartbeats 400000 in
theorem cm_X8_undo (l : Launch) (D : va_G) (cy : Nat → ClassId) (B : Nat) (od : Nat → Option Nat) {A : AH} {f : MF} {r : Nat → Int32} {Z : SV} {S : StV} (hm : MdR cy A f r Z S) (hg : Rng Z S) (hgz : RngZ Z) {mb rd sv hy : Nat → Int32} (hD : MdA cy A f mb rd r sv hy) (hE : f.2.2.1 ≤ 8)   : CM l D cy B od yX8_undo cX8_undo 2 (some .int) rmX8_undo [.ref 231] A (fun v A' => v = some (mV (.int (nI 0)) (ocUndo ((0, f.2.2.1, fun _ => S) : HV))) ∧ ((∃ E, (ocUndo ((0, f.2.2.1, fun _ => S) : HV)) = .inl E ∧ A' = upA A 231 (moE (nI (cX [eISE] (ocUndo ((0, f.2.2.1, fun _ => S) : HV))), f.2))) ∨ ((∃ y9, (ocUndo ((0, f.2.2.1, fun _ => S) : HV)) = .inr y9) ∧ (MOff A A' ∧ MdA cy A' (fN (nI 0, f.2) (f.2.2.1 - 1)) (mb) (rd) (cpF r 0 (fun q => hy (522 * (f.2.2.1 - 1) + q)) 522) (sv) (hy))))) := by
  intro z
  refine CT.of (by decide) tX8_undo okX8_undo (Nat.le_of_ble_eq_true rfl) (q0 := tX8_undo[0]) rfl rfl ?_
  intro p e s m args below meth c X _
  have hM := hm.1
  refine g_aload_n X rfl rfl ?_
  refine g_iconst X rfl (v := nI 0) (by decide) ?_
  refine g_put X rfl flX8_41 rfl (ci := 8) rfl (by (repeat (first | exact hM | exact upA_eq | refine (upA_ne (by omega)).trans ?_))) (Nat.le_of_ble_eq_true rfl) (by first | rfl | exact bI_nar _) (by first | rfl | decide) ?_
  refine G.cast (A2 := upA A 231 (moE (nI 0, f.2))) rfl ?_
  obtain ⟨A1, hA1⟩ : ∃ A1, A1 = upA A 231 (moE (nI 0, f.2)) := ⟨_, rfl⟩
  refine G.cast (A2 := A1) hA1.symm ?_
  have hm := hm.thr (nI 0)
  rw [← hA1] at hm
  obtain ⟨hM, hn, hc, hw, hwb, hz⟩ := id hm
  obtain ⟨c0, ⟨c1, c2, c3, c4, c5⟩, cb, ⟨c16, cr⟩, ⟨c35, ce⟩, ⟨c456, ca⟩, c517, cp⟩ := id hc
  obtain ⟨w1, w2, w3, w4, w5⟩ := id hw
  have hD := hD.uf (nI 0, f.2)
  rw [← hA1] at hD
  obtain ⟨hM, hb, hr, hn, hs, hh, -⟩ := id hD
  have hO1 := MOff.r1 hA1
  refine g_aload_n X rfl rfl ?_
  refine g_aload_n X rfl rfl ?_
  refine g_get X rfl flX8_167 (ci := 8) rfl (by (repeat (first | exact hM | exact upA_eq | refine (upA_ne (by omega)).trans ?_))) rfl ?_
  refine g_if_le X rfl (fun h1 => ?_) (fun h1 => ?_)
  · have hn0 : f.2.2.1 = 0 := Classical.not_not.mp (fun z => absurd h1 (Int32.not_le.mpr (by rw [← nI_0]; show nI 0 < nI f.2.2.1; exact nI_lt (show 0 < f.2.2.1 by omega) (by omega))))
    refine g_iconst X rfl (v := nI 0) (by decide) ?_
    refine g_iconst X rfl (v := nI 1) (by decide) ?_
    refine g_mV X rfl lcX8_fails lmX8_52 lsX8_fails (cm_X8_fails0 l D cy B od (by (repeat (first | exact hM | exact upA_eq | refine (upA_ne (by omega)).trans ?_)))) (ci := 8) (by (repeat (first | exact hM | exact upA_eq | refine (upA_ne (by omega)).trans ?_))) rfl rfl rfl (Nat.le_of_ble_eq_true rfl) ⟨⟨by decide, by decide⟩, rfl, rfl⟩ ⟨Nat.le_of_ble_eq_true rfl, Nat.le_of_ble_eq_true rfl⟩ (fun v2 A2 q2 => ?_)
    obtain ⟨rfl, rfl⟩ := q2
    refine g_if_eq X rfl (fun h => absurd h n10) (fun _ => ?_)
    refine g_iconst X rfl (v := nI 0) (by decide) ?_
    refine g_iret X rfl rfl (by first | rfl | exact bI_nar _ | decide) (Nat.le_of_ble_eq_true rfl) (Nat.le_of_ble_eq_true rfl) ⟨rfl, ?_⟩
    exact mBx (E := eISE) (by first | (simp_all [ocUndo, nI_eq0, nI_eq, vS, vZ, V9]; done) | (simp_all [ocUndo, nI_eq0, nI_eq, vS, vZ, V9, nI_0, n10]; done) | (simp_all [ocUndo, nI_eq0, nI_eq, vS, vZ, V9, nI_0, n10, ← Int32.not_le]; done) | (simp_all [ocUndo, nI_eq0, nI_eq, vS, vZ, V9, ← Int64.not_le]; done) | (simp_all [ocUndo, nI_eq0, nI_eq, vS, vZ, V9, nI_0, n10, ← Int64.not_le, ← Int32.not_le]; done)) (by decide) hA1
  · have hn0 : 0 < f.2.2.1 := Nat.pos_of_ne_zero (fun z => h1 (by rw [show (nI 0, f.2).2.2.1 = f.2.2.1 from rfl, z]; decide))
    refine g_iconst X rfl (v := nI 1) (by decide) ?_
    refine g_goto X rfl ?_
    refine g_iconst X rfl (v := nI 1) (by decide) ?_
    refine g_mV X rfl lcX8_fails lmX8_52 lsX8_fails (cm_X8_fails1 l D cy B od (by (repeat (first | exact hM | exact upA_eq | refine (upA_ne (by omega)).trans ?_)))) (ci := 8) (by (repeat (first | exact hM | exact upA_eq | refine (upA_ne (by omega)).trans ?_))) rfl rfl rfl (Nat.le_of_ble_eq_true rfl) ⟨⟨by decide, by decide⟩, rfl, rfl⟩ ⟨Nat.le_of_ble_eq_true rfl, Nat.le_of_ble_eq_true rfl⟩ (fun v3 A3 q3 => ?_)
    obtain ⟨rfl, e8⟩ := q3
    have e8 := e8.symm
    subst e8
    refine g_if_eq X rfl (fun _ => ?_) (fun h => absurd nI_0 h) 
    refine g_aload_n X rfl rfl ?_
    refine g_dup X rfl rfl ?_
    refine g_get X rfl flX8_167 (ci := 8) rfl (by (repeat (first | exact hM | exact upA_eq | refine (upA_ne (by omega)).trans ?_))) rfl ?_
    have hpos : 0 < f.2.2.1 := by first | omega | (by_cases hz : f.2.2.1 = 0; simp_all; omega)
    refine g_iconst X rfl (v := nI 1) (by decide) ?_
    refine g_isub X rfl ?_
    rw [show (nI 0, f.2).2.2.1 = f.2.2.1 from rfl, pk_sub (by omega)]
    refine g_put X rfl flX8_167 rfl (ci := 8) rfl (by (repeat (first | exact hM | exact upA_eq | refine (upA_ne (by omega)).trans ?_))) (Nat.le_of_ble_eq_true rfl) (by first | rfl | exact bI_nar _) (by first | rfl | decide) ?_
    have hD2 := hD.uf (fN (nI 0, f.2) (f.2.2.1 - 1))
    refine g_iconst X rfl (v := nI 0) (by decide) ?_
    refine g_istore_n X rfl (by decide) ?_
    refine G.cast (A2 := upA A1 231 (moE (fN (nI 0, f.2) (f.2.2.1 - 1)))) rfl ?_
    refine G.cast (A2 := upA (upA A1 231 (moE (fN (nI 0, f.2) (f.2.2.1 - 1)))) 234 (.inl (cy 0, 522, .inl (cpF r 0 (fun q => hy (522 * (f.2.2.1 - 1) + q)) 0)))) (by rw [cpF_0]; exact (upA_same ((upA_ne (by decide)).trans hn)).symm) ?_
    exact lp_X8_undo l D cy B od hD2 (n9 := f.2.2.1 - 1) (Qf := fun v A' => v = some (mV (.int (nI 0)) (ocUndo ((0, f.2.2.1, fun _ => S) : HV))) ∧ ((∃ E, (ocUndo ((0, f.2.2.1, fun _ => S) : HV)) = .inl E ∧ A' = upA A 231 (moE (nI (cX [eISE] (ocUndo ((0, f.2.2.1, fun _ => S) : HV))), f.2))) ∨ ((∃ y9, (ocUndo ((0, f.2.2.1, fun _ => S) : HV)) = .inr y9) ∧ (MOff A A' ∧ MdA cy A' (fN (nI 0, f.2) (f.2.2.1 - 1)) (mb) (rd) (cpF r 0 (fun q => hy (522 * (f.2.2.1 - 1) + q)) 522) (sv) (hy))))) (by omega) rfl (mG0 (f := f) (by unfold ocUndo; exact if_pos hn0) ⟨(by repeat (first | exact hO1 | refine MOff.up ?_ (by decide) (by decide))), hD2.ur _⟩) X 523 0 (by omega) (by omega) (by omega)
