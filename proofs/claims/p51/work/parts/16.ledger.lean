/-! 16: what is read of a ledger -/
abbrev eISE : String := "java/lang/IllegalStateException"
abbrev eIAE : String := "java/lang/IllegalArgumentException"
abbrev eIOB : String := "java/lang/IndexOutOfBoundsException"
abbrev eNSE : String := "java/util/NoSuchElementException"
/-- what is seen of a ledger: where the setup lies, the buffer's length, hasSaved, the present state, the setup -/
abbrev LV : Type := Nat × Nat × Int32 × StV × SV
def VwA (cy : Nat → ClassId) (A : AH) (V : LV) : Prop := A 0 = some (.inr (7, [.ref 1, .int (nI V.2.1), .ref 2, .ref V.1, .ref 18, .ref 39, .int V.2.2.1, .ref 60, .ref 230])) ∧ StA cy A 18 V.2.2.2.1 ∧ WfS V.2.2.2.1 ∧ SetA cy A V.1 V.2.2.2.2 ∧ V.2.2.2.2.1 ≤ 5
abbrev vS (V : LV) : StV := V.2.2.2.1
abbrev vZ (V : LV) : SV := V.2.2.2.2
theorem ix_of {x : Int32} {n : Nat} (h : 0 ≤ x ∧ x < nI n) (hn : n < 2 ^ 31) : ∃ i, i < n ∧ x = nI i := by
  obtain ⟨j, hj, rfl⟩ := nI_of (x := x) (Int32.not_lt.mpr h.1)
  exact ⟨j, (nI_ltI hj hn).mp h.2, rfl⟩
theorem wi_of {x : Int32} {n : Nat} (h : within9 x (nI 0) (nI n) = true) (hn : n < 2 ^ 31) : ∃ i, i ≤ n ∧ x = nI i := by
  unfold within9 at h
  rw [Bool.and_eq_true, decide_eq_true_eq, decide_eq_true_eq] at h
  obtain ⟨j, hj, rfl⟩ := nI_of (x := x) (Int32.not_lt.mpr (by rw [nI_0] at h; exact h.1))
  exact ⟨j, (nI_leI hj hn).mp h.2, rfl⟩
theorem ne_q : ∀ k, k < 4 → ¬ (nI k + nI 1).toInt64 = 0 := by decide
def sTgt (Z : SV) (q : Int32) (pf : Int64) : Int64 := if pf < 0 ∨ q < 0 then 0 else sTax Z (pf * 4 / (q + nI 1).toInt64) * (q + nI 1).toInt64 / 4
def ppSt (V : LV) : Nat → Int64 × Int64
  | 0 => (0, 0)
  | n + 1 => ((ppSt V n).1 + (if sTgt (vZ V) (nI n) (sProf (vS V) (nI n)) - (ppSt V n).1 < 0 then 0 else sTgt (vZ V) (nI n) (sProf (vS V) (nI n)) - (ppSt V n).1), if sTgt (vZ V) (nI n) (sProf (vS V) (nI n)) - (ppSt V n).1 < 0 then 0 else sTgt (vZ V) (nI n) (sProf (vS V) (nI n)) - (ppSt V n).1)
def ppNow (V : LV) (k : Nat) : Int32 := (ppSt V (k + 1)).2.toInt32
def sYP (V : LV) : Int64 := sProf (vS V) (nI 3)
def sAdd (V : LV) (pf g : Int64) : Int64 := sTax (vZ V) (pf + g) - sTax (vZ V) pf
def sLeft (V : LV) (inc : Int32) (pf : Int64) : Int64 := inc.toInt64 - sAdd V pf inc.toInt64
def sInt (V : LV) : Int64 := sumN (fun q => decide (0 < (ppNow V q - (vS V).2.2.2.1 q).toInt64)) (fun q => (ppNow V q - (vS V).2.2.2.1 q).toInt64 * ((vZ V).2.1 3).toInt64 * (nI 4 - nI q).toInt64 / 1000) (vS V).2.2.2.2.1
def gcF : Nat → Int32 → Int32 → Int32
  | 0, a, _ => a
  | k + 1, a, b => if b = 0 then a else gcF k b (a - a / b * b)
def bmSt (V : LV) : Nat → Nat × Int64
  | 0 => (0, sRecIn (vS V) (nI 0))
  | n + 1 => if (bmSt V n).2 < sRecIn (vS V) (nI (n + 1)) then (n + 1, sRecIn (vS V) (nI (n + 1))) else bmSt V n
def niL (V : LV) (net : Int32) : Nat → Int32 × Int32
  | 0 => (nI 0, nI 100000000)
  | n + 1 => if (niL V net n).2 - (niL V net n).1 ≤ nI 1 then niL V net n else if sLeft V (((niL V net n).1 + (niL V net n).2) / nI 2) (sYP V) < net.toInt64 then (((niL V net n).1 + (niL V net n).2) / nI 2, (niL V net n).2) else ((niL V net n).1, ((niL V net n).1 + (niL V net n).2) / nI 2)
theorem niL_stay {V : LV} {net : Int32} {i : Nat} (h : (niL V net i).2 - (niL V net i).1 ≤ nI 1) : ∀ k, niL V net (i + k) = niL V net i
  | 0 => rfl
  | k + 1 => by
    have ih := niL_stay h k
    rw [← Nat.add_assoc, niL, ih, if_pos h]
theorem niL_at {V : LV} {net : Int32} {i : Nat} (hi : i ≤ 32) (h : (niL V net i).2 - (niL V net i).1 ≤ nI 1) : niL V net 32 = niL V net i := by
  have := niL_stay h (32 - i)
  rwa [show i + (32 - i) = 32 by omega] at this

set_option maxRecDepth 100000 in
set_option maxHeartbeats 400000 in
theorem cr_X7_targetAt (l : Launch) (D : va_G) (cy : Nat → ClassId) (B : Nat) (od : Nat → Option Nat) {A : AH} {V : LV} (hV : VwA cy A V) {k : Nat} (hk : k < 4) {pf : Int64} : CR l D cy B od yX7_targetAt cX7_targetAt 6 (some .long) rmX7_targetAt [.ref 0, .int (nI k), .long pf] A (.long (sTgt (vZ V) (nI k) pf)) := by
  intro z
  refine CT.of (by decide) tX7_targetAt okX7_targetAt (Nat.le_of_ble_eq_true rfl) (q0 := tX7_targetAt[0]) rfl rfl ?_
  intro p e s m args below meth c X _
  obtain ⟨hL, hs9, hw, hS9, hsn⟩ := id hV
  obtain ⟨hS, hS0, hS1⟩ := id hS9
  obtain ⟨hs, hE9, hR9, hA9, hp⟩ := id hs9
  obtain ⟨hE, hE0, hE1, hE2, hE3, hE4, hE5, hE6⟩ := id hE9
  obtain ⟨hR, hR0, hR1, hR2⟩ := id hR9
  obtain ⟨hA, hA0, hA1, hA2, hA3, hA4, hA5⟩ := id hA9
  obtain ⟨w1, w2, w3, w4, w5⟩ := id hw
  refine g_lload_n X rfl rfl ?_
  refine g_lconst X rfl (v := 0) (by decide) ?_
  refine g_l_lt X rfl rfl (fun h1 => ?_) (fun h1 => ?_)
  · refine g_lconst X rfl (v := 0) (by decide) ?_
    refine g_lret X rfl rfl (Nat.le_refl _) (Nat.le_refl _) ⟨?_, rfl, rfl⟩
    first | (simp_all [sTgt]; done) | (simp_all [sTgt, nI_0, n10]; done) | (simp_all [sTgt, nI_0, n10, ← Int32.not_le]; done) | (simp_all [sTgt, ← Int64.not_le]; done) | (simp_all [sTgt, nI_0, n10, ← Int64.not_le, ← Int32.not_le]; done)
  · refine g_iload_n X rfl rfl ?_
    refine g_if_ge X rfl (fun h2 => ?_) (fun h2 => ?_)
    · refine g_lload_n X rfl rfl ?_
      refine g_ldc2 X rfl kcX7_356 ?_
      refine g_lmul X rfl ?_
      refine g_iload_n X rfl rfl ?_
      refine g_iconst X rfl (v := nI 1) (by decide) ?_
      refine g_iadd X rfl ?_
      refine g_i2l X rfl ?_
      refine g_ldiv X rfl (ne_q _ hk) ?_
      refine g_lstore X rfl (by decide) ?_
      refine g_aload_n X rfl rfl ?_
      refine g_get X rfl flX7_23 (ci := 7) rfl hL rfl ?_
      refine g_lload X rfl rfl ?_
      refine g_rVN X rfl lcX4_taxOf lnX7_302 lsX4_taxOf (cr_X4_taxOf l D cy B od hS9 hsn) (ci := 4) hS rfl rfl rfl (Nat.le_of_ble_eq_true rfl) ⟨⟨by decide, by decide⟩, rfl, rfl⟩ ⟨Nat.le_of_ble_eq_true rfl, Nat.le_of_ble_eq_true rfl⟩ ?_
      refine g_iload_n X rfl rfl ?_
      refine g_iconst X rfl (v := nI 1) (by decide) ?_
      refine g_iadd X rfl ?_
      refine g_i2l X rfl ?_
      refine g_lmul X rfl ?_
      refine g_ldc2 X rfl kcX7_356 ?_
      refine g_ldiv X rfl (by decide) ?_
      refine g_lret X rfl rfl (Nat.le_refl _) (Nat.le_refl _) ⟨?_, rfl, rfl⟩
      first | (simp_all [sTgt]; done) | (simp_all [sTgt, nI_0, n10]; done) | (simp_all [sTgt, nI_0, n10, ← Int32.not_le]; done) | (simp_all [sTgt, ← Int64.not_le]; done) | (simp_all [sTgt, nI_0, n10, ← Int64.not_le, ← Int32.not_le]; done)
    · refine g_lconst X rfl (v := 0) (by decide) ?_
      refine g_lret X rfl rfl (Nat.le_refl _) (Nat.le_refl _) ⟨?_, rfl, rfl⟩
      first | (simp_all [sTgt]; done) | (simp_all [sTgt, nI_0, n10]; done) | (simp_all [sTgt, nI_0, n10, ← Int32.not_le]; done) | (simp_all [sTgt, ← Int64.not_le]; done) | (simp_all [sTgt, nI_0, n10, ← Int64.not_le, ← Int32.not_le]; done)
def ocCount (V : LV) (w : Int32) : OC := if w = nI 0 then .inr (.int (nI (vS V).1.1)) else if w = nI 1 then .inr (.int (nI (cntN (eOpen (vS V).1) (vS V).1.1))) else if w = nI 2 then .inr (.int (nI (cntN (fun i => !((vS V).1.2 5 i == 0)) (vS V).1.1))) else if w = nI 3 then .inr (.int (nI (cntN (fun i => !((vS V).1.2 6 i == 0)) (vS V).1.1))) else if w = nI 4 then .inr (.int (nI (vS V).2.1.1)) else if w = nI 5 then .inr (.int (nI (vS V).2.2.1.1)) else if w = nI 6 then .inr (.int (nI (cntN (fun i => !((vS V).2.2.1.2 4 i == -1)) (vS V).2.2.1.1))) else if w = nI 7 then .inr (.int (nI (vS V).2.2.2.2.1)) else if w = nI 8 then .inr (.int (nI (vZ V).1)) else .inl eIAE
set_option maxRecDepth 100000 in
set_option maxHeartbeats 400000 in
theorem co_X7_count (l : Launch) (D : va_G) (cy : Nat → ClassId) (B : Nat) (od : Nat → Option Nat) (hl9 : l.stackTraces = false) {A : AH} {V : LV} (hV : VwA cy A V) {w : Int32} : CO l D cy B od yX7_count cX7_count 2 (some .int) rmX7_count [.ref 0, .int w] A (ocCount V w) A := by
  intro z
  refine CX.of (by decide) tX7_count okX7_count (Nat.le_of_ble_eq_true rfl) (q0 := tX7_count[0]) rfl rfl ?_
  intro p e s m args below meth c X hnt
  obtain ⟨hL, hs9, hw, hS9, hsn⟩ := id hV
  obtain ⟨hS, hS0, hS1⟩ := id hS9
  obtain ⟨hs, hE9, hR9, hA9, hp⟩ := id hs9
  obtain ⟨hE, hE0, hE1, hE2, hE3, hE4, hE5, hE6⟩ := id hE9
  obtain ⟨hR, hR0, hR1, hR2⟩ := id hR9
  obtain ⟨hA, hA0, hA1, hA2, hA3, hA4, hA5⟩ := id hA9
  obtain ⟨w1, w2, w3, w4, w5⟩ := id hw
  refine g_iload_n X rfl rfl ?_
  by_cases hk0 : w = nI 0
  · subst hk0
    refine g_tsw X rfl (by decide) (by decide) (off := 51) (by decide) (j := 2) rfl (by decide) ?_
    refine g_aload_n X rfl rfl ?_
    refine g_get X rfl flX7_30 (ci := 7) rfl hL rfl ?_
    refine g_get X rfl flX7_110 (ci := 6) rfl hs rfl ?_
    refine g_get X rfl flX7_114 (ci := 1) rfl hE rfl ?_
    refine g_iret X rfl rfl (by first | rfl | exact bI_nar _ | decide) (Nat.le_of_ble_eq_true rfl) (Nat.le_of_ble_eq_true rfl) ⟨_, ?_, rfl, rfl, rfl⟩
    first | (simp_all [ocCount, nI_eq]; done) | (simp_all [ocCount, nI_eq, nI_0, n10]; done) | (simp_all [ocCount, nI_eq, nI_0, n10, ← Int32.not_le]; done) | (simp_all [ocCount, nI_eq, ← Int64.not_le]; done) | (simp_all [ocCount, nI_eq, nI_0, n10, ← Int64.not_le, ← Int32.not_le]; done)
  by_cases hk1 : w = nI 1
  · subst hk1
    refine g_tsw X rfl (by decide) (by decide) (off := 62) (by decide) (j := 7) rfl (by decide) ?_
    refine g_aload_n X rfl rfl ?_
    refine g_get X rfl flX7_30 (ci := 7) rfl hL rfl ?_
    refine g_get X rfl flX7_110 (ci := 6) rfl hs rfl ?_
    refine g_rVN X rfl lcX1_openOnes lnX7_212 lsX1_openOnes (cr_X1_openOnes l D cy B od hE9 w1) (ci := 1) hE rfl rfl rfl (Nat.le_of_ble_eq_true rfl) ⟨⟨by decide, by decide⟩, rfl, rfl⟩ ⟨Nat.le_of_ble_eq_true rfl, Nat.le_of_ble_eq_true rfl⟩ ?_
    refine g_iret X rfl rfl (by first | rfl | exact bI_nar _ | decide) (Nat.le_of_ble_eq_true rfl) (Nat.le_of_ble_eq_true rfl) ⟨_, ?_, rfl, rfl, rfl⟩
    first | (simp_all [ocCount, nI_eq]; done) | (simp_all [ocCount, nI_eq, nI_0, n10]; done) | (simp_all [ocCount, nI_eq, nI_0, n10, ← Int32.not_le]; done) | (simp_all [ocCount, nI_eq, ← Int64.not_le]; done) | (simp_all [ocCount, nI_eq, nI_0, n10, ← Int64.not_le, ← Int32.not_le]; done)
  by_cases hk2 : w = nI 2
  · subst hk2
    refine g_tsw X rfl (by decide) (by decide) (off := 73) (by decide) (j := 12) rfl (by decide) ?_
    refine g_aload_n X rfl rfl ?_
    refine g_get X rfl flX7_30 (ci := 7) rfl hL rfl ?_
    refine g_get X rfl flX7_110 (ci := 6) rfl hs rfl ?_
    refine g_rVN X rfl lcX1_cancelledOnes lnX7_216 lsX1_cancelledOnes (cr_X1_cancelledOnes l D cy B od hE9 w1) (ci := 1) hE rfl rfl rfl (Nat.le_of_ble_eq_true rfl) ⟨⟨by decide, by decide⟩, rfl, rfl⟩ ⟨Nat.le_of_ble_eq_true rfl, Nat.le_of_ble_eq_true rfl⟩ ?_
    refine g_iret X rfl rfl (by first | rfl | exact bI_nar _ | decide) (Nat.le_of_ble_eq_true rfl) (Nat.le_of_ble_eq_true rfl) ⟨_, ?_, rfl, rfl, rfl⟩
    first | (simp_all [ocCount, nI_eq]; done) | (simp_all [ocCount, nI_eq, nI_0, n10]; done) | (simp_all [ocCount, nI_eq, nI_0, n10, ← Int32.not_le]; done) | (simp_all [ocCount, nI_eq, ← Int64.not_le]; done) | (simp_all [ocCount, nI_eq, nI_0, n10, ← Int64.not_le, ← Int32.not_le]; done)
  by_cases hk3 : w = nI 3
  · subst hk3
    refine g_tsw X rfl (by decide) (by decide) (off := 84) (by decide) (j := 17) rfl (by decide) ?_
    refine g_aload_n X rfl rfl ?_
    refine g_get X rfl flX7_30 (ci := 7) rfl hL rfl ?_
    refine g_get X rfl flX7_110 (ci := 6) rfl hs rfl ?_
    refine g_rVN X rfl lcX1_lateOnes lnX7_219 lsX1_lateOnes (cr_X1_lateOnes l D cy B od hE9 w1) (ci := 1) hE rfl rfl rfl (Nat.le_of_ble_eq_true rfl) ⟨⟨by decide, by decide⟩, rfl, rfl⟩ ⟨Nat.le_of_ble_eq_true rfl, Nat.le_of_ble_eq_true rfl⟩ ?_
    refine g_iret X rfl rfl (by first | rfl | exact bI_nar _ | decide) (Nat.le_of_ble_eq_true rfl) (Nat.le_of_ble_eq_true rfl) ⟨_, ?_, rfl, rfl, rfl⟩
    first | (simp_all [ocCount, nI_eq]; done) | (simp_all [ocCount, nI_eq, nI_0, n10]; done) | (simp_all [ocCount, nI_eq, nI_0, n10, ← Int32.not_le]; done) | (simp_all [ocCount, nI_eq, ← Int64.not_le]; done) | (simp_all [ocCount, nI_eq, nI_0, n10, ← Int64.not_le, ← Int32.not_le]; done)
  by_cases hk4 : w = nI 4
  · subst hk4
    refine g_tsw X rfl (by decide) (by decide) (off := 95) (by decide) (j := 22) rfl (by decide) ?_
    refine g_aload_n X rfl rfl ?_
    refine g_get X rfl flX7_30 (ci := 7) rfl hL rfl ?_
    refine g_get X rfl flX7_96 (ci := 6) rfl hs rfl ?_
    refine g_get X rfl flX7_100 (ci := 3) rfl hR rfl ?_
    refine g_iret X rfl rfl (by first | rfl | exact bI_nar _ | decide) (Nat.le_of_ble_eq_true rfl) (Nat.le_of_ble_eq_true rfl) ⟨_, ?_, rfl, rfl, rfl⟩
    first | (simp_all [ocCount, nI_eq]; done) | (simp_all [ocCount, nI_eq, nI_0, n10]; done) | (simp_all [ocCount, nI_eq, nI_0, n10, ← Int32.not_le]; done) | (simp_all [ocCount, nI_eq, ← Int64.not_le]; done) | (simp_all [ocCount, nI_eq, nI_0, n10, ← Int64.not_le, ← Int32.not_le]; done)
  by_cases hk5 : w = nI 5
  · subst hk5
    refine g_tsw X rfl (by decide) (by decide) (off := 106) (by decide) (j := 27) rfl (by decide) ?_
    refine g_aload_n X rfl rfl ?_
    refine g_get X rfl flX7_30 (ci := 7) rfl hL rfl ?_
    refine g_get X rfl flX7_154 (ci := 6) rfl hs rfl ?_
    refine g_get X rfl flX7_158 (ci := 0) rfl hA rfl ?_
    refine g_iret X rfl rfl (by first | rfl | exact bI_nar _ | decide) (Nat.le_of_ble_eq_true rfl) (Nat.le_of_ble_eq_true rfl) ⟨_, ?_, rfl, rfl, rfl⟩
    first | (simp_all [ocCount, nI_eq]; done) | (simp_all [ocCount, nI_eq, nI_0, n10]; done) | (simp_all [ocCount, nI_eq, nI_0, n10, ← Int32.not_le]; done) | (simp_all [ocCount, nI_eq, ← Int64.not_le]; done) | (simp_all [ocCount, nI_eq, nI_0, n10, ← Int64.not_le, ← Int32.not_le]; done)
  by_cases hk6 : w = nI 6
  · subst hk6
    refine g_tsw X rfl (by decide) (by decide) (off := 117) (by decide) (j := 32) rfl (by decide) ?_
    refine g_aload_n X rfl rfl ?_
    refine g_get X rfl flX7_30 (ci := 7) rfl hL rfl ?_
    refine g_get X rfl flX7_154 (ci := 6) rfl hs rfl ?_
    refine g_rVN X rfl lcX0_soldOnes lnX7_222 lsX0_soldOnes (cr_X0_soldOnes l D cy B od hA9 w3) (ci := 0) hA rfl rfl rfl (Nat.le_of_ble_eq_true rfl) ⟨⟨by decide, by decide⟩, rfl, rfl⟩ ⟨Nat.le_of_ble_eq_true rfl, Nat.le_of_ble_eq_true rfl⟩ ?_
    refine g_iret X rfl rfl (by first | rfl | exact bI_nar _ | decide) (Nat.le_of_ble_eq_true rfl) (Nat.le_of_ble_eq_true rfl) ⟨_, ?_, rfl, rfl, rfl⟩
    first | (simp_all [ocCount, nI_eq]; done) | (simp_all [ocCount, nI_eq, nI_0, n10]; done) | (simp_all [ocCount, nI_eq, nI_0, n10, ← Int32.not_le]; done) | (simp_all [ocCount, nI_eq, ← Int64.not_le]; done) | (simp_all [ocCount, nI_eq, nI_0, n10, ← Int64.not_le, ← Int32.not_le]; done)
  by_cases hk7 : w = nI 7
  · subst hk7
    refine g_tsw X rfl (by decide) (by decide) (off := 128) (by decide) (j := 37) rfl (by decide) ?_
    refine g_aload_n X rfl rfl ?_
    refine g_get X rfl flX7_30 (ci := 7) rfl hL rfl ?_
    refine g_get X rfl flX7_121 (ci := 6) rfl hs rfl ?_
    refine g_iret X rfl rfl (by first | rfl | exact bI_nar _ | decide) (Nat.le_of_ble_eq_true rfl) (Nat.le_of_ble_eq_true rfl) ⟨_, ?_, rfl, rfl, rfl⟩
    first | (simp_all [ocCount, nI_eq]; done) | (simp_all [ocCount, nI_eq, nI_0, n10]; done) | (simp_all [ocCount, nI_eq, nI_0, n10, ← Int32.not_le]; done) | (simp_all [ocCount, nI_eq, ← Int64.not_le]; done) | (simp_all [ocCount, nI_eq, nI_0, n10, ← Int64.not_le, ← Int32.not_le]; done)
  by_cases hk8 : w = nI 8
  · subst hk8
    refine g_tsw X rfl (by decide) (by decide) (off := 136) (by decide) (j := 41) rfl (by decide) ?_
    refine g_aload_n X rfl rfl ?_
    refine g_get X rfl flX7_23 (ci := 7) rfl hL rfl ?_
    refine g_get X rfl flX7_225 (ci := 4) rfl hS rfl ?_
    refine g_iret X rfl rfl (by first | rfl | exact bI_nar _ | decide) (Nat.le_of_ble_eq_true rfl) (Nat.le_of_ble_eq_true rfl) ⟨_, ?_, rfl, rfl, rfl⟩
    first | (simp_all [ocCount, nI_eq]; done) | (simp_all [ocCount, nI_eq, nI_0, n10]; done) | (simp_all [ocCount, nI_eq, nI_0, n10, ← Int32.not_le]; done) | (simp_all [ocCount, nI_eq, ← Int64.not_le]; done) | (simp_all [ocCount, nI_eq, nI_0, n10, ← Int64.not_le, ← Int32.not_le]; done)
  refine g_tswO X rfl (tsw_out 8 (fun k hk => by rcases (show k = 0 ∨ k = 1 ∨ k = 2 ∨ k = 3 ∨ k = 4 ∨ k = 5 ∨ k = 6 ∨ k = 7 ∨ k = 8 by omega) with rfl | rfl | rfl | rfl | rfl | rfl | rfl | rfl | rfl <;> assumption) (by decide)) (j := 45) rfl (by decide) ?_
  refine g_throw2 X hl9 hnt thok_232 (j := 10) rfl rfl rfl rfl rfl rfl ⟨by decide, Nat.le_of_ble_eq_true rfl⟩ ⟨Nat.le_of_ble_eq_true rfl, Nat.le_of_ble_eq_true rfl⟩ (Nat.le_of_ble_eq_true rfl) (Nat.le_of_ble_eq_true rfl) ?_
  exact ⟨by first | (simp_all [ocCount, nI_eq]; done) | (simp_all [ocCount, nI_eq, nI_0, n10]; done) | (simp_all [ocCount, nI_eq, nI_0, n10, ← Int32.not_le]; done) | (simp_all [ocCount, nI_eq, ← Int64.not_le]; done) | (simp_all [ocCount, nI_eq, nI_0, n10, ← Int64.not_le, ← Int32.not_le]; done), rfl⟩
def ocEntry (V : LV) (x w : Int32) : OC := if ¬ (0 ≤ x ∧ x < nI (vS V).1.1) then .inl eIOB else if w = nI 0 then .inr (.int ((vS V).1.2 0 x.toNatClampNeg)) else if w = nI 1 then .inr (.int ((vS V).1.2 1 x.toNatClampNeg)) else if w = nI 2 then .inr (.int ((vS V).1.2 2 x.toNatClampNeg)) else if w = nI 3 then .inr (.int ((vS V).1.2 3 x.toNatClampNeg)) else if w = nI 4 then .inr (.int ((vS V).1.2 4 x.toNatClampNeg)) else if w = nI 5 then .inr (.int (if (vS V).1.2 5 x.toNatClampNeg = 0 then nI 0 else nI 1)) else if w = nI 6 then .inr (.int (if (vS V).1.2 6 x.toNatClampNeg = 0 then nI 0 else nI 1)) else .inl eIAE
set_option maxRecDepth 100000 in
set_option maxHeartbeats 400000 in
theorem co_X7_entry (l : Launch) (D : va_G) (cy : Nat → ClassId) (B : Nat) (od : Nat → Option Nat) (hl9 : l.stackTraces = false) {A : AH} {V : LV} (hV : VwA cy A V) {x w : Int32} : CO l D cy B od yX7_entry cX7_entry 3 (some .int) rmX7_entry [.ref 0, .int x, .int w] A (ocEntry V x w) A := by
  intro z
  refine CX.of (by decide) tX7_entry okX7_entry (Nat.le_of_ble_eq_true rfl) (q0 := tX7_entry[0]) rfl rfl ?_
  intro p e s m args below meth c X hnt
  obtain ⟨hL, hs9, hw, hS9, hsn⟩ := id hV
  obtain ⟨hS, hS0, hS1⟩ := id hS9
  obtain ⟨hs, hE9, hR9, hA9, hp⟩ := id hs9
  obtain ⟨hE, hE0, hE1, hE2, hE3, hE4, hE5, hE6⟩ := id hE9
  obtain ⟨hR, hR0, hR1, hR2⟩ := id hR9
  obtain ⟨hA, hA0, hA1, hA2, hA3, hA4, hA5⟩ := id hA9
  obtain ⟨w1, w2, w3, w4, w5⟩ := id hw
  refine g_iload_n X rfl rfl ?_
  refine g_aload_n X rfl rfl ?_
  refine g_get X rfl flX7_30 (ci := 7) rfl hL rfl ?_
  refine g_get X rfl flX7_110 (ci := 6) rfl hs rfl ?_
  refine g_get X rfl flX7_114 (ci := 1) rfl hE rfl ?_
  refine g_req X hnt rfl lcX7_requireIndex lmX7_128 stX7_requireIndex (cq_X7_requireIndex l D cy B od hl9) rfl rfl (Nat.le_of_ble_eq_true rfl) ⟨by decide, by decide⟩ ⟨Nat.le_of_ble_eq_true rfl, Nat.le_of_ble_eq_true rfl⟩ (Nat.le_of_ble_eq_true rfl) (Nat.le_of_ble_eq_true rfl) (fun h1 => ?_) (fun h1 => ?_)
  · exact ⟨by first | (simp_all [ocEntry, nI_eq]; done) | (simp_all [ocEntry, nI_eq, nI_0, n10]; done) | (simp_all [ocEntry, nI_eq, nI_0, n10, ← Int32.not_le]; done) | (simp_all [ocEntry, nI_eq, ← Int64.not_le]; done) | (simp_all [ocEntry, nI_eq, nI_0, n10, ← Int64.not_le, ← Int32.not_le]; done), rfl⟩
  obtain ⟨i9, hi9, e9⟩ := ix_of h1 (by omega)
  subst e9
  have hcl := nI_clamp (n := i9) (by omega)
  refine g_iload_n X rfl rfl ?_
  by_cases hk0 : w = nI 0
  · subst hk0
    refine g_tsw X rfl (by decide) (by decide) (off := 41) (by decide) (j := 8) rfl (by decide) ?_
    refine g_aload_n X rfl rfl ?_
    refine g_get X rfl flX7_30 (ci := 7) rfl hL rfl ?_
    refine g_get X rfl flX7_110 (ci := 6) rfl hs rfl ?_
    refine g_get X rfl flX7_235 (ci := 1) rfl hE rfl ?_
    refine g_iload_n X rfl rfl ?_
    refine g_ialdN X rfl hE0 (by omega) (by decide) ?_
    refine g_iret X rfl rfl (by first | rfl | exact bI_nar _ | decide) (Nat.le_of_ble_eq_true rfl) (Nat.le_of_ble_eq_true rfl) ⟨_, ?_, rfl, rfl, rfl⟩
    first | (simp_all [ocEntry, nI_eq]; done) | (simp_all [ocEntry, nI_eq, nI_0, n10]; done) | (simp_all [ocEntry, nI_eq, nI_0, n10, ← Int32.not_le]; done) | (simp_all [ocEntry, nI_eq, ← Int64.not_le]; done) | (simp_all [ocEntry, nI_eq, nI_0, n10, ← Int64.not_le, ← Int32.not_le]; done)
  by_cases hk1 : w = nI 1
  · subst hk1
    refine g_tsw X rfl (by decide) (by decide) (off := 54) (by decide) (j := 15) rfl (by decide) ?_
    refine g_aload_n X rfl rfl ?_
    refine g_get X rfl flX7_30 (ci := 7) rfl hL rfl ?_
    refine g_get X rfl flX7_110 (ci := 6) rfl hs rfl ?_
    refine g_get X rfl flX7_238 (ci := 1) rfl hE rfl ?_
    refine g_iload_n X rfl rfl ?_
    refine g_ialdN X rfl hE1 (by omega) (by decide) ?_
    refine g_iret X rfl rfl (by first | rfl | exact bI_nar _ | decide) (Nat.le_of_ble_eq_true rfl) (Nat.le_of_ble_eq_true rfl) ⟨_, ?_, rfl, rfl, rfl⟩
    first | (simp_all [ocEntry, nI_eq]; done) | (simp_all [ocEntry, nI_eq, nI_0, n10]; done) | (simp_all [ocEntry, nI_eq, nI_0, n10, ← Int32.not_le]; done) | (simp_all [ocEntry, nI_eq, ← Int64.not_le]; done) | (simp_all [ocEntry, nI_eq, nI_0, n10, ← Int64.not_le, ← Int32.not_le]; done)
  by_cases hk2 : w = nI 2
  · subst hk2
    refine g_tsw X rfl (by decide) (by decide) (off := 67) (by decide) (j := 22) rfl (by decide) ?_
    refine g_aload_n X rfl rfl ?_
    refine g_get X rfl flX7_30 (ci := 7) rfl hL rfl ?_
    refine g_get X rfl flX7_110 (ci := 6) rfl hs rfl ?_
    refine g_get X rfl flX7_138 (ci := 1) rfl hE rfl ?_
    refine g_iload_n X rfl rfl ?_
    refine g_ialdN X rfl hE2 (by omega) (by decide) ?_
    refine g_iret X rfl rfl (by first | rfl | exact bI_nar _ | decide) (Nat.le_of_ble_eq_true rfl) (Nat.le_of_ble_eq_true rfl) ⟨_, ?_, rfl, rfl, rfl⟩
    first | (simp_all [ocEntry, nI_eq]; done) | (simp_all [ocEntry, nI_eq, nI_0, n10]; done) | (simp_all [ocEntry, nI_eq, nI_0, n10, ← Int32.not_le]; done) | (simp_all [ocEntry, nI_eq, ← Int64.not_le]; done) | (simp_all [ocEntry, nI_eq, nI_0, n10, ← Int64.not_le, ← Int32.not_le]; done)
  by_cases hk3 : w = nI 3
  · subst hk3
    refine g_tsw X rfl (by decide) (by decide) (off := 80) (by decide) (j := 29) rfl (by decide) ?_
    refine g_aload_n X rfl rfl ?_
    refine g_get X rfl flX7_30 (ci := 7) rfl hL rfl ?_
    refine g_get X rfl flX7_110 (ci := 6) rfl hs rfl ?_
    refine g_get X rfl flX7_241 (ci := 1) rfl hE rfl ?_
    refine g_iload_n X rfl rfl ?_
    refine g_ialdN X rfl hE3 (by omega) (by decide) ?_
    refine g_iret X rfl rfl (by first | rfl | exact bI_nar _ | decide) (Nat.le_of_ble_eq_true rfl) (Nat.le_of_ble_eq_true rfl) ⟨_, ?_, rfl, rfl, rfl⟩
    first | (simp_all [ocEntry, nI_eq]; done) | (simp_all [ocEntry, nI_eq, nI_0, n10]; done) | (simp_all [ocEntry, nI_eq, nI_0, n10, ← Int32.not_le]; done) | (simp_all [ocEntry, nI_eq, ← Int64.not_le]; done) | (simp_all [ocEntry, nI_eq, nI_0, n10, ← Int64.not_le, ← Int32.not_le]; done)
  by_cases hk4 : w = nI 4
  · subst hk4
    refine g_tsw X rfl (by decide) (by decide) (off := 93) (by decide) (j := 36) rfl (by decide) ?_
    refine g_aload_n X rfl rfl ?_
    refine g_get X rfl flX7_30 (ci := 7) rfl hL rfl ?_
    refine g_get X rfl flX7_110 (ci := 6) rfl hs rfl ?_
    refine g_get X rfl flX7_135 (ci := 1) rfl hE rfl ?_
    refine g_iload_n X rfl rfl ?_
    refine g_ialdN X rfl hE4 (by omega) (by decide) ?_
    refine g_iret X rfl rfl (by first | rfl | exact bI_nar _ | decide) (Nat.le_of_ble_eq_true rfl) (Nat.le_of_ble_eq_true rfl) ⟨_, ?_, rfl, rfl, rfl⟩
    first | (simp_all [ocEntry, nI_eq]; done) | (simp_all [ocEntry, nI_eq, nI_0, n10]; done) | (simp_all [ocEntry, nI_eq, nI_0, n10, ← Int32.not_le]; done) | (simp_all [ocEntry, nI_eq, ← Int64.not_le]; done) | (simp_all [ocEntry, nI_eq, nI_0, n10, ← Int64.not_le, ← Int32.not_le]; done)
  by_cases hk5 : w = nI 5
  · subst hk5
    refine g_tsw X rfl (by decide) (by decide) (off := 106) (by decide) (j := 43) rfl (by decide) ?_
    refine g_aload_n X rfl rfl ?_
    refine g_get X rfl flX7_30 (ci := 7) rfl hL rfl ?_
    refine g_get X rfl flX7_110 (ci := 6) rfl hs rfl ?_
    refine g_get X rfl flX7_131 (ci := 1) rfl hE rfl ?_
    refine g_iload_n X rfl rfl ?_
    refine g_zaldN X rfl hE5 (by omega) (by decide) ?_
    first | refine g_if_eqB X rfl (fun h2 => ?_) (fun h2 => ?_) | refine g_if_eq X rfl (fun h2 => ?_) (fun h2 => ?_)
    · refine g_iconst X rfl (v := nI 0) (by decide) ?_
      refine g_iret X rfl rfl (by first | rfl | exact bI_nar _ | decide) (Nat.le_of_ble_eq_true rfl) (Nat.le_of_ble_eq_true rfl) ⟨_, ?_, rfl, rfl, rfl⟩
      first | (simp_all [ocEntry, nI_eq]; done) | (simp_all [ocEntry, nI_eq, nI_0, n10]; done) | (simp_all [ocEntry, nI_eq, nI_0, n10, ← Int32.not_le]; done) | (simp_all [ocEntry, nI_eq, ← Int64.not_le]; done) | (simp_all [ocEntry, nI_eq, nI_0, n10, ← Int64.not_le, ← Int32.not_le]; done)
    · refine g_iconst X rfl (v := nI 1) (by decide) ?_
      refine g_goto X rfl ?_
      refine g_iret X rfl rfl (by first | rfl | exact bI_nar _ | decide) (Nat.le_of_ble_eq_true rfl) (Nat.le_of_ble_eq_true rfl) ⟨_, ?_, rfl, rfl, rfl⟩
      first | (simp_all [ocEntry, nI_eq]; done) | (simp_all [ocEntry, nI_eq, nI_0, n10]; done) | (simp_all [ocEntry, nI_eq, nI_0, n10, ← Int32.not_le]; done) | (simp_all [ocEntry, nI_eq, ← Int64.not_le]; done) | (simp_all [ocEntry, nI_eq, nI_0, n10, ← Int64.not_le, ← Int32.not_le]; done)
  by_cases hk6 : w = nI 6
  · subst hk6
    refine g_tsw X rfl (by decide) (by decide) (off := 127) (by decide) (j := 54) rfl (by decide) ?_
    refine g_aload_n X rfl rfl ?_
    refine g_get X rfl flX7_30 (ci := 7) rfl hL rfl ?_
    refine g_get X rfl flX7_110 (ci := 6) rfl hs rfl ?_
    refine g_get X rfl flX7_244 (ci := 1) rfl hE rfl ?_
    refine g_iload_n X rfl rfl ?_
    refine g_zaldN X rfl hE6 (by omega) (by decide) ?_
    first | refine g_if_eqB X rfl (fun h3 => ?_) (fun h3 => ?_) | refine g_if_eq X rfl (fun h3 => ?_) (fun h3 => ?_)
    · refine g_iconst X rfl (v := nI 0) (by decide) ?_
      refine g_iret X rfl rfl (by first | rfl | exact bI_nar _ | decide) (Nat.le_of_ble_eq_true rfl) (Nat.le_of_ble_eq_true rfl) ⟨_, ?_, rfl, rfl, rfl⟩
      first | (simp_all [ocEntry, nI_eq]; done) | (simp_all [ocEntry, nI_eq, nI_0, n10]; done) | (simp_all [ocEntry, nI_eq, nI_0, n10, ← Int32.not_le]; done) | (simp_all [ocEntry, nI_eq, ← Int64.not_le]; done) | (simp_all [ocEntry, nI_eq, nI_0, n10, ← Int64.not_le, ← Int32.not_le]; done)
    · refine g_iconst X rfl (v := nI 1) (by decide) ?_
      refine g_goto X rfl ?_
      refine g_iret X rfl rfl (by first | rfl | exact bI_nar _ | decide) (Nat.le_of_ble_eq_true rfl) (Nat.le_of_ble_eq_true rfl) ⟨_, ?_, rfl, rfl, rfl⟩
      first | (simp_all [ocEntry, nI_eq]; done) | (simp_all [ocEntry, nI_eq, nI_0, n10]; done) | (simp_all [ocEntry, nI_eq, nI_0, n10, ← Int32.not_le]; done) | (simp_all [ocEntry, nI_eq, ← Int64.not_le]; done) | (simp_all [ocEntry, nI_eq, nI_0, n10, ← Int64.not_le, ← Int32.not_le]; done)
  refine g_tswO X rfl (tsw_out 6 (fun k hk => by rcases (show k = 0 ∨ k = 1 ∨ k = 2 ∨ k = 3 ∨ k = 4 ∨ k = 5 ∨ k = 6 by omega) with rfl | rfl | rfl | rfl | rfl | rfl | rfl <;> assumption) (by decide)) (j := 65) rfl (by decide) ?_
  refine g_throw2 X hl9 hnt thok_232 (j := 10) rfl rfl rfl rfl rfl rfl ⟨by decide, Nat.le_of_ble_eq_true rfl⟩ ⟨Nat.le_of_ble_eq_true rfl, Nat.le_of_ble_eq_true rfl⟩ (Nat.le_of_ble_eq_true rfl) (Nat.le_of_ble_eq_true rfl) ?_
  exact ⟨by first | (simp_all [ocEntry, nI_eq]; done) | (simp_all [ocEntry, nI_eq, nI_0, n10]; done) | (simp_all [ocEntry, nI_eq, nI_0, n10, ← Int32.not_le]; done) | (simp_all [ocEntry, nI_eq, ← Int64.not_le]; done) | (simp_all [ocEntry, nI_eq, nI_0, n10, ← Int64.not_le, ← Int32.not_le]; done), rfl⟩
def ocDed (V : LV) (x : Int32) : OC := if ¬ (0 ≤ x ∧ x < nI (vS V).1.1) then .inl eIOB else .inr (.int (sDedP (vS V) x.toNatClampNeg))
def ocTotal (V : LV) (kd f t : Int32) : OC := if within9 kd (nI 0) (nI 3) && (within9 f (nI 0) (nI 359) && within9 t f (nI 359)) then .inr (.long (eSum (vS V).1 kd f t)) else .inl eIAE
def ocByCat (V : LV) (ca b9 : Int32) : OC := if within9 ca (nI 0) (nI 9) then (if b9 = 0 then .inr (.long (sDedC (vS V) ca)) else .inr (.long (sumN (fun i => (vS V).1.2 0 i == 0 && (vS V).1.2 1 i == ca && eCnt (vS V).1 i) (fun i => ((vS V).1.2 2 i).toInt64) (vS V).1.1))) else .inl eIAE
def ocOpen (V : LV) (kd : Int32) : OC := if within9 kd (nI 0) (nI 3) then .inr (.long (sumN (fun i => (vS V).1.2 0 i == kd && eOpen (vS V).1 i) (fun i => ((vS V).1.2 2 i).toInt64) (vS V).1.1)) else .inl eIAE
def ocOld (V : LV) : OC := if oI (oldN (vS V).1 (vS V).1.1) = -1 then .inl eNSE else .inr (.int (oI (oldN (vS V).1 (vS V).1.1)))
def ocRoom (V : LV) (x w : Int32) : OC := if ¬ (0 ≤ x ∧ x < nI (vS V).2.1.1) then .inl eIOB else if w = nI 0 then .inr (.int ((vS V).2.1.2 0 x.toNatClampNeg)) else if w = nI 1 then .inr (.int ((vS V).2.1.2 1 x.toNatClampNeg)) else if w = nI 2 then .inr (.int ((vS V).2.1.2 2 x.toNatClampNeg)) else .inl eIAE
set_option maxRecDepth 100000 in
set_option maxHeartbeats 400000 in
theorem co_X7_room (l : Launch) (D : va_G) (cy : Nat → ClassId) (B : Nat) (od : Nat → Option Nat) (hl9 : l.stackTraces = false) {A : AH} {V : LV} (hV : VwA cy A V) {x w : Int32} : CO l D cy B od yX7_room cX7_room 3 (some .int) rmX7_room [.ref 0, .int x, .int w] A (ocRoom V x w) A := by
  intro z
  refine CX.of (by decide) tX7_room okX7_room (Nat.le_of_ble_eq_true rfl) (q0 := tX7_room[0]) rfl rfl ?_
  intro p e s m args below meth c X hnt
  obtain ⟨hL, hs9, hw, hS9, hsn⟩ := id hV
  obtain ⟨hS, hS0, hS1⟩ := id hS9
  obtain ⟨hs, hE9, hR9, hA9, hp⟩ := id hs9
  obtain ⟨hE, hE0, hE1, hE2, hE3, hE4, hE5, hE6⟩ := id hE9
  obtain ⟨hR, hR0, hR1, hR2⟩ := id hR9
  obtain ⟨hA, hA0, hA1, hA2, hA3, hA4, hA5⟩ := id hA9
  obtain ⟨w1, w2, w3, w4, w5⟩ := id hw
  refine g_iload_n X rfl rfl ?_
  refine g_aload_n X rfl rfl ?_
  refine g_get X rfl flX7_30 (ci := 7) rfl hL rfl ?_
  refine g_get X rfl flX7_96 (ci := 6) rfl hs rfl ?_
  refine g_get X rfl flX7_100 (ci := 3) rfl hR rfl ?_
  refine g_req X hnt rfl lcX7_requireIndex lmX7_128 stX7_requireIndex (cq_X7_requireIndex l D cy B od hl9) rfl rfl (Nat.le_of_ble_eq_true rfl) ⟨by decide, by decide⟩ ⟨Nat.le_of_ble_eq_true rfl, Nat.le_of_ble_eq_true rfl⟩ (Nat.le_of_ble_eq_true rfl) (Nat.le_of_ble_eq_true rfl) (fun h1 => ?_) (fun h1 => ?_)
  · exact ⟨by first | (simp_all [ocRoom, nI_eq]; done) | (simp_all [ocRoom, nI_eq, nI_0, n10]; done) | (simp_all [ocRoom, nI_eq, nI_0, n10, ← Int32.not_le]; done) | (simp_all [ocRoom, nI_eq, ← Int64.not_le]; done) | (simp_all [ocRoom, nI_eq, nI_0, n10, ← Int64.not_le, ← Int32.not_le]; done), rfl⟩
  obtain ⟨i9, hi9, e9⟩ := ix_of h1 (by omega)
  subst e9
  have hcl := nI_clamp (n := i9) (by omega)
  refine g_iload_n X rfl rfl ?_
  by_cases hk0 : w = nI 0
  · subst hk0
    refine g_tsw X rfl (by decide) (by decide) (off := 25) (by decide) (j := 8) rfl (by decide) ?_
    refine g_aload_n X rfl rfl ?_
    refine g_get X rfl flX7_30 (ci := 7) rfl hL rfl ?_
    refine g_get X rfl flX7_96 (ci := 6) rfl hs rfl ?_
    refine g_get X rfl flX7_269 (ci := 3) rfl hR rfl ?_
    refine g_iload_n X rfl rfl ?_
    refine g_ialdN X rfl hR0 (by omega) (by decide) ?_
    refine g_iret X rfl rfl (by first | rfl | exact bI_nar _ | decide) (Nat.le_of_ble_eq_true rfl) (Nat.le_of_ble_eq_true rfl) ⟨_, ?_, rfl, rfl, rfl⟩
    first | (simp_all [ocRoom, nI_eq]; done) | (simp_all [ocRoom, nI_eq, nI_0, n10]; done) | (simp_all [ocRoom, nI_eq, nI_0, n10, ← Int32.not_le]; done) | (simp_all [ocRoom, nI_eq, ← Int64.not_le]; done) | (simp_all [ocRoom, nI_eq, nI_0, n10, ← Int64.not_le, ← Int32.not_le]; done)
  by_cases hk1 : w = nI 1
  · subst hk1
    refine g_tsw X rfl (by decide) (by decide) (off := 38) (by decide) (j := 15) rfl (by decide) ?_
    refine g_aload_n X rfl rfl ?_
    refine g_get X rfl flX7_30 (ci := 7) rfl hL rfl ?_
    refine g_get X rfl flX7_96 (ci := 6) rfl hs rfl ?_
    refine g_get X rfl flX7_147 (ci := 3) rfl hR rfl ?_
    refine g_iload_n X rfl rfl ?_
    refine g_ialdN X rfl hR1 (by omega) (by decide) ?_
    refine g_iret X rfl rfl (by first | rfl | exact bI_nar _ | decide) (Nat.le_of_ble_eq_true rfl) (Nat.le_of_ble_eq_true rfl) ⟨_, ?_, rfl, rfl, rfl⟩
    first | (simp_all [ocRoom, nI_eq]; done) | (simp_all [ocRoom, nI_eq, nI_0, n10]; done) | (simp_all [ocRoom, nI_eq, nI_0, n10, ← Int32.not_le]; done) | (simp_all [ocRoom, nI_eq, ← Int64.not_le]; done) | (simp_all [ocRoom, nI_eq, nI_0, n10, ← Int64.not_le, ← Int32.not_le]; done)
  by_cases hk2 : w = nI 2
  · subst hk2
    refine g_tsw X rfl (by decide) (by decide) (off := 51) (by decide) (j := 22) rfl (by decide) ?_
    refine g_aload_n X rfl rfl ?_
    refine g_get X rfl flX7_30 (ci := 7) rfl hL rfl ?_
    refine g_get X rfl flX7_96 (ci := 6) rfl hs rfl ?_
    refine g_get X rfl flX7_150 (ci := 3) rfl hR rfl ?_
    refine g_iload_n X rfl rfl ?_
    refine g_ialdN X rfl hR2 (by omega) (by decide) ?_
    refine g_iret X rfl rfl (by first | rfl | exact bI_nar _ | decide) (Nat.le_of_ble_eq_true rfl) (Nat.le_of_ble_eq_true rfl) ⟨_, ?_, rfl, rfl, rfl⟩
    first | (simp_all [ocRoom, nI_eq]; done) | (simp_all [ocRoom, nI_eq, nI_0, n10]; done) | (simp_all [ocRoom, nI_eq, nI_0, n10, ← Int32.not_le]; done) | (simp_all [ocRoom, nI_eq, ← Int64.not_le]; done) | (simp_all [ocRoom, nI_eq, nI_0, n10, ← Int64.not_le, ← Int32.not_le]; done)
  refine g_tswO X rfl (tsw_out 2 (fun k hk => by rcases (show k = 0 ∨ k = 1 ∨ k = 2 by omega) with rfl | rfl | rfl <;> assumption) (by decide)) (j := 29) rfl (by decide) ?_
  refine g_throw2 X hl9 hnt thok_232 (j := 10) rfl rfl rfl rfl rfl rfl ⟨by decide, Nat.le_of_ble_eq_true rfl⟩ ⟨Nat.le_of_ble_eq_true rfl, Nat.le_of_ble_eq_true rfl⟩ (Nat.le_of_ble_eq_true rfl) (Nat.le_of_ble_eq_true rfl) ?_
  exact ⟨by first | (simp_all [ocRoom, nI_eq]; done) | (simp_all [ocRoom, nI_eq, nI_0, n10]; done) | (simp_all [ocRoom, nI_eq, nI_0, n10, ← Int32.not_le]; done) | (simp_all [ocRoom, nI_eq, ← Int64.not_le]; done) | (simp_all [ocRoom, nI_eq, nI_0, n10, ← Int64.not_le, ← Int32.not_le]; done), rfl⟩
def ocAsset (V : LV) (x w : Int32) : OC := if ¬ (0 ≤ x ∧ x < nI (vS V).2.2.1.1) then .inl eIOB else if w = nI 0 then .inr (.int ((vS V).2.2.1.2 0 x.toNatClampNeg)) else if w = nI 1 then .inr (.int ((vS V).2.2.1.2 1 x.toNatClampNeg)) else if w = nI 2 then .inr (.int ((vS V).2.2.1.2 2 x.toNatClampNeg)) else if w = nI 3 then .inr (.int ((vS V).2.2.1.2 3 x.toNatClampNeg)) else if w = nI 4 then .inr (.int ((vS V).2.2.1.2 4 x.toNatClampNeg)) else if w = nI 5 then .inr (.int ((vS V).2.2.1.2 5 x.toNatClampNeg)) else .inl eIAE
set_option maxRecDepth 100000 in
set_option maxHeartbeats 400000 in
theorem co_X7_asset (l : Launch) (D : va_G) (cy : Nat → ClassId) (B : Nat) (od : Nat → Option Nat) (hl9 : l.stackTraces = false) {A : AH} {V : LV} (hV : VwA cy A V) {x w : Int32} : CO l D cy B od yX7_asset cX7_asset 3 (some .int) rmX7_asset [.ref 0, .int x, .int w] A (ocAsset V x w) A := by
  intro z
  refine CX.of (by decide) tX7_asset okX7_asset (Nat.le_of_ble_eq_true rfl) (q0 := tX7_asset[0]) rfl rfl ?_
  intro p e s m args below meth c X hnt
  obtain ⟨hL, hs9, hw, hS9, hsn⟩ := id hV
  obtain ⟨hS, hS0, hS1⟩ := id hS9
  obtain ⟨hs, hE9, hR9, hA9, hp⟩ := id hs9
  obtain ⟨hE, hE0, hE1, hE2, hE3, hE4, hE5, hE6⟩ := id hE9
  obtain ⟨hR, hR0, hR1, hR2⟩ := id hR9
  obtain ⟨hA, hA0, hA1, hA2, hA3, hA4, hA5⟩ := id hA9
  obtain ⟨w1, w2, w3, w4, w5⟩ := id hw
  refine g_iload_n X rfl rfl ?_
  refine g_aload_n X rfl rfl ?_
  refine g_get X rfl flX7_30 (ci := 7) rfl hL rfl ?_
  refine g_get X rfl flX7_154 (ci := 6) rfl hs rfl ?_
  refine g_get X rfl flX7_158 (ci := 0) rfl hA rfl ?_
  refine g_req X hnt rfl lcX7_requireIndex lmX7_128 stX7_requireIndex (cq_X7_requireIndex l D cy B od hl9) rfl rfl (Nat.le_of_ble_eq_true rfl) ⟨by decide, by decide⟩ ⟨Nat.le_of_ble_eq_true rfl, Nat.le_of_ble_eq_true rfl⟩ (Nat.le_of_ble_eq_true rfl) (Nat.le_of_ble_eq_true rfl) (fun h1 => ?_) (fun h1 => ?_)
  · exact ⟨by first | (simp_all [ocAsset, nI_eq]; done) | (simp_all [ocAsset, nI_eq, nI_0, n10]; done) | (simp_all [ocAsset, nI_eq, nI_0, n10, ← Int32.not_le]; done) | (simp_all [ocAsset, nI_eq, ← Int64.not_le]; done) | (simp_all [ocAsset, nI_eq, nI_0, n10, ← Int64.not_le, ← Int32.not_le]; done), rfl⟩
  obtain ⟨i9, hi9, e9⟩ := ix_of h1 (by omega)
  subst e9
  have hcl := nI_clamp (n := i9) (by omega)
  refine g_iload_n X rfl rfl ?_
  by_cases hk0 : w = nI 0
  · subst hk0
    refine g_tsw X rfl (by decide) (by decide) (off := 37) (by decide) (j := 8) rfl (by decide) ?_
    refine g_aload_n X rfl rfl ?_
    refine g_get X rfl flX7_30 (ci := 7) rfl hL rfl ?_
    refine g_get X rfl flX7_154 (ci := 6) rfl hs rfl ?_
    refine g_get X rfl flX7_281 (ci := 0) rfl hA rfl ?_
    refine g_iload_n X rfl rfl ?_
    refine g_ialdN X rfl hA0 (by omega) (by decide) ?_
    refine g_iret X rfl rfl (by first | rfl | exact bI_nar _ | decide) (Nat.le_of_ble_eq_true rfl) (Nat.le_of_ble_eq_true rfl) ⟨_, ?_, rfl, rfl, rfl⟩
    first | (simp_all [ocAsset, nI_eq]; done) | (simp_all [ocAsset, nI_eq, nI_0, n10]; done) | (simp_all [ocAsset, nI_eq, nI_0, n10, ← Int32.not_le]; done) | (simp_all [ocAsset, nI_eq, ← Int64.not_le]; done) | (simp_all [ocAsset, nI_eq, nI_0, n10, ← Int64.not_le, ← Int32.not_le]; done)
  by_cases hk1 : w = nI 1
  · subst hk1
    refine g_tsw X rfl (by decide) (by decide) (off := 50) (by decide) (j := 15) rfl (by decide) ?_
    refine g_aload_n X rfl rfl ?_
    refine g_get X rfl flX7_30 (ci := 7) rfl hL rfl ?_
    refine g_get X rfl flX7_154 (ci := 6) rfl hs rfl ?_
    refine g_get X rfl flX7_167 (ci := 0) rfl hA rfl ?_
    refine g_iload_n X rfl rfl ?_
    refine g_ialdN X rfl hA1 (by omega) (by decide) ?_
    refine g_iret X rfl rfl (by first | rfl | exact bI_nar _ | decide) (Nat.le_of_ble_eq_true rfl) (Nat.le_of_ble_eq_true rfl) ⟨_, ?_, rfl, rfl, rfl⟩
    first | (simp_all [ocAsset, nI_eq]; done) | (simp_all [ocAsset, nI_eq, nI_0, n10]; done) | (simp_all [ocAsset, nI_eq, nI_0, n10, ← Int32.not_le]; done) | (simp_all [ocAsset, nI_eq, ← Int64.not_le]; done) | (simp_all [ocAsset, nI_eq, nI_0, n10, ← Int64.not_le, ← Int32.not_le]; done)
  by_cases hk2 : w = nI 2
  · subst hk2
    refine g_tsw X rfl (by decide) (by decide) (off := 63) (by decide) (j := 22) rfl (by decide) ?_
    refine g_aload_n X rfl rfl ?_
    refine g_get X rfl flX7_30 (ci := 7) rfl hL rfl ?_
    refine g_get X rfl flX7_154 (ci := 6) rfl hs rfl ?_
    refine g_get X rfl flX7_284 (ci := 0) rfl hA rfl ?_
    refine g_iload_n X rfl rfl ?_
    refine g_ialdN X rfl hA2 (by omega) (by decide) ?_
    refine g_iret X rfl rfl (by first | rfl | exact bI_nar _ | decide) (Nat.le_of_ble_eq_true rfl) (Nat.le_of_ble_eq_true rfl) ⟨_, ?_, rfl, rfl, rfl⟩
    first | (simp_all [ocAsset, nI_eq]; done) | (simp_all [ocAsset, nI_eq, nI_0, n10]; done) | (simp_all [ocAsset, nI_eq, nI_0, n10, ← Int32.not_le]; done) | (simp_all [ocAsset, nI_eq, ← Int64.not_le]; done) | (simp_all [ocAsset, nI_eq, nI_0, n10, ← Int64.not_le, ← Int32.not_le]; done)
  by_cases hk3 : w = nI 3
  · subst hk3
    refine g_tsw X rfl (by decide) (by decide) (off := 76) (by decide) (j := 29) rfl (by decide) ?_
    refine g_aload_n X rfl rfl ?_
    refine g_get X rfl flX7_30 (ci := 7) rfl hL rfl ?_
    refine g_get X rfl flX7_154 (ci := 6) rfl hs rfl ?_
    refine g_get X rfl flX7_287 (ci := 0) rfl hA rfl ?_
    refine g_iload_n X rfl rfl ?_
    refine g_ialdN X rfl hA3 (by omega) (by decide) ?_
    refine g_iret X rfl rfl (by first | rfl | exact bI_nar _ | decide) (Nat.le_of_ble_eq_true rfl) (Nat.le_of_ble_eq_true rfl) ⟨_, ?_, rfl, rfl, rfl⟩
    first | (simp_all [ocAsset, nI_eq]; done) | (simp_all [ocAsset, nI_eq, nI_0, n10]; done) | (simp_all [ocAsset, nI_eq, nI_0, n10, ← Int32.not_le]; done) | (simp_all [ocAsset, nI_eq, ← Int64.not_le]; done) | (simp_all [ocAsset, nI_eq, nI_0, n10, ← Int64.not_le, ← Int32.not_le]; done)
  by_cases hk4 : w = nI 4
  · subst hk4
    refine g_tsw X rfl (by decide) (by decide) (off := 89) (by decide) (j := 36) rfl (by decide) ?_
    refine g_aload_n X rfl rfl ?_
    refine g_get X rfl flX7_30 (ci := 7) rfl hL rfl ?_
    refine g_get X rfl flX7_154 (ci := 6) rfl hs rfl ?_
    refine g_get X rfl flX7_170 (ci := 0) rfl hA rfl ?_
    refine g_iload_n X rfl rfl ?_
    refine g_ialdN X rfl hA4 (by omega) (by decide) ?_
    refine g_iret X rfl rfl (by first | rfl | exact bI_nar _ | decide) (Nat.le_of_ble_eq_true rfl) (Nat.le_of_ble_eq_true rfl) ⟨_, ?_, rfl, rfl, rfl⟩
    first | (simp_all [ocAsset, nI_eq]; done) | (simp_all [ocAsset, nI_eq, nI_0, n10]; done) | (simp_all [ocAsset, nI_eq, nI_0, n10, ← Int32.not_le]; done) | (simp_all [ocAsset, nI_eq, ← Int64.not_le]; done) | (simp_all [ocAsset, nI_eq, nI_0, n10, ← Int64.not_le, ← Int32.not_le]; done)
  by_cases hk5 : w = nI 5
  · subst hk5
    refine g_tsw X rfl (by decide) (by decide) (off := 102) (by decide) (j := 43) rfl (by decide) ?_
    refine g_aload_n X rfl rfl ?_
    refine g_get X rfl flX7_30 (ci := 7) rfl hL rfl ?_
    refine g_get X rfl flX7_154 (ci := 6) rfl hs rfl ?_
    refine g_get X rfl flX7_177 (ci := 0) rfl hA rfl ?_
    refine g_iload_n X rfl rfl ?_
    refine g_ialdN X rfl hA5 (by omega) (by decide) ?_
    refine g_iret X rfl rfl (by first | rfl | exact bI_nar _ | decide) (Nat.le_of_ble_eq_true rfl) (Nat.le_of_ble_eq_true rfl) ⟨_, ?_, rfl, rfl, rfl⟩
    first | (simp_all [ocAsset, nI_eq]; done) | (simp_all [ocAsset, nI_eq, nI_0, n10]; done) | (simp_all [ocAsset, nI_eq, nI_0, n10, ← Int32.not_le]; done) | (simp_all [ocAsset, nI_eq, ← Int64.not_le]; done) | (simp_all [ocAsset, nI_eq, nI_0, n10, ← Int64.not_le, ← Int32.not_le]; done)
  refine g_tswO X rfl (tsw_out 5 (fun k hk => by rcases (show k = 0 ∨ k = 1 ∨ k = 2 ∨ k = 3 ∨ k = 4 ∨ k = 5 by omega) with rfl | rfl | rfl | rfl | rfl | rfl <;> assumption) (by decide)) (j := 50) rfl (by decide) ?_
  refine g_throw2 X hl9 hnt thok_232 (j := 10) rfl rfl rfl rfl rfl rfl ⟨by decide, Nat.le_of_ble_eq_true rfl⟩ ⟨Nat.le_of_ble_eq_true rfl, Nat.le_of_ble_eq_true rfl⟩ (Nat.le_of_ble_eq_true rfl) (Nat.le_of_ble_eq_true rfl) ?_
  exact ⟨by first | (simp_all [ocAsset, nI_eq]; done) | (simp_all [ocAsset, nI_eq, nI_0, n10]; done) | (simp_all [ocAsset, nI_eq, nI_0, n10, ← Int32.not_le]; done) | (simp_all [ocAsset, nI_eq, ← Int64.not_le]; done) | (simp_all [ocAsset, nI_eq, nI_0, n10, ← Int64.not_le, ← Int32.not_le]; done), rfl⟩
def ocWri (V : LV) (x mo : Int32) : OC := if ¬ (0 ≤ x ∧ x < nI (vS V).2.2.1.1) then .inl eIOB else if within9 mo (nI 0) (nI 11) then .inr (.int (aWU (vS V).2.2.1 x.toNatClampNeg mo - aWU (vS V).2.2.1 x.toNatClampNeg (mo - nI 1))) else .inl eIAE
def ocBook (V : LV) (x mo : Int32) : OC := if ¬ (0 ≤ x ∧ x < nI (vS V).2.2.1.1) then .inl eIOB else if within9 mo (nI 0) (nI 11) then .inr (.int (aVal (vS V).2.2.1 x.toNatClampNeg mo)) else .inl eIAE
def ocPool (V : LV) (q : Int32) : OC := if within9 q (nI 0) (nI 3) then .inr (.int (aPool (vS V).2.2.1 q)) else .inl eIAE
def ocPoolW (V : LV) (q : Int32) : OC := if within9 q (nI 0) (nI 3) then .inr (.int (aPW (vS V).2.2.1 q - aPW (vS V).2.2.1 (q - nI 1))) else .inl eIAE
def ocProf (V : LV) (q : Int32) : OC := if within9 q (nI 0) (nI 3) then .inr (.long (sProf (vS V) q - sProf (vS V) (q - nI 1))) else .inl eIAE
def ocProfT (V : LV) (q : Int32) : OC := if within9 q (nI 0) (nI 3) then .inr (.long (sProf (vS V) q)) else .inl eIAE
set_option maxRecDepth 100000 in
set_option maxHeartbeats 400000 in
theorem co_X7_profitTo (l : Launch) (D : va_G) (cy : Nat → ClassId) (B : Nat) (od : Nat → Option Nat) (hl9 : l.stackTraces = false) {A : AH} {V : LV} (hV : VwA cy A V) {q : Int32} : CO l D cy B od yX7_profitTo cX7_profitTo 2 (some .long) rmX7_profitTo [.ref 0, .int q] A (ocProfT V q) A := by
  intro z
  refine CX.of (by decide) tX7_profitTo okX7_profitTo (Nat.le_of_ble_eq_true rfl) (q0 := tX7_profitTo[0]) rfl rfl ?_
  intro p e s m args below meth c X hnt
  obtain ⟨hL, hs9, hw, hS9, hsn⟩ := id hV
  obtain ⟨hS, hS0, hS1⟩ := id hS9
  obtain ⟨hs, hE9, hR9, hA9, hp⟩ := id hs9
  obtain ⟨hE, hE0, hE1, hE2, hE3, hE4, hE5, hE6⟩ := id hE9
  obtain ⟨hR, hR0, hR1, hR2⟩ := id hR9
  obtain ⟨hA, hA0, hA1, hA2, hA3, hA4, hA5⟩ := id hA9
  obtain ⟨w1, w2, w3, w4, w5⟩ := id hw
  refine g_iload_n X rfl rfl ?_
  refine g_req X hnt rfl lcX7_requireQuarter lmX7_293 stX7_requireQuarter (cq_X7_requireQuarter l D cy B od hl9) rfl rfl (Nat.le_of_ble_eq_true rfl) ⟨by decide, by decide⟩ ⟨Nat.le_of_ble_eq_true rfl, Nat.le_of_ble_eq_true rfl⟩ (Nat.le_of_ble_eq_true rfl) (Nat.le_of_ble_eq_true rfl) (fun h1 => ?_) (fun h1 => ?_)
  · exact ⟨by first | (simp_all [ocProfT, nI_eq]; done) | (simp_all [ocProfT, nI_eq, nI_0, n10]; done) | (simp_all [ocProfT, nI_eq, nI_0, n10, ← Int32.not_le]; done) | (simp_all [ocProfT, nI_eq, ← Int64.not_le]; done) | (simp_all [ocProfT, nI_eq, nI_0, n10, ← Int64.not_le, ← Int32.not_le]; done), rfl⟩
  refine g_aload_n X rfl rfl ?_
  refine g_get X rfl flX7_30 (ci := 7) rfl hL rfl ?_
  refine g_iload_n X rfl rfl ?_
  refine g_rVN X rfl lcX6_profitUpTo lnX7_180 lsX6_profitUpTo (cr_X6_profitUpTo l D cy B od hs9 hw) (ci := 6) hs rfl rfl rfl (Nat.le_of_ble_eq_true rfl) ⟨⟨by decide, by decide⟩, rfl, rfl⟩ ⟨Nat.le_of_ble_eq_true rfl, Nat.le_of_ble_eq_true rfl⟩ ?_
  refine g_lret X rfl rfl (Nat.le_of_ble_eq_true rfl) (Nat.le_of_ble_eq_true rfl) ⟨_, ?_, rfl, rfl, rfl⟩
  first | (simp_all [ocProfT, nI_eq]; done) | (simp_all [ocProfT, nI_eq, nI_0, n10]; done) | (simp_all [ocProfT, nI_eq, nI_0, n10, ← Int32.not_le]; done) | (simp_all [ocProfT, nI_eq, ← Int64.not_le]; done) | (simp_all [ocProfT, nI_eq, nI_0, n10, ← Int64.not_le, ← Int32.not_le]; done)
def ocRec (V : LV) (q : Int32) : OC := if within9 q (nI 0) (nI 3) then .inr (.int (ppNow V q.toNatClampNeg)) else .inl eIAE
def ocPrep (V : LV) (q : Int32) : OC := if within9 q (nI 0) (nI 3) then (if q.toNatClampNeg < (vS V).2.2.2.2.1 then .inr (.int ((vS V).2.2.2.1 q.toNatClampNeg)) else .inl eNSE) else .inl eIAE
set_option maxRecDepth 100000 in
set_option maxHeartbeats 400000 in
theorem co_X7_prepayment (l : Launch) (D : va_G) (cy : Nat → ClassId) (B : Nat) (od : Nat → Option Nat) (hl9 : l.stackTraces = false) {A : AH} {V : LV} (hV : VwA cy A V) {q : Int32} : CO l D cy B od yX7_prepayment cX7_prepayment 2 (some .int) rmX7_prepayment [.ref 0, .int q] A (ocPrep V q) A := by
  intro z
  refine CX.of (by decide) tX7_prepayment okX7_prepayment (Nat.le_of_ble_eq_true rfl) (q0 := tX7_prepayment[0]) rfl rfl ?_
  intro p e s m args below meth c X hnt
  obtain ⟨hL, hs9, hw, hS9, hsn⟩ := id hV
  obtain ⟨hS, hS0, hS1⟩ := id hS9
  obtain ⟨hs, hE9, hR9, hA9, hp⟩ := id hs9
  obtain ⟨hE, hE0, hE1, hE2, hE3, hE4, hE5, hE6⟩ := id hE9
  obtain ⟨hR, hR0, hR1, hR2⟩ := id hR9
  obtain ⟨hA, hA0, hA1, hA2, hA3, hA4, hA5⟩ := id hA9
  obtain ⟨w1, w2, w3, w4, w5⟩ := id hw
  refine g_iload_n X rfl rfl ?_
  refine g_req X hnt rfl lcX7_requireQuarter lmX7_293 stX7_requireQuarter (cq_X7_requireQuarter l D cy B od hl9) rfl rfl (Nat.le_of_ble_eq_true rfl) ⟨by decide, by decide⟩ ⟨Nat.le_of_ble_eq_true rfl, Nat.le_of_ble_eq_true rfl⟩ (Nat.le_of_ble_eq_true rfl) (Nat.le_of_ble_eq_true rfl) (fun h1 => ?_) (fun h1 => ?_)
  · exact ⟨by first | (simp_all [ocPrep, nI_eq]; done) | (simp_all [ocPrep, nI_eq, nI_0, n10]; done) | (simp_all [ocPrep, nI_eq, nI_0, n10, ← Int32.not_le]; done) | (simp_all [ocPrep, nI_eq, ← Int64.not_le]; done) | (simp_all [ocPrep, nI_eq, nI_0, n10, ← Int64.not_le, ← Int32.not_le]; done), rfl⟩
  obtain ⟨i9, hi9, e9⟩ := wi_of h1 (by omega)
  subst e9
  have hcl := nI_clamp (n := i9) (by omega)
  refine g_iload_n X rfl rfl ?_
  refine g_aload_n X rfl rfl ?_
  refine g_get X rfl flX7_30 (ci := 7) rfl hL rfl ?_
  refine g_get X rfl flX7_121 (ci := 6) rfl hs rfl ?_
  first | refine g_ic_geN X rfl (by omega) (by omega) (fun h2 => ?_) (fun h2 => ?_) | refine g_icmp_ge X rfl (fun h2 => ?_) (fun h2 => ?_)
  · refine g_iconst X rfl (v := nI 0) (by decide) ?_
    refine g_req X hnt rfl lcX7_requireElement lmX7_266 stX7_requireElement (cq_X7_requireElement l D cy B od hl9) rfl rfl (Nat.le_of_ble_eq_true rfl) ⟨by decide, by decide⟩ ⟨Nat.le_of_ble_eq_true rfl, Nat.le_of_ble_eq_true rfl⟩ (Nat.le_of_ble_eq_true rfl) (Nat.le_of_ble_eq_true rfl) (fun h3 => ?_) (fun h3 => absurd nI_0 h3)
    exact ⟨by first | (simp_all [ocPrep, nI_eq]; done) | (simp_all [ocPrep, nI_eq, nI_0, n10]; done) | (simp_all [ocPrep, nI_eq, nI_0, n10, ← Int32.not_le]; done) | (simp_all [ocPrep, nI_eq, ← Int64.not_le]; done) | (simp_all [ocPrep, nI_eq, nI_0, n10, ← Int64.not_le, ← Int32.not_le]; done), rfl⟩
  · refine g_iconst X rfl (v := nI 1) (by decide) ?_
    refine g_goto X rfl ?_
    refine g_req X hnt rfl lcX7_requireElement lmX7_266 stX7_requireElement (cq_X7_requireElement l D cy B od hl9) rfl rfl (Nat.le_of_ble_eq_true rfl) ⟨by decide, by decide⟩ ⟨Nat.le_of_ble_eq_true rfl, Nat.le_of_ble_eq_true rfl⟩ (Nat.le_of_ble_eq_true rfl) (Nat.le_of_ble_eq_true rfl) (fun h4 => absurd n10 h4) (fun h4 => ?_)
    refine g_aload_n X rfl rfl ?_
    refine g_get X rfl flX7_30 (ci := 7) rfl hL rfl ?_
    refine g_get X rfl flX7_198 (ci := 6) rfl hs rfl ?_
    refine g_iload_n X rfl rfl ?_
    refine g_ialdN X rfl hp (by omega) (by decide) ?_
    refine g_iret X rfl rfl (by first | rfl | exact bI_nar _ | decide) (Nat.le_of_ble_eq_true rfl) (Nat.le_of_ble_eq_true rfl) ⟨_, ?_, rfl, rfl, rfl⟩
    first | (simp_all [ocPrep, nI_eq]; done) | (simp_all [ocPrep, nI_eq, nI_0, n10]; done) | (simp_all [ocPrep, nI_eq, nI_0, n10, ← Int32.not_le]; done) | (simp_all [ocPrep, nI_eq, ← Int64.not_le]; done) | (simp_all [ocPrep, nI_eq, nI_0, n10, ← Int64.not_le, ← Int32.not_le]; done)
def ocCorr (V : LV) (q : Int32) : OC := if within9 q (nI 0) (nI 3) then (if q.toNatClampNeg < (vS V).2.2.2.2.1 then .inr (.int (ppNow V q.toNatClampNeg - (vS V).2.2.2.1 q.toNatClampNeg)) else .inl eNSE) else .inl eIAE
def ocSett (V : LV) : OC := if (vS V).2.2.2.2.1 = 4 then .inr (.long (sTax (vZ V) (sYP V) - sPre (vS V))) else .inl eISE
def ocWhat (V : LV) (kd am dy : Int32) : OC := if within9 kd (nI 0) (nI 3) && (within9 am (nI 1) (nI 10000000) && within9 dy (nI 0) (nI 359)) then .inr (.long (sAdd V (sYP V) (if kd = 0 then am.toInt64 else -sDed (vS V).2.1 kd am dy))) else .inl eIAE
def ocShare (V : LV) (mo b9 : Int32) : OC := if within9 mo (nI 0) (nI 11) then (if rUsed (vS V).2.1 mo = 0 ∨ gcF 100 (rUsed (vS V).2.1 mo) (rWhole (vS V).2.1) = 0 then .inr (.int (if b9 = 0 then nI 0 else nI 1)) else .inr (.int ((if b9 = 0 then rUsed (vS V).2.1 mo else rWhole (vS V).2.1) / gcF 100 (rUsed (vS V).2.1 mo) (rWhole (vS V).2.1)))) else .inl eIAE
