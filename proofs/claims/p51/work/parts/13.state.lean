/-! 13: what is read of a state -/
/-- a state: entries, rooms, assets, prepaid, closed, start -/
abbrev StV : Type := EV × RV × RV × (Nat → Int32) × Nat × Int32
def StA (cy : Nat → ClassId) (A : AH) (b : Nat) (S : StV) : Prop := A b = some (.inr (6, [.ref (b + 1), .ref (b + 9), .ref (b + 13), .ref (b + 20), .int (nI S.2.2.2.2.1), .int S.2.2.2.2.2])) ∧ EntA cy A (b + 1) S.1 ∧ RoomA cy A (b + 9) S.2.1 ∧ AssA cy A (b + 13) S.2.2.1 ∧ A (b + 20) = some (.inl (cy 0, 4, .inl S.2.2.2.1))
def WfS (S : StV) : Prop := S.1.1 ≤ 60 ∧ S.2.1.1 ≤ 6 ∧ S.2.2.1.1 ≤ 12 ∧ S.2.2.2.2.1 ≤ 4 ∧ ∀ i, i < S.2.2.1.1 → ¬ S.2.2.1.2 2 i = 0
def sDed (Rm : RV) (kd am dy : Int32) : Int64 := if kd = nI 1 then am.toInt64 else if ¬ kd = nI 2 ∨ (rWhole Rm).toInt64 = 0 then 0 else am.toInt64 * (rUsed Rm (dy / nI 30)).toInt64 / (rWhole Rm).toInt64
def sDedP (S : StV) (i : Nat) : Int32 := if eCnt S.1 i = true then (sDed S.2.1 (S.1.2 0 i) (S.1.2 2 i) (S.1.2 4 i)).toInt32 else nI 0
def sDedC (S : StV) (ca : Int32) : Int64 := sumN (fun i => S.1.2 1 i == ca) (fun i => (sDedP S i).toInt64) S.1.1
def sDedU (S : StV) (dy : Int32) : Int64 := sumN (fun i => eCntIn S.1 (nI 0) dy i) (fun i => sDed S.2.1 (S.1.2 0 i) (S.1.2 2 i) (S.1.2 4 i)) S.1.1
def eSum (E : EV) (kd f t : Int32) : Int64 := sumN (fun i => E.2 0 i == kd && eCntIn E f t i) (fun i => (E.2 2 i).toInt64) E.1
def sRec (S : StV) (f t : Int32) : Int64 := eSum S.1 (nI 0) f t + aSoldFor S.2.2.1 f t
def sRecIn (S : StV) (mo : Int32) : Int64 := sRec S (mo * nI 30) (mo * nI 30 + nI 30 - nI 1)
def sProf (S : StV) (qu : Int32) : Int64 := sRec S (nI 0) ((qu + nI 1) * nI 90 - nI 1) - sDedU S ((qu + nI 1) * nI 90 - nI 1) - aAll S.2.2.1 qu
def sPre (S : StV) : Int64 := sumL 0 (fun i => (S.2.2.2.1 i).toInt64) S.2.2.2.2.1

set_option maxRecDepth 100000 in
set_option maxHeartbeats 400000 in
theorem cr_X6_deductibleOf (l : Launch) (D : va_G) (cy : Nat → ClassId) (B : Nat) (od : Nat → Option Nat) {A : AH} {b : Nat} {S : StV} (hs9 : StA cy A b S) (hw : WfS S) {kd am dy : Int32} : CR l D cy B od yX6_deductibleOf cX6_deductibleOf 6 (some .long) rmX6_deductibleOf [.ref b, .int kd, .int am, .int dy] A (.long (sDed S.2.1 kd am dy)) := by
  intro z
  refine CT.of (by decide) tX6_deductibleOf okX6_deductibleOf (Nat.le_of_ble_eq_true rfl) (q0 := tX6_deductibleOf[0]) rfl rfl ?_
  intro p e s m args below meth c X _
  obtain ⟨hs, hE9, hR9, hA9, hp⟩ := id hs9
  obtain ⟨hE, hE0, hE1, hE2, hE3, hE4, hE5, hE6⟩ := id hE9
  obtain ⟨hR, hR0, hR1, hR2⟩ := id hR9
  obtain ⟨hA, hA0, hA1, hA2, hA3, hA4, hA5⟩ := id hA9
  obtain ⟨w1, w2, w3, w4, w5⟩ := id hw
  refine g_iload_n X rfl rfl ?_
  refine g_iconst X rfl (v := nI 1) (by decide) ?_
  refine g_icmp_ne X rfl (fun h1 => ?_) (fun h1 => ?_)
  · refine g_aload_n X rfl rfl ?_
    refine g_get X rfl flX6_21 (ci := 6) rfl hs rfl ?_
    refine g_rVN X rfl lcX3_wholeMonth lnX6_61 lsX3_wholeMonth (cr_X3_wholeMonth l D cy B od hR9 w2) (ci := 3) hR rfl rfl rfl (Nat.le_of_ble_eq_true rfl) ⟨⟨by decide, by decide⟩, rfl, rfl⟩ ⟨Nat.zero_le _, Nat.zero_le _⟩ ?_
    refine g_i2l X rfl ?_
    refine g_lstore X rfl (by decide) ?_
    refine g_iload_n X rfl rfl ?_
    refine g_iconst X rfl (v := nI 2) (by decide) ?_
    refine g_icmp_ne X rfl (fun h2 => ?_) (fun h2 => ?_)
    · refine g_lconst X rfl (v := 0) (by decide) ?_
      refine g_lret X rfl rfl (Nat.le_refl _) (Nat.le_refl _) ⟨?_, rfl, rfl⟩
      first | (simp_all [sDed]; done) | (simp_all [sDed, nI_0, n10]; done) | (simp_all [sDed, nI_0, n10, ← Int32.not_le]; done)
    · refine g_lload X rfl rfl ?_
      refine g_lconst X rfl (v := 0) (by decide) ?_
      refine g_l_ne X rfl rfl (fun h3 => ?_) (fun h3 => ?_)
      · refine g_iload_n X rfl rfl ?_
        refine g_i2l X rfl ?_
        refine g_aload_n X rfl rfl ?_
        refine g_get X rfl flX6_21 (ci := 6) rfl hs rfl ?_
        refine g_iload_n X rfl rfl ?_
        refine g_bipush X rfl (v := nI 30) (by decide) ?_
        refine g_idiv X rfl (by decide) ?_
        refine g_rVN X rfl lcX3_usedIn lnX6_65 lsX3_usedIn (cr_X3_usedIn l D cy B od hR9 w2) (ci := 3) hR rfl rfl rfl (Nat.le_of_ble_eq_true rfl) ⟨⟨by decide, by decide⟩, rfl, rfl⟩ ⟨Nat.zero_le _, Nat.zero_le _⟩ ?_
        refine g_i2l X rfl ?_
        refine g_lmul X rfl ?_
        refine g_lload X rfl rfl ?_
        refine g_ldiv X rfl (by assumption) ?_
        refine g_lret X rfl rfl (Nat.le_refl _) (Nat.le_refl _) ⟨?_, rfl, rfl⟩
        first | (simp_all [sDed]; done) | (simp_all [sDed, nI_0, n10]; done) | (simp_all [sDed, nI_0, n10, ← Int32.not_le]; done)
      · refine g_lconst X rfl (v := 0) (by decide) ?_
        refine g_lret X rfl rfl (Nat.le_refl _) (Nat.le_refl _) ⟨?_, rfl, rfl⟩
        first | (simp_all [sDed]; done) | (simp_all [sDed, nI_0, n10]; done) | (simp_all [sDed, nI_0, n10, ← Int32.not_le]; done)
  · refine g_iload_n X rfl rfl ?_
    refine g_i2l X rfl ?_
    refine g_lret X rfl rfl (Nat.le_refl _) (Nat.le_refl _) ⟨?_, rfl, rfl⟩
    first | (simp_all [sDed]; done) | (simp_all [sDed, nI_0, n10]; done) | (simp_all [sDed, nI_0, n10, ← Int32.not_le]; done)
set_option maxRecDepth 100000 in
set_option maxHeartbeats 400000 in
theorem lp_X6_deductibleUpTo (l : Launch) (D : va_G) (cy : Nat → ClassId) (B : Nat) (od : Nat → Option Nat) {p : Program} {e : Env} {s : State} {m : MethodId} {args : Array Value} {below : List Frame} {meth : Method} {c : Code} {A : AH} {z : Nat} {b : Nat} {S : StV} (hs9 : StA cy A b S) (hw : WfS S) {dy : Int32} (X : Cx p s m args meth c D cy B od cX6_deductibleUpTo 5 tX6_deductibleUpTo RX6 (some .long)) : ∀ (k i : Nat), 0 ≤ i → i ≤ S.1.1 → S.1.1 - i < k → G p l e rmX6_deductibleUpTo s m args below meth c D B od 5 tX6_deductibleUpTo (FinQ false D B od (fun v A' z' => v = some (.long (sDedU S dy)) ∧ A' = A ∧ z' = z) (fun _ _ => True) args s below 0 0) 0 0 A z 4 [some (.ref b), some (.int dy), some (.long (sumN (fun i => eCntIn S.1 (nI 0) dy i) (fun i => sDed S.2.1 (S.1.2 0 i) (S.1.2 2 i) (S.1.2 4 i)) i)), none, some (.int (nI i))] [] := by
  obtain ⟨hs, hE9, hR9, hA9, hp⟩ := id hs9
  obtain ⟨hE, hE0, hE1, hE2, hE3, hE4, hE5, hE6⟩ := id hE9
  obtain ⟨hR, hR0, hR1, hR2⟩ := id hR9
  obtain ⟨hA, hA0, hA1, hA2, hA3, hA4, hA5⟩ := id hA9
  obtain ⟨w1, w2, w3, w4, w5⟩ := id hw
  intro k
  induction k with
  | zero => intro i _ _ h; omega
  | succ k ih =>
    intro i hlo hi hk
    refine g_iload X rfl rfl ?_
    refine g_aload_n X rfl rfl ?_
    refine g_get X rfl flX6_12 (ci := 6) rfl hs rfl ?_
    refine g_get X rfl flX6_36 (ci := 1) rfl hE rfl ?_
    first | refine g_ic_geN X rfl (by omega) (by omega) (fun h1 => ?_) (fun h1 => ?_) | refine g_icmp_ge X rfl (fun h1 => ?_) (fun h1 => ?_)
    · refine g_lload_n X rfl rfl ?_
      refine g_lret X rfl rfl (Nat.le_refl _) (Nat.le_refl _) ⟨?_, rfl, rfl⟩
      rw [show i = S.1.1 by omega]; rfl
    · refine g_aload_n X rfl rfl ?_
      refine g_get X rfl flX6_12 (ci := 6) rfl hs rfl ?_
      refine g_iload X rfl rfl ?_
      refine g_iconst X rfl (v := nI 0) (by decide) ?_
      refine g_iload_n X rfl rfl ?_
      refine g_rVN X rfl lcX1_countsWithin lnX6_92 lsX1_countsWithin (cr_X1_countsWithin l D cy B od hE9 (by omega)) (ci := 1) hE rfl rfl rfl (Nat.le_of_ble_eq_true rfl) ⟨⟨by decide, by decide⟩, rfl, rfl⟩ ⟨Nat.zero_le _, Nat.zero_le _⟩ ?_
      first | refine g_if_eqB X rfl (fun h2 => ?_) (fun h2 => ?_) | refine g_if_eq X rfl (fun h2 => ?_) (fun h2 => ?_)
      · refine g_iinc1 X rfl rfl (by decide) ?_
        refine g_goto X rfl ?_
        have K9 := ih (i + 1) (by omega) (by omega) (by omega)
        first | (rw [show sumN (fun i => eCntIn S.1 (nI 0) dy i) (fun i => sDed S.2.1 (S.1.2 0 i) (S.1.2 2 i) (S.1.2 4 i)) (i + 1) = sumN (fun i => eCntIn S.1 (nI 0) dy i) (fun i => sDed S.2.1 (S.1.2 0 i) (S.1.2 2 i) (S.1.2 4 i)) i + (fun i => sDed S.2.1 (S.1.2 0 i) (S.1.2 2 i) (S.1.2 4 i)) i by rw [sumN, if_pos (by simp_all)]] at K9; exact K9) | (rw [show sumN (fun i => eCntIn S.1 (nI 0) dy i) (fun i => sDed S.2.1 (S.1.2 0 i) (S.1.2 2 i) (S.1.2 4 i)) (i + 1) = sumN (fun i => eCntIn S.1 (nI 0) dy i) (fun i => sDed S.2.1 (S.1.2 0 i) (S.1.2 2 i) (S.1.2 4 i)) i by rw [sumN, if_neg (by simp_all)]] at K9; exact K9)
      · refine g_lload_n X rfl rfl ?_
        refine g_aload_n X rfl rfl ?_
        refine g_aload_n X rfl rfl ?_
        refine g_get X rfl flX6_12 (ci := 6) rfl hs rfl ?_
        refine g_get X rfl flX6_73 (ci := 1) rfl hE rfl ?_
        refine g_iload X rfl rfl ?_
        refine g_ialdN X rfl hE0 (by omega) (by decide) ?_
        refine g_aload_n X rfl rfl ?_
        refine g_get X rfl flX6_12 (ci := 6) rfl hs rfl ?_
        refine g_get X rfl flX6_76 (ci := 1) rfl hE rfl ?_
        refine g_iload X rfl rfl ?_
        refine g_ialdN X rfl hE2 (by omega) (by decide) ?_
        refine g_aload_n X rfl rfl ?_
        refine g_get X rfl flX6_12 (ci := 6) rfl hs rfl ?_
        refine g_get X rfl flX6_79 (ci := 1) rfl hE rfl ?_
        refine g_iload X rfl rfl ?_
        refine g_ialdN X rfl hE4 (by omega) (by decide) ?_
        refine g_rV X rfl lcX6_deductibleOf lmX6_82 lsX6_deductibleOf (cr_X6_deductibleOf l D cy B od hs9 hw) (ci := 6) hs rfl rfl rfl (Nat.le_of_ble_eq_true rfl) ⟨⟨by decide, by decide⟩, rfl, rfl⟩ ⟨Nat.zero_le _, Nat.zero_le _⟩ ?_
        refine g_ladd X rfl ?_
        refine g_lstore_n X rfl (by decide) ?_
        refine g_iinc1 X rfl rfl (by decide) ?_
        refine g_goto X rfl ?_
        have K9 := ih (i + 1) (by omega) (by omega) (by omega)
        first | (rw [show sumN (fun i => eCntIn S.1 (nI 0) dy i) (fun i => sDed S.2.1 (S.1.2 0 i) (S.1.2 2 i) (S.1.2 4 i)) (i + 1) = sumN (fun i => eCntIn S.1 (nI 0) dy i) (fun i => sDed S.2.1 (S.1.2 0 i) (S.1.2 2 i) (S.1.2 4 i)) i + (fun i => sDed S.2.1 (S.1.2 0 i) (S.1.2 2 i) (S.1.2 4 i)) i by rw [sumN, if_pos (by simp_all)]] at K9; exact K9) | (rw [show sumN (fun i => eCntIn S.1 (nI 0) dy i) (fun i => sDed S.2.1 (S.1.2 0 i) (S.1.2 2 i) (S.1.2 4 i)) (i + 1) = sumN (fun i => eCntIn S.1 (nI 0) dy i) (fun i => sDed S.2.1 (S.1.2 0 i) (S.1.2 2 i) (S.1.2 4 i)) i by rw [sumN, if_neg (by simp_all)]] at K9; exact K9)
set_option maxRecDepth 100000 in
set_option maxHeartbeats 400000 in
theorem cr_X6_deductibleUpTo (l : Launch) (D : va_G) (cy : Nat → ClassId) (B : Nat) (od : Nat → Option Nat) {A : AH} {b : Nat} {S : StV} (hs9 : StA cy A b S) (hw : WfS S) {dy : Int32} : CR l D cy B od yX6_deductibleUpTo cX6_deductibleUpTo 5 (some .long) rmX6_deductibleUpTo [.ref b, .int dy] A (.long (sDedU S dy)) := by
  intro z
  refine CT.of (by decide) tX6_deductibleUpTo okX6_deductibleUpTo (Nat.le_of_ble_eq_true rfl) (q0 := tX6_deductibleUpTo[0]) rfl rfl ?_
  intro p e s m args below meth c X _
  obtain ⟨hs, hE9, hR9, hA9, hp⟩ := id hs9
  obtain ⟨hE, hE0, hE1, hE2, hE3, hE4, hE5, hE6⟩ := id hE9
  obtain ⟨hR, hR0, hR1, hR2⟩ := id hR9
  obtain ⟨hA, hA0, hA1, hA2, hA3, hA4, hA5⟩ := id hA9
  obtain ⟨w1, w2, w3, w4, w5⟩ := id hw
  refine g_lconst X rfl (v := 0) (by decide) ?_
  refine g_lstore_n X rfl (by decide) ?_
  refine g_iconst X rfl (v := nI 0) (by decide) ?_
  refine g_istore X rfl (by decide) ?_
  exact lp_X6_deductibleUpTo l D cy B od hs9 hw (dy := dy) X (S.1.1 + 1) 0 (by omega) (by omega) (by omega)
set_option maxRecDepth 100000 in
set_option maxHeartbeats 400000 in
theorem cr_X6_received (l : Launch) (D : va_G) (cy : Nat → ClassId) (B : Nat) (od : Nat → Option Nat) {A : AH} {b : Nat} {S : StV} (hs9 : StA cy A b S) (hw : WfS S) {f t : Int32} : CR l D cy B od yX6_received cX6_received 3 (some .long) rmX6_received [.ref b, .int f, .int t] A (.long (sRec S f t)) := by
  intro z
  refine CT.of (by decide) tX6_received okX6_received (Nat.le_of_ble_eq_true rfl) (q0 := tX6_received[0]) rfl rfl ?_
  intro p e s m args below meth c X _
  obtain ⟨hs, hE9, hR9, hA9, hp⟩ := id hs9
  obtain ⟨hE, hE0, hE1, hE2, hE3, hE4, hE5, hE6⟩ := id hE9
  obtain ⟨hR, hR0, hR1, hR2⟩ := id hR9
  obtain ⟨hA, hA0, hA1, hA2, hA3, hA4, hA5⟩ := id hA9
  obtain ⟨w1, w2, w3, w4, w5⟩ := id hw
  refine g_aload_n X rfl rfl ?_
  refine g_get X rfl flX6_12 (ci := 6) rfl hs rfl ?_
  refine g_iconst X rfl (v := nI 0) (by decide) ?_
  refine g_iload_n X rfl rfl ?_
  refine g_iload_n X rfl rfl ?_
  refine g_rVN X rfl lcX1_sumPaid lnX6_96 lsX1_sumPaid (cr_X1_sumPaid l D cy B od hE9 w1) (ci := 1) hE rfl rfl rfl (Nat.le_of_ble_eq_true rfl) ⟨⟨by decide, by decide⟩, rfl, rfl⟩ ⟨Nat.zero_le _, Nat.zero_le _⟩ ?_
  refine g_aload_n X rfl rfl ?_
  refine g_get X rfl flX6_28 (ci := 6) rfl hs rfl ?_
  refine g_iload_n X rfl rfl ?_
  refine g_iload_n X rfl rfl ?_
  refine g_rVN X rfl lcX0_soldFor lnX6_99 lsX0_soldFor (cr_X0_soldFor l D cy B od hA9 w3) (ci := 0) hA rfl rfl rfl (Nat.le_of_ble_eq_true rfl) ⟨⟨by decide, by decide⟩, rfl, rfl⟩ ⟨Nat.zero_le _, Nat.zero_le _⟩ ?_
  refine g_ladd X rfl ?_
  refine g_lret X rfl rfl (Nat.le_refl _) (Nat.le_refl _) ⟨?_, rfl, rfl⟩
  rfl
set_option maxRecDepth 100000 in
set_option maxHeartbeats 400000 in
theorem cr_X6_profitUpTo (l : Launch) (D : va_G) (cy : Nat → ClassId) (B : Nat) (od : Nat → Option Nat) {A : AH} {b : Nat} {S : StV} (hs9 : StA cy A b S) (hw : WfS S) {qu : Int32} : CR l D cy B od yX6_profitUpTo cX6_profitUpTo 3 (some .long) rmX6_profitUpTo [.ref b, .int qu] A (.long (sProf S qu)) := by
  intro z
  refine CT.of (by decide) tX6_profitUpTo okX6_profitUpTo (Nat.le_of_ble_eq_true rfl) (q0 := tX6_profitUpTo[0]) rfl rfl ?_
  intro p e s m args below meth c X _
  obtain ⟨hs, hE9, hR9, hA9, hp⟩ := id hs9
  obtain ⟨hE, hE0, hE1, hE2, hE3, hE4, hE5, hE6⟩ := id hE9
  obtain ⟨hR, hR0, hR1, hR2⟩ := id hR9
  obtain ⟨hA, hA0, hA1, hA2, hA3, hA4, hA5⟩ := id hA9
  obtain ⟨w1, w2, w3, w4, w5⟩ := id hw
  refine g_iload_n X rfl rfl ?_
  refine g_iconst X rfl (v := nI 1) (by decide) ?_
  refine g_iadd X rfl ?_
  refine g_bipush X rfl (v := nI 90) (by decide) ?_
  refine g_imul X rfl ?_
  refine g_iconst X rfl (v := nI 1) (by decide) ?_
  refine g_isub X rfl ?_
  refine g_istore_n X rfl (by decide) ?_
  refine g_aload_n X rfl rfl ?_
  refine g_iconst X rfl (v := nI 0) (by decide) ?_
  refine g_iload_n X rfl rfl ?_
  refine g_rV X rfl lcX6_received lmX6_103 lsX6_received (cr_X6_received l D cy B od hs9 hw) (ci := 6) hs rfl rfl rfl (Nat.le_of_ble_eq_true rfl) ⟨⟨by decide, by decide⟩, rfl, rfl⟩ ⟨Nat.zero_le _, Nat.zero_le _⟩ ?_
  refine g_aload_n X rfl rfl ?_
  refine g_iload_n X rfl rfl ?_
  refine g_rV X rfl lcX6_deductibleUpTo lmX6_106 lsX6_deductibleUpTo (cr_X6_deductibleUpTo l D cy B od hs9 hw) (ci := 6) hs rfl rfl rfl (Nat.le_of_ble_eq_true rfl) ⟨⟨by decide, by decide⟩, rfl, rfl⟩ ⟨Nat.zero_le _, Nat.zero_le _⟩ ?_
  refine g_lsub X rfl ?_
  refine g_aload_n X rfl rfl ?_
  refine g_get X rfl flX6_28 (ci := 6) rfl hs rfl ?_
  refine g_iload_n X rfl rfl ?_
  refine g_rVN X rfl lcX0_allWrittenUpTo lnX6_110 lsX0_allWrittenUpTo (cr_X0_allWrittenUpTo l D cy B od hA9 w3 w5) (ci := 0) hA rfl rfl rfl (Nat.le_of_ble_eq_true rfl) ⟨⟨by decide, by decide⟩, rfl, rfl⟩ ⟨Nat.zero_le _, Nat.zero_le _⟩ ?_
  refine g_lsub X rfl ?_
  refine g_lret X rfl rfl (Nat.le_refl _) (Nat.le_refl _) ⟨?_, rfl, rfl⟩
  rfl
set_option maxRecDepth 100000 in
set_option maxHeartbeats 400000 in
theorem lp_X6_prepaidSoFar (l : Launch) (D : va_G) (cy : Nat → ClassId) (B : Nat) (od : Nat → Option Nat) {p : Program} {e : Env} {s : State} {m : MethodId} {args : Array Value} {below : List Frame} {meth : Method} {c : Code} {A : AH} {z : Nat} {b : Nat} {S : StV} (hs9 : StA cy A b S) (hw : WfS S) (X : Cx p s m args meth c D cy B od cX6_prepaidSoFar 4 tX6_prepaidSoFar RX6 (some .long)) : ∀ (k i : Nat), 0 ≤ i → i ≤ S.2.2.2.2.1 → S.2.2.2.2.1 - i < k → G p l e rmX6_prepaidSoFar s m args below meth c D B od 4 tX6_prepaidSoFar (FinQ false D B od (fun v A' z' => v = some (.long (sPre S)) ∧ A' = A ∧ z' = z) (fun _ _ => True) args s below 0 0) 0 0 A z 4 [some (.ref b), some (.long (sumL 0 (fun i => (S.2.2.2.1 i).toInt64) i)), none, some (.int (nI i))] [] := by
  obtain ⟨hs, hE9, hR9, hA9, hp⟩ := id hs9
  obtain ⟨hE, hE0, hE1, hE2, hE3, hE4, hE5, hE6⟩ := id hE9
  obtain ⟨hR, hR0, hR1, hR2⟩ := id hR9
  obtain ⟨hA, hA0, hA1, hA2, hA3, hA4, hA5⟩ := id hA9
  obtain ⟨w1, w2, w3, w4, w5⟩ := id hw
  intro k
  induction k with
  | zero => intro i _ _ h; omega
  | succ k ih =>
    intro i hlo hi hk
    refine g_iload_n X rfl rfl ?_
    refine g_aload_n X rfl rfl ?_
    refine g_get X rfl flX6_48 (ci := 6) rfl hs rfl ?_
    first | refine g_ic_geN X rfl (by omega) (by omega) (fun h1 => ?_) (fun h1 => ?_) | refine g_icmp_ge X rfl (fun h1 => ?_) (fun h1 => ?_)
    · refine g_lload_n X rfl rfl ?_
      refine g_lret X rfl rfl (Nat.le_refl _) (Nat.le_refl _) ⟨?_, rfl, rfl⟩
      rw [show i = S.2.2.2.2.1 by omega]; rfl
    · refine g_lload_n X rfl rfl ?_
      refine g_aload_n X rfl rfl ?_
      refine g_get X rfl flX6_32 (ci := 6) rfl hs rfl ?_
      refine g_iload_n X rfl rfl ?_
      refine g_ialdN X rfl hp (by omega) (by decide) ?_
      refine g_i2l X rfl ?_
      refine g_ladd X rfl ?_
      refine g_lstore_n X rfl (by decide) ?_
      refine g_iinc1 X rfl rfl (by decide) ?_
      refine g_goto X rfl ?_
      exact ih (i + 1) (by omega) (by omega) (by omega)
set_option maxRecDepth 100000 in
set_option maxHeartbeats 400000 in
theorem cr_X6_prepaidSoFar (l : Launch) (D : va_G) (cy : Nat → ClassId) (B : Nat) (od : Nat → Option Nat) {A : AH} {b : Nat} {S : StV} (hs9 : StA cy A b S) (hw : WfS S) : CR l D cy B od yX6_prepaidSoFar cX6_prepaidSoFar 4 (some .long) rmX6_prepaidSoFar [.ref b] A (.long (sPre S)) := by
  intro z
  refine CT.of (by decide) tX6_prepaidSoFar okX6_prepaidSoFar (Nat.le_of_ble_eq_true rfl) (q0 := tX6_prepaidSoFar[0]) rfl rfl ?_
  intro p e s m args below meth c X _
  obtain ⟨hs, hE9, hR9, hA9, hp⟩ := id hs9
  obtain ⟨hE, hE0, hE1, hE2, hE3, hE4, hE5, hE6⟩ := id hE9
  obtain ⟨hR, hR0, hR1, hR2⟩ := id hR9
  obtain ⟨hA, hA0, hA1, hA2, hA3, hA4, hA5⟩ := id hA9
  obtain ⟨w1, w2, w3, w4, w5⟩ := id hw
  refine g_lconst X rfl (v := 0) (by decide) ?_
  refine g_lstore_n X rfl (by decide) ?_
  refine g_iconst X rfl (v := nI 0) (by decide) ?_
  refine g_istore_n X rfl (by decide) ?_
  exact lp_X6_prepaidSoFar l D cy B od hs9 hw X (S.2.2.2.2.1 + 1) 0 (by omega) (by omega) (by omega)
