/-! 12: constants, rooms, assets, the setup: what is read of them -/
theorem kcX4_32 : Cond.constant RX4 32 (nI 80000) ∈ lw_good := lw_good_in (n := 147) (by decide +kernel) rfl
theorem kcX4_36 : Cond.constant RX4 36 (nI 100000) ∈ lw_good := lw_good_in (n := 148) (by decide +kernel) rfl
theorem kcX7_48 : Cond.constant RX7 48 (nI 1000000) ∈ lw_good := lw_good_in (n := 360) (by decide +kernel) rfl
theorem kcX7_53 : Cond.constant RX7 53 (nI 6000000) ∈ lw_good := lw_good_in (n := 365) (by decide +kernel) rfl
theorem lmX5_40 : Cond.methodLink RX5 40 Lib.Math.min.name ∈ lw_good := lw_good_in (n := 415) (by decide +kernel) rfl
theorem kcX5_102 : Cond.constant RX5 102 (nI 10000000) ∈ lw_good := lw_good_in (n := 492) (by decide +kernel) rfl
theorem kcX5_108 : Cond.constant RX5 108 (nI 1000000) ∈ lw_good := lw_good_in (n := 505) (by decide +kernel) rfl
theorem kcX5_128 : Cond.constant RX5 128 (nI 99999999) ∈ lw_good := lw_good_in (n := 525) (by decide +kernel) rfl
theorem lmX4_52 : Cond.methodLink RX4 52 Lib.MathLoose.min_long.x ∈ lw_good := lw_good_in (n := 1580) (by decide +kernel) rfl
theorem lmX4_58 : Cond.methodLink RX4 58 Lib.MathLoose.max_long.x ∈ lw_good := lw_good_in (n := 1581) (by decide +kernel) rfl
theorem kcX4_61 : Cond.constantLong RX4 61 (1000) ∈ lw_good := lw_good_in (n := 1582) (by decide +kernel) rfl
theorem kcX7_356 : Cond.constantLong RX7 356 (4) ∈ lw_good := lw_good_in (n := 1575) (by decide +kernel) rfl
theorem lmX7_192 : Cond.methodLink RX7 192 Lib.MathLoose.max_long.x ∈ lw_good := lw_good_in (n := 1587) (by decide +kernel) rfl
theorem kcX7_105 : Cond.constant RX7 105 (nI 10000000) ∈ lw_good := lw_good_in (n := 1509) (by decide +kernel) rfl
theorem lmX2_29 : Cond.methodLink RX2 29 Lib.Math.min.name ∈ lw_good := lw_good_in (n := 1426) (by decide +kernel) rfl
theorem kcX7_153 : Cond.constant RX7 153 (nI 5000000) ∈ lw_good := lw_good_in (n := 1544) (by decide +kernel) rfl
theorem kcX7_201 : Cond.constant RX7 201 (-10000000) ∈ lw_good := lw_good_in (n := 1595) (by decide +kernel) rfl
theorem lmX2_35 : Cond.methodLink RX2 35 Lib.Math.max.name ∈ lw_good := lw_good_in (n := 1439) (by decide +kernel) rfl
abbrev RV : Type := Nat × (Nat → Nat → Int32)
/-- rooms: area, from, to -/
def RoomA (cy : Nat → ClassId) (A : AH) (b : Nat) (Rm : RV) : Prop := A b = some (.inr (3, [.int (nI Rm.1), .ref (b + 1), .ref (b + 2), .ref (b + 3)])) ∧ A (b + 1) = some (.inl (cy 0, 6, .inl (Rm.2 0))) ∧ A (b + 2) = some (.inl (cy 0, 6, .inl (Rm.2 1))) ∧ A (b + 3) = some (.inl (cy 0, 6, .inl (Rm.2 2)))
/-- assets: price, day, life, sort, soldDay, soldPrice -/
def AssA (cy : Nat → ClassId) (A : AH) (b : Nat) (As : RV) : Prop := A b = some (.inr (0, [.int (nI As.1), .ref (b + 1), .ref (b + 2), .ref (b + 3), .ref (b + 4), .ref (b + 5), .ref (b + 6)])) ∧ A (b + 1) = some (.inl (cy 0, 12, .inl (As.2 0))) ∧ A (b + 2) = some (.inl (cy 0, 12, .inl (As.2 1))) ∧ A (b + 3) = some (.inl (cy 0, 12, .inl (As.2 2))) ∧ A (b + 4) = some (.inl (cy 0, 12, .inl (As.2 3))) ∧ A (b + 5) = some (.inl (cy 0, 12, .inl (As.2 4))) ∧ A (b + 6) = some (.inl (cy 0, 12, .inl (As.2 5)))
/-- the setup: how many brackets; scalars start, smallLimit, poolLimit, interestRate, topRate; limits, rates -/
abbrev SV : Type := Nat × (Nat → Int32) × (Nat → Nat → Int32)
def SetA (cy : Nat → ClassId) (A : AH) (b : Nat) (S : SV) : Prop := A b = some (.inr (4, [.int (S.2.1 0), .int (S.2.1 1), .int (S.2.1 2), .int (S.2.1 3), .int (S.2.1 4), .int (nI S.1), .ref (b + 1), .ref (b + 2), .ref (b + 3)])) ∧ A (b + 1) = some (.inl (cy 0, 5, .inl (S.2.2 0))) ∧ A (b + 2) = some (.inl (cy 0, 5, .inl (S.2.2 1)))
def rDays (Rm : RV) (f t : Int32) (i : Nat) : Int32 :=
  if Rm.2 1 i = -1 ∨ (if Rm.2 2 i < t then Rm.2 2 i else t) < (if f < Rm.2 1 i then Rm.2 1 i else f) then nI 0
  else (if Rm.2 2 i < t then Rm.2 2 i else t) - (if f < Rm.2 1 i then Rm.2 1 i else f) + nI 1
def sumI (f : Nat → Int32) : Nat → Int32
  | 0 => nI 0
  | n + 1 => sumI f n + f n
def sumL (z0 : Int64) (f : Nat → Int64) : Nat → Int64
  | 0 => z0
  | n + 1 => sumL z0 f n + f n
def rUsed (Rm : RV) (mo : Int32) : Int32 := sumI (fun i => Rm.2 0 i * rDays Rm (mo * nI 30) (mo * nI 30 + nI 30 - nI 1) i) Rm.1
def rWhole (Rm : RV) : Int32 := sumI (fun i => Rm.2 0 i * nI 30) Rm.1
def aSoldBy (As : RV) (mo : Int32) (i : Nat) : Bool := As.2 4 i != -1 && decide (As.2 4 i / nI 30 ≤ mo)
def aWU (As : RV) (i : Nat) (mo : Int32) : Int32 :=
  if As.2 3 i = nI 1 ∨ mo - As.2 1 i / nI 30 + nI 1 < nI 1 then nI 0
  else if As.2 3 i = 0 ∨ As.2 2 i ≤ mo - As.2 1 i / nI 30 + nI 1 ∨ aSoldBy As mo i = true then As.2 0 i
  else As.2 0 i * (mo - As.2 1 i / nI 30 + nI 1) / As.2 2 i
def aVal (As : RV) (i : Nat) (mo : Int32) : Int32 :=
  if As.2 3 i = nI 1 ∨ mo < As.2 1 i / nI 30 ∨ aSoldBy As mo i = true then nI 0 else As.2 0 i - aWU As i mo
def sumQ (q : Nat → Bool) (f : Nat → Int32) : Nat → Int32
  | 0 => nI 0
  | n + 1 => if q n then sumQ q f n + f n else sumQ q f n
def aPool (As : RV) (qu : Int32) : Int32 := sumQ (fun i => As.2 3 i == nI 1 && decide (As.2 1 i / nI 90 ≤ qu)) (fun i => As.2 0 i) As.1
def aPW (As : RV) (qu : Int32) : Int32 := aPool As qu * (qu + nI 1) / nI 20
def aAll (As : RV) (qu : Int32) : Int64 := sumL (aPW As qu).toInt64 (fun i => (aWU As i ((qu + nI 1) * nI 3 - nI 1)).toInt64) As.1
def aSoldFor (As : RV) (f t : Int32) : Int64 := sumN (fun i => As.2 4 i != -1 && (decide (f ≤ As.2 4 i) && decide (As.2 4 i ≤ t))) (fun i => (As.2 5 i).toInt64) As.1
def within9 (v a b : Int32) : Bool := decide (a ≤ v) && decide (v ≤ b)
def sSort (S : SV) (pr : Int32) : Int32 := if pr ≤ S.2.1 1 then nI 0 else if pr ≤ S.2.1 2 then nI 1 else nI 2
def taxSt (S : SV) (am : Int64) : Nat → Int64 × Int64
  | 0 => (0, 0)
  | n + 1 => let w := taxSt S am n
    let mn : Int64 := if (S.2.2 0 n).toInt64 < am then (S.2.2 0 n).toInt64 else am
    (w.1 + (if mn - w.2 < 0 then 0 else mn - w.2) * (S.2.2 1 n).toInt64, (S.2.2 0 n).toInt64)
def sTax (S : SV) (am : Int64) : Int64 := if am ≤ 0 then 0 else ((taxSt S am S.1).1 + (if am - (taxSt S am S.1).2 < 0 then 0 else am - (taxSt S am S.1).2) * (S.2.1 4).toInt64) / 1000
theorem n10 : ¬ nI 1 = 0 := by decide
def rateN (S : SV) (am : Int32) : Nat → Nat → Int32
  | 0, _ => S.2.1 4
  | k + 1, i => if S.2.2 0 i < am then rateN S am k (i + 1) else S.2.2 1 i
def sRate (S : SV) (am : Int32) : Int32 := rateN S am S.1 0

set_option maxRecDepth 100000 in
set_option maxHeartbeats 400000 in
theorem cr_X7_within (l : Launch) (D : va_G) (cy : Nat → ClassId) (B : Nat) (od : Nat → Option Nat) {A : AH} {v a1 b1 : Int32} : CR l D cy B od yX7_within cX7_within 3 (some .boolean) rmX7_within [.int v, .int a1, .int b1] A (.int (bI (within9 v a1 b1))) := by
  intro z
  refine CT.of (by decide) tX7_within okX7_within (Nat.le_of_ble_eq_true rfl) (q0 := tX7_within[0]) rfl rfl ?_
  intro p e s m args below meth c X _
  refine g_iload_n X rfl rfl ?_
  refine g_iload_n X rfl rfl ?_
  refine g_icmp_lt X rfl (fun h1 => ?_) (fun h1 => ?_)
  · refine g_iconst X rfl (v := nI 0) (by decide) ?_
    refine g_iret X rfl rfl (by first | rfl | exact bI_nar _ | decide) (Nat.le_refl _) (Nat.le_refl _) ⟨?_, rfl, rfl⟩
    first | exact bR0 (by simp_all [within9, ← Int32.not_le, ← Int64.not_le]) | exact bR1 (by simp_all [within9, ← Int32.not_le, ← Int64.not_le])
  · refine g_iload_n X rfl rfl ?_
    refine g_iload_n X rfl rfl ?_
    refine g_icmp_gt X rfl (fun h2 => ?_) (fun h2 => ?_)
    · refine g_iconst X rfl (v := nI 0) (by decide) ?_
      refine g_iret X rfl rfl (by first | rfl | exact bI_nar _ | decide) (Nat.le_refl _) (Nat.le_refl _) ⟨?_, rfl, rfl⟩
      first | exact bR0 (by simp_all [within9, ← Int32.not_le, ← Int64.not_le]) | exact bR1 (by simp_all [within9, ← Int32.not_le, ← Int64.not_le])
    · refine g_iconst X rfl (v := nI 1) (by decide) ?_
      refine g_goto X rfl ?_
      refine g_iret X rfl rfl (by first | rfl | exact bI_nar _ | decide) (Nat.le_refl _) (Nat.le_refl _) ⟨?_, rfl, rfl⟩
      first | exact bR0 (by simp_all [within9, ← Int32.not_le, ← Int64.not_le]) | exact bR1 (by simp_all [within9, ← Int32.not_le, ← Int64.not_le])
set_option maxRecDepth 100000 in
set_option maxHeartbeats 400000 in
theorem cr_X3_daysUsed (l : Launch) (D : va_G) (cy : Nat → ClassId) (B : Nat) (od : Nat → Option Nat) {A : AH} {b : Nat} {Rm : RV} (h9 : RoomA cy A b Rm) {i : Nat} (hi : i < 6) {f t : Int32} : CR l D cy B od yX3_daysUsed cX3_daysUsed 6 (some .int) rmX3_daysUsed [.ref b, .int (nI i), .int f, .int t] A (.int (rDays Rm f t i)) := by
  intro z
  refine CT.of (by decide) tX3_daysUsed okX3_daysUsed (Nat.le_of_ble_eq_true rfl) (q0 := tX3_daysUsed[0]) rfl rfl ?_
  intro p e s m args below meth c X _
  obtain ⟨hq, hq0, hq1, hq2⟩ := id h9
  refine g_aload_n X rfl rfl ?_
  refine g_get X rfl flX3_15 (ci := 3) rfl hq rfl ?_
  refine g_iload_n X rfl rfl ?_
  refine g_ialdN X rfl hq1 (by omega) (by decide) ?_
  refine g_iload_n X rfl rfl ?_
  refine g_icmp_le X rfl (fun h1 => ?_) (fun h1 => ?_)
  · refine g_iload_n X rfl rfl ?_
    refine g_istore X rfl (by decide) ?_
    refine g_aload_n X rfl rfl ?_
    refine g_get X rfl flX3_18 (ci := 3) rfl hq rfl ?_
    refine g_iload_n X rfl rfl ?_
    refine g_ialdN X rfl hq2 (by omega) (by decide) ?_
    refine g_iload_n X rfl rfl ?_
    refine g_icmp_ge X rfl (fun h2 => ?_) (fun h2 => ?_)
    · refine g_iload_n X rfl rfl ?_
      refine g_istore X rfl (by decide) ?_
      refine g_aload_n X rfl rfl ?_
      refine g_get X rfl flX3_15 (ci := 3) rfl hq rfl ?_
      refine g_iload_n X rfl rfl ?_
      refine g_ialdN X rfl hq1 (by omega) (by decide) ?_
      refine g_iconst X rfl (v := (-1)) (by decide) ?_
      refine g_icmp_eq X rfl (fun h3 => ?_) (fun h3 => ?_)
      · refine g_iconst X rfl (v := nI 0) (by decide) ?_
        refine g_goto X rfl ?_
        refine g_iret X rfl rfl (by first | rfl | exact bI_nar _ | decide) (Nat.le_refl _) (Nat.le_refl _) ⟨?_, rfl, rfl⟩
        first | (simp_all [rDays]; done) | (simp_all [rDays, ← Int32.not_le]; done)
      · refine g_iload X rfl rfl ?_
        refine g_iload X rfl rfl ?_
        refine g_icmp_ge X rfl (fun h4 => ?_) (fun h4 => ?_)
        · refine g_iload X rfl rfl ?_
          refine g_iload X rfl rfl ?_
          refine g_isub X rfl ?_
          refine g_iconst X rfl (v := nI 1) (by decide) ?_
          refine g_iadd X rfl ?_
          refine g_iret X rfl rfl (by first | rfl | exact bI_nar _ | decide) (Nat.le_refl _) (Nat.le_refl _) ⟨?_, rfl, rfl⟩
          first | (simp_all [rDays]; done) | (simp_all [rDays, ← Int32.not_le]; done)
        · refine g_iconst X rfl (v := nI 0) (by decide) ?_
          refine g_goto X rfl ?_
          refine g_iret X rfl rfl (by first | rfl | exact bI_nar _ | decide) (Nat.le_refl _) (Nat.le_refl _) ⟨?_, rfl, rfl⟩
          first | (simp_all [rDays]; done) | (simp_all [rDays, ← Int32.not_le]; done)
    · refine g_aload_n X rfl rfl ?_
      refine g_get X rfl flX3_18 (ci := 3) rfl hq rfl ?_
      refine g_iload_n X rfl rfl ?_
      refine g_ialdN X rfl hq2 (by omega) (by decide) ?_
      refine g_goto X rfl ?_
      refine g_istore X rfl (by decide) ?_
      refine g_aload_n X rfl rfl ?_
      refine g_get X rfl flX3_15 (ci := 3) rfl hq rfl ?_
      refine g_iload_n X rfl rfl ?_
      refine g_ialdN X rfl hq1 (by omega) (by decide) ?_
      refine g_iconst X rfl (v := (-1)) (by decide) ?_
      refine g_icmp_eq X rfl (fun h5 => ?_) (fun h5 => ?_)
      · refine g_iconst X rfl (v := nI 0) (by decide) ?_
        refine g_goto X rfl ?_
        refine g_iret X rfl rfl (by first | rfl | exact bI_nar _ | decide) (Nat.le_refl _) (Nat.le_refl _) ⟨?_, rfl, rfl⟩
        first | (simp_all [rDays]; done) | (simp_all [rDays, ← Int32.not_le]; done)
      · refine g_iload X rfl rfl ?_
        refine g_iload X rfl rfl ?_
        refine g_icmp_ge X rfl (fun h6 => ?_) (fun h6 => ?_)
        · refine g_iload X rfl rfl ?_
          refine g_iload X rfl rfl ?_
          refine g_isub X rfl ?_
          refine g_iconst X rfl (v := nI 1) (by decide) ?_
          refine g_iadd X rfl ?_
          refine g_iret X rfl rfl (by first | rfl | exact bI_nar _ | decide) (Nat.le_refl _) (Nat.le_refl _) ⟨?_, rfl, rfl⟩
          first | (simp_all [rDays]; done) | (simp_all [rDays, ← Int32.not_le]; done)
        · refine g_iconst X rfl (v := nI 0) (by decide) ?_
          refine g_goto X rfl ?_
          refine g_iret X rfl rfl (by first | rfl | exact bI_nar _ | decide) (Nat.le_refl _) (Nat.le_refl _) ⟨?_, rfl, rfl⟩
          first | (simp_all [rDays]; done) | (simp_all [rDays, ← Int32.not_le]; done)
  · refine g_aload_n X rfl rfl ?_
    refine g_get X rfl flX3_15 (ci := 3) rfl hq rfl ?_
    refine g_iload_n X rfl rfl ?_
    refine g_ialdN X rfl hq1 (by omega) (by decide) ?_
    refine g_goto X rfl ?_
    refine g_istore X rfl (by decide) ?_
    refine g_aload_n X rfl rfl ?_
    refine g_get X rfl flX3_18 (ci := 3) rfl hq rfl ?_
    refine g_iload_n X rfl rfl ?_
    refine g_ialdN X rfl hq2 (by omega) (by decide) ?_
    refine g_iload_n X rfl rfl ?_
    refine g_icmp_ge X rfl (fun h7 => ?_) (fun h7 => ?_)
    · refine g_iload_n X rfl rfl ?_
      refine g_istore X rfl (by decide) ?_
      refine g_aload_n X rfl rfl ?_
      refine g_get X rfl flX3_15 (ci := 3) rfl hq rfl ?_
      refine g_iload_n X rfl rfl ?_
      refine g_ialdN X rfl hq1 (by omega) (by decide) ?_
      refine g_iconst X rfl (v := (-1)) (by decide) ?_
      refine g_icmp_eq X rfl (fun h8 => ?_) (fun h8 => ?_)
      · refine g_iconst X rfl (v := nI 0) (by decide) ?_
        refine g_goto X rfl ?_
        refine g_iret X rfl rfl (by first | rfl | exact bI_nar _ | decide) (Nat.le_refl _) (Nat.le_refl _) ⟨?_, rfl, rfl⟩
        first | (simp_all [rDays]; done) | (simp_all [rDays, ← Int32.not_le]; done)
      · refine g_iload X rfl rfl ?_
        refine g_iload X rfl rfl ?_
        refine g_icmp_ge X rfl (fun h9 => ?_) (fun h9 => ?_)
        · refine g_iload X rfl rfl ?_
          refine g_iload X rfl rfl ?_
          refine g_isub X rfl ?_
          refine g_iconst X rfl (v := nI 1) (by decide) ?_
          refine g_iadd X rfl ?_
          refine g_iret X rfl rfl (by first | rfl | exact bI_nar _ | decide) (Nat.le_refl _) (Nat.le_refl _) ⟨?_, rfl, rfl⟩
          first | (simp_all [rDays]; done) | (simp_all [rDays, ← Int32.not_le]; done)
        · refine g_iconst X rfl (v := nI 0) (by decide) ?_
          refine g_goto X rfl ?_
          refine g_iret X rfl rfl (by first | rfl | exact bI_nar _ | decide) (Nat.le_refl _) (Nat.le_refl _) ⟨?_, rfl, rfl⟩
          first | (simp_all [rDays]; done) | (simp_all [rDays, ← Int32.not_le]; done)
    · refine g_aload_n X rfl rfl ?_
      refine g_get X rfl flX3_18 (ci := 3) rfl hq rfl ?_
      refine g_iload_n X rfl rfl ?_
      refine g_ialdN X rfl hq2 (by omega) (by decide) ?_
      refine g_goto X rfl ?_
      refine g_istore X rfl (by decide) ?_
      refine g_aload_n X rfl rfl ?_
      refine g_get X rfl flX3_15 (ci := 3) rfl hq rfl ?_
      refine g_iload_n X rfl rfl ?_
      refine g_ialdN X rfl hq1 (by omega) (by decide) ?_
      refine g_iconst X rfl (v := (-1)) (by decide) ?_
      refine g_icmp_eq X rfl (fun h10 => ?_) (fun h10 => ?_)
      · refine g_iconst X rfl (v := nI 0) (by decide) ?_
        refine g_goto X rfl ?_
        refine g_iret X rfl rfl (by first | rfl | exact bI_nar _ | decide) (Nat.le_refl _) (Nat.le_refl _) ⟨?_, rfl, rfl⟩
        first | (simp_all [rDays]; done) | (simp_all [rDays, ← Int32.not_le]; done)
      · refine g_iload X rfl rfl ?_
        refine g_iload X rfl rfl ?_
        refine g_icmp_ge X rfl (fun h11 => ?_) (fun h11 => ?_)
        · refine g_iload X rfl rfl ?_
          refine g_iload X rfl rfl ?_
          refine g_isub X rfl ?_
          refine g_iconst X rfl (v := nI 1) (by decide) ?_
          refine g_iadd X rfl ?_
          refine g_iret X rfl rfl (by first | rfl | exact bI_nar _ | decide) (Nat.le_refl _) (Nat.le_refl _) ⟨?_, rfl, rfl⟩
          first | (simp_all [rDays]; done) | (simp_all [rDays, ← Int32.not_le]; done)
        · refine g_iconst X rfl (v := nI 0) (by decide) ?_
          refine g_goto X rfl ?_
          refine g_iret X rfl rfl (by first | rfl | exact bI_nar _ | decide) (Nat.le_refl _) (Nat.le_refl _) ⟨?_, rfl, rfl⟩
          first | (simp_all [rDays]; done) | (simp_all [rDays, ← Int32.not_le]; done)
set_option maxRecDepth 100000 in
set_option maxHeartbeats 400000 in
theorem lp_X3_usedIn (l : Launch) (D : va_G) (cy : Nat → ClassId) (B : Nat) (od : Nat → Option Nat) {p : Program} {e : Env} {s : State} {m : MethodId} {args : Array Value} {below : List Frame} {meth : Method} {c : Code} {A : AH} {z : Nat} {b : Nat} {Rm : RV} (h9 : RoomA cy A b Rm) (hn : Rm.1 ≤ 6) {mo : Int32} (X : Cx p s m args meth c D cy B od cX3_usedIn 5 tX3_usedIn RX3 (some .int)) : ∀ (k i : Nat), 0 ≤ i → i ≤ Rm.1 → Rm.1 - i < k → G p l e rmX3_usedIn s m args below meth c D B od 5 tX3_usedIn (FinQ false D B od (fun v A' z' => v = some (.int (rUsed Rm mo)) ∧ A' = A ∧ z' = z) (fun _ _ => True) args s below 0 0) 0 0 A z 8 [some (.ref b), some (.int mo), some (.int (mo * nI 30)), some (.int (sumI (fun i => Rm.2 0 i * rDays Rm (mo * nI 30) (mo * nI 30 + nI 30 - nI 1) i) i)), some (.int (nI i))] [] := by
  obtain ⟨hq, hq0, hq1, hq2⟩ := id h9
  intro k
  induction k with
  | zero => intro i _ _ h; omega
  | succ k ih =>
    intro i hlo hi hk
    refine g_iload X rfl rfl ?_
    refine g_aload_n X rfl rfl ?_
    refine g_get X rfl flX3_21 (ci := 3) rfl hq rfl ?_
    first | refine g_ic_geN X rfl (by omega) (by omega) (fun h1 => ?_) (fun h1 => ?_) | refine g_icmp_ge X rfl (fun h1 => ?_) (fun h1 => ?_)
    · refine g_iload_n X rfl rfl ?_
      refine g_iret X rfl rfl (by first | rfl | exact bI_nar _ | decide) (Nat.le_refl _) (Nat.le_refl _) ⟨?_, rfl, rfl⟩
      rw [show i = Rm.1 by omega]; rfl
    · refine g_iload_n X rfl rfl ?_
      refine g_aload_n X rfl rfl ?_
      refine g_get X rfl flX3_9 (ci := 3) rfl hq rfl ?_
      refine g_iload X rfl rfl ?_
      refine g_ialdN X rfl hq0 (by omega) (by decide) ?_
      refine g_aload_n X rfl rfl ?_
      refine g_iload X rfl rfl ?_
      refine g_iload_n X rfl rfl ?_
      refine g_iload_n X rfl rfl ?_
      refine g_bipush X rfl (v := nI 30) (by decide) ?_
      refine g_iadd X rfl ?_
      refine g_iconst X rfl (v := nI 1) (by decide) ?_
      refine g_isub X rfl ?_
      refine g_rV X rfl lcX3_daysUsed lmX3_25 lsX3_daysUsed (cr_X3_daysUsed l D cy B od (Rm := Rm) (i := i) ⟨hq, hq0, hq1, hq2⟩ (by omega)) (ci := 3) hq rfl rfl rfl (Nat.le_of_ble_eq_true rfl) ⟨⟨by decide, by decide⟩, rfl, rfl⟩ ⟨Nat.zero_le _, Nat.zero_le _⟩ ?_
      refine g_imul X rfl ?_
      refine g_iadd X rfl ?_
      refine g_istore_n X rfl (by decide) ?_
      refine g_iinc1 X rfl rfl (by decide) ?_
      refine g_goto X rfl ?_
      have K9 := ih (i + 1) (by omega) (by omega) (by omega)
      exact K9
set_option maxRecDepth 100000 in
set_option maxHeartbeats 400000 in
theorem cr_X3_usedIn (l : Launch) (D : va_G) (cy : Nat → ClassId) (B : Nat) (od : Nat → Option Nat) {A : AH} {b : Nat} {Rm : RV} (h9 : RoomA cy A b Rm) (hn : Rm.1 ≤ 6) {mo : Int32} : CR l D cy B od yX3_usedIn cX3_usedIn 5 (some .int) rmX3_usedIn [.ref b, .int mo] A (.int (rUsed Rm mo)) := by
  intro z
  refine CT.of (by decide) tX3_usedIn okX3_usedIn (Nat.le_of_ble_eq_true rfl) (q0 := tX3_usedIn[0]) rfl rfl ?_
  intro p e s m args below meth c X _
  refine g_iload_n X rfl rfl ?_
  refine g_bipush X rfl (v := nI 30) (by decide) ?_
  refine g_imul X rfl ?_
  refine g_istore_n X rfl (by decide) ?_
  refine g_iconst X rfl (v := nI 0) (by decide) ?_
  refine g_istore_n X rfl (by decide) ?_
  refine g_iconst X rfl (v := nI 0) (by decide) ?_
  refine g_istore X rfl (by decide) ?_
  exact lp_X3_usedIn l D cy B od h9 hn (mo := mo) X (Rm.1 + 1) 0 (by omega) (by omega) (by omega)
set_option maxRecDepth 100000 in
set_option maxHeartbeats 400000 in
theorem lp_X3_wholeMonth (l : Launch) (D : va_G) (cy : Nat → ClassId) (B : Nat) (od : Nat → Option Nat) {p : Program} {e : Env} {s : State} {m : MethodId} {args : Array Value} {below : List Frame} {meth : Method} {c : Code} {A : AH} {z : Nat} {b : Nat} {Rm : RV} (h9 : RoomA cy A b Rm) (hn : Rm.1 ≤ 6) (X : Cx p s m args meth c D cy B od cX3_wholeMonth 3 tX3_wholeMonth RX3 (some .int)) : ∀ (k i : Nat), 0 ≤ i → i ≤ Rm.1 → Rm.1 - i < k → G p l e rmX3_wholeMonth s m args below meth c D B od 3 tX3_wholeMonth (FinQ false D B od (fun v A' z' => v = some (.int (rWhole Rm)) ∧ A' = A ∧ z' = z) (fun _ _ => True) args s below 0 0) 0 0 A z 4 [some (.ref b), some (.int (sumI (fun i => Rm.2 0 i * nI 30) i)), some (.int (nI i))] [] := by
  obtain ⟨hq, hq0, hq1, hq2⟩ := id h9
  intro k
  induction k with
  | zero => intro i _ _ h; omega
  | succ k ih =>
    intro i hlo hi hk
    refine g_iload_n X rfl rfl ?_
    refine g_aload_n X rfl rfl ?_
    refine g_get X rfl flX3_21 (ci := 3) rfl hq rfl ?_
    first | refine g_ic_geN X rfl (by omega) (by omega) (fun h1 => ?_) (fun h1 => ?_) | refine g_icmp_ge X rfl (fun h1 => ?_) (fun h1 => ?_)
    · refine g_iload_n X rfl rfl ?_
      refine g_iret X rfl rfl (by first | rfl | exact bI_nar _ | decide) (Nat.le_refl _) (Nat.le_refl _) ⟨?_, rfl, rfl⟩
      rw [show i = Rm.1 by omega]; rfl
    · refine g_iload_n X rfl rfl ?_
      refine g_aload_n X rfl rfl ?_
      refine g_get X rfl flX3_9 (ci := 3) rfl hq rfl ?_
      refine g_iload_n X rfl rfl ?_
      refine g_ialdN X rfl hq0 (by omega) (by decide) ?_
      refine g_bipush X rfl (v := nI 30) (by decide) ?_
      refine g_imul X rfl ?_
      refine g_iadd X rfl ?_
      refine g_istore_n X rfl (by decide) ?_
      refine g_iinc1 X rfl rfl (by decide) ?_
      refine g_goto X rfl ?_
      have K9 := ih (i + 1) (by omega) (by omega) (by omega)
      exact K9
set_option maxRecDepth 100000 in
set_option maxHeartbeats 400000 in
theorem cr_X3_wholeMonth (l : Launch) (D : va_G) (cy : Nat → ClassId) (B : Nat) (od : Nat → Option Nat) {A : AH} {b : Nat} {Rm : RV} (h9 : RoomA cy A b Rm) (hn : Rm.1 ≤ 6) : CR l D cy B od yX3_wholeMonth cX3_wholeMonth 3 (some .int) rmX3_wholeMonth [.ref b] A (.int (rWhole Rm)) := by
  intro z
  refine CT.of (by decide) tX3_wholeMonth okX3_wholeMonth (Nat.le_of_ble_eq_true rfl) (q0 := tX3_wholeMonth[0]) rfl rfl ?_
  intro p e s m args below meth c X _
  refine g_iconst X rfl (v := nI 0) (by decide) ?_
  refine g_istore_n X rfl (by decide) ?_
  refine g_iconst X rfl (v := nI 0) (by decide) ?_
  refine g_istore_n X rfl (by decide) ?_
  exact lp_X3_wholeMonth l D cy B od h9 hn X (Rm.1 + 1) 0 (by omega) (by omega) (by omega)
set_option maxRecDepth 100000 in
set_option maxHeartbeats 400000 in
theorem lp_X0_soldOnes (l : Launch) (D : va_G) (cy : Nat → ClassId) (B : Nat) (od : Nat → Option Nat) {p : Program} {e : Env} {s : State} {m : MethodId} {args : Array Value} {below : List Frame} {meth : Method} {c : Code} {A : AH} {z : Nat} {b : Nat} {As : RV} (h9 : AssA cy A b As) (hn : As.1 ≤ 12) (X : Cx p s m args meth c D cy B od cX0_soldOnes 3 tX0_soldOnes RX0 (some .int)) : ∀ (k i : Nat), 0 ≤ i → i ≤ As.1 → As.1 - i < k → G p l e rmX0_soldOnes s m args below meth c D B od 3 tX0_soldOnes (FinQ false D B od (fun v A' z' => v = some (.int (nI (cntN (fun i => !(As.2 4 i == -1)) As.1))) ∧ A' = A ∧ z' = z) (fun _ _ => True) args s below 0 0) 0 0 A z 4 [some (.ref b), some (.int (nI (cntN (fun i => !(As.2 4 i == -1)) i))), some (.int (nI i))] [] := by
  obtain ⟨hq, hq0, hq1, hq2, hq3, hq4, hq5⟩ := id h9
  intro k
  induction k with
  | zero => intro i _ _ h; omega
  | succ k ih =>
    intro i hlo hi hk
    have hc9 := cntN_le (fun i => !(As.2 4 i == -1)) i
    refine g_iload_n X rfl rfl ?_
    refine g_aload_n X rfl rfl ?_
    refine g_get X rfl flX0_30 (ci := 0) rfl hq rfl ?_
    first | refine g_ic_geN X rfl (by omega) (by omega) (fun h1 => ?_) (fun h1 => ?_) | refine g_icmp_ge X rfl (fun h1 => ?_) (fun h1 => ?_)
    · refine g_iload_n X rfl rfl ?_
      refine g_iret X rfl rfl (by first | rfl | exact bI_nar _ | decide) (Nat.le_refl _) (Nat.le_refl _) ⟨?_, rfl, rfl⟩
      rw [show i = As.1 by omega]
    · refine g_aload_n X rfl rfl ?_
      refine g_get X rfl flX0_24 (ci := 0) rfl hq rfl ?_
      refine g_iload_n X rfl rfl ?_
      refine g_ialdN X rfl hq4 (by omega) (by decide) ?_
      refine g_iconst X rfl (v := (-1)) (by decide) ?_
      first | refine g_ic_eqN X rfl (by omega) (by omega) (fun h2 => ?_) (fun h2 => ?_) | refine g_icmp_eq X rfl (fun h2 => ?_) (fun h2 => ?_)
      · refine g_iinc1 X rfl rfl (by decide) ?_
        refine g_goto X rfl ?_
        have K9 := ih (i + 1) (by omega) (by omega) (by omega)
        first | (rw [show cntN (fun i => !(As.2 4 i == -1)) (i + 1) = cntN (fun i => !(As.2 4 i == -1)) i + 1 by rw [cntN, if_pos (by simp_all)]] at K9; exact K9) | (rw [show cntN (fun i => !(As.2 4 i == -1)) (i + 1) = cntN (fun i => !(As.2 4 i == -1)) i by rw [cntN, if_neg (by simp_all)]] at K9; exact K9)
      · refine g_iinc1 X rfl rfl (by decide) ?_
        refine g_iinc1 X rfl rfl (by decide) ?_
        refine g_goto X rfl ?_
        have K9 := ih (i + 1) (by omega) (by omega) (by omega)
        first | (rw [show cntN (fun i => !(As.2 4 i == -1)) (i + 1) = cntN (fun i => !(As.2 4 i == -1)) i + 1 by rw [cntN, if_pos (by simp_all)]] at K9; exact K9) | (rw [show cntN (fun i => !(As.2 4 i == -1)) (i + 1) = cntN (fun i => !(As.2 4 i == -1)) i by rw [cntN, if_neg (by simp_all)]] at K9; exact K9)
set_option maxRecDepth 100000 in
set_option maxHeartbeats 400000 in
theorem cr_X0_soldOnes (l : Launch) (D : va_G) (cy : Nat → ClassId) (B : Nat) (od : Nat → Option Nat) {A : AH} {b : Nat} {As : RV} (h9 : AssA cy A b As) (hn : As.1 ≤ 12) : CR l D cy B od yX0_soldOnes cX0_soldOnes 3 (some .int) rmX0_soldOnes [.ref b] A (.int (nI (cntN (fun i => !(As.2 4 i == -1)) As.1))) := by
  intro z
  refine CT.of (by decide) tX0_soldOnes okX0_soldOnes (Nat.le_of_ble_eq_true rfl) (q0 := tX0_soldOnes[0]) rfl rfl ?_
  intro p e s m args below meth c X _
  refine g_iconst X rfl (v := nI 0) (by decide) ?_
  refine g_istore_n X rfl (by decide) ?_
  refine g_iconst X rfl (v := nI 0) (by decide) ?_
  refine g_istore_n X rfl (by decide) ?_
  exact lp_X0_soldOnes l D cy B od h9 hn X (As.1 + 1) 0 (by omega) (by omega) (by omega)
set_option maxRecDepth 100000 in
set_option maxHeartbeats 400000 in
theorem cr_X0_isSoldBy (l : Launch) (D : va_G) (cy : Nat → ClassId) (B : Nat) (od : Nat → Option Nat) {A : AH} {b : Nat} {As : RV} (h9 : AssA cy A b As) {i : Nat} (hi : i < 12) {mo : Int32} : CR l D cy B od yX0_isSoldBy cX0_isSoldBy 3 (some .boolean) rmX0_isSoldBy [.ref b, .int (nI i), .int mo] A (.int (bI (aSoldBy As mo i))) := by
  intro z
  refine CT.of (by decide) tX0_isSoldBy okX0_isSoldBy (Nat.le_of_ble_eq_true rfl) (q0 := tX0_isSoldBy[0]) rfl rfl ?_
  intro p e s m args below meth c X _
  obtain ⟨hq, hq0, hq1, hq2, hq3, hq4, hq5⟩ := id h9
  refine g_aload_n X rfl rfl ?_
  refine g_get X rfl flX0_24 (ci := 0) rfl hq rfl ?_
  refine g_iload_n X rfl rfl ?_
  refine g_ialdN X rfl hq4 (by omega) (by decide) ?_
  refine g_iconst X rfl (v := (-1)) (by decide) ?_
  refine g_icmp_eq X rfl (fun h1 => ?_) (fun h1 => ?_)
  · refine g_iconst X rfl (v := nI 0) (by decide) ?_
    refine g_iret X rfl rfl (by first | rfl | exact bI_nar _ | decide) (Nat.le_refl _) (Nat.le_refl _) ⟨?_, rfl, rfl⟩
    first | exact bR0 (by simp_all [aSoldBy, ← Int32.not_le, ← Int64.not_le]) | exact bR1 (by simp_all [aSoldBy, ← Int32.not_le, ← Int64.not_le])
  · refine g_aload_n X rfl rfl ?_
    refine g_get X rfl flX0_24 (ci := 0) rfl hq rfl ?_
    refine g_iload_n X rfl rfl ?_
    refine g_ialdN X rfl hq4 (by omega) (by decide) ?_
    refine g_bipush X rfl (v := nI 30) (by decide) ?_
    refine g_idiv X rfl (by decide) ?_
    refine g_iload_n X rfl rfl ?_
    refine g_icmp_gt X rfl (fun h2 => ?_) (fun h2 => ?_)
    · refine g_iconst X rfl (v := nI 0) (by decide) ?_
      refine g_iret X rfl rfl (by first | rfl | exact bI_nar _ | decide) (Nat.le_refl _) (Nat.le_refl _) ⟨?_, rfl, rfl⟩
      first | exact bR0 (by simp_all [aSoldBy, ← Int32.not_le, ← Int64.not_le]) | exact bR1 (by simp_all [aSoldBy, ← Int32.not_le, ← Int64.not_le])
    · refine g_iconst X rfl (v := nI 1) (by decide) ?_
      refine g_goto X rfl ?_
      refine g_iret X rfl rfl (by first | rfl | exact bI_nar _ | decide) (Nat.le_refl _) (Nat.le_refl _) ⟨?_, rfl, rfl⟩
      first | exact bR0 (by simp_all [aSoldBy, ← Int32.not_le, ← Int64.not_le]) | exact bR1 (by simp_all [aSoldBy, ← Int32.not_le, ← Int64.not_le])
set_option maxRecDepth 100000 in
set_option maxHeartbeats 400000 in
theorem cr_X0_writtenUpTo (l : Launch) (D : va_G) (cy : Nat → ClassId) (B : Nat) (od : Nat → Option Nat) {A : AH} {b : Nat} {As : RV} (h9 : AssA cy A b As) {i : Nat} (hi : i < 12) (hlf : ¬ As.2 2 i = 0) {mo : Int32} : CR l D cy B od yX0_writtenUpTo cX0_writtenUpTo 4 (some .int) rmX0_writtenUpTo [.ref b, .int (nI i), .int mo] A (.int (aWU As i mo)) := by
  intro z
  refine CT.of (by decide) tX0_writtenUpTo okX0_writtenUpTo (Nat.le_of_ble_eq_true rfl) (q0 := tX0_writtenUpTo[0]) rfl rfl ?_
  intro p e s m args below meth c X _
  obtain ⟨hq, hq0, hq1, hq2, hq3, hq4, hq5⟩ := id h9
  refine g_iload_n X rfl rfl ?_
  refine g_aload_n X rfl rfl ?_
  refine g_get X rfl flX0_15 (ci := 0) rfl hq rfl ?_
  refine g_iload_n X rfl rfl ?_
  refine g_ialdN X rfl hq1 (by omega) (by decide) ?_
  refine g_bipush X rfl (v := nI 30) (by decide) ?_
  refine g_idiv X rfl (by decide) ?_
  refine g_isub X rfl ?_
  refine g_iconst X rfl (v := nI 1) (by decide) ?_
  refine g_iadd X rfl ?_
  refine g_istore_n X rfl (by decide) ?_
  refine g_aload_n X rfl rfl ?_
  refine g_get X rfl flX0_21 (ci := 0) rfl hq rfl ?_
  refine g_iload_n X rfl rfl ?_
  refine g_ialdN X rfl hq3 (by omega) (by decide) ?_
  refine g_iconst X rfl (v := nI 1) (by decide) ?_
  refine g_icmp_eq X rfl (fun h1 => ?_) (fun h1 => ?_)
  · refine g_iconst X rfl (v := nI 0) (by decide) ?_
    refine g_iret X rfl rfl (by first | rfl | exact bI_nar _ | decide) (Nat.le_refl _) (Nat.le_refl _) ⟨?_, rfl, rfl⟩
    first | (simp_all [aWU]; done) | (simp_all [aWU, nI_0, n10]; done) | (simp_all [aWU, nI_0, n10, ← Int32.not_le]; done)
  · refine g_iload_n X rfl rfl ?_
    refine g_iconst X rfl (v := nI 1) (by decide) ?_
    refine g_icmp_ge X rfl (fun h2 => ?_) (fun h2 => ?_)
    · refine g_aload_n X rfl rfl ?_
      refine g_get X rfl flX0_21 (ci := 0) rfl hq rfl ?_
      refine g_iload_n X rfl rfl ?_
      refine g_ialdN X rfl hq3 (by omega) (by decide) ?_
      refine g_if_eq X rfl (fun h3 => ?_) (fun h3 => ?_)
      · refine g_aload_n X rfl rfl ?_
        refine g_get X rfl flX0_9 (ci := 0) rfl hq rfl ?_
        refine g_iload_n X rfl rfl ?_
        refine g_ialdN X rfl hq0 (by omega) (by decide) ?_
        refine g_iret X rfl rfl (by first | rfl | exact bI_nar _ | decide) (Nat.le_refl _) (Nat.le_refl _) ⟨?_, rfl, rfl⟩
        first | (simp_all [aWU]; done) | (simp_all [aWU, nI_0, n10]; done) | (simp_all [aWU, nI_0, n10, ← Int32.not_le]; done)
      · refine g_iload_n X rfl rfl ?_
        refine g_aload_n X rfl rfl ?_
        refine g_get X rfl flX0_18 (ci := 0) rfl hq rfl ?_
        refine g_iload_n X rfl rfl ?_
        refine g_ialdN X rfl hq2 (by omega) (by decide) ?_
        refine g_icmp_ge X rfl (fun h4 => ?_) (fun h4 => ?_)
        · refine g_aload_n X rfl rfl ?_
          refine g_get X rfl flX0_9 (ci := 0) rfl hq rfl ?_
          refine g_iload_n X rfl rfl ?_
          refine g_ialdN X rfl hq0 (by omega) (by decide) ?_
          refine g_iret X rfl rfl (by first | rfl | exact bI_nar _ | decide) (Nat.le_refl _) (Nat.le_refl _) ⟨?_, rfl, rfl⟩
          first | (simp_all [aWU]; done) | (simp_all [aWU, nI_0, n10]; done) | (simp_all [aWU, nI_0, n10, ← Int32.not_le]; done)
        · refine g_aload_n X rfl rfl ?_
          refine g_iload_n X rfl rfl ?_
          refine g_iload_n X rfl rfl ?_
          refine g_rV X rfl lcX0_isSoldBy lmX0_34 lsX0_isSoldBy (cr_X0_isSoldBy l D cy B od (As := As) (i := i) ⟨hq, hq0, hq1, hq2, hq3, hq4, hq5⟩ (by omega)) (ci := 0) hq rfl rfl rfl (Nat.le_of_ble_eq_true rfl) ⟨⟨by decide, by decide⟩, rfl, rfl⟩ ⟨Nat.zero_le _, Nat.zero_le _⟩ ?_
          first | refine g_if_eqB X rfl (fun h5 => ?_) (fun h5 => ?_) | refine g_if_eq X rfl (fun h5 => ?_) (fun h5 => ?_)
          · refine g_aload_n X rfl rfl ?_
            refine g_get X rfl flX0_9 (ci := 0) rfl hq rfl ?_
            refine g_iload_n X rfl rfl ?_
            refine g_ialdN X rfl hq0 (by omega) (by decide) ?_
            refine g_iload_n X rfl rfl ?_
            refine g_imul X rfl ?_
            refine g_aload_n X rfl rfl ?_
            refine g_get X rfl flX0_18 (ci := 0) rfl hq rfl ?_
            refine g_iload_n X rfl rfl ?_
            refine g_ialdN X rfl hq2 (by omega) (by decide) ?_
            refine g_idiv X rfl hlf ?_
            refine g_iret X rfl rfl (by first | rfl | exact bI_nar _ | decide) (Nat.le_refl _) (Nat.le_refl _) ⟨?_, rfl, rfl⟩
            first | (simp_all [aWU]; done) | (simp_all [aWU, nI_0, n10]; done) | (simp_all [aWU, nI_0, n10, ← Int32.not_le]; done)
          · refine g_aload_n X rfl rfl ?_
            refine g_get X rfl flX0_9 (ci := 0) rfl hq rfl ?_
            refine g_iload_n X rfl rfl ?_
            refine g_ialdN X rfl hq0 (by omega) (by decide) ?_
            refine g_iret X rfl rfl (by first | rfl | exact bI_nar _ | decide) (Nat.le_refl _) (Nat.le_refl _) ⟨?_, rfl, rfl⟩
            first | (simp_all [aWU]; done) | (simp_all [aWU, nI_0, n10]; done) | (simp_all [aWU, nI_0, n10, ← Int32.not_le]; done)
    · refine g_iconst X rfl (v := nI 0) (by decide) ?_
      refine g_iret X rfl rfl (by first | rfl | exact bI_nar _ | decide) (Nat.le_refl _) (Nat.le_refl _) ⟨?_, rfl, rfl⟩
      first | (simp_all [aWU]; done) | (simp_all [aWU, nI_0, n10]; done) | (simp_all [aWU, nI_0, n10, ← Int32.not_le]; done)
set_option maxRecDepth 100000 in
set_option maxHeartbeats 400000 in
theorem cr_X0_valueAt (l : Launch) (D : va_G) (cy : Nat → ClassId) (B : Nat) (od : Nat → Option Nat) {A : AH} {b : Nat} {As : RV} (h9 : AssA cy A b As) {i : Nat} (hi : i < 12) (hlf : ¬ As.2 2 i = 0) {mo : Int32} : CR l D cy B od yX0_valueAt cX0_valueAt 4 (some .int) rmX0_valueAt [.ref b, .int (nI i), .int mo] A (.int (aVal As i mo)) := by
  intro z
  refine CT.of (by decide) tX0_valueAt okX0_valueAt (Nat.le_of_ble_eq_true rfl) (q0 := tX0_valueAt[0]) rfl rfl ?_
  intro p e s m args below meth c X _
  obtain ⟨hq, hq0, hq1, hq2, hq3, hq4, hq5⟩ := id h9
  refine g_iload_n X rfl rfl ?_
  refine g_aload_n X rfl rfl ?_
  refine g_get X rfl flX0_15 (ci := 0) rfl hq rfl ?_
  refine g_iload_n X rfl rfl ?_
  refine g_ialdN X rfl hq1 (by omega) (by decide) ?_
  refine g_bipush X rfl (v := nI 30) (by decide) ?_
  refine g_idiv X rfl (by decide) ?_
  refine g_icmp_lt X rfl (fun h1 => ?_) (fun h1 => ?_)
  · refine g_iconst X rfl (v := nI 0) (by decide) ?_
    refine g_istore_n X rfl (by decide) ?_
    refine g_aload_n X rfl rfl ?_
    refine g_get X rfl flX0_21 (ci := 0) rfl hq rfl ?_
    refine g_iload_n X rfl rfl ?_
    refine g_ialdN X rfl hq3 (by omega) (by decide) ?_
    refine g_iconst X rfl (v := nI 1) (by decide) ?_
    refine g_icmp_eq X rfl (fun h2 => ?_) (fun h2 => ?_)
    · refine g_iconst X rfl (v := nI 0) (by decide) ?_
      refine g_iret X rfl rfl (by first | rfl | exact bI_nar _ | decide) (Nat.le_refl _) (Nat.le_refl _) ⟨?_, rfl, rfl⟩
      first | (simp_all [aVal]; done) | (simp_all [aVal, nI_0, n10]; done) | (simp_all [aVal, nI_0, n10, ← Int32.not_le]; done)
    · refine g_iload_n X rfl rfl ?_
      refine g_if_eq X rfl (fun h3 => ?_) (fun h3 => ?_)
      · refine g_iconst X rfl (v := nI 0) (by decide) ?_
        refine g_iret X rfl rfl (by first | rfl | exact bI_nar _ | decide) (Nat.le_refl _) (Nat.le_refl _) ⟨?_, rfl, rfl⟩
        first | (simp_all [aVal]; done) | (simp_all [aVal, nI_0, n10]; done) | (simp_all [aVal, nI_0, n10, ← Int32.not_le]; done)
      · refine g_aload_n X rfl rfl ?_
        refine g_iload_n X rfl rfl ?_
        refine g_iload_n X rfl rfl ?_
        refine g_rV X rfl lcX0_isSoldBy lmX0_34 lsX0_isSoldBy (cr_X0_isSoldBy l D cy B od (As := As) (i := i) ⟨hq, hq0, hq1, hq2, hq3, hq4, hq5⟩ (by omega)) (ci := 0) hq rfl rfl rfl (Nat.le_of_ble_eq_true rfl) ⟨⟨by decide, by decide⟩, rfl, rfl⟩ ⟨Nat.zero_le _, Nat.zero_le _⟩ ?_
        first | refine g_if_eqB X rfl (fun h4 => ?_) (fun h4 => ?_) | refine g_if_eq X rfl (fun h4 => ?_) (fun h4 => ?_)
        · refine g_aload_n X rfl rfl ?_
          refine g_get X rfl flX0_9 (ci := 0) rfl hq rfl ?_
          refine g_iload_n X rfl rfl ?_
          refine g_ialdN X rfl hq0 (by omega) (by decide) ?_
          refine g_aload_n X rfl rfl ?_
          refine g_iload_n X rfl rfl ?_
          refine g_iload_n X rfl rfl ?_
          refine g_rV X rfl lcX0_writtenUpTo lmX0_38 lsX0_writtenUpTo (cr_X0_writtenUpTo l D cy B od (As := As) (i := i) ⟨hq, hq0, hq1, hq2, hq3, hq4, hq5⟩ hi hlf) (ci := 0) hq rfl rfl rfl (Nat.le_of_ble_eq_true rfl) ⟨⟨by decide, by decide⟩, rfl, rfl⟩ ⟨Nat.zero_le _, Nat.zero_le _⟩ ?_
          refine g_isub X rfl ?_
          refine g_iret X rfl rfl (by first | rfl | exact bI_nar _ | decide) (Nat.le_refl _) (Nat.le_refl _) ⟨?_, rfl, rfl⟩
          first | (simp_all [aVal]; done) | (simp_all [aVal, nI_0, n10]; done) | (simp_all [aVal, nI_0, n10, ← Int32.not_le]; done)
        · refine g_iconst X rfl (v := nI 0) (by decide) ?_
          refine g_iret X rfl rfl (by first | rfl | exact bI_nar _ | decide) (Nat.le_refl _) (Nat.le_refl _) ⟨?_, rfl, rfl⟩
          first | (simp_all [aVal]; done) | (simp_all [aVal, nI_0, n10]; done) | (simp_all [aVal, nI_0, n10, ← Int32.not_le]; done)
  · refine g_iconst X rfl (v := nI 1) (by decide) ?_
    refine g_goto X rfl ?_
    refine g_istore_n X rfl (by decide) ?_
    refine g_aload_n X rfl rfl ?_
    refine g_get X rfl flX0_21 (ci := 0) rfl hq rfl ?_
    refine g_iload_n X rfl rfl ?_
    refine g_ialdN X rfl hq3 (by omega) (by decide) ?_
    refine g_iconst X rfl (v := nI 1) (by decide) ?_
    refine g_icmp_eq X rfl (fun h5 => ?_) (fun h5 => ?_)
    · refine g_iconst X rfl (v := nI 0) (by decide) ?_
      refine g_iret X rfl rfl (by first | rfl | exact bI_nar _ | decide) (Nat.le_refl _) (Nat.le_refl _) ⟨?_, rfl, rfl⟩
      first | (simp_all [aVal]; done) | (simp_all [aVal, nI_0, n10]; done) | (simp_all [aVal, nI_0, n10, ← Int32.not_le]; done)
    · refine g_iload_n X rfl rfl ?_
      refine g_if_eq X rfl (fun h6 => ?_) (fun h6 => ?_)
      · refine g_iconst X rfl (v := nI 0) (by decide) ?_
        refine g_iret X rfl rfl (by first | rfl | exact bI_nar _ | decide) (Nat.le_refl _) (Nat.le_refl _) ⟨?_, rfl, rfl⟩
        first | (simp_all [aVal]; done) | (simp_all [aVal, nI_0, n10]; done) | (simp_all [aVal, nI_0, n10, ← Int32.not_le]; done)
      · refine g_aload_n X rfl rfl ?_
        refine g_iload_n X rfl rfl ?_
        refine g_iload_n X rfl rfl ?_
        refine g_rV X rfl lcX0_isSoldBy lmX0_34 lsX0_isSoldBy (cr_X0_isSoldBy l D cy B od (As := As) (i := i) ⟨hq, hq0, hq1, hq2, hq3, hq4, hq5⟩ (by omega)) (ci := 0) hq rfl rfl rfl (Nat.le_of_ble_eq_true rfl) ⟨⟨by decide, by decide⟩, rfl, rfl⟩ ⟨Nat.zero_le _, Nat.zero_le _⟩ ?_
        first | refine g_if_eqB X rfl (fun h7 => ?_) (fun h7 => ?_) | refine g_if_eq X rfl (fun h7 => ?_) (fun h7 => ?_)
        · refine g_aload_n X rfl rfl ?_
          refine g_get X rfl flX0_9 (ci := 0) rfl hq rfl ?_
          refine g_iload_n X rfl rfl ?_
          refine g_ialdN X rfl hq0 (by omega) (by decide) ?_
          refine g_aload_n X rfl rfl ?_
          refine g_iload_n X rfl rfl ?_
          refine g_iload_n X rfl rfl ?_
          refine g_rV X rfl lcX0_writtenUpTo lmX0_38 lsX0_writtenUpTo (cr_X0_writtenUpTo l D cy B od (As := As) (i := i) ⟨hq, hq0, hq1, hq2, hq3, hq4, hq5⟩ hi hlf) (ci := 0) hq rfl rfl rfl (Nat.le_of_ble_eq_true rfl) ⟨⟨by decide, by decide⟩, rfl, rfl⟩ ⟨Nat.zero_le _, Nat.zero_le _⟩ ?_
          refine g_isub X rfl ?_
          refine g_iret X rfl rfl (by first | rfl | exact bI_nar _ | decide) (Nat.le_refl _) (Nat.le_refl _) ⟨?_, rfl, rfl⟩
          first | (simp_all [aVal]; done) | (simp_all [aVal, nI_0, n10]; done) | (simp_all [aVal, nI_0, n10, ← Int32.not_le]; done)
        · refine g_iconst X rfl (v := nI 0) (by decide) ?_
          refine g_iret X rfl rfl (by first | rfl | exact bI_nar _ | decide) (Nat.le_refl _) (Nat.le_refl _) ⟨?_, rfl, rfl⟩
          first | (simp_all [aVal]; done) | (simp_all [aVal, nI_0, n10]; done) | (simp_all [aVal, nI_0, n10, ← Int32.not_le]; done)
set_option maxRecDepth 100000 in
set_option maxHeartbeats 400000 in
theorem lp_X0_poolAt (l : Launch) (D : va_G) (cy : Nat → ClassId) (B : Nat) (od : Nat → Option Nat) {p : Program} {e : Env} {s : State} {m : MethodId} {args : Array Value} {below : List Frame} {meth : Method} {c : Code} {A : AH} {z : Nat} {b : Nat} {As : RV} (h9 : AssA cy A b As) (hn : As.1 ≤ 12) {qu : Int32} (X : Cx p s m args meth c D cy B od cX0_poolAt 4 tX0_poolAt RX0 (some .int)) : ∀ (k i : Nat), 0 ≤ i → i ≤ As.1 → As.1 - i < k → G p l e rmX0_poolAt s m args below meth c D B od 4 tX0_poolAt (FinQ false D B od (fun v A' z' => v = some (.int (aPool As qu)) ∧ A' = A ∧ z' = z) (fun _ _ => True) args s below 0 0) 0 0 A z 4 [some (.ref b), some (.int qu), some (.int (sumQ (fun i => As.2 3 i == nI 1 && decide (As.2 1 i / nI 90 ≤ qu)) (fun i => As.2 0 i) i)), some (.int (nI i))] [] := by
  obtain ⟨hq, hq0, hq1, hq2, hq3, hq4, hq5⟩ := id h9
  intro k
  induction k with
  | zero => intro i _ _ h; omega
  | succ k ih =>
    intro i hlo hi hk
    refine g_iload_n X rfl rfl ?_
    refine g_aload_n X rfl rfl ?_
    refine g_get X rfl flX0_30 (ci := 0) rfl hq rfl ?_
    first | refine g_ic_geN X rfl (by omega) (by omega) (fun h1 => ?_) (fun h1 => ?_) | refine g_icmp_ge X rfl (fun h1 => ?_) (fun h1 => ?_)
    · refine g_iload_n X rfl rfl ?_
      refine g_iret X rfl rfl (by first | rfl | exact bI_nar _ | decide) (Nat.le_refl _) (Nat.le_refl _) ⟨?_, rfl, rfl⟩
      rw [show i = As.1 by omega]; rfl
    · refine g_aload_n X rfl rfl ?_
      refine g_get X rfl flX0_21 (ci := 0) rfl hq rfl ?_
      refine g_iload_n X rfl rfl ?_
      refine g_ialdN X rfl hq3 (by omega) (by decide) ?_
      refine g_iconst X rfl (v := nI 1) (by decide) ?_
      refine g_icmp_ne X rfl (fun h2 => ?_) (fun h2 => ?_)
      · refine g_iinc1 X rfl rfl (by decide) ?_
        refine g_goto X rfl ?_
        have K9 := ih (i + 1) (by omega) (by omega) (by omega)
        first | (rw [show sumQ (fun i => As.2 3 i == nI 1 && decide (As.2 1 i / nI 90 ≤ qu)) (fun i => As.2 0 i) (i + 1) = sumQ (fun i => As.2 3 i == nI 1 && decide (As.2 1 i / nI 90 ≤ qu)) (fun i => As.2 0 i) i + (fun i => As.2 0 i) i by rw [sumQ, if_pos (by simp_all [← Int32.not_le])]] at K9; exact K9) | (rw [show sumQ (fun i => As.2 3 i == nI 1 && decide (As.2 1 i / nI 90 ≤ qu)) (fun i => As.2 0 i) (i + 1) = sumQ (fun i => As.2 3 i == nI 1 && decide (As.2 1 i / nI 90 ≤ qu)) (fun i => As.2 0 i) i by rw [sumQ, if_neg (by simp_all [← Int32.not_le])]] at K9; exact K9)
      · refine g_aload_n X rfl rfl ?_
        refine g_get X rfl flX0_15 (ci := 0) rfl hq rfl ?_
        refine g_iload_n X rfl rfl ?_
        refine g_ialdN X rfl hq1 (by omega) (by decide) ?_
        refine g_bipush X rfl (v := nI 90) (by decide) ?_
        refine g_idiv X rfl (by decide) ?_
        refine g_iload_n X rfl rfl ?_
        first | refine g_ic_gtN X rfl (by omega) (by omega) (fun h3 => ?_) (fun h3 => ?_) | refine g_icmp_gt X rfl (fun h3 => ?_) (fun h3 => ?_)
        · refine g_iinc1 X rfl rfl (by decide) ?_
          refine g_goto X rfl ?_
          have K9 := ih (i + 1) (by omega) (by omega) (by omega)
          first | (rw [show sumQ (fun i => As.2 3 i == nI 1 && decide (As.2 1 i / nI 90 ≤ qu)) (fun i => As.2 0 i) (i + 1) = sumQ (fun i => As.2 3 i == nI 1 && decide (As.2 1 i / nI 90 ≤ qu)) (fun i => As.2 0 i) i + (fun i => As.2 0 i) i by rw [sumQ, if_pos (by simp_all [← Int32.not_le])]] at K9; exact K9) | (rw [show sumQ (fun i => As.2 3 i == nI 1 && decide (As.2 1 i / nI 90 ≤ qu)) (fun i => As.2 0 i) (i + 1) = sumQ (fun i => As.2 3 i == nI 1 && decide (As.2 1 i / nI 90 ≤ qu)) (fun i => As.2 0 i) i by rw [sumQ, if_neg (by simp_all [← Int32.not_le])]] at K9; exact K9)
        · refine g_iload_n X rfl rfl ?_
          refine g_aload_n X rfl rfl ?_
          refine g_get X rfl flX0_9 (ci := 0) rfl hq rfl ?_
          refine g_iload_n X rfl rfl ?_
          refine g_ialdN X rfl hq0 (by omega) (by decide) ?_
          refine g_iadd X rfl ?_
          refine g_istore_n X rfl (by decide) ?_
          refine g_iinc1 X rfl rfl (by decide) ?_
          refine g_goto X rfl ?_
          have K9 := ih (i + 1) (by omega) (by omega) (by omega)
          first | (rw [show sumQ (fun i => As.2 3 i == nI 1 && decide (As.2 1 i / nI 90 ≤ qu)) (fun i => As.2 0 i) (i + 1) = sumQ (fun i => As.2 3 i == nI 1 && decide (As.2 1 i / nI 90 ≤ qu)) (fun i => As.2 0 i) i + (fun i => As.2 0 i) i by rw [sumQ, if_pos (by simp_all [← Int32.not_le])]] at K9; exact K9) | (rw [show sumQ (fun i => As.2 3 i == nI 1 && decide (As.2 1 i / nI 90 ≤ qu)) (fun i => As.2 0 i) (i + 1) = sumQ (fun i => As.2 3 i == nI 1 && decide (As.2 1 i / nI 90 ≤ qu)) (fun i => As.2 0 i) i by rw [sumQ, if_neg (by simp_all [← Int32.not_le])]] at K9; exact K9)
set_option maxRecDepth 100000 in
set_option maxHeartbeats 400000 in
theorem cr_X0_poolAt (l : Launch) (D : va_G) (cy : Nat → ClassId) (B : Nat) (od : Nat → Option Nat) {A : AH} {b : Nat} {As : RV} (h9 : AssA cy A b As) (hn : As.1 ≤ 12) {qu : Int32} : CR l D cy B od yX0_poolAt cX0_poolAt 4 (some .int) rmX0_poolAt [.ref b, .int qu] A (.int (aPool As qu)) := by
  intro z
  refine CT.of (by decide) tX0_poolAt okX0_poolAt (Nat.le_of_ble_eq_true rfl) (q0 := tX0_poolAt[0]) rfl rfl ?_
  intro p e s m args below meth c X _
  refine g_iconst X rfl (v := nI 0) (by decide) ?_
  refine g_istore_n X rfl (by decide) ?_
  refine g_iconst X rfl (v := nI 0) (by decide) ?_
  refine g_istore_n X rfl (by decide) ?_
  exact lp_X0_poolAt l D cy B od h9 hn (qu := qu) X (As.1 + 1) 0 (by omega) (by omega) (by omega)
set_option maxRecDepth 100000 in
set_option maxHeartbeats 400000 in
theorem cr_X0_poolWrittenUpTo (l : Launch) (D : va_G) (cy : Nat → ClassId) (B : Nat) (od : Nat → Option Nat) {A : AH} {b : Nat} {As : RV} (h9 : AssA cy A b As) (hn : As.1 ≤ 12) {qu : Int32} : CR l D cy B od yX0_poolWrittenUpTo cX0_poolWrittenUpTo 2 (some .int) rmX0_poolWrittenUpTo [.ref b, .int qu] A (.int (aPW As qu)) := by
  intro z
  refine CT.of (by decide) tX0_poolWrittenUpTo okX0_poolWrittenUpTo (Nat.le_of_ble_eq_true rfl) (q0 := tX0_poolWrittenUpTo[0]) rfl rfl ?_
  intro p e s m args below meth c X _
  obtain ⟨hq, hq0, hq1, hq2, hq3, hq4, hq5⟩ := id h9
  refine g_aload_n X rfl rfl ?_
  refine g_iload_n X rfl rfl ?_
  refine g_rV X rfl lcX0_poolAt lmX0_46 lsX0_poolAt (cr_X0_poolAt l D cy B od (As := As) ⟨hq, hq0, hq1, hq2, hq3, hq4, hq5⟩ hn) (ci := 0) hq rfl rfl rfl (Nat.le_of_ble_eq_true rfl) ⟨⟨by decide, by decide⟩, rfl, rfl⟩ ⟨Nat.zero_le _, Nat.zero_le _⟩ ?_
  refine g_iload_n X rfl rfl ?_
  refine g_iconst X rfl (v := nI 1) (by decide) ?_
  refine g_iadd X rfl ?_
  refine g_imul X rfl ?_
  refine g_bipush X rfl (v := nI 20) (by decide) ?_
  refine g_idiv X rfl (by decide) ?_
  refine g_iret X rfl rfl (by first | rfl | exact bI_nar _ | decide) (Nat.le_refl _) (Nat.le_refl _) ⟨?_, rfl, rfl⟩
  rfl
set_option maxRecDepth 100000 in
set_option maxHeartbeats 400000 in
theorem lp_X0_allWrittenUpTo (l : Launch) (D : va_G) (cy : Nat → ClassId) (B : Nat) (od : Nat → Option Nat) {p : Program} {e : Env} {s : State} {m : MethodId} {args : Array Value} {below : List Frame} {meth : Method} {c : Code} {A : AH} {z : Nat} {b : Nat} {As : RV} (h9 : AssA cy A b As) (hn : As.1 ≤ 12) (hlf : ∀ i, i < As.1 → ¬ As.2 2 i = 0) {qu : Int32} (X : Cx p s m args meth c D cy B od cX0_allWrittenUpTo 6 tX0_allWrittenUpTo RX0 (some .long)) : ∀ (k i : Nat), 0 ≤ i → i ≤ As.1 → As.1 - i < k → G p l e rmX0_allWrittenUpTo s m args below meth c D B od 6 tX0_allWrittenUpTo (FinQ false D B od (fun v A' z' => v = some (.long (aAll As qu)) ∧ A' = A ∧ z' = z) (fun _ _ => True) args s below 0 0) 0 0 A z 15 [some (.ref b), some (.int qu), some (.int ((qu + nI 1) * nI 3 - nI 1)), some (.long (sumL (aPW As qu).toInt64 (fun i => (aWU As i ((qu + nI 1) * nI 3 - nI 1)).toInt64) i)), none, some (.int (nI i))] [] := by
  obtain ⟨hq, hq0, hq1, hq2, hq3, hq4, hq5⟩ := id h9
  intro k
  induction k with
  | zero => intro i _ _ h; omega
  | succ k ih =>
    intro i hlo hi hk
    refine g_iload X rfl rfl ?_
    refine g_aload_n X rfl rfl ?_
    refine g_get X rfl flX0_30 (ci := 0) rfl hq rfl ?_
    first | refine g_ic_geN X rfl (by omega) (by omega) (fun h1 => ?_) (fun h1 => ?_) | refine g_icmp_ge X rfl (fun h1 => ?_) (fun h1 => ?_)
    · refine g_lload_n X rfl rfl ?_
      refine g_lret X rfl rfl (Nat.le_refl _) (Nat.le_refl _) ⟨?_, rfl, rfl⟩
      rw [show i = As.1 by omega]; rfl
    · refine g_lload_n X rfl rfl ?_
      refine g_aload_n X rfl rfl ?_
      refine g_iload X rfl rfl ?_
      refine g_iload_n X rfl rfl ?_
      refine g_rV X rfl lcX0_writtenUpTo lmX0_38 lsX0_writtenUpTo (cr_X0_writtenUpTo l D cy B od (As := As) (i := i) ⟨hq, hq0, hq1, hq2, hq3, hq4, hq5⟩ (by omega) (hlf _ (by omega))) (ci := 0) hq rfl rfl rfl (Nat.le_of_ble_eq_true rfl) ⟨⟨by decide, by decide⟩, rfl, rfl⟩ ⟨Nat.zero_le _, Nat.zero_le _⟩ ?_
      refine g_i2l X rfl ?_
      refine g_ladd X rfl ?_
      refine g_lstore_n X rfl (by decide) ?_
      refine g_iinc1 X rfl rfl (by decide) ?_
      refine g_goto X rfl ?_
      have K9 := ih (i + 1) (by omega) (by omega) (by omega)
      exact K9
set_option maxRecDepth 100000 in
set_option maxHeartbeats 400000 in
theorem cr_X0_allWrittenUpTo (l : Launch) (D : va_G) (cy : Nat → ClassId) (B : Nat) (od : Nat → Option Nat) {A : AH} {b : Nat} {As : RV} (h9 : AssA cy A b As) (hn : As.1 ≤ 12) (hlf : ∀ i, i < As.1 → ¬ As.2 2 i = 0) {qu : Int32} : CR l D cy B od yX0_allWrittenUpTo cX0_allWrittenUpTo 6 (some .long) rmX0_allWrittenUpTo [.ref b, .int qu] A (.long (aAll As qu)) := by
  intro z
  refine CT.of (by decide) tX0_allWrittenUpTo okX0_allWrittenUpTo (Nat.le_of_ble_eq_true rfl) (q0 := tX0_allWrittenUpTo[0]) rfl rfl ?_
  intro p e s m args below meth c X _
  obtain ⟨hq, hq0, hq1, hq2, hq3, hq4, hq5⟩ := id h9
  refine g_iload_n X rfl rfl ?_
  refine g_iconst X rfl (v := nI 1) (by decide) ?_
  refine g_iadd X rfl ?_
  refine g_iconst X rfl (v := nI 3) (by decide) ?_
  refine g_imul X rfl ?_
  refine g_iconst X rfl (v := nI 1) (by decide) ?_
  refine g_isub X rfl ?_
  refine g_istore_n X rfl (by decide) ?_
  refine g_aload_n X rfl rfl ?_
  refine g_iload_n X rfl rfl ?_
  refine g_rV X rfl lcX0_poolWrittenUpTo lmX0_42 lsX0_poolWrittenUpTo (cr_X0_poolWrittenUpTo l D cy B od (As := As) ⟨hq, hq0, hq1, hq2, hq3, hq4, hq5⟩ hn) (ci := 0) hq rfl rfl rfl (Nat.le_of_ble_eq_true rfl) ⟨⟨by decide, by decide⟩, rfl, rfl⟩ ⟨Nat.zero_le _, Nat.zero_le _⟩ ?_
  refine g_i2l X rfl ?_
  refine g_lstore_n X rfl (by decide) ?_
  refine g_iconst X rfl (v := nI 0) (by decide) ?_
  refine g_istore X rfl (by decide) ?_
  exact lp_X0_allWrittenUpTo l D cy B od h9 hn hlf (qu := qu) X (As.1 + 1) 0 (by omega) (by omega) (by omega)
set_option maxRecDepth 100000 in
set_option maxHeartbeats 400000 in
theorem lp_X0_soldFor (l : Launch) (D : va_G) (cy : Nat → ClassId) (B : Nat) (od : Nat → Option Nat) {p : Program} {e : Env} {s : State} {m : MethodId} {args : Array Value} {below : List Frame} {meth : Method} {c : Code} {A : AH} {z : Nat} {b : Nat} {As : RV} (h9 : AssA cy A b As) (hn : As.1 ≤ 12) {f t : Int32} (X : Cx p s m args meth c D cy B od cX0_soldFor 6 tX0_soldFor RX0 (some .long)) : ∀ (k i : Nat), 0 ≤ i → i ≤ As.1 → As.1 - i < k → G p l e rmX0_soldFor s m args below meth c D B od 6 tX0_soldFor (FinQ false D B od (fun v A' z' => v = some (.long (aSoldFor As f t)) ∧ A' = A ∧ z' = z) (fun _ _ => True) args s below 0 0) 0 0 A z 4 [some (.ref b), some (.int f), some (.int t), some (.long (sumN (fun i => As.2 4 i != -1 && (decide (f ≤ As.2 4 i) && decide (As.2 4 i ≤ t))) (fun i => (As.2 5 i).toInt64) i)), none, some (.int (nI i))] [] := by
  obtain ⟨hq, hq0, hq1, hq2, hq3, hq4, hq5⟩ := id h9
  intro k
  induction k with
  | zero => intro i _ _ h; omega
  | succ k ih =>
    intro i hlo hi hk
    refine g_iload X rfl rfl ?_
    refine g_aload_n X rfl rfl ?_
    refine g_get X rfl flX0_30 (ci := 0) rfl hq rfl ?_
    first | refine g_ic_geN X rfl (by omega) (by omega) (fun h1 => ?_) (fun h1 => ?_) | refine g_icmp_ge X rfl (fun h1 => ?_) (fun h1 => ?_)
    · refine g_lload_n X rfl rfl ?_
      refine g_lret X rfl rfl (Nat.le_refl _) (Nat.le_refl _) ⟨?_, rfl, rfl⟩
      rw [show i = As.1 by omega]; rfl
    · refine g_aload_n X rfl rfl ?_
      refine g_get X rfl flX0_24 (ci := 0) rfl hq rfl ?_
      refine g_iload X rfl rfl ?_
      refine g_ialdN X rfl hq4 (by omega) (by decide) ?_
      refine g_iconst X rfl (v := (-1)) (by decide) ?_
      refine g_icmp_eq X rfl (fun h2 => ?_) (fun h2 => ?_)
      · refine g_iinc1 X rfl rfl (by decide) ?_
        refine g_goto X rfl ?_
        have K9 := ih (i + 1) (by omega) (by omega) (by omega)
        first | (rw [show sumN (fun i => As.2 4 i != -1 && (decide (f ≤ As.2 4 i) && decide (As.2 4 i ≤ t))) (fun i => (As.2 5 i).toInt64) (i + 1) = sumN (fun i => As.2 4 i != -1 && (decide (f ≤ As.2 4 i) && decide (As.2 4 i ≤ t))) (fun i => (As.2 5 i).toInt64) i + (fun i => (As.2 5 i).toInt64) i by rw [sumN, if_pos (by simp_all [within9])]] at K9; exact K9) | (rw [show sumN (fun i => As.2 4 i != -1 && (decide (f ≤ As.2 4 i) && decide (As.2 4 i ≤ t))) (fun i => (As.2 5 i).toInt64) (i + 1) = sumN (fun i => As.2 4 i != -1 && (decide (f ≤ As.2 4 i) && decide (As.2 4 i ≤ t))) (fun i => (As.2 5 i).toInt64) i by rw [sumN, if_neg (by simp_all [within9])]] at K9; exact K9)
      · refine g_aload_n X rfl rfl ?_
        refine g_get X rfl flX0_24 (ci := 0) rfl hq rfl ?_
        refine g_iload X rfl rfl ?_
        refine g_ialdN X rfl hq4 (by omega) (by decide) ?_
        refine g_iload_n X rfl rfl ?_
        refine g_iload_n X rfl rfl ?_
        refine g_rSN X rfl lcX7_within lnX0_49 stX7_within (cr_X7_within l D cy B od) rfl rfl (Nat.le_of_ble_eq_true rfl) ⟨⟨by decide, by decide⟩, rfl, rfl⟩ ⟨Nat.zero_le _, Nat.zero_le _⟩ ?_
        first | refine g_if_eqB X rfl (fun h3 => ?_) (fun h3 => ?_) | refine g_if_eq X rfl (fun h3 => ?_) (fun h3 => ?_)
        · refine g_iinc1 X rfl rfl (by decide) ?_
          refine g_goto X rfl ?_
          have K9 := ih (i + 1) (by omega) (by omega) (by omega)
          first | (rw [show sumN (fun i => As.2 4 i != -1 && (decide (f ≤ As.2 4 i) && decide (As.2 4 i ≤ t))) (fun i => (As.2 5 i).toInt64) (i + 1) = sumN (fun i => As.2 4 i != -1 && (decide (f ≤ As.2 4 i) && decide (As.2 4 i ≤ t))) (fun i => (As.2 5 i).toInt64) i + (fun i => (As.2 5 i).toInt64) i by rw [sumN, if_pos (by simp_all [within9])]] at K9; exact K9) | (rw [show sumN (fun i => As.2 4 i != -1 && (decide (f ≤ As.2 4 i) && decide (As.2 4 i ≤ t))) (fun i => (As.2 5 i).toInt64) (i + 1) = sumN (fun i => As.2 4 i != -1 && (decide (f ≤ As.2 4 i) && decide (As.2 4 i ≤ t))) (fun i => (As.2 5 i).toInt64) i by rw [sumN, if_neg (by simp_all [within9])]] at K9; exact K9)
        · refine g_lload_n X rfl rfl ?_
          refine g_aload_n X rfl rfl ?_
          refine g_get X rfl flX0_27 (ci := 0) rfl hq rfl ?_
          refine g_iload X rfl rfl ?_
          refine g_ialdN X rfl hq5 (by omega) (by decide) ?_
          refine g_i2l X rfl ?_
          refine g_ladd X rfl ?_
          refine g_lstore_n X rfl (by decide) ?_
          refine g_iinc1 X rfl rfl (by decide) ?_
          refine g_goto X rfl ?_
          have K9 := ih (i + 1) (by omega) (by omega) (by omega)
          first | (rw [show sumN (fun i => As.2 4 i != -1 && (decide (f ≤ As.2 4 i) && decide (As.2 4 i ≤ t))) (fun i => (As.2 5 i).toInt64) (i + 1) = sumN (fun i => As.2 4 i != -1 && (decide (f ≤ As.2 4 i) && decide (As.2 4 i ≤ t))) (fun i => (As.2 5 i).toInt64) i + (fun i => (As.2 5 i).toInt64) i by rw [sumN, if_pos (by simp_all [within9])]] at K9; exact K9) | (rw [show sumN (fun i => As.2 4 i != -1 && (decide (f ≤ As.2 4 i) && decide (As.2 4 i ≤ t))) (fun i => (As.2 5 i).toInt64) (i + 1) = sumN (fun i => As.2 4 i != -1 && (decide (f ≤ As.2 4 i) && decide (As.2 4 i ≤ t))) (fun i => (As.2 5 i).toInt64) i by rw [sumN, if_neg (by simp_all [within9])]] at K9; exact K9)
set_option maxRecDepth 100000 in
set_option maxHeartbeats 400000 in
theorem cr_X0_soldFor (l : Launch) (D : va_G) (cy : Nat → ClassId) (B : Nat) (od : Nat → Option Nat) {A : AH} {b : Nat} {As : RV} (h9 : AssA cy A b As) (hn : As.1 ≤ 12) {f t : Int32} : CR l D cy B od yX0_soldFor cX0_soldFor 6 (some .long) rmX0_soldFor [.ref b, .int f, .int t] A (.long (aSoldFor As f t)) := by
  intro z
  refine CT.of (by decide) tX0_soldFor okX0_soldFor (Nat.le_of_ble_eq_true rfl) (q0 := tX0_soldFor[0]) rfl rfl ?_
  intro p e s m args below meth c X _
  refine g_lconst X rfl (v := 0) (by decide) ?_
  refine g_lstore_n X rfl (by decide) ?_
  refine g_iconst X rfl (v := nI 0) (by decide) ?_
  refine g_istore X rfl (by decide) ?_
  exact lp_X0_soldFor l D cy B od h9 hn (f := f) (t := t) X (As.1 + 1) 0 (by omega) (by omega) (by omega)
set_option maxRecDepth 100000 in
set_option maxHeartbeats 400000 in
theorem cr_X4_sortOf (l : Launch) (D : va_G) (cy : Nat → ClassId) (B : Nat) (od : Nat → Option Nat) {A : AH} {b : Nat} {S : SV} (h9 : SetA cy A b S) {pr : Int32} : CR l D cy B od yX4_sortOf cX4_sortOf 2 (some .int) rmX4_sortOf [.ref b, .int pr] A (.int (sSort S pr)) := by
  intro z
  refine CT.of (by decide) tX4_sortOf okX4_sortOf (Nat.le_of_ble_eq_true rfl) (q0 := tX4_sortOf[0]) rfl rfl ?_
  intro p e s m args below meth c X _
  obtain ⟨hq, hq0, hq1⟩ := id h9
  refine g_iload_n X rfl rfl ?_
  refine g_aload_n X rfl rfl ?_
  refine g_get X rfl flX4_33 (ci := 4) rfl hq rfl ?_
  refine g_icmp_gt X rfl (fun h1 => ?_) (fun h1 => ?_)
  · refine g_iload_n X rfl rfl ?_
    refine g_aload_n X rfl rfl ?_
    refine g_get X rfl flX4_37 (ci := 4) rfl hq rfl ?_
    refine g_icmp_gt X rfl (fun h2 => ?_) (fun h2 => ?_)
    · refine g_iconst X rfl (v := nI 2) (by decide) ?_
      refine g_iret X rfl rfl (by first | rfl | exact bI_nar _ | decide) (Nat.le_refl _) (Nat.le_refl _) ⟨?_, rfl, rfl⟩
      first | (simp_all [sSort]; done) | (simp_all [sSort, nI_0, n10]; done) | (simp_all [sSort, nI_0, n10, ← Int32.not_le]; done)
    · refine g_iconst X rfl (v := nI 1) (by decide) ?_
      refine g_goto X rfl ?_
      refine g_iret X rfl rfl (by first | rfl | exact bI_nar _ | decide) (Nat.le_refl _) (Nat.le_refl _) ⟨?_, rfl, rfl⟩
      first | (simp_all [sSort]; done) | (simp_all [sSort, nI_0, n10]; done) | (simp_all [sSort, nI_0, n10, ← Int32.not_le]; done)
  · refine g_iconst X rfl (v := nI 0) (by decide) ?_
    refine g_iret X rfl rfl (by first | rfl | exact bI_nar _ | decide) (Nat.le_refl _) (Nat.le_refl _) ⟨?_, rfl, rfl⟩
    first | (simp_all [sSort]; done) | (simp_all [sSort, nI_0, n10]; done) | (simp_all [sSort, nI_0, n10, ← Int32.not_le]; done)
set_option maxRecDepth 100000 in
set_option maxHeartbeats 400000 in
theorem lp_X4_taxOfP (l : Launch) (D : va_G) (cy : Nat → ClassId) (B : Nat) (od : Nat → Option Nat) {p : Program} {e : Env} {s : State} {m : MethodId} {args : Array Value} {below : List Frame} {meth : Method} {c : Code} {A : AH} {z : Nat} {b : Nat} {S : SV} (h9 : SetA cy A b S) (hn : S.1 ≤ 5) {am : Int64} (ham : 0 < am) (X : Cx p s m args meth c D cy B od cX4_taxOf 8 tX4_taxOf RX4 (some .long)) : ∀ (k i : Nat), 0 ≤ i → i ≤ S.1 → S.1 - i < k → G p l e rmX4_taxOf s m args below meth c D B od 8 tX4_taxOf (FinQ false D B od (fun v A' z' => v = some (.long (sTax S am)) ∧ A' = A ∧ z' = z) (fun _ _ => True) args s below 0 0) 0 0 A z 12 [some (.ref b), some (.long am), none, some (.long (taxSt S am i).1), none, some (.long (taxSt S am i).2), none, some (.int (nI i))] [] := by
  obtain ⟨hq, hq0, hq1⟩ := id h9
  intro k
  induction k with
  | zero => intro i _ _ h; omega
  | succ k ih =>
    intro i hlo hi hk
    refine g_iload X rfl rfl ?_
    refine g_aload_n X rfl rfl ?_
    refine g_get X rfl flX4_46 (ci := 4) rfl hq rfl ?_
    first | refine g_ic_geN X rfl (by omega) (by omega) (fun h1 => ?_) (fun h1 => ?_) | refine g_icmp_ge X rfl (fun h1 => ?_) (fun h1 => ?_)
    · refine g_lload_n X rfl rfl ?_
      refine g_lconst X rfl (v := 0) (by decide) ?_
      refine g_lload_n X rfl rfl ?_
      refine g_lload X rfl rfl ?_
      refine g_lsub X rfl ?_
      refine g_m_max_l X rfl lmX4_58 (Nat.le_of_ble_eq_true rfl) ⟨by decide, by decide⟩ ⟨Nat.zero_le _, Nat.zero_le _⟩ ?_
      refine g_aload_n X rfl rfl ?_
      refine g_get X rfl flX4_43 (ci := 4) rfl hq rfl ?_
      refine g_i2l X rfl ?_
      refine g_lmul X rfl ?_
      refine g_ladd X rfl ?_
      refine g_lstore_n X rfl (by decide) ?_
      refine g_lload_n X rfl rfl ?_
      refine g_ldc2 X rfl kcX4_61 ?_
      refine g_ldiv X rfl (by decide) ?_
      refine g_lret X rfl rfl (Nat.le_refl _) (Nat.le_refl _) ⟨?_, rfl, rfl⟩
      rw [show i = S.1 by omega]; unfold sTax; rw [if_neg (Int64.not_le.mpr ham)]
    · refine g_lload_n X rfl rfl ?_
      refine g_lconst X rfl (v := 0) (by decide) ?_
      refine g_lload_n X rfl rfl ?_
      refine g_aload_n X rfl rfl ?_
      refine g_get X rfl flX4_9 (ci := 4) rfl hq rfl ?_
      refine g_iload X rfl rfl ?_
      refine g_ialdN X rfl hq0 (by omega) (by decide) ?_
      refine g_i2l X rfl ?_
      refine g_m_min_l X rfl lmX4_52 (Nat.le_of_ble_eq_true rfl) ⟨by decide, by decide⟩ ⟨Nat.zero_le _, Nat.zero_le _⟩ ?_
      refine g_lload X rfl rfl ?_
      refine g_lsub X rfl ?_
      refine g_m_max_l X rfl lmX4_58 (Nat.le_of_ble_eq_true rfl) ⟨by decide, by decide⟩ ⟨Nat.zero_le _, Nat.zero_le _⟩ ?_
      refine g_aload_n X rfl rfl ?_
      refine g_get X rfl flX4_15 (ci := 4) rfl hq rfl ?_
      refine g_iload X rfl rfl ?_
      refine g_ialdN X rfl hq1 (by omega) (by decide) ?_
      refine g_i2l X rfl ?_
      refine g_lmul X rfl ?_
      refine g_ladd X rfl ?_
      refine g_lstore_n X rfl (by decide) ?_
      refine g_aload_n X rfl rfl ?_
      refine g_get X rfl flX4_9 (ci := 4) rfl hq rfl ?_
      refine g_iload X rfl rfl ?_
      refine g_ialdN X rfl hq0 (by omega) (by decide) ?_
      refine g_i2l X rfl ?_
      refine g_lstore X rfl (by decide) ?_
      refine g_iinc1 X rfl rfl (by decide) ?_
      refine g_goto X rfl ?_
      have K9 := ih (i + 1) (by omega) (by omega) (by omega)
      exact K9
set_option maxRecDepth 100000 in
set_option maxHeartbeats 400000 in
theorem cr_X4_taxOfP (l : Launch) (D : va_G) (cy : Nat → ClassId) (B : Nat) (od : Nat → Option Nat) {A : AH} {b : Nat} {S : SV} (h9 : SetA cy A b S) (hn : S.1 ≤ 5) {am : Int64} (ham : 0 < am) : CR l D cy B od yX4_taxOf cX4_taxOf 8 (some .long) rmX4_taxOf [.ref b, .long am] A (.long (sTax S am)) := by
  intro z
  refine CT.of (by decide) tX4_taxOf okX4_taxOf (Nat.le_of_ble_eq_true rfl) (q0 := tX4_taxOf[0]) rfl rfl ?_
  intro p e s m args below meth c X _
  refine g_lload_n X rfl rfl ?_
  refine g_lconst X rfl (v := 0) (by decide) ?_
  refine g_l_gt X rfl rfl (fun h1 => ?_) (fun h1 => ?_)
  · refine g_lconst X rfl (v := 0) (by decide) ?_
    refine g_lstore_n X rfl (by decide) ?_
    refine g_lconst X rfl (v := 0) (by decide) ?_
    refine g_lstore X rfl (by decide) ?_
    refine g_iconst X rfl (v := nI 0) (by decide) ?_
    refine g_istore X rfl (by decide) ?_
    exact lp_X4_taxOfP l D cy B od h9 hn ham X (S.1 + 1) 0 (by omega) (by omega) (by omega)
  · exact absurd ham h1
set_option maxRecDepth 100000 in
set_option maxHeartbeats 400000 in
theorem cr_X4_taxOfN (l : Launch) (D : va_G) (cy : Nat → ClassId) (B : Nat) (od : Nat → Option Nat) {A : AH} {b : Nat} {S : SV} (h9 : SetA cy A b S) (hn : S.1 ≤ 5) {am : Int64} (ham : ¬ 0 < am) : CR l D cy B od yX4_taxOf cX4_taxOf 8 (some .long) rmX4_taxOf [.ref b, .long am] A (.long (sTax S am)) := by
  intro z
  refine CT.of (by decide) tX4_taxOf okX4_taxOf (Nat.le_of_ble_eq_true rfl) (q0 := tX4_taxOf[0]) rfl rfl ?_
  intro p e s m args below meth c X _
  obtain ⟨hq, hq0, hq1⟩ := id h9
  refine g_lload_n X rfl rfl ?_
  refine g_lconst X rfl (v := 0) (by decide) ?_
  refine g_l_gt X rfl rfl (fun h1 => ?_) (fun h1 => ?_)
  · exact absurd h1 ham
  · refine g_lconst X rfl (v := 0) (by decide) ?_
    refine g_lret X rfl rfl (Nat.le_refl _) (Nat.le_refl _) ⟨?_, rfl, rfl⟩
    unfold sTax; rw [if_pos (Int64.not_lt.mp ham)]
set_option maxRecDepth 100000 in
set_option maxHeartbeats 400000 in
theorem cr_X4_taxOf (l : Launch) (D : va_G) (cy : Nat → ClassId) (B : Nat) (od : Nat → Option Nat) {A : AH} {b : Nat} {S : SV} (h9 : SetA cy A b S) (hn : S.1 ≤ 5) {am : Int64} : CR l D cy B od yX4_taxOf cX4_taxOf 8 (some .long) rmX4_taxOf [.ref b, .long am] A (.long (sTax S am)) := by
  by_cases ham : 0 < am
  · exact cr_X4_taxOfP l D cy B od h9 hn ham
  · exact cr_X4_taxOfN l D cy B od h9 hn ham
