/-! 31: errorPosition and load -/
/-- what reading a text says: R is the error's position or -1, and what was read -/
def PrC (buf : Nat → Int32) (len : Nat) (R : Int32 × PS) : Prop := ∃ (tx : Nat → Int32) (kd : Int32) (n0 : Nat) (nm : Int32) (Z : SV) (Rm : RV), (∀ j, j < len → tx j = buf j) ∧ R = rdL tx len 400 (tokN tx len (0, kd, n0, nm), (nI 0, nI 0, nI 0, nI 0), zDef Z, (0, Rm.2))
theorem LedA.read {cy : Nat → ClassId} {A A' : AH} {W : LW} {t len : Nat} {tx : Nat → Int32} {s : PS} (h : LedA cy A W) (ht : (W.1.1 = 11 ∧ t = 4) ∨ (W.1.1 = 4 ∧ t = 11)) (hf : PFr3 A A' t) (hP : PsA cy A' t len tx s) (hW : PsW3 len s) : LedA cy A' W := by
  obtain ⟨⟨a1, a2, a3, a4, a5⟩, b1, ⟨Rm, c1, c2⟩, ⟨d1, d2⟩, ⟨e1, e2⟩, ⟨f1, f2⟩, ⟨f, g1⟩, h1⟩ := h
  obtain ⟨p1, p2, p3, p4⟩ := hP
  exact ⟨⟨(hf _ (by omega) (by omega) (by omega)).trans a1, a2.same (fun k _ _ => hf k (by omega) (by omega) (by omega)), a3, SetA.same (b := W.1.1) (fun k _ _ => hf k (by omega) (by omega) (by omega)) a4, a5⟩, b1, ⟨Rm, RoomA.same (b := W.1.1 + 3) (fun k _ _ => hf k (by omega) (by omega) (by omega)) c1, c2⟩, ⟨(hf _ (by omega) (by omega) (by omega)).trans d1, d2⟩, ⟨e1.same (fun k _ _ => hf k (by omega) (by omega) (by omega)), e2⟩, ⟨f1.same (fun k _ _ => hf k (by omega) (by omega) (by omega)), f2⟩, ⟨f, (hf _ (by omega) (by omega) (by omega)).trans g1⟩, t, _, _, _, _, _, _, _, _, _, tx, _, _, ht, p1, p2, p3, p4, hW.2.1, hW.2.2⟩
/-- the setup that was read becomes the ledger's, the ledger's the next to be read into -/
theorem LedA.swap {cy : Nat → ClassId} {A : AH} {W : LW} {t len : Nat} {tx : Nat → Int32} {s : PS} (h : LedA cy A W) (ht : (W.1.1 = 11 ∧ t = 4) ∨ (W.1.1 = 4 ∧ t = 11)) (hP : PsA cy A t len tx s) (hW : PsW3 len s) : LedA cy (upA (upA A 2 (rdE W.1.1 len s.1 s.2.1)) 0 (.inr (7, [.ref 1, .int (nI W.1.2.1), .ref 2, .ref t, .ref 18, .ref 39, .int W.1.2.2.1, .ref 60, .ref 230]))) ((t, W.1.2.1, W.1.2.2.1, W.1.2.2.2.1, s.2.2.1), W.2) := by
  obtain ⟨⟨a1, a2, a3, a4, a5⟩, b1, ⟨Rm, c1, c2⟩, ⟨d1, d2⟩, ⟨e1, e2⟩, ⟨f1, f2⟩, ⟨f, g1⟩, h1⟩ := h
  obtain ⟨p1, p2, p3, p4⟩ := hP
  have hf : ∀ {x y : va_E} (k : Nat), k ≠ 0 → k ≠ 2 → upA (upA A 2 x) 0 y k = A k := fun k h0 h2 => (upA_ne h0).trans (upA_ne h2)
  exact ⟨⟨upA_eq, a2.same (fun k _ _ => hf k (by omega) (by omega)), a3, SetA.same (b := t) (fun k _ _ => hf k (by omega) (by omega)) p3, hW.2.1⟩, b1, ⟨s.2.2.2, RoomA.same (b := t + 3) (fun k _ _ => hf k (by omega) (by omega)) p4, hW.2.2⟩, ⟨(hf _ (by omega) (by omega)).trans d1, d2⟩, ⟨e1.same (fun k _ _ => hf k (by omega) (by omega)), e2⟩, ⟨f1.same (fun k _ _ => hf k (by omega) (by omega)), f2⟩, ⟨f, (hf _ (by omega) (by omega)).trans g1⟩, W.1.1, _, _, _, _, _, _, _, _, _, tx, W.1.2.2.2.2, Rm, by show (t = 11 ∧ W.1.1 = 4) ∨ (t = 4 ∧ W.1.1 = 11); omega, (upA_ne (by decide)).trans upA_eq, (hf _ (by omega) (by omega)).trans p2, SetA.same (b := W.1.1) (fun k _ _ => hf k (by omega) (by omega)) a4, RoomA.same (b := W.1.1 + 3) (fun k _ _ => hf k (by omega) (by omega)) c1, a5, c2⟩
theorem PFr3.off {A A' : AH} {t : Nat} (h : PFr3 A A' t) (ht : t = 4 ∨ t = 11) : SameOff A A' 0 231 := fun k hk => h k (by omega) (by omega) (by omega)
def CPX (l : Launch) (D : va_G) (cy : Nat → ClassId) (B : Nat) (od : Nat → Option Nat) (y : MethodName) (bytes : ByteArray) (maxL : Nat) (rt : Option FieldType) (rm : Room) (av : List Value) (A : AH) (Q : Option Value → AH → Prop) (Qx : String → AH → Prop) : Prop := ∀ z, CX l D cy B od y bytes maxL rt rm av A z (fun v A' z' => z' = z ∧ Q v A') Qx
set_option maxRecDepth 100000 in
set_option maxHeartbeats 400000 in
theorem cm_X7_errorPosition (l : Launch) (D : va_G) (cy : Nat → ClassId) (B : Nat) (od : Nat → Option Nat) {A : AH} {W : LW} (hW : LedA cy A W) : CM l D cy B od yX7_errorPosition cX7_errorPosition 1 (some .int) rmX7_errorPosition [.ref 0] A (fun v A' => ∃ R, PrC W.2.1 W.1.2.1 R ∧ v = some (.int R.1) ∧ SameOff A A' 0 231 ∧ LedA cy A' W) := by
  intro z
  refine CT.of (by decide) tX7_errorPosition okX7_errorPosition (Nat.le_of_ble_eq_true rfl) (q0 := tX7_errorPosition[0]) rfl rfl ?_
  intro p e s m args below meth c X _
  have hu9 := hW.u
  obtain ⟨hV, hwb, ⟨Rm, hRm, hRn⟩, ⟨hb, hbl⟩, ⟨hv9, hvw, hvb⟩, ⟨hH9, hHw⟩, ⟨fb, hbal⟩, hrd⟩ := id hW
  obtain ⟨t, len0, pos, kd, ts, nm, ss, as, is, tp, txt, Zt, Rt, ht, hrd2, hrd3, hrdS, hrdR, hrd5, hrd6⟩ := id hrd
  have ht4 : t = 4 ∨ t = 11 := by omega
  obtain ⟨hL, hs9, hw, hS9, hsn⟩ := id hV
  obtain ⟨hS, hS0, hS1⟩ := id hS9
  obtain ⟨hs, hE9, hR9, hA9, hp⟩ := id hs9
  obtain ⟨hE, hE0, hE1, hE2, hE3, hE4, hE5, hE6⟩ := id hE9
  obtain ⟨hR, hR0, hR1, hR2⟩ := id hR9
  obtain ⟨hA, hA0, hA1, hA2, hA3, hA4, hA5⟩ := id hA9
  obtain ⟨w1, w2, w3, w4, w5⟩ := id hw
  refine g_aload_n X rfl rfl ?_
  refine g_get X rfl flX7_16 (ci := 7) rfl (by (repeat (first | exact hL | exact upA_eq | refine (upA_ne (by omega)).trans ?_))) rfl ?_
  refine g_aload_n X rfl rfl ?_
  refine g_get X rfl flX7_9 (ci := 7) rfl (by (repeat (first | exact hL | exact upA_eq | refine (upA_ne (by omega)).trans ?_))) rfl ?_
  refine g_aload_n X rfl rfl ?_
  refine g_get X rfl flX7_62 (ci := 7) rfl (by (repeat (first | exact hL | exact upA_eq | refine (upA_ne (by omega)).trans ?_))) rfl ?_
  refine g_mVN X rfl lcX5_read lnX7_81 lsX5_read (cm_X5_read l D cy B od (len := W.1.2.1) (fl := (ss, as, is, tp)) hrd2 hrd3 hrdS hrdR hb hbl ht4) (ci := 5) (by (repeat (first | exact hrd2 | exact upA_eq | refine (upA_ne (by omega)).trans ?_))) rfl rfl rfl (Nat.le_of_ble_eq_true rfl) ⟨⟨by decide, by decide⟩, rfl, rfl⟩ ⟨Nat.le_of_ble_eq_true rfl, Nat.le_of_ble_eq_true rfl⟩ (fun v1 A1 q1 => ?_)
  obtain ⟨tx, n0, hal, rfl, hF, hP, hPW⟩ := q1
  have hL1 := (hF 0 (by decide) (by decide) (by omega)).trans hL
  have hW1 := hW.read ht hF hP hPW
  have hR9 : PrC W.2.1 W.1.2.1 _ := ⟨tx, kd, n0, nm, Zt, Rt, hal, rfl⟩
  generalize hRR : rdL tx W.1.2.1 400 (tokN tx W.1.2.1 (0, kd, n0, nm), (nI 0, nI 0, nI 0, nI 0), zDef Zt, (0, Rt.2)) = R at hP hPW hR9 ⊢
  refine g_iret X rfl rfl (by first | rfl | exact bI_nar _ | decide) (Nat.le_of_ble_eq_true rfl) (Nat.le_of_ble_eq_true rfl) ⟨rfl, ?_⟩
  exact ⟨R, hR9, rfl, hF.off ht4, hW1⟩
set_option maxRecDepth 100000 in
set_option maxHeartbeats 400000 in
theorem cm_X5_handOver (l : Launch) (D : va_G) (cy : Nat → ClassId) (B : Nat) (od : Nat → Option Nat) {A : AH} {t u len : Nat} {k : TK} {fl : FL4} (hrd2 : A 2 = some (rdE t len k fl)) : CM l D cy B od yX5_handOver cX5_handOver 3 (some (.object "CashLedger$Setup")) rmX5_handOver [.ref 2, .ref u] A (fun v A' => v = some (.ref t) ∧ A' = upA A 2 (rdE u len k fl)) := by
  intro z
  refine CT.of (by decide) tX5_handOver okX5_handOver (Nat.le_of_ble_eq_true rfl) (q0 := tX5_handOver[0]) rfl rfl ?_
  intro p e s m args below meth c X _
  refine g_aload_n X rfl rfl ?_
  refine g_get X rfl flX5_18 (ci := 5) rfl (by (repeat (first | exact hrd2 | exact upA_eq | refine (upA_ne (by omega)).trans ?_))) rfl ?_
  refine g_astore_n X rfl (by decide) ?_
  refine g_aload_n X rfl rfl ?_
  refine g_aload_n X rfl rfl ?_
  refine g_put X rfl flX5_18 rfl (ci := 5) rfl (by (repeat (first | exact hrd2 | exact upA_eq | refine (upA_ne (by omega)).trans ?_))) (Nat.le_of_ble_eq_true rfl) (by first | rfl | exact bI_nar _) (by first | rfl | decide) ?_
  refine g_aload_n X rfl rfl ?_
  refine g_aret X rfl rfl (Nat.le_of_ble_eq_true rfl) (Nat.le_of_ble_eq_true rfl) ⟨rfl, ?_⟩
  exact ⟨rfl, rfl⟩
set_option maxRecDepth 100000 in
set_option maxHeartbeats 400000 in
theorem cx_X7_load (l : Launch) (D : va_G) (cy : Nat → ClassId) (B : Nat) (od : Nat → Option Nat) (hl9 : l.stackTraces = false) {A : AH} {W : LW} (hW : LedA cy A W) : CPX l D cy B od yX7_load cX7_load 1 (some .int) rmX7_load [.ref 0] A (fun v A' => ∃ R, PrC W.2.1 W.1.2.1 R ∧ R.1 = -1 ∧ v = some (.int (nI R.2.2.2.2.1)) ∧ SameOff A A' 0 231 ∧ ∃ (t : Nat) (c2 : Nat → Nat → Int32), (∀ q j, j < R.2.2.2.2.1 → c2 q j = R.2.2.2.2.2 q j) ∧ LedA cy A' ((t, 0, nI 0, ((0, (vS W.1).1.2), (R.2.2.2.2.1, c2), (0, (vS W.1).2.2.1.2), (vS W.1).2.2.2.1, 0, R.2.2.2.1.2.1 0), R.2.2.2.1), W.2.1, W.2.2.1, (0, 0, W.2.2.2.2.2))) (fun E A' => E = eIAE ∧ (∃ R, PrC W.2.1 W.1.2.1 R ∧ ¬ R.1 = -1) ∧ SameOff A A' 0 231 ∧ LedA cy A' W) := by
  intro z
  refine CX.of (by decide) tX7_load okX7_load (Nat.le_of_ble_eq_true rfl) (q0 := tX7_load[0]) rfl rfl ?_
  intro p e s m args below meth c X hnt
  have hu9 := hW.u
  obtain ⟨hV, hwb, ⟨Rm, hRm, hRn⟩, ⟨hb, hbl⟩, ⟨hv9, hvw, hvb⟩, ⟨hH9, hHw⟩, ⟨fb, hbal⟩, hrd⟩ := id hW
  obtain ⟨t, len0, pos, kd, ts, nm, ss, as, is, tp, txt, Zt, Rt, ht, hrd2, hrd3, hrdS, hrdR, hrd5, hrd6⟩ := id hrd
  have ht4 : t = 4 ∨ t = 11 := by omega
  obtain ⟨hL, hs9, hw, hS9, hsn⟩ := id hV
  obtain ⟨hS, hS0, hS1⟩ := id hS9
  obtain ⟨hs, hE9, hR9, hA9, hp⟩ := id hs9
  obtain ⟨hE, hE0, hE1, hE2, hE3, hE4, hE5, hE6⟩ := id hE9
  obtain ⟨hR, hR0, hR1, hR2⟩ := id hR9
  obtain ⟨hA, hA0, hA1, hA2, hA3, hA4, hA5⟩ := id hA9
  obtain ⟨w1, w2, w3, w4, w5⟩ := id hw
  refine g_aload_n X rfl rfl ?_
  refine g_get X rfl flX7_16 (ci := 7) rfl (by (repeat (first | exact hL | exact upA_eq | refine (upA_ne (by omega)).trans ?_))) rfl ?_
  refine g_aload_n X rfl rfl ?_
  refine g_get X rfl flX7_9 (ci := 7) rfl (by (repeat (first | exact hL | exact upA_eq | refine (upA_ne (by omega)).trans ?_))) rfl ?_
  refine g_aload_n X rfl rfl ?_
  refine g_get X rfl flX7_62 (ci := 7) rfl (by (repeat (first | exact hL | exact upA_eq | refine (upA_ne (by omega)).trans ?_))) rfl ?_
  refine g_mVN X rfl lcX5_read lnX7_81 lsX5_read (cm_X5_read l D cy B od (len := W.1.2.1) (fl := (ss, as, is, tp)) hrd2 hrd3 hrdS hrdR hb hbl ht4) (ci := 5) (by (repeat (first | exact hrd2 | exact upA_eq | refine (upA_ne (by omega)).trans ?_))) rfl rfl rfl (Nat.le_of_ble_eq_true rfl) ⟨⟨by decide, by decide⟩, rfl, rfl⟩ ⟨Nat.le_of_ble_eq_true rfl, Nat.le_of_ble_eq_true rfl⟩ (fun v1 A1 q1 => ?_)
  obtain ⟨tx, n0, hal, rfl, hF, hP, hPW⟩ := q1
  have hL1 := (hF 0 (by decide) (by decide) (by omega)).trans hL
  have hW1 := hW.read ht hF hP hPW
  have hR9 : PrC W.2.1 W.1.2.1 _ := ⟨tx, kd, n0, nm, Zt, Rt, hal, rfl⟩
  generalize hRR : rdL tx W.1.2.1 400 (tokN tx W.1.2.1 (0, kd, n0, nm), (nI 0, nI 0, nI 0, nI 0), zDef Zt, (0, Rt.2)) = R at hP hPW hR9 ⊢
  refine g_iconst X rfl (v := (-1)) (by decide) ?_
  refine g_icmp_ne X rfl (fun h2 => ?_) (fun h2 => ?_)
  · refine g_iconst X rfl (v := nI 0) (by decide) ?_
    refine g_req X hnt rfl lcX7_requireArgument lmX7_78 stX7_requireArgument (cq_X7_requireArgument l D cy B od hl9) rfl rfl (Nat.le_of_ble_eq_true rfl) ⟨by decide, by decide⟩ ⟨Nat.le_of_ble_eq_true rfl, Nat.le_of_ble_eq_true rfl⟩ (Nat.le_of_ble_eq_true rfl) (Nat.le_of_ble_eq_true rfl) (fun h3 => ?_) (fun h3 => absurd nI_0 h3)
    exact ⟨rfl, ⟨R, hR9, by assumption⟩, hF.off ht4, hW1⟩
  · refine g_iconst X rfl (v := nI 1) (by decide) ?_
    refine g_goto X rfl ?_
    refine g_req X hnt rfl lcX7_requireArgument lmX7_78 stX7_requireArgument (cq_X7_requireArgument l D cy B od hl9) rfl rfl (Nat.le_of_ble_eq_true rfl) ⟨by decide, by decide⟩ ⟨Nat.le_of_ble_eq_true rfl, Nat.le_of_ble_eq_true rfl⟩ (Nat.le_of_ble_eq_true rfl) (Nat.le_of_ble_eq_true rfl) (fun h4 => absurd n10 h4) (fun h4 => ?_)
    have hL := hL1
    have hrd2 := hP.1
    refine g_aload_n X rfl rfl ?_
    refine g_aload_n X rfl rfl ?_
    refine g_get X rfl flX7_16 (ci := 7) rfl (by (repeat (first | exact hL | exact upA_eq | refine (upA_ne (by omega)).trans ?_))) rfl ?_
    refine g_aload_n X rfl rfl ?_
    refine g_get X rfl flX7_23 (ci := 7) rfl (by (repeat (first | exact hL | exact upA_eq | refine (upA_ne (by omega)).trans ?_))) rfl ?_
    refine g_mVN X rfl lcX5_handOver lnX7_85 lsX5_handOver (cm_X5_handOver l D cy B od (u := W.1.1) hP.1) (ci := 5) (by (repeat (first | exact hrd2 | exact upA_eq | refine (upA_ne (by omega)).trans ?_))) rfl rfl rfl (Nat.le_of_ble_eq_true rfl) ⟨⟨by decide, by decide⟩, rfl, rfl⟩ ⟨Nat.le_of_ble_eq_true rfl, Nat.le_of_ble_eq_true rfl⟩ (fun v5 A5 q5 => ?_)
    obtain ⟨rfl, rfl⟩ := q5
    refine g_put X rfl flX7_23 rfl (ci := 7) rfl (by (repeat (first | exact hL | exact upA_eq | refine (upA_ne (by omega)).trans ?_))) (Nat.le_of_ble_eq_true rfl) (by first | rfl | exact bI_nar _) (by first | rfl | decide) ?_
    have hW2 := hW1.swap ht hP hPW
    refine G.cast (A2 := upA (upA _ 2 (rdE W.1.1 W.1.2.1 R.2.1 R.2.2.1)) 0 (.inr (7, [.ref 1, .int (nI W.1.2.1), .ref 2, .ref t, .ref 18, .ref 39, .int W.1.2.2.1, .ref 60, .ref 230]))) rfl ?_
    obtain ⟨⟨hL, hs9, hw, hS9, hsn⟩, hwb, -, -, -, ⟨hH9, hHw⟩, -, -⟩ := id hW2
    obtain ⟨hs, hE9, hR9r, hA9, hp⟩ := id hs9
    have hRt := hP.2.2.2.same (A' := upA (upA _ 2 (rdE W.1.1 W.1.2.1 R.2.1 R.2.2.1)) 0 (.inr (7, [.ref 1, .int (nI W.1.2.1), .ref 2, .ref t, .ref 18, .ref 39, .int W.1.2.2.1, .ref 60, .ref 230]))) (fun k _ _ => (upA_ne (by omega)).trans (upA_ne (by omega)))
    refine g_aload_n X rfl rfl ?_
    refine g_get X rfl flX7_30 (ci := 7) rfl (by (repeat (first | exact hL | exact upA_eq | refine (upA_ne (by omega)).trans ?_))) rfl ?_
    refine g_aload_n X rfl rfl ?_
    refine g_get X rfl flX7_23 (ci := 7) rfl (by (repeat (first | exact hL | exact upA_eq | refine (upA_ne (by omega)).trans ?_))) rfl ?_
    refine g_mVN X rfl lcX6_begin lnX7_54 lsX6_begin (cm_X6_begin l D cy B od (b2 := t) (Z := R.2.2.2.1) (Rm := R.2.2.2.2) hs9 hS9 hRt hPW.2.2 (by omega)) (ci := 6) (by (repeat (first | exact hs | exact upA_eq | refine (upA_ne (by omega)).trans ?_))) rfl rfl rfl (Nat.le_of_ble_eq_true rfl) ⟨⟨by decide, by decide⟩, rfl, rfl⟩ ⟨Nat.le_of_ble_eq_true rfl, Nat.le_of_ble_eq_true rfl⟩ (fun v6 A6 q6 => ?_)
    obtain ⟨rfl, f6, c2, E6, e6⟩ := q6
    have hW3 := hW2.upNow (f6.wide (by omega) (by omega)) E6 ⟨Nat.zero_le _, hPW.2.2, Nat.zero_le _, Nat.zero_le _, fun i hi => absurd hi (Nat.not_lt_zero _)⟩ (fun j hj => absurd hj (Nat.not_lt_zero _))
    have hL := (f6 0 (by omega)).trans hL
    have hH9 := hH9.same (f6.on (by omega))
    refine g_aload_n X rfl rfl ?_
    refine g_get X rfl flX7_40 (ci := 7) rfl (by (repeat (first | exact hL | exact upA_eq | refine (upA_ne (by omega)).trans ?_))) rfl ?_
    refine g_mVN X rfl lcX2_clear lnX7_89 lsX2_clear (cm_X2_clear l D cy B od hH9) (ci := 2) (by (repeat (first | exact hH9.1 | exact upA_eq | refine (upA_ne (by omega)).trans ?_))) rfl rfl rfl (Nat.le_of_ble_eq_true rfl) ⟨⟨by decide, by decide⟩, rfl, rfl⟩ ⟨Nat.le_of_ble_eq_true rfl, Nat.le_of_ble_eq_true rfl⟩ (fun v7 A7 q7 => ?_)
    obtain ⟨rfl, f7, H7⟩ := q7
    have hW4 := hW3.upHis (f7.wide (by omega) (by omega)) H7 ⟨Nat.le_of_ble_eq_true rfl, Nat.le_of_ble_eq_true rfl, hHw.2.2⟩
    have hL := (f7 0 (by omega)).trans hL
    have hs := (f7 18 (by omega)).trans E6.1
    have hR := (f7 27 (by omega)).trans E6.2.2.1.1
    refine g_aload_n X rfl rfl ?_
    refine g_iconst X rfl (v := nI 0) (by decide) ?_
    refine g_put X rfl flX7_92 rfl (ci := 7) rfl (by (repeat (first | exact hL | exact upA_eq | refine (upA_ne (by omega)).trans ?_))) (Nat.le_of_ble_eq_true rfl) (show narrow .boolean (.int (nI 0)) = .int (nI 0) from by decide) (by first | rfl | decide) ?_
    refine g_aload_n X rfl rfl ?_
    refine g_iconst X rfl (v := nI 0) (by decide) ?_
    refine g_put X rfl flX7_62 rfl (ci := 7) rfl (by (repeat (first | exact hL | exact upA_eq | refine (upA_ne (by omega)).trans ?_))) (Nat.le_of_ble_eq_true rfl) (by first | rfl | exact bI_nar _) (by first | rfl | decide) ?_
    refine g_aload_n X rfl rfl ?_
    refine g_get X rfl flX7_30 (ci := 7) rfl (by (repeat (first | exact hL | exact upA_eq | refine (upA_ne (by omega)).trans ?_))) rfl ?_
    refine g_get X rfl flX7_96 (ci := 6) rfl (by (repeat (first | exact hs | exact upA_eq | refine (upA_ne (by omega)).trans ?_))) rfl ?_
    refine g_get X rfl flX7_100 (ci := 3) rfl (by (repeat (first | exact hR | exact upA_eq | refine (upA_ne (by omega)).trans ?_))) rfl ?_
    refine g_iret X rfl rfl (by first | rfl | exact bI_nar _ | decide) (Nat.le_of_ble_eq_true rfl) (Nat.le_of_ble_eq_true rfl) ⟨rfl, ?_⟩
    refine ⟨R, hR9, by first | assumption | exact Classical.not_not.mp (by assumption), rfl, fun k hk => ?_, t, c2, e6, ?_⟩
    · exact (upA_ne (by omega)).trans ((upA_ne (by omega)).trans ((f7 k (by omega)).trans ((f6 k (by omega)).trans ((upA_ne (by omega)).trans ((upA_ne (by omega)).trans (hF.off ht4 k hk))))))
    · rw [upA_up]; exact hW4.upObj (Nat.zero_le _)
