/-! 22: what changes a ledger -/
def isDN (d : Int32) : Bool := decide (d = -1) || within9 d (nI 0) (nI 359)
set_option maxRecDepth 100000 in
set_option maxHeartbeats 400000 in
theorem cr_X7_isDayOrNone (l : Launch) (D : va_G) (cy : Nat → ClassId) (B : Nat) (od : Nat → Option Nat) {A : AH} {d : Int32} : CR l D cy B od yX7_isDayOrNone cX7_isDayOrNone 1 (some .boolean) rmX7_isDayOrNone [.int d] A (.int (bI (isDN d))) := by
  intro z
  refine CT.of (by decide) tX7_isDayOrNone okX7_isDayOrNone (Nat.le_of_ble_eq_true rfl) (q0 := tX7_isDayOrNone[0]) rfl rfl ?_
  intro p e s m args below meth c X _
  refine g_iload_n X rfl rfl ?_
  refine g_iconst X rfl (v := (-1)) (by decide) ?_
  refine g_icmp_eq X rfl (fun h1 => ?_) (fun h1 => ?_)
  · refine g_iconst X rfl (v := nI 1) (by decide) ?_
    refine g_goto X rfl ?_
    refine g_iret X rfl rfl (by first | rfl | exact bI_nar _ | decide) (Nat.le_refl _) (Nat.le_refl _) ⟨?_, rfl, rfl⟩
    first | exact bR0 (by simp_all [isDN, ← Int32.not_le, ← Int64.not_le]) | exact bR1 (by simp_all [isDN, ← Int32.not_le, ← Int64.not_le])
  · refine g_iload_n X rfl rfl ?_
    refine g_iconst X rfl (v := nI 0) (by decide) ?_
    refine g_sipush X rfl (v := nI 359) (by decide) ?_
    refine g_rS X rfl lcX7_within lmX7_74 stX7_within (cr_X7_within l D cy B od) rfl rfl (Nat.le_of_ble_eq_true rfl) ⟨⟨by decide, by decide⟩, rfl, rfl⟩ ⟨Nat.le_of_ble_eq_true rfl, Nat.le_of_ble_eq_true rfl⟩ ?_
    first | refine g_if_eqB X rfl (fun h2 => ?_) (fun h2 => ?_) | refine g_if_eq X rfl (fun h2 => ?_) (fun h2 => ?_)
    · refine g_iconst X rfl (v := nI 0) (by decide) ?_
      refine g_iret X rfl rfl (by first | rfl | exact bI_nar _ | decide) (Nat.le_refl _) (Nat.le_refl _) ⟨?_, rfl, rfl⟩
      first | exact bR0 (by simp_all [isDN, ← Int32.not_le, ← Int64.not_le]) | exact bR1 (by simp_all [isDN, ← Int32.not_le, ← Int64.not_le])
    · refine g_iconst X rfl (v := nI 1) (by decide) ?_
      refine g_goto X rfl ?_
      refine g_iret X rfl rfl (by first | rfl | exact bI_nar _ | decide) (Nat.le_refl _) (Nat.le_refl _) ⟨?_, rfl, rfl⟩
      first | exact bR0 (by simp_all [isDN, ← Int32.not_le, ← Int64.not_le]) | exact bR1 (by simp_all [isDN, ← Int32.not_le, ← Int64.not_le])
def ocAddE (V : LV) (kd ca am iv pd : Int32) : OC := if within9 kd (nI 0) (nI 3) && (within9 ca (nI 0) (nI 9) && (within9 am (nI 1) (nI 10000000) && (within9 iv (nI 0) (nI 359) && isDN pd))) then (if (vS V).1.1 < 60 then .inr (.int (nI (vS V).1.1)) else .inl eISE) else .inl eIAE
set_option maxRecDepth 100000 in
set_option maxHeartbeats 400000 in
theorem cp_X7_addEntry (l : Launch) (D : va_G) (cy : Nat → ClassId) (B : Nat) (od : Nat → Option Nat) (hl9 : l.stackTraces = false) {A : AH} {W : LW} (hW : LedA cy A W) {kd ca am iv pd : Int32} : CP l D cy B od yX7_addEntry cX7_addEntry 7 (some .int) rmX7_addEntry [.ref 0, .int kd, .int ca, .int am, .int iv, .int pd] A (ocAddE W.1 kd ca am iv pd) (ChP cy A W (fun S9 => S9.1.1 = (vS W.1).1.1 + 1 ∧ (∀ q j, j < (vS W.1).1.1 → S9.1.2 q j = (vS W.1).1.2 q j) ∧ (S9.1.2 0 (vS W.1).1.1 = kd ∧ S9.1.2 1 (vS W.1).1.1 = ca ∧ S9.1.2 2 (vS W.1).1.1 = am ∧ S9.1.2 3 (vS W.1).1.1 = iv ∧ S9.1.2 4 (vS W.1).1.1 = pd ∧ S9.1.2 5 (vS W.1).1.1 = 0 ∧ S9.1.2 6 (vS W.1).1.1 = (if pd = -1 ∨ nI (vS W.1).2.2.2.2.1 ≤ pd / nI 90 then nI 0 else nI 1)) ∧ S9.2 = (vS W.1).2)) (fun A' => A' = A) := by
  intro z
  refine CX.of (by decide) tX7_addEntry okX7_addEntry (Nat.le_of_ble_eq_true rfl) (q0 := tX7_addEntry[0]) rfl rfl ?_
  intro p e s m args below meth c X hnt
  obtain ⟨hV, hwb, ⟨Rm, hRm, hRn⟩, ⟨hb, hbl⟩, ⟨hv9, hvw, hvb⟩, ⟨hH9, hHw⟩, ⟨fb, hbal⟩, hrd⟩ := id hW
  obtain ⟨hL, hs9, hw, hS9, hsn⟩ := id hV
  obtain ⟨hS, hS0, hS1⟩ := id hS9
  obtain ⟨hs, hE9, hR9, hA9, hp⟩ := id hs9
  obtain ⟨hE, hE0, hE1, hE2, hE3, hE4, hE5, hE6⟩ := id hE9
  obtain ⟨hR, hR0, hR1, hR2⟩ := id hR9
  obtain ⟨hA, hA0, hA1, hA2, hA3, hA4, hA5⟩ := id hA9
  obtain ⟨w1, w2, w3, w4, w5⟩ := id hw
  have hH8 := id hH9
  obtain ⟨hh, ⟨fh, hhr, hhf⟩, hhk⟩ := hH8
  refine g_iload_n X rfl rfl ?_
  refine g_iconst X rfl (v := nI 0) (by decide) ?_
  refine g_iconst X rfl (v := nI 3) (by decide) ?_
  refine g_rS X rfl lcX7_within lmX7_74 stX7_within (cr_X7_within l D cy B od) rfl rfl (Nat.le_of_ble_eq_true rfl) ⟨⟨by decide, by decide⟩, rfl, rfl⟩ ⟨Nat.le_of_ble_eq_true rfl, Nat.le_of_ble_eq_true rfl⟩ ?_
  first | refine g_if_eqB X rfl (fun h1 => ?_) (fun h1 => ?_) | refine g_if_eq X rfl (fun h1 => ?_) (fun h1 => ?_)
  · refine g_iconst X rfl (v := nI 0) (by decide) ?_
    refine g_req X hnt rfl lcX7_requireArgument lmX7_78 stX7_requireArgument (cq_X7_requireArgument l D cy B od hl9) rfl rfl (Nat.le_of_ble_eq_true rfl) ⟨by decide, by decide⟩ ⟨Nat.le_of_ble_eq_true rfl, Nat.le_of_ble_eq_true rfl⟩ (Nat.le_of_ble_eq_true rfl) (Nat.le_of_ble_eq_true rfl) (fun h2 => ?_) (fun h2 => absurd nI_0 h2)
    exact ⟨by first | (simp_all [ocAddE, nI_eq, bI_0, bI_n0]; done) | (simp_all [ocAddE, nI_eq, bI_0, bI_n0, nI_0, n10]; done) | (simp_all [ocAddE, nI_eq, bI_0, bI_n0, nI_0, n10, ← Int32.not_le]; done) | (simp_all [ocAddE, nI_eq, bI_0, bI_n0, ← Int64.not_le]; done) | (simp_all [ocAddE, nI_eq, bI_0, bI_n0, nI_0, n10, ← Int64.not_le, ← Int32.not_le]; done), rfl⟩
  · refine g_iload_n X rfl rfl ?_
    refine g_iconst X rfl (v := nI 0) (by decide) ?_
    refine g_bipush X rfl (v := nI 9) (by decide) ?_
    refine g_rS X rfl lcX7_within lmX7_74 stX7_within (cr_X7_within l D cy B od) rfl rfl (Nat.le_of_ble_eq_true rfl) ⟨⟨by decide, by decide⟩, rfl, rfl⟩ ⟨Nat.le_of_ble_eq_true rfl, Nat.le_of_ble_eq_true rfl⟩ ?_
    first | refine g_if_eqB X rfl (fun h3 => ?_) (fun h3 => ?_) | refine g_if_eq X rfl (fun h3 => ?_) (fun h3 => ?_)
    · refine g_iconst X rfl (v := nI 0) (by decide) ?_
      refine g_req X hnt rfl lcX7_requireArgument lmX7_78 stX7_requireArgument (cq_X7_requireArgument l D cy B od hl9) rfl rfl (Nat.le_of_ble_eq_true rfl) ⟨by decide, by decide⟩ ⟨Nat.le_of_ble_eq_true rfl, Nat.le_of_ble_eq_true rfl⟩ (Nat.le_of_ble_eq_true rfl) (Nat.le_of_ble_eq_true rfl) (fun h4 => ?_) (fun h4 => absurd nI_0 h4)
      exact ⟨by first | (simp_all [ocAddE, nI_eq, bI_0, bI_n0]; done) | (simp_all [ocAddE, nI_eq, bI_0, bI_n0, nI_0, n10]; done) | (simp_all [ocAddE, nI_eq, bI_0, bI_n0, nI_0, n10, ← Int32.not_le]; done) | (simp_all [ocAddE, nI_eq, bI_0, bI_n0, ← Int64.not_le]; done) | (simp_all [ocAddE, nI_eq, bI_0, bI_n0, nI_0, n10, ← Int64.not_le, ← Int32.not_le]; done), rfl⟩
    · refine g_iload_n X rfl rfl ?_
      refine g_iconst X rfl (v := nI 1) (by decide) ?_
      refine g_ldc X rfl kcX7_105 ?_
      refine g_rS X rfl lcX7_within lmX7_74 stX7_within (cr_X7_within l D cy B od) rfl rfl (Nat.le_of_ble_eq_true rfl) ⟨⟨by decide, by decide⟩, rfl, rfl⟩ ⟨Nat.le_of_ble_eq_true rfl, Nat.le_of_ble_eq_true rfl⟩ ?_
      first | refine g_if_eqB X rfl (fun h5 => ?_) (fun h5 => ?_) | refine g_if_eq X rfl (fun h5 => ?_) (fun h5 => ?_)
      · refine g_iconst X rfl (v := nI 0) (by decide) ?_
        refine g_req X hnt rfl lcX7_requireArgument lmX7_78 stX7_requireArgument (cq_X7_requireArgument l D cy B od hl9) rfl rfl (Nat.le_of_ble_eq_true rfl) ⟨by decide, by decide⟩ ⟨Nat.le_of_ble_eq_true rfl, Nat.le_of_ble_eq_true rfl⟩ (Nat.le_of_ble_eq_true rfl) (Nat.le_of_ble_eq_true rfl) (fun h6 => ?_) (fun h6 => absurd nI_0 h6)
        exact ⟨by first | (simp_all [ocAddE, nI_eq, bI_0, bI_n0]; done) | (simp_all [ocAddE, nI_eq, bI_0, bI_n0, nI_0, n10]; done) | (simp_all [ocAddE, nI_eq, bI_0, bI_n0, nI_0, n10, ← Int32.not_le]; done) | (simp_all [ocAddE, nI_eq, bI_0, bI_n0, ← Int64.not_le]; done) | (simp_all [ocAddE, nI_eq, bI_0, bI_n0, nI_0, n10, ← Int64.not_le, ← Int32.not_le]; done), rfl⟩
      · refine g_iload X rfl rfl ?_
        refine g_iconst X rfl (v := nI 0) (by decide) ?_
        refine g_sipush X rfl (v := nI 359) (by decide) ?_
        refine g_rS X rfl lcX7_within lmX7_74 stX7_within (cr_X7_within l D cy B od) rfl rfl (Nat.le_of_ble_eq_true rfl) ⟨⟨by decide, by decide⟩, rfl, rfl⟩ ⟨Nat.le_of_ble_eq_true rfl, Nat.le_of_ble_eq_true rfl⟩ ?_
        first | refine g_if_eqB X rfl (fun h7 => ?_) (fun h7 => ?_) | refine g_if_eq X rfl (fun h7 => ?_) (fun h7 => ?_)
        · refine g_iconst X rfl (v := nI 0) (by decide) ?_
          refine g_req X hnt rfl lcX7_requireArgument lmX7_78 stX7_requireArgument (cq_X7_requireArgument l D cy B od hl9) rfl rfl (Nat.le_of_ble_eq_true rfl) ⟨by decide, by decide⟩ ⟨Nat.le_of_ble_eq_true rfl, Nat.le_of_ble_eq_true rfl⟩ (Nat.le_of_ble_eq_true rfl) (Nat.le_of_ble_eq_true rfl) (fun h8 => ?_) (fun h8 => absurd nI_0 h8)
          exact ⟨by first | (simp_all [ocAddE, nI_eq, bI_0, bI_n0]; done) | (simp_all [ocAddE, nI_eq, bI_0, bI_n0, nI_0, n10]; done) | (simp_all [ocAddE, nI_eq, bI_0, bI_n0, nI_0, n10, ← Int32.not_le]; done) | (simp_all [ocAddE, nI_eq, bI_0, bI_n0, ← Int64.not_le]; done) | (simp_all [ocAddE, nI_eq, bI_0, bI_n0, nI_0, n10, ← Int64.not_le, ← Int32.not_le]; done), rfl⟩
        · refine g_iload X rfl rfl ?_
          refine g_rS X rfl lcX7_isDayOrNone lmX7_106 stX7_isDayOrNone (cr_X7_isDayOrNone l D cy B od) rfl rfl (Nat.le_of_ble_eq_true rfl) ⟨⟨by decide, by decide⟩, rfl, rfl⟩ ⟨Nat.le_of_ble_eq_true rfl, Nat.le_of_ble_eq_true rfl⟩ ?_
          first | refine g_if_eqB X rfl (fun h9 => ?_) (fun h9 => ?_) | refine g_if_eq X rfl (fun h9 => ?_) (fun h9 => ?_)
          · refine g_iconst X rfl (v := nI 0) (by decide) ?_
            refine g_req X hnt rfl lcX7_requireArgument lmX7_78 stX7_requireArgument (cq_X7_requireArgument l D cy B od hl9) rfl rfl (Nat.le_of_ble_eq_true rfl) ⟨by decide, by decide⟩ ⟨Nat.le_of_ble_eq_true rfl, Nat.le_of_ble_eq_true rfl⟩ (Nat.le_of_ble_eq_true rfl) (Nat.le_of_ble_eq_true rfl) (fun h10 => ?_) (fun h10 => absurd nI_0 h10)
            exact ⟨by first | (simp_all [ocAddE, nI_eq, bI_0, bI_n0]; done) | (simp_all [ocAddE, nI_eq, bI_0, bI_n0, nI_0, n10]; done) | (simp_all [ocAddE, nI_eq, bI_0, bI_n0, nI_0, n10, ← Int32.not_le]; done) | (simp_all [ocAddE, nI_eq, bI_0, bI_n0, ← Int64.not_le]; done) | (simp_all [ocAddE, nI_eq, bI_0, bI_n0, nI_0, n10, ← Int64.not_le, ← Int32.not_le]; done), rfl⟩
          · refine g_iconst X rfl (v := nI 1) (by decide) ?_
            refine g_goto X rfl ?_
            refine g_req X hnt rfl lcX7_requireArgument lmX7_78 stX7_requireArgument (cq_X7_requireArgument l D cy B od hl9) rfl rfl (Nat.le_of_ble_eq_true rfl) ⟨by decide, by decide⟩ ⟨Nat.le_of_ble_eq_true rfl, Nat.le_of_ble_eq_true rfl⟩ (Nat.le_of_ble_eq_true rfl) (Nat.le_of_ble_eq_true rfl) (fun h11 => absurd n10 h11) (fun h11 => ?_)
            refine g_aload_n X rfl rfl ?_
            refine g_get X rfl flX7_30 (ci := 7) rfl (by (repeat (first | exact hL | exact upA_eq | refine (upA_ne (by omega)).trans ?_ | refine (f2 _ (by omega)).trans ?_ | refine (f1 _ (by omega)).trans ?_))) rfl ?_
            refine g_get X rfl flX7_110 (ci := 6) rfl (by (repeat (first | exact hs | exact upA_eq | refine (upA_ne (by omega)).trans ?_ | refine (f2 _ (by omega)).trans ?_ | refine (f1 _ (by omega)).trans ?_))) rfl ?_
            refine g_get X rfl flX7_114 (ci := 1) rfl (by (repeat (first | exact hE | exact upA_eq | refine (upA_ne (by omega)).trans ?_ | refine (f2 _ (by omega)).trans ?_ | refine (f1 _ (by omega)).trans ?_))) rfl ?_
            refine g_bipush X rfl (v := nI 60) (by decide) ?_
            first | refine g_ic_geN X rfl (by omega) (by omega) (fun h12 => ?_) (fun h12 => ?_) | refine g_icmp_ge X rfl (fun h12 => ?_) (fun h12 => ?_)
            · refine g_iconst X rfl (v := nI 0) (by decide) ?_
              refine g_req X hnt rfl lcX7_requireState lmX7_66 stX7_requireState (cq_X7_requireState l D cy B od hl9) rfl rfl (Nat.le_of_ble_eq_true rfl) ⟨by decide, by decide⟩ ⟨Nat.le_of_ble_eq_true rfl, Nat.le_of_ble_eq_true rfl⟩ (Nat.le_of_ble_eq_true rfl) (Nat.le_of_ble_eq_true rfl) (fun h13 => ?_) (fun h13 => absurd nI_0 h13)
              exact ⟨by first | (simp_all [ocAddE, nI_eq, bI_0, bI_n0]; done) | (simp_all [ocAddE, nI_eq, bI_0, bI_n0, nI_0, n10]; done) | (simp_all [ocAddE, nI_eq, bI_0, bI_n0, nI_0, n10, ← Int32.not_le]; done) | (simp_all [ocAddE, nI_eq, bI_0, bI_n0, ← Int64.not_le]; done) | (simp_all [ocAddE, nI_eq, bI_0, bI_n0, nI_0, n10, ← Int64.not_le, ← Int32.not_le]; done), rfl⟩
            · refine g_iconst X rfl (v := nI 1) (by decide) ?_
              refine g_goto X rfl ?_
              refine g_req X hnt rfl lcX7_requireState lmX7_66 stX7_requireState (cq_X7_requireState l D cy B od hl9) rfl rfl (Nat.le_of_ble_eq_true rfl) ⟨by decide, by decide⟩ ⟨Nat.le_of_ble_eq_true rfl, Nat.le_of_ble_eq_true rfl⟩ (Nat.le_of_ble_eq_true rfl) (Nat.le_of_ble_eq_true rfl) (fun h14 => absurd n10 h14) (fun h14 => ?_)
              have hoc : (ocAddE W.1 kd ca am iv pd) = .inr (.int (nI (vS W.1).1.1)) := by first | (simp_all [ocAddE, nI_eq, bI_0, bI_n0]; done) | (simp_all [ocAddE, nI_eq, bI_0, bI_n0, nI_0, n10]; done) | (simp_all [ocAddE, nI_eq, bI_0, bI_n0, nI_0, n10, ← Int32.not_le]; done) | (simp_all [ocAddE, nI_eq, bI_0, bI_n0, ← Int64.not_le]; done) | (simp_all [ocAddE, nI_eq, bI_0, bI_n0, nI_0, n10, ← Int64.not_le, ← Int32.not_le]; done)
              refine g_aload_n X rfl rfl ?_
              refine g_get X rfl flX7_40 (ci := 7) rfl (by (repeat (first | exact hL | exact upA_eq | refine (upA_ne (by omega)).trans ?_ | refine (f2 _ (by omega)).trans ?_ | refine (f1 _ (by omega)).trans ?_))) rfl ?_
              refine g_aload_n X rfl rfl ?_
              refine g_get X rfl flX7_30 (ci := 7) rfl (by (repeat (first | exact hL | exact upA_eq | refine (upA_ne (by omega)).trans ?_ | refine (f2 _ (by omega)).trans ?_ | refine (f1 _ (by omega)).trans ?_))) rfl ?_
              refine g_mVN X rfl lcX2_remember lnX7_117 lsX2_remember (cm_X2_remember l D cy B od hH9 hHw.1 hHw.2.1 hs9 hw hwb (by omega)) (ci := 2) (by (repeat (first | exact hh | exact upA_eq | refine (upA_ne (by omega)).trans ?_ | refine (f2 _ (by omega)).trans ?_ | refine (f1 _ (by omega)).trans ?_))) rfl rfl rfl (Nat.le_of_ble_eq_true rfl) ⟨⟨by decide, by decide⟩, rfl, rfl⟩ ⟨Nat.le_of_ble_eq_true rfl, Nat.le_of_ble_eq_true rfl⟩ (fun v15 A15 q15 => ?_)
              obtain ⟨rfl, f1, S2, e2, H1⟩ := q15
              have hW1 := hW.rem (f1.wide (by omega) (by omega)) e2 H1
              have hV : VwA cy A15 W.1 := hW1.1
              obtain ⟨hL, hs9, hw, hS9, hsn⟩ := id hV
              obtain ⟨hS, hS0, hS1⟩ := id hS9
              obtain ⟨hs, hE9, hR9, hA9, hp⟩ := id hs9
              obtain ⟨hE, hE0, hE1, hE2, hE3, hE4, hE5, hE6⟩ := id hE9
              obtain ⟨hR, hR0, hR1, hR2⟩ := id hR9
              obtain ⟨hA, hA0, hA1, hA2, hA3, hA4, hA5⟩ := id hA9
              obtain ⟨w1, w2, w3, w4, w5⟩ := id hw
              refine g_iload X rfl rfl ?_
              refine g_iconst X rfl (v := (-1)) (by decide) ?_
              refine g_icmp_eq X rfl (fun h16 => ?_) (fun h16 => ?_)
              · refine g_iconst X rfl (v := nI 0) (by decide) ?_
                refine g_istore X rfl (by decide) ?_
                refine g_aload_n X rfl rfl ?_
                refine g_get X rfl flX7_30 (ci := 7) rfl (by (repeat (first | exact hL | exact upA_eq | refine (upA_ne (by omega)).trans ?_ | refine (f2 _ (by omega)).trans ?_ | refine (f1 _ (by omega)).trans ?_))) rfl ?_
                refine g_get X rfl flX7_110 (ci := 6) rfl (by (repeat (first | exact hs | exact upA_eq | refine (upA_ne (by omega)).trans ?_ | refine (f2 _ (by omega)).trans ?_ | refine (f1 _ (by omega)).trans ?_))) rfl ?_
                refine g_iload_n X rfl rfl ?_
                refine g_iload_n X rfl rfl ?_
                refine g_iload_n X rfl rfl ?_
                refine g_iload X rfl rfl ?_
                refine g_iload X rfl rfl ?_
                refine g_iload X rfl rfl ?_
                refine g_mVN X rfl lcX1_add lnX7_124 lsX1_add (cm_X1_add l D cy B od hE9 (by omega) (by first | exact Or.inl nI_0 | exact Or.inr rfl)) (ci := 1) (by (repeat (first | exact hE | exact upA_eq | refine (upA_ne (by omega)).trans ?_ | refine (f2 _ (by omega)).trans ?_ | refine (f1 _ (by omega)).trans ?_))) rfl rfl rfl (Nat.le_of_ble_eq_true rfl) ⟨⟨by decide, by decide⟩, rfl, rfl⟩ ⟨Nat.le_of_ble_eq_true rfl, Nat.le_of_ble_eq_true rfl⟩ (fun v17 A17 q17 => ?_)
                obtain ⟨rfl, f2, c9, E2, g1, k0, k1, k2, k3, k4, k5, k6⟩ := q17
                refine g_iret X rfl rfl (by first | rfl | exact bI_nar _ | decide) (Nat.le_of_ble_eq_true rfl) (Nat.le_of_ble_eq_true rfl) ⟨_, ?_, rfl, rfl, ?_⟩
                · exact hoc
                · refine ⟨((f1.wide (b' := 0) (c' := 231) (by omega) (by omega)).trans (f2.wide (b' := 0) (c' := 231) (by omega) (by omega))), S2, (((vS W.1).1.1 + 1, c9), (vS W.1).2), e2, ⟨rfl, g1, ⟨k0, k1, k2, k3, k4, k5, k6.trans (by simp_all [← Int32.not_le])⟩, rfl⟩, hW1.upNow (f2.wide (by omega) (by omega)) ⟨(f2 _ (by omega)).trans hs, E2, hR9.same (f2.on (by omega)), hA9.same (f2.on (by omega)), (f2 _ (by omega)).trans hp⟩ ⟨Nat.succ_le_of_lt (by assumption), w2, w3, w4, w5⟩ ?_⟩
                  intro j hj
                  by_cases ej : j < (vS W.1).1.1
                  · show (c9 5 j = 0 ∨ c9 5 j = 1) ∧ (c9 6 j = 0 ∨ c9 6 j = 1)
                    rw [g1 5 j ej, g1 6 j ej]; exact hwb j ej
                  · have ej2 : j = (vS W.1).1.1 := by have hj2 : j < (vS W.1).1.1 + 1 := hj; omega
                    subst ej2
                    exact ⟨Or.inl k5, by first | exact Or.inl (k6.trans nI_0) | exact Or.inr k6⟩
              · refine g_iload X rfl rfl ?_
                refine g_bipush X rfl (v := nI 90) (by decide) ?_
                refine g_idiv X rfl (by decide) ?_
                refine g_aload_n X rfl rfl ?_
                refine g_get X rfl flX7_30 (ci := 7) rfl (by (repeat (first | exact hL | exact upA_eq | refine (upA_ne (by omega)).trans ?_ | refine (f2 _ (by omega)).trans ?_ | refine (f1 _ (by omega)).trans ?_))) rfl ?_
                refine g_get X rfl flX7_121 (ci := 6) rfl (by (repeat (first | exact hs | exact upA_eq | refine (upA_ne (by omega)).trans ?_ | refine (f2 _ (by omega)).trans ?_ | refine (f1 _ (by omega)).trans ?_))) rfl ?_
                refine g_icmp_ge X rfl (fun h18 => ?_) (fun h18 => ?_)
                · refine g_iconst X rfl (v := nI 0) (by decide) ?_
                  refine g_istore X rfl (by decide) ?_
                  refine g_aload_n X rfl rfl ?_
                  refine g_get X rfl flX7_30 (ci := 7) rfl (by (repeat (first | exact hL | exact upA_eq | refine (upA_ne (by omega)).trans ?_ | refine (f2 _ (by omega)).trans ?_ | refine (f1 _ (by omega)).trans ?_))) rfl ?_
                  refine g_get X rfl flX7_110 (ci := 6) rfl (by (repeat (first | exact hs | exact upA_eq | refine (upA_ne (by omega)).trans ?_ | refine (f2 _ (by omega)).trans ?_ | refine (f1 _ (by omega)).trans ?_))) rfl ?_
                  refine g_iload_n X rfl rfl ?_
                  refine g_iload_n X rfl rfl ?_
                  refine g_iload_n X rfl rfl ?_
                  refine g_iload X rfl rfl ?_
                  refine g_iload X rfl rfl ?_
                  refine g_iload X rfl rfl ?_
                  refine g_mVN X rfl lcX1_add lnX7_124 lsX1_add (cm_X1_add l D cy B od hE9 (by omega) (by first | exact Or.inl nI_0 | exact Or.inr rfl)) (ci := 1) (by (repeat (first | exact hE | exact upA_eq | refine (upA_ne (by omega)).trans ?_ | refine (f2 _ (by omega)).trans ?_ | refine (f1 _ (by omega)).trans ?_))) rfl rfl rfl (Nat.le_of_ble_eq_true rfl) ⟨⟨by decide, by decide⟩, rfl, rfl⟩ ⟨Nat.le_of_ble_eq_true rfl, Nat.le_of_ble_eq_true rfl⟩ (fun v19 A19 q19 => ?_)
                  obtain ⟨rfl, f2, c9, E2, g1, k0, k1, k2, k3, k4, k5, k6⟩ := q19
                  refine g_iret X rfl rfl (by first | rfl | exact bI_nar _ | decide) (Nat.le_of_ble_eq_true rfl) (Nat.le_of_ble_eq_true rfl) ⟨_, ?_, rfl, rfl, ?_⟩
                  · exact hoc
                  · refine ⟨((f1.wide (b' := 0) (c' := 231) (by omega) (by omega)).trans (f2.wide (b' := 0) (c' := 231) (by omega) (by omega))), S2, (((vS W.1).1.1 + 1, c9), (vS W.1).2), e2, ⟨rfl, g1, ⟨k0, k1, k2, k3, k4, k5, k6.trans (by simp_all [← Int32.not_le])⟩, rfl⟩, hW1.upNow (f2.wide (by omega) (by omega)) ⟨(f2 _ (by omega)).trans hs, E2, hR9.same (f2.on (by omega)), hA9.same (f2.on (by omega)), (f2 _ (by omega)).trans hp⟩ ⟨Nat.succ_le_of_lt (by assumption), w2, w3, w4, w5⟩ ?_⟩
                    intro j hj
                    by_cases ej : j < (vS W.1).1.1
                    · show (c9 5 j = 0 ∨ c9 5 j = 1) ∧ (c9 6 j = 0 ∨ c9 6 j = 1)
                      rw [g1 5 j ej, g1 6 j ej]; exact hwb j ej
                    · have ej2 : j = (vS W.1).1.1 := by have hj2 : j < (vS W.1).1.1 + 1 := hj; omega
                      subst ej2
                      exact ⟨Or.inl k5, by first | exact Or.inl (k6.trans nI_0) | exact Or.inr k6⟩
                · refine g_iconst X rfl (v := nI 1) (by decide) ?_
                  refine g_goto X rfl ?_
                  refine g_istore X rfl (by decide) ?_
                  refine g_aload_n X rfl rfl ?_
                  refine g_get X rfl flX7_30 (ci := 7) rfl (by (repeat (first | exact hL | exact upA_eq | refine (upA_ne (by omega)).trans ?_ | refine (f2 _ (by omega)).trans ?_ | refine (f1 _ (by omega)).trans ?_))) rfl ?_
                  refine g_get X rfl flX7_110 (ci := 6) rfl (by (repeat (first | exact hs | exact upA_eq | refine (upA_ne (by omega)).trans ?_ | refine (f2 _ (by omega)).trans ?_ | refine (f1 _ (by omega)).trans ?_))) rfl ?_
                  refine g_iload_n X rfl rfl ?_
                  refine g_iload_n X rfl rfl ?_
                  refine g_iload_n X rfl rfl ?_
                  refine g_iload X rfl rfl ?_
                  refine g_iload X rfl rfl ?_
                  refine g_iload X rfl rfl ?_
                  refine g_mVN X rfl lcX1_add lnX7_124 lsX1_add (cm_X1_add l D cy B od hE9 (by omega) (by first | exact Or.inl nI_0 | exact Or.inr rfl)) (ci := 1) (by (repeat (first | exact hE | exact upA_eq | refine (upA_ne (by omega)).trans ?_ | refine (f2 _ (by omega)).trans ?_ | refine (f1 _ (by omega)).trans ?_))) rfl rfl rfl (Nat.le_of_ble_eq_true rfl) ⟨⟨by decide, by decide⟩, rfl, rfl⟩ ⟨Nat.le_of_ble_eq_true rfl, Nat.le_of_ble_eq_true rfl⟩ (fun v20 A20 q20 => ?_)
                  obtain ⟨rfl, f2, c9, E2, g1, k0, k1, k2, k3, k4, k5, k6⟩ := q20
                  refine g_iret X rfl rfl (by first | rfl | exact bI_nar _ | decide) (Nat.le_of_ble_eq_true rfl) (Nat.le_of_ble_eq_true rfl) ⟨_, ?_, rfl, rfl, ?_⟩
                  · exact hoc
                  · refine ⟨((f1.wide (b' := 0) (c' := 231) (by omega) (by omega)).trans (f2.wide (b' := 0) (c' := 231) (by omega) (by omega))), S2, (((vS W.1).1.1 + 1, c9), (vS W.1).2), e2, ⟨rfl, g1, ⟨k0, k1, k2, k3, k4, k5, k6.trans (by simp_all [← Int32.not_le])⟩, rfl⟩, hW1.upNow (f2.wide (by omega) (by omega)) ⟨(f2 _ (by omega)).trans hs, E2, hR9.same (f2.on (by omega)), hA9.same (f2.on (by omega)), (f2 _ (by omega)).trans hp⟩ ⟨Nat.succ_le_of_lt (by assumption), w2, w3, w4, w5⟩ ?_⟩
                    intro j hj
                    by_cases ej : j < (vS W.1).1.1
                    · show (c9 5 j = 0 ∨ c9 5 j = 1) ∧ (c9 6 j = 0 ∨ c9 6 j = 1)
                      rw [g1 5 j ej, g1 6 j ej]; exact hwb j ej
                    · have ej2 : j = (vS W.1).1.1 := by have hj2 : j < (vS W.1).1.1 + 1 := hj; omega
                      subst ej2
                      exact ⟨Or.inl k5, by first | exact Or.inl (k6.trans nI_0) | exact Or.inr k6⟩
def rSet (R : RV) (c i : Nat) (v : Int32) : RV := (R.1, fun q => if q = c then upd (R.2 c) i v else R.2 q)
theorem EntA.set4 {cy : Nat → ClassId} {A : AH} {b i : Nat} {E : EV} {v : Int32} (h : EntA cy A b E) : EntA cy (upA A (b + 5) (.inl (cy 0, 60, .inl (upd (E.2 4) i v)))) b (rSet E 4 i v) := by
  obtain ⟨h0, h1, h2, h3, h4, h5, h6, h7⟩ := h
  exact ⟨(upA_ne (by omega)).trans h0, (upA_ne (by omega)).trans h1, (upA_ne (by omega)).trans h2, (upA_ne (by omega)).trans h3, (upA_ne (by omega)).trans h4, upA_eq, (upA_ne (by omega)).trans h6, (upA_ne (by omega)).trans h7⟩
theorem EntA.set5 {cy : Nat → ClassId} {A : AH} {b i : Nat} {E : EV} {v : Int32} (h : EntA cy A b E) : EntA cy (upA A (b + 6) (.inl (cy 2, 60, .inl (upd (E.2 5) i v)))) b (rSet E 5 i v) := by
  obtain ⟨h0, h1, h2, h3, h4, h5, h6, h7⟩ := h
  exact ⟨(upA_ne (by omega)).trans h0, (upA_ne (by omega)).trans h1, (upA_ne (by omega)).trans h2, (upA_ne (by omega)).trans h3, (upA_ne (by omega)).trans h4, (upA_ne (by omega)).trans h5, upA_eq, (upA_ne (by omega)).trans h7⟩
theorem RoomA.set12 {cy : Nat → ClassId} {A : AH} {b i : Nat} {E : RV} {v w : Int32} (h : RoomA cy A b E) : RoomA cy (upA (upA A (b + 2) (.inl (cy 0, 6, .inl (upd (E.2 1) i v)))) (b + 3) (.inl (cy 0, 6, .inl (upd (E.2 2) i w)))) b (rSet (rSet E 1 i v) 2 i w) := by
  obtain ⟨h0, h1, h2, h3⟩ := h
  exact ⟨(upA_ne (by omega)).trans ((upA_ne (by omega)).trans h0), (upA_ne (by omega)).trans ((upA_ne (by omega)).trans h1), (upA_ne (by omega)).trans upA_eq, upA_eq⟩
theorem AssA.set45 {cy : Nat → ClassId} {A : AH} {b i : Nat} {E : RV} {v w : Int32} (h : AssA cy A b E) : AssA cy (upA (upA A (b + 5) (.inl (cy 0, 12, .inl (upd (E.2 4) i v)))) (b + 6) (.inl (cy 0, 12, .inl (upd (E.2 5) i w)))) b (rSet (rSet E 4 i v) 5 i w) := by
  obtain ⟨h0, h1, h2, h3, h4, h5, h6⟩ := h
  exact ⟨(upA_ne (by omega)).trans ((upA_ne (by omega)).trans h0), (upA_ne (by omega)).trans ((upA_ne (by omega)).trans h1), (upA_ne (by omega)).trans ((upA_ne (by omega)).trans h2), (upA_ne (by omega)).trans ((upA_ne (by omega)).trans h3), (upA_ne (by omega)).trans ((upA_ne (by omega)).trans h4), (upA_ne (by omega)).trans upA_eq, upA_eq⟩
def ocPay (V : LV) (x dy : Int32) : OC := if ¬ (0 ≤ x ∧ x < nI (vS V).1.1) then .inl eIOB else if isDN dy then (if (vS V).1.2 5 x.toNatClampNeg = 0 then .inr (.int ((vS V).1.2 4 x.toNatClampNeg)) else .inl eISE) else .inl eIAE
set_option maxRecDepth 100000 in
set_option maxHeartbeats 400000 in
theorem cp_X7_pay (l : Launch) (D : va_G) (cy : Nat → ClassId) (B : Nat) (od : Nat → Option Nat) (hl9 : l.stackTraces = false) {A : AH} {W : LW} (hW : LedA cy A W) {x dy : Int32} : CP l D cy B od yX7_pay cX7_pay 4 (some .int) rmX7_pay [.ref 0, .int x, .int dy] A (ocPay W.1 x dy) (ChP cy A W (fun S9 => S9 = (rSet (vS W.1).1 4 x.toNatClampNeg dy, (vS W.1).2))) (fun A' => A' = A) := by
  intro z
  refine CX.of (by decide) tX7_pay okX7_pay (Nat.le_of_ble_eq_true rfl) (q0 := tX7_pay[0]) rfl rfl ?_
  intro p e s m args below meth c X hnt
  obtain ⟨hV, hwb, ⟨Rm, hRm, hRn⟩, ⟨hb, hbl⟩, ⟨hv9, hvw, hvb⟩, ⟨hH9, hHw⟩, ⟨fb, hbal⟩, hrd⟩ := id hW
  obtain ⟨hL, hs9, hw, hS9, hsn⟩ := id hV
  obtain ⟨hS, hS0, hS1⟩ := id hS9
  obtain ⟨hs, hE9, hR9, hA9, hp⟩ := id hs9
  obtain ⟨hE, hE0, hE1, hE2, hE3, hE4, hE5, hE6⟩ := id hE9
  obtain ⟨hR, hR0, hR1, hR2⟩ := id hR9
  obtain ⟨hA, hA0, hA1, hA2, hA3, hA4, hA5⟩ := id hA9
  obtain ⟨w1, w2, w3, w4, w5⟩ := id hw
  have hH8 := id hH9
  obtain ⟨hh, ⟨fh, hhr, hhf⟩, hhk⟩ := hH8
  refine g_iload_n X rfl rfl ?_
  refine g_aload_n X rfl rfl ?_
  refine g_get X rfl flX7_30 (ci := 7) rfl (by (repeat (first | exact hL | exact upA_eq | refine (upA_ne (by omega)).trans ?_ | refine (f2 _ (by omega)).trans ?_ | refine (f1 _ (by omega)).trans ?_))) rfl ?_
  refine g_get X rfl flX7_110 (ci := 6) rfl (by (repeat (first | exact hs | exact upA_eq | refine (upA_ne (by omega)).trans ?_ | refine (f2 _ (by omega)).trans ?_ | refine (f1 _ (by omega)).trans ?_))) rfl ?_
  refine g_get X rfl flX7_114 (ci := 1) rfl (by (repeat (first | exact hE | exact upA_eq | refine (upA_ne (by omega)).trans ?_ | refine (f2 _ (by omega)).trans ?_ | refine (f1 _ (by omega)).trans ?_))) rfl ?_
  refine g_req X hnt rfl lcX7_requireIndex lmX7_128 stX7_requireIndex (cq_X7_requireIndex l D cy B od hl9) rfl rfl (Nat.le_of_ble_eq_true rfl) ⟨by decide, by decide⟩ ⟨Nat.le_of_ble_eq_true rfl, Nat.le_of_ble_eq_true rfl⟩ (Nat.le_of_ble_eq_true rfl) (Nat.le_of_ble_eq_true rfl) (fun h1 => ?_) (fun h1 => ?_)
  · exact ⟨by first | (simp_all [ocPay, nI_eq, bI_0, bI_n0]; done) | (simp_all [ocPay, nI_eq, bI_0, bI_n0, nI_0, n10]; done) | (simp_all [ocPay, nI_eq, bI_0, bI_n0, nI_0, n10, ← Int32.not_le]; done) | (simp_all [ocPay, nI_eq, bI_0, bI_n0, ← Int64.not_le]; done) | (simp_all [ocPay, nI_eq, bI_0, bI_n0, nI_0, n10, ← Int64.not_le, ← Int32.not_le]; done), rfl⟩
  obtain ⟨i9, hi9, e9⟩ := ix_of h1 (by omega)
  subst e9
  have hcl := nI_clamp (n := i9) (by omega)
  refine g_iload_n X rfl rfl ?_
  refine g_rS X rfl lcX7_isDayOrNone lmX7_106 stX7_isDayOrNone (cr_X7_isDayOrNone l D cy B od) rfl rfl (Nat.le_of_ble_eq_true rfl) ⟨⟨by decide, by decide⟩, rfl, rfl⟩ ⟨Nat.le_of_ble_eq_true rfl, Nat.le_of_ble_eq_true rfl⟩ ?_
  refine g_req X hnt rfl lcX7_requireArgument lmX7_78 stX7_requireArgument (cq_X7_requireArgument l D cy B od hl9) rfl rfl (Nat.le_of_ble_eq_true rfl) ⟨by decide, by decide⟩ ⟨Nat.le_of_ble_eq_true rfl, Nat.le_of_ble_eq_true rfl⟩ (Nat.le_of_ble_eq_true rfl) (Nat.le_of_ble_eq_true rfl) (fun h2 => ?_) (fun h2 => ?_)
  · exact ⟨by first | (simp_all [ocPay, nI_eq, bI_0, bI_n0]; done) | (simp_all [ocPay, nI_eq, bI_0, bI_n0, nI_0, n10]; done) | (simp_all [ocPay, nI_eq, bI_0, bI_n0, nI_0, n10, ← Int32.not_le]; done) | (simp_all [ocPay, nI_eq, bI_0, bI_n0, ← Int64.not_le]; done) | (simp_all [ocPay, nI_eq, bI_0, bI_n0, nI_0, n10, ← Int64.not_le, ← Int32.not_le]; done), rfl⟩
  refine g_aload_n X rfl rfl ?_
  refine g_get X rfl flX7_30 (ci := 7) rfl (by (repeat (first | exact hL | exact upA_eq | refine (upA_ne (by omega)).trans ?_ | refine (f2 _ (by omega)).trans ?_ | refine (f1 _ (by omega)).trans ?_))) rfl ?_
  refine g_get X rfl flX7_110 (ci := 6) rfl (by (repeat (first | exact hs | exact upA_eq | refine (upA_ne (by omega)).trans ?_ | refine (f2 _ (by omega)).trans ?_ | refine (f1 _ (by omega)).trans ?_))) rfl ?_
  refine g_get X rfl flX7_131 (ci := 1) rfl (by (repeat (first | exact hE | exact upA_eq | refine (upA_ne (by omega)).trans ?_ | refine (f2 _ (by omega)).trans ?_ | refine (f1 _ (by omega)).trans ?_))) rfl ?_
  refine g_iload_n X rfl rfl ?_
  refine g_zaldN X rfl (by (repeat (first | exact hE5 | exact upA_eq | refine (upA_ne (by omega)).trans ?_ | refine (f2 _ (by omega)).trans ?_ | refine (f1 _ (by omega)).trans ?_))) (by omega) (by decide) ?_
  first | refine g_if_neB X rfl (fun h3 => ?_) (fun h3 => ?_) | refine g_if_ne X rfl (fun h3 => ?_) (fun h3 => ?_)
  · refine g_iconst X rfl (v := nI 0) (by decide) ?_
    refine g_req X hnt rfl lcX7_requireState lmX7_66 stX7_requireState (cq_X7_requireState l D cy B od hl9) rfl rfl (Nat.le_of_ble_eq_true rfl) ⟨by decide, by decide⟩ ⟨Nat.le_of_ble_eq_true rfl, Nat.le_of_ble_eq_true rfl⟩ (Nat.le_of_ble_eq_true rfl) (Nat.le_of_ble_eq_true rfl) (fun h4 => ?_) (fun h4 => absurd nI_0 h4)
    exact ⟨by first | (simp_all [ocPay, nI_eq, bI_0, bI_n0]; done) | (simp_all [ocPay, nI_eq, bI_0, bI_n0, nI_0, n10]; done) | (simp_all [ocPay, nI_eq, bI_0, bI_n0, nI_0, n10, ← Int32.not_le]; done) | (simp_all [ocPay, nI_eq, bI_0, bI_n0, ← Int64.not_le]; done) | (simp_all [ocPay, nI_eq, bI_0, bI_n0, nI_0, n10, ← Int64.not_le, ← Int32.not_le]; done), rfl⟩
  · refine g_iconst X rfl (v := nI 1) (by decide) ?_
    refine g_goto X rfl ?_
    refine g_req X hnt rfl lcX7_requireState lmX7_66 stX7_requireState (cq_X7_requireState l D cy B od hl9) rfl rfl (Nat.le_of_ble_eq_true rfl) ⟨by decide, by decide⟩ ⟨Nat.le_of_ble_eq_true rfl, Nat.le_of_ble_eq_true rfl⟩ (Nat.le_of_ble_eq_true rfl) (Nat.le_of_ble_eq_true rfl) (fun h5 => absurd n10 h5) (fun h5 => ?_)
    have hoc : (ocPay W.1 (nI i9) dy) = .inr (.int ((vS W.1).1.2 4 i9)) := by first | (simp_all [ocPay, nI_eq, bI_0, bI_n0]; done) | (simp_all [ocPay, nI_eq, bI_0, bI_n0, nI_0, n10]; done) | (simp_all [ocPay, nI_eq, bI_0, bI_n0, nI_0, n10, ← Int32.not_le]; done) | (simp_all [ocPay, nI_eq, bI_0, bI_n0, ← Int64.not_le]; done) | (simp_all [ocPay, nI_eq, bI_0, bI_n0, nI_0, n10, ← Int64.not_le, ← Int32.not_le]; done)
    refine g_aload_n X rfl rfl ?_
    refine g_get X rfl flX7_40 (ci := 7) rfl (by (repeat (first | exact hL | exact upA_eq | refine (upA_ne (by omega)).trans ?_ | refine (f2 _ (by omega)).trans ?_ | refine (f1 _ (by omega)).trans ?_))) rfl ?_
    refine g_aload_n X rfl rfl ?_
    refine g_get X rfl flX7_30 (ci := 7) rfl (by (repeat (first | exact hL | exact upA_eq | refine (upA_ne (by omega)).trans ?_ | refine (f2 _ (by omega)).trans ?_ | refine (f1 _ (by omega)).trans ?_))) rfl ?_
    refine g_mVN X rfl lcX2_remember lnX7_117 lsX2_remember (cm_X2_remember l D cy B od hH9 hHw.1 hHw.2.1 hs9 hw hwb (by omega)) (ci := 2) (by (repeat (first | exact hh | exact upA_eq | refine (upA_ne (by omega)).trans ?_ | refine (f2 _ (by omega)).trans ?_ | refine (f1 _ (by omega)).trans ?_))) rfl rfl rfl (Nat.le_of_ble_eq_true rfl) ⟨⟨by decide, by decide⟩, rfl, rfl⟩ ⟨Nat.le_of_ble_eq_true rfl, Nat.le_of_ble_eq_true rfl⟩ (fun v6 A6 q6 => ?_)
    obtain ⟨rfl, f1, S2, e2, H1⟩ := q6
    have hW1 := hW.rem (f1.wide (by omega) (by omega)) e2 H1
    have hV : VwA cy A6 W.1 := hW1.1
    obtain ⟨hL, hs9, hw, hS9, hsn⟩ := id hV
    obtain ⟨hS, hS0, hS1⟩ := id hS9
    obtain ⟨hs, hE9, hR9, hA9, hp⟩ := id hs9
    obtain ⟨hE, hE0, hE1, hE2, hE3, hE4, hE5, hE6⟩ := id hE9
    obtain ⟨hR, hR0, hR1, hR2⟩ := id hR9
    obtain ⟨hA, hA0, hA1, hA2, hA3, hA4, hA5⟩ := id hA9
    obtain ⟨w1, w2, w3, w4, w5⟩ := id hw
    refine g_aload_n X rfl rfl ?_
    refine g_get X rfl flX7_30 (ci := 7) rfl (by (repeat (first | exact hL | exact upA_eq | refine (upA_ne (by omega)).trans ?_ | refine (f2 _ (by omega)).trans ?_ | refine (f1 _ (by omega)).trans ?_))) rfl ?_
    refine g_get X rfl flX7_110 (ci := 6) rfl (by (repeat (first | exact hs | exact upA_eq | refine (upA_ne (by omega)).trans ?_ | refine (f2 _ (by omega)).trans ?_ | refine (f1 _ (by omega)).trans ?_))) rfl ?_
    refine g_get X rfl flX7_135 (ci := 1) rfl (by (repeat (first | exact hE | exact upA_eq | refine (upA_ne (by omega)).trans ?_ | refine (f2 _ (by omega)).trans ?_ | refine (f1 _ (by omega)).trans ?_))) rfl ?_
    refine g_iload_n X rfl rfl ?_
    refine g_ialdN X rfl (by (repeat (first | exact hE4 | exact upA_eq | refine (upA_ne (by omega)).trans ?_ | refine (f2 _ (by omega)).trans ?_ | refine (f1 _ (by omega)).trans ?_))) (by omega) (by decide) ?_
    refine g_istore_n X rfl (by decide) ?_
    refine g_aload_n X rfl rfl ?_
    refine g_get X rfl flX7_30 (ci := 7) rfl (by (repeat (first | exact hL | exact upA_eq | refine (upA_ne (by omega)).trans ?_ | refine (f2 _ (by omega)).trans ?_ | refine (f1 _ (by omega)).trans ?_))) rfl ?_
    refine g_get X rfl flX7_110 (ci := 6) rfl (by (repeat (first | exact hs | exact upA_eq | refine (upA_ne (by omega)).trans ?_ | refine (f2 _ (by omega)).trans ?_ | refine (f1 _ (by omega)).trans ?_))) rfl ?_
    refine g_get X rfl flX7_135 (ci := 1) rfl (by (repeat (first | exact hE | exact upA_eq | refine (upA_ne (by omega)).trans ?_ | refine (f2 _ (by omega)).trans ?_ | refine (f1 _ (by omega)).trans ?_))) rfl ?_
    refine g_iload_n X rfl rfl ?_
    refine g_iload_n X rfl rfl ?_
    refine g_iastN X rfl (by (repeat (first | exact hE4 | exact upA_eq | refine (upA_ne (by omega)).trans ?_ | refine (f2 _ (by omega)).trans ?_ | refine (f1 _ (by omega)).trans ?_))) (by omega) (by decide) ?_
    refine g_iload_n X rfl rfl ?_
    refine g_iret X rfl rfl (by first | rfl | exact bI_nar _ | decide) (Nat.le_of_ble_eq_true rfl) (Nat.le_of_ble_eq_true rfl) ⟨_, ?_, rfl, rfl, ?_⟩
    · exact hoc
    · refine ⟨(f1.wide (b' := 0) (c' := 231) (by omega) (by omega)).up (by omega) (by omega), S2, _, e2, rfl, hW1.upNow ((SameOff.refl _ 18 39).up (by omega) (by omega)) ⟨(upA_ne (by omega)).trans hs, by rw [hcl]; exact hE9.set4, hR9.same (fun k _ _ => upA_ne (by omega)), hA9.same (fun k _ _ => upA_ne (by omega)), (upA_ne (by omega)).trans hp⟩ ⟨w1, w2, w3, w4, w5⟩ hwb⟩
def ocCan (V : LV) (x : Int32) : OC := if ¬ (0 ≤ x ∧ x < nI (vS V).1.1) then .inl eIOB else if (vS V).1.2 5 x.toNatClampNeg = 0 then .inr (.int ((vS V).1.2 2 x.toNatClampNeg)) else .inl eISE
set_option maxRecDepth 100000 in
set_option maxHeartbeats 400000 in
theorem cp_X7_cancel (l : Launch) (D : va_G) (cy : Nat → ClassId) (B : Nat) (od : Nat → Option Nat) (hl9 : l.stackTraces = false) {A : AH} {W : LW} (hW : LedA cy A W) {x : Int32} : CP l D cy B od yX7_cancel cX7_cancel 2 (some .int) rmX7_cancel [.ref 0, .int x] A (ocCan W.1 x) (ChP cy A W (fun S9 => S9 = (rSet (vS W.1).1 5 x.toNatClampNeg (nI 1), (vS W.1).2))) (fun A' => A' = A) := by
  intro z
  refine CX.of (by decide) tX7_cancel okX7_cancel (Nat.le_of_ble_eq_true rfl) (q0 := tX7_cancel[0]) rfl rfl ?_
  intro p e s m args below meth c X hnt
  obtain ⟨hV, hwb, ⟨Rm, hRm, hRn⟩, ⟨hb, hbl⟩, ⟨hv9, hvw, hvb⟩, ⟨hH9, hHw⟩, ⟨fb, hbal⟩, hrd⟩ := id hW
  obtain ⟨hL, hs9, hw, hS9, hsn⟩ := id hV
  obtain ⟨hS, hS0, hS1⟩ := id hS9
  obtain ⟨hs, hE9, hR9, hA9, hp⟩ := id hs9
  obtain ⟨hE, hE0, hE1, hE2, hE3, hE4, hE5, hE6⟩ := id hE9
  obtain ⟨hR, hR0, hR1, hR2⟩ := id hR9
  obtain ⟨hA, hA0, hA1, hA2, hA3, hA4, hA5⟩ := id hA9
  obtain ⟨w1, w2, w3, w4, w5⟩ := id hw
  have hH8 := id hH9
  obtain ⟨hh, ⟨fh, hhr, hhf⟩, hhk⟩ := hH8
  refine g_iload_n X rfl rfl ?_
  refine g_aload_n X rfl rfl ?_
  refine g_get X rfl flX7_30 (ci := 7) rfl (by (repeat (first | exact hL | exact upA_eq | refine (upA_ne (by omega)).trans ?_ | refine (f2 _ (by omega)).trans ?_ | refine (f1 _ (by omega)).trans ?_))) rfl ?_
  refine g_get X rfl flX7_110 (ci := 6) rfl (by (repeat (first | exact hs | exact upA_eq | refine (upA_ne (by omega)).trans ?_ | refine (f2 _ (by omega)).trans ?_ | refine (f1 _ (by omega)).trans ?_))) rfl ?_
  refine g_get X rfl flX7_114 (ci := 1) rfl (by (repeat (first | exact hE | exact upA_eq | refine (upA_ne (by omega)).trans ?_ | refine (f2 _ (by omega)).trans ?_ | refine (f1 _ (by omega)).trans ?_))) rfl ?_
  refine g_req X hnt rfl lcX7_requireIndex lmX7_128 stX7_requireIndex (cq_X7_requireIndex l D cy B od hl9) rfl rfl (Nat.le_of_ble_eq_true rfl) ⟨by decide, by decide⟩ ⟨Nat.le_of_ble_eq_true rfl, Nat.le_of_ble_eq_true rfl⟩ (Nat.le_of_ble_eq_true rfl) (Nat.le_of_ble_eq_true rfl) (fun h1 => ?_) (fun h1 => ?_)
  · exact ⟨by first | (simp_all [ocCan, nI_eq, bI_0, bI_n0]; done) | (simp_all [ocCan, nI_eq, bI_0, bI_n0, nI_0, n10]; done) | (simp_all [ocCan, nI_eq, bI_0, bI_n0, nI_0, n10, ← Int32.not_le]; done) | (simp_all [ocCan, nI_eq, bI_0, bI_n0, ← Int64.not_le]; done) | (simp_all [ocCan, nI_eq, bI_0, bI_n0, nI_0, n10, ← Int64.not_le, ← Int32.not_le]; done), rfl⟩
  obtain ⟨i9, hi9, e9⟩ := ix_of h1 (by omega)
  subst e9
  have hcl := nI_clamp (n := i9) (by omega)
  refine g_aload_n X rfl rfl ?_
  refine g_get X rfl flX7_30 (ci := 7) rfl (by (repeat (first | exact hL | exact upA_eq | refine (upA_ne (by omega)).trans ?_ | refine (f2 _ (by omega)).trans ?_ | refine (f1 _ (by omega)).trans ?_))) rfl ?_
  refine g_get X rfl flX7_110 (ci := 6) rfl (by (repeat (first | exact hs | exact upA_eq | refine (upA_ne (by omega)).trans ?_ | refine (f2 _ (by omega)).trans ?_ | refine (f1 _ (by omega)).trans ?_))) rfl ?_
  refine g_get X rfl flX7_131 (ci := 1) rfl (by (repeat (first | exact hE | exact upA_eq | refine (upA_ne (by omega)).trans ?_ | refine (f2 _ (by omega)).trans ?_ | refine (f1 _ (by omega)).trans ?_))) rfl ?_
  refine g_iload_n X rfl rfl ?_
  refine g_zaldN X rfl (by (repeat (first | exact hE5 | exact upA_eq | refine (upA_ne (by omega)).trans ?_ | refine (f2 _ (by omega)).trans ?_ | refine (f1 _ (by omega)).trans ?_))) (by omega) (by decide) ?_
  first | refine g_if_neB X rfl (fun h2 => ?_) (fun h2 => ?_) | refine g_if_ne X rfl (fun h2 => ?_) (fun h2 => ?_)
  · refine g_iconst X rfl (v := nI 0) (by decide) ?_
    refine g_req X hnt rfl lcX7_requireState lmX7_66 stX7_requireState (cq_X7_requireState l D cy B od hl9) rfl rfl (Nat.le_of_ble_eq_true rfl) ⟨by decide, by decide⟩ ⟨Nat.le_of_ble_eq_true rfl, Nat.le_of_ble_eq_true rfl⟩ (Nat.le_of_ble_eq_true rfl) (Nat.le_of_ble_eq_true rfl) (fun h3 => ?_) (fun h3 => absurd nI_0 h3)
    exact ⟨by first | (simp_all [ocCan, nI_eq, bI_0, bI_n0]; done) | (simp_all [ocCan, nI_eq, bI_0, bI_n0, nI_0, n10]; done) | (simp_all [ocCan, nI_eq, bI_0, bI_n0, nI_0, n10, ← Int32.not_le]; done) | (simp_all [ocCan, nI_eq, bI_0, bI_n0, ← Int64.not_le]; done) | (simp_all [ocCan, nI_eq, bI_0, bI_n0, nI_0, n10, ← Int64.not_le, ← Int32.not_le]; done), rfl⟩
  · refine g_iconst X rfl (v := nI 1) (by decide) ?_
    refine g_goto X rfl ?_
    refine g_req X hnt rfl lcX7_requireState lmX7_66 stX7_requireState (cq_X7_requireState l D cy B od hl9) rfl rfl (Nat.le_of_ble_eq_true rfl) ⟨by decide, by decide⟩ ⟨Nat.le_of_ble_eq_true rfl, Nat.le_of_ble_eq_true rfl⟩ (Nat.le_of_ble_eq_true rfl) (Nat.le_of_ble_eq_true rfl) (fun h4 => absurd n10 h4) (fun h4 => ?_)
    have hoc : (ocCan W.1 (nI i9)) = .inr (.int ((vS W.1).1.2 2 i9)) := by first | (simp_all [ocCan, nI_eq, bI_0, bI_n0]; done) | (simp_all [ocCan, nI_eq, bI_0, bI_n0, nI_0, n10]; done) | (simp_all [ocCan, nI_eq, bI_0, bI_n0, nI_0, n10, ← Int32.not_le]; done) | (simp_all [ocCan, nI_eq, bI_0, bI_n0, ← Int64.not_le]; done) | (simp_all [ocCan, nI_eq, bI_0, bI_n0, nI_0, n10, ← Int64.not_le, ← Int32.not_le]; done)
    refine g_aload_n X rfl rfl ?_
    refine g_get X rfl flX7_40 (ci := 7) rfl (by (repeat (first | exact hL | exact upA_eq | refine (upA_ne (by omega)).trans ?_ | refine (f2 _ (by omega)).trans ?_ | refine (f1 _ (by omega)).trans ?_))) rfl ?_
    refine g_aload_n X rfl rfl ?_
    refine g_get X rfl flX7_30 (ci := 7) rfl (by (repeat (first | exact hL | exact upA_eq | refine (upA_ne (by omega)).trans ?_ | refine (f2 _ (by omega)).trans ?_ | refine (f1 _ (by omega)).trans ?_))) rfl ?_
    refine g_mVN X rfl lcX2_remember lnX7_117 lsX2_remember (cm_X2_remember l D cy B od hH9 hHw.1 hHw.2.1 hs9 hw hwb (by omega)) (ci := 2) (by (repeat (first | exact hh | exact upA_eq | refine (upA_ne (by omega)).trans ?_ | refine (f2 _ (by omega)).trans ?_ | refine (f1 _ (by omega)).trans ?_))) rfl rfl rfl (Nat.le_of_ble_eq_true rfl) ⟨⟨by decide, by decide⟩, rfl, rfl⟩ ⟨Nat.le_of_ble_eq_true rfl, Nat.le_of_ble_eq_true rfl⟩ (fun v5 A5 q5 => ?_)
    obtain ⟨rfl, f1, S2, e2, H1⟩ := q5
    have hW1 := hW.rem (f1.wide (by omega) (by omega)) e2 H1
    have hV : VwA cy A5 W.1 := hW1.1
    obtain ⟨hL, hs9, hw, hS9, hsn⟩ := id hV
    obtain ⟨hS, hS0, hS1⟩ := id hS9
    obtain ⟨hs, hE9, hR9, hA9, hp⟩ := id hs9
    obtain ⟨hE, hE0, hE1, hE2, hE3, hE4, hE5, hE6⟩ := id hE9
    obtain ⟨hR, hR0, hR1, hR2⟩ := id hR9
    obtain ⟨hA, hA0, hA1, hA2, hA3, hA4, hA5⟩ := id hA9
    obtain ⟨w1, w2, w3, w4, w5⟩ := id hw
    refine g_aload_n X rfl rfl ?_
    refine g_get X rfl flX7_30 (ci := 7) rfl (by (repeat (first | exact hL | exact upA_eq | refine (upA_ne (by omega)).trans ?_ | refine (f2 _ (by omega)).trans ?_ | refine (f1 _ (by omega)).trans ?_))) rfl ?_
    refine g_get X rfl flX7_110 (ci := 6) rfl (by (repeat (first | exact hs | exact upA_eq | refine (upA_ne (by omega)).trans ?_ | refine (f2 _ (by omega)).trans ?_ | refine (f1 _ (by omega)).trans ?_))) rfl ?_
    refine g_get X rfl flX7_131 (ci := 1) rfl (by (repeat (first | exact hE | exact upA_eq | refine (upA_ne (by omega)).trans ?_ | refine (f2 _ (by omega)).trans ?_ | refine (f1 _ (by omega)).trans ?_))) rfl ?_
    refine g_iload_n X rfl rfl ?_
    refine g_iconst X rfl (v := nI 1) (by decide) ?_
    refine g_zastN X rfl (by (repeat (first | exact hE5 | exact upA_eq | refine (upA_ne (by omega)).trans ?_ | refine (f2 _ (by omega)).trans ?_ | refine (f1 _ (by omega)).trans ?_))) (by omega) (by decide) (Or.inr rfl) ?_
    refine g_aload_n X rfl rfl ?_
    refine g_get X rfl flX7_30 (ci := 7) rfl (by (repeat (first | exact hL | exact upA_eq | refine (upA_ne (by omega)).trans ?_ | refine (f2 _ (by omega)).trans ?_ | refine (f1 _ (by omega)).trans ?_))) rfl ?_
    refine g_get X rfl flX7_110 (ci := 6) rfl (by (repeat (first | exact hs | exact upA_eq | refine (upA_ne (by omega)).trans ?_ | refine (f2 _ (by omega)).trans ?_ | refine (f1 _ (by omega)).trans ?_))) rfl ?_
    refine g_get X rfl flX7_138 (ci := 1) rfl (by (repeat (first | exact hE | exact upA_eq | refine (upA_ne (by omega)).trans ?_ | refine (f2 _ (by omega)).trans ?_ | refine (f1 _ (by omega)).trans ?_))) rfl ?_
    refine g_iload_n X rfl rfl ?_
    refine g_ialdN X rfl (by (repeat (first | exact hE2 | exact upA_eq | refine (upA_ne (by omega)).trans ?_ | refine (f2 _ (by omega)).trans ?_ | refine (f1 _ (by omega)).trans ?_))) (by omega) (by decide) ?_
    refine g_iret X rfl rfl (by first | rfl | exact bI_nar _ | decide) (Nat.le_of_ble_eq_true rfl) (Nat.le_of_ble_eq_true rfl) ⟨_, ?_, rfl, rfl, ?_⟩
    · exact hoc
    · refine ⟨(f1.wide (b' := 0) (c' := 231) (by omega) (by omega)).up (by omega) (by omega), S2, _, e2, rfl, hW1.upNow ((SameOff.refl _ 18 39).up (by omega) (by omega)) ⟨(upA_ne (by omega)).trans hs, by rw [hcl]; exact hE9.set5, hR9.same (fun k _ _ => upA_ne (by omega)), hA9.same (fun k _ _ => upA_ne (by omega)), (upA_ne (by omega)).trans hp⟩ ⟨w1, w2, w3, w4, w5⟩ ?_⟩
      intro j hj
      show (upd ((vS W.1).1.2 5) (nI i9).toNatClampNeg (nI 1) j = 0 ∨ upd ((vS W.1).1.2 5) (nI i9).toNatClampNeg (nI 1) j = 1) ∧ _
      refine ⟨?_, (hwb j hj).2⟩
      by_cases ej : j = (nI i9).toNatClampNeg
      · rw [ej]; exact Or.inr pk_us
      · rw [pk_un ej]; exact (hwb j hj).1
def ocAddR (V : LV) (ar : Int32) : OC := if within9 ar (nI 1) (nI 500) then (if (vS V).2.1.1 < 6 then .inr (.int (nI (vS V).2.1.1)) else .inl eISE) else .inl eIAE
set_option maxRecDepth 100000 in
set_option maxHeartbeats 400000 in
theorem cp_X7_addRoom (l : Launch) (D : va_G) (cy : Nat → ClassId) (B : Nat) (od : Nat → Option Nat) (hl9 : l.stackTraces = false) {A : AH} {W : LW} (hW : LedA cy A W) {ar : Int32} : CP l D cy B od yX7_addRoom cX7_addRoom 2 (some .int) rmX7_addRoom [.ref 0, .int ar] A (ocAddR W.1 ar) (ChP cy A W (fun S9 => S9.1 = (vS W.1).1 ∧ (S9.2.1.1 = (vS W.1).2.1.1 + 1 ∧ (∀ q j, j < (vS W.1).2.1.1 → S9.2.1.2 q j = (vS W.1).2.1.2 q j) ∧ (S9.2.1.2 0 (vS W.1).2.1.1 = ar ∧ S9.2.1.2 1 (vS W.1).2.1.1 = -1 ∧ S9.2.1.2 2 (vS W.1).2.1.1 = -1)) ∧ S9.2.2 = (vS W.1).2.2)) (fun A' => A' = A) := by
  intro z
  refine CX.of (by decide) tX7_addRoom okX7_addRoom (Nat.le_of_ble_eq_true rfl) (q0 := tX7_addRoom[0]) rfl rfl ?_
  intro p e s m args below meth c X hnt
  obtain ⟨hV, hwb, ⟨Rm, hRm, hRn⟩, ⟨hb, hbl⟩, ⟨hv9, hvw, hvb⟩, ⟨hH9, hHw⟩, ⟨fb, hbal⟩, hrd⟩ := id hW
  obtain ⟨hL, hs9, hw, hS9, hsn⟩ := id hV
  obtain ⟨hS, hS0, hS1⟩ := id hS9
  obtain ⟨hs, hE9, hR9, hA9, hp⟩ := id hs9
  obtain ⟨hE, hE0, hE1, hE2, hE3, hE4, hE5, hE6⟩ := id hE9
  obtain ⟨hR, hR0, hR1, hR2⟩ := id hR9
  obtain ⟨hA, hA0, hA1, hA2, hA3, hA4, hA5⟩ := id hA9
  obtain ⟨w1, w2, w3, w4, w5⟩ := id hw
  have hH8 := id hH9
  obtain ⟨hh, ⟨fh, hhr, hhf⟩, hhk⟩ := hH8
  refine g_iload_n X rfl rfl ?_
  refine g_iconst X rfl (v := nI 1) (by decide) ?_
  refine g_sipush X rfl (v := nI 500) (by decide) ?_
  refine g_rS X rfl lcX7_within lmX7_74 stX7_within (cr_X7_within l D cy B od) rfl rfl (Nat.le_of_ble_eq_true rfl) ⟨⟨by decide, by decide⟩, rfl, rfl⟩ ⟨Nat.le_of_ble_eq_true rfl, Nat.le_of_ble_eq_true rfl⟩ ?_
  refine g_req X hnt rfl lcX7_requireArgument lmX7_78 stX7_requireArgument (cq_X7_requireArgument l D cy B od hl9) rfl rfl (Nat.le_of_ble_eq_true rfl) ⟨by decide, by decide⟩ ⟨Nat.le_of_ble_eq_true rfl, Nat.le_of_ble_eq_true rfl⟩ (Nat.le_of_ble_eq_true rfl) (Nat.le_of_ble_eq_true rfl) (fun h1 => ?_) (fun h1 => ?_)
  · exact ⟨by first | (simp_all [ocAddR, nI_eq, bI_0, bI_n0]; done) | (simp_all [ocAddR, nI_eq, bI_0, bI_n0, nI_0, n10]; done) | (simp_all [ocAddR, nI_eq, bI_0, bI_n0, nI_0, n10, ← Int32.not_le]; done) | (simp_all [ocAddR, nI_eq, bI_0, bI_n0, ← Int64.not_le]; done) | (simp_all [ocAddR, nI_eq, bI_0, bI_n0, nI_0, n10, ← Int64.not_le, ← Int32.not_le]; done), rfl⟩
  refine g_aload_n X rfl rfl ?_
  refine g_get X rfl flX7_30 (ci := 7) rfl (by (repeat (first | exact hL | exact upA_eq | refine (upA_ne (by omega)).trans ?_ | refine (f2 _ (by omega)).trans ?_ | refine (f1 _ (by omega)).trans ?_))) rfl ?_
  refine g_get X rfl flX7_96 (ci := 6) rfl (by (repeat (first | exact hs | exact upA_eq | refine (upA_ne (by omega)).trans ?_ | refine (f2 _ (by omega)).trans ?_ | refine (f1 _ (by omega)).trans ?_))) rfl ?_
  refine g_get X rfl flX7_100 (ci := 3) rfl (by (repeat (first | exact hR | exact upA_eq | refine (upA_ne (by omega)).trans ?_ | refine (f2 _ (by omega)).trans ?_ | refine (f1 _ (by omega)).trans ?_))) rfl ?_
  refine g_bipush X rfl (v := nI 6) (by decide) ?_
  first | refine g_ic_geN X rfl (by omega) (by omega) (fun h2 => ?_) (fun h2 => ?_) | refine g_icmp_ge X rfl (fun h2 => ?_) (fun h2 => ?_)
  · refine g_iconst X rfl (v := nI 0) (by decide) ?_
    refine g_req X hnt rfl lcX7_requireState lmX7_66 stX7_requireState (cq_X7_requireState l D cy B od hl9) rfl rfl (Nat.le_of_ble_eq_true rfl) ⟨by decide, by decide⟩ ⟨Nat.le_of_ble_eq_true rfl, Nat.le_of_ble_eq_true rfl⟩ (Nat.le_of_ble_eq_true rfl) (Nat.le_of_ble_eq_true rfl) (fun h3 => ?_) (fun h3 => absurd nI_0 h3)
    exact ⟨by first | (simp_all [ocAddR, nI_eq, bI_0, bI_n0]; done) | (simp_all [ocAddR, nI_eq, bI_0, bI_n0, nI_0, n10]; done) | (simp_all [ocAddR, nI_eq, bI_0, bI_n0, nI_0, n10, ← Int32.not_le]; done) | (simp_all [ocAddR, nI_eq, bI_0, bI_n0, ← Int64.not_le]; done) | (simp_all [ocAddR, nI_eq, bI_0, bI_n0, nI_0, n10, ← Int64.not_le, ← Int32.not_le]; done), rfl⟩
  · refine g_iconst X rfl (v := nI 1) (by decide) ?_
    refine g_goto X rfl ?_
    refine g_req X hnt rfl lcX7_requireState lmX7_66 stX7_requireState (cq_X7_requireState l D cy B od hl9) rfl rfl (Nat.le_of_ble_eq_true rfl) ⟨by decide, by decide⟩ ⟨Nat.le_of_ble_eq_true rfl, Nat.le_of_ble_eq_true rfl⟩ (Nat.le_of_ble_eq_true rfl) (Nat.le_of_ble_eq_true rfl) (fun h4 => absurd n10 h4) (fun h4 => ?_)
    have hoc : (ocAddR W.1 ar) = .inr (.int (nI (vS W.1).2.1.1)) := by first | (simp_all [ocAddR, nI_eq, bI_0, bI_n0]; done) | (simp_all [ocAddR, nI_eq, bI_0, bI_n0, nI_0, n10]; done) | (simp_all [ocAddR, nI_eq, bI_0, bI_n0, nI_0, n10, ← Int32.not_le]; done) | (simp_all [ocAddR, nI_eq, bI_0, bI_n0, ← Int64.not_le]; done) | (simp_all [ocAddR, nI_eq, bI_0, bI_n0, nI_0, n10, ← Int64.not_le, ← Int32.not_le]; done)
    refine g_aload_n X rfl rfl ?_
    refine g_get X rfl flX7_40 (ci := 7) rfl (by (repeat (first | exact hL | exact upA_eq | refine (upA_ne (by omega)).trans ?_ | refine (f2 _ (by omega)).trans ?_ | refine (f1 _ (by omega)).trans ?_))) rfl ?_
    refine g_aload_n X rfl rfl ?_
    refine g_get X rfl flX7_30 (ci := 7) rfl (by (repeat (first | exact hL | exact upA_eq | refine (upA_ne (by omega)).trans ?_ | refine (f2 _ (by omega)).trans ?_ | refine (f1 _ (by omega)).trans ?_))) rfl ?_
    refine g_mVN X rfl lcX2_remember lnX7_117 lsX2_remember (cm_X2_remember l D cy B od hH9 hHw.1 hHw.2.1 hs9 hw hwb (by omega)) (ci := 2) (by (repeat (first | exact hh | exact upA_eq | refine (upA_ne (by omega)).trans ?_ | refine (f2 _ (by omega)).trans ?_ | refine (f1 _ (by omega)).trans ?_))) rfl rfl rfl (Nat.le_of_ble_eq_true rfl) ⟨⟨by decide, by decide⟩, rfl, rfl⟩ ⟨Nat.le_of_ble_eq_true rfl, Nat.le_of_ble_eq_true rfl⟩ (fun v5 A5 q5 => ?_)
    obtain ⟨rfl, f1, S2, e2, H1⟩ := q5
    have hW1 := hW.rem (f1.wide (by omega) (by omega)) e2 H1
    have hV : VwA cy A5 W.1 := hW1.1
    obtain ⟨hL, hs9, hw, hS9, hsn⟩ := id hV
    obtain ⟨hS, hS0, hS1⟩ := id hS9
    obtain ⟨hs, hE9, hR9, hA9, hp⟩ := id hs9
    obtain ⟨hE, hE0, hE1, hE2, hE3, hE4, hE5, hE6⟩ := id hE9
    obtain ⟨hR, hR0, hR1, hR2⟩ := id hR9
    obtain ⟨hA, hA0, hA1, hA2, hA3, hA4, hA5⟩ := id hA9
    obtain ⟨w1, w2, w3, w4, w5⟩ := id hw
    refine g_aload_n X rfl rfl ?_
    refine g_get X rfl flX7_30 (ci := 7) rfl (by (repeat (first | exact hL | exact upA_eq | refine (upA_ne (by omega)).trans ?_ | refine (f2 _ (by omega)).trans ?_ | refine (f1 _ (by omega)).trans ?_))) rfl ?_
    refine g_get X rfl flX7_96 (ci := 6) rfl (by (repeat (first | exact hs | exact upA_eq | refine (upA_ne (by omega)).trans ?_ | refine (f2 _ (by omega)).trans ?_ | refine (f1 _ (by omega)).trans ?_))) rfl ?_
    refine g_iload_n X rfl rfl ?_
    refine g_iconst X rfl (v := (-1)) (by decide) ?_
    refine g_iconst X rfl (v := (-1)) (by decide) ?_
    refine g_mVN X rfl lcX3_add lnX7_141 lsX3_add (cm_X3_add l D cy B od hR9 (by omega)) (ci := 3) (by (repeat (first | exact hR | exact upA_eq | refine (upA_ne (by omega)).trans ?_ | refine (f2 _ (by omega)).trans ?_ | refine (f1 _ (by omega)).trans ?_))) rfl rfl rfl (Nat.le_of_ble_eq_true rfl) ⟨⟨by decide, by decide⟩, rfl, rfl⟩ ⟨Nat.le_of_ble_eq_true rfl, Nat.le_of_ble_eq_true rfl⟩ (fun v6 A6 q6 => ?_)
    obtain ⟨rfl, f2, c9, E2, g1, k0, k1, k2⟩ := q6
    refine g_iret X rfl rfl (by first | rfl | exact bI_nar _ | decide) (Nat.le_of_ble_eq_true rfl) (Nat.le_of_ble_eq_true rfl) ⟨_, ?_, rfl, rfl, ?_⟩
    · exact hoc
    · refine ⟨((f1.wide (b' := 0) (c' := 231) (by omega) (by omega)).trans (f2.wide (b' := 0) (c' := 231) (by omega) (by omega))), S2, ((vS W.1).1, ((vS W.1).2.1.1 + 1, c9), (vS W.1).2.2), e2, ⟨rfl, ⟨rfl, g1, k0, k1, k2⟩, rfl⟩, hW1.upNow (f2.wide (by omega) (by omega)) ⟨(f2 _ (by omega)).trans hs, hE9.same (f2.on (by omega)), E2, hA9.same (f2.on (by omega)), (f2 _ (by omega)).trans hp⟩ ⟨w1, Nat.succ_le_of_lt (by assumption), w3, w4, w5⟩ hwb⟩
def ocOff (V : LV) (x f9 t9 : Int32) : OC := if ¬ (0 ≤ x ∧ x < nI (vS V).2.1.1) then .inl eIOB else if decide (f9 = -1) || (within9 f9 (nI 0) (nI 359) && within9 t9 f9 (nI 359)) then .inr (.int (rDays (vS V).2.1 (nI 0) (nI 359) x.toNatClampNeg)) else .inl eIAE
set_option maxRecDepth 100000 in
set_option maxHeartbeats 400000 in
theorem cp_X7_setOffice (l : Launch) (D : va_G) (cy : Nat → ClassId) (B : Nat) (od : Nat → Option Nat) (hl9 : l.stackTraces = false) {A : AH} {W : LW} (hW : LedA cy A W) {x f9 t9 : Int32} : CP l D cy B od yX7_setOffice cX7_setOffice 5 (some .int) rmX7_setOffice [.ref 0, .int x, .int f9, .int t9] A (ocOff W.1 x f9 t9) (ChP cy A W (fun S9 => S9 = ((vS W.1).1, rSet (rSet (vS W.1).2.1 1 x.toNatClampNeg f9) 2 x.toNatClampNeg (if f9 = -1 then -1 else t9), (vS W.1).2.2))) (fun A' => A' = A) := by
  intro z
  refine CX.of (by decide) tX7_setOffice okX7_setOffice (Nat.le_of_ble_eq_true rfl) (q0 := tX7_setOffice[0]) rfl rfl ?_
  intro p e s m args below meth c X hnt
  obtain ⟨hV, hwb, ⟨Rm, hRm, hRn⟩, ⟨hb, hbl⟩, ⟨hv9, hvw, hvb⟩, ⟨hH9, hHw⟩, ⟨fb, hbal⟩, hrd⟩ := id hW
  obtain ⟨hL, hs9, hw, hS9, hsn⟩ := id hV
  obtain ⟨hS, hS0, hS1⟩ := id hS9
  obtain ⟨hs, hE9, hR9, hA9, hp⟩ := id hs9
  obtain ⟨hE, hE0, hE1, hE2, hE3, hE4, hE5, hE6⟩ := id hE9
  obtain ⟨hR, hR0, hR1, hR2⟩ := id hR9
  obtain ⟨hA, hA0, hA1, hA2, hA3, hA4, hA5⟩ := id hA9
  obtain ⟨w1, w2, w3, w4, w5⟩ := id hw
  have hH8 := id hH9
  obtain ⟨hh, ⟨fh, hhr, hhf⟩, hhk⟩ := hH8
  refine g_iload_n X rfl rfl ?_
  refine g_aload_n X rfl rfl ?_
  refine g_get X rfl flX7_30 (ci := 7) rfl (by (repeat (first | exact hL | exact upA_eq | refine (upA_ne (by omega)).trans ?_ | refine (f2 _ (by omega)).trans ?_ | refine (f1 _ (by omega)).trans ?_))) rfl ?_
  refine g_get X rfl flX7_96 (ci := 6) rfl (by (repeat (first | exact hs | exact upA_eq | refine (upA_ne (by omega)).trans ?_ | refine (f2 _ (by omega)).trans ?_ | refine (f1 _ (by omega)).trans ?_))) rfl ?_
  refine g_get X rfl flX7_100 (ci := 3) rfl (by (repeat (first | exact hR | exact upA_eq | refine (upA_ne (by omega)).trans ?_ | refine (f2 _ (by omega)).trans ?_ | refine (f1 _ (by omega)).trans ?_))) rfl ?_
  refine g_req X hnt rfl lcX7_requireIndex lmX7_128 stX7_requireIndex (cq_X7_requireIndex l D cy B od hl9) rfl rfl (Nat.le_of_ble_eq_true rfl) ⟨by decide, by decide⟩ ⟨Nat.le_of_ble_eq_true rfl, Nat.le_of_ble_eq_true rfl⟩ (Nat.le_of_ble_eq_true rfl) (Nat.le_of_ble_eq_true rfl) (fun h1 => ?_) (fun h1 => ?_)
  · exact ⟨by first | (simp_all [ocOff, nI_eq, bI_0, bI_n0]; done) | (simp_all [ocOff, nI_eq, bI_0, bI_n0, nI_0, n10]; done) | (simp_all [ocOff, nI_eq, bI_0, bI_n0, nI_0, n10, ← Int32.not_le]; done) | (simp_all [ocOff, nI_eq, bI_0, bI_n0, ← Int64.not_le]; done) | (simp_all [ocOff, nI_eq, bI_0, bI_n0, nI_0, n10, ← Int64.not_le, ← Int32.not_le]; done), rfl⟩
  obtain ⟨i9, hi9, e9⟩ := ix_of h1 (by omega)
  subst e9
  have hcl := nI_clamp (n := i9) (by omega)
  refine g_iload_n X rfl rfl ?_
  refine g_iconst X rfl (v := (-1)) (by decide) ?_
  refine g_icmp_eq X rfl (fun h2 => ?_) (fun h2 => ?_)
  · refine g_iconst X rfl (v := nI 1) (by decide) ?_
    refine g_goto X rfl ?_
    refine g_req X hnt rfl lcX7_requireArgument lmX7_78 stX7_requireArgument (cq_X7_requireArgument l D cy B od hl9) rfl rfl (Nat.le_of_ble_eq_true rfl) ⟨by decide, by decide⟩ ⟨Nat.le_of_ble_eq_true rfl, Nat.le_of_ble_eq_true rfl⟩ (Nat.le_of_ble_eq_true rfl) (Nat.le_of_ble_eq_true rfl) (fun h3 => absurd n10 h3) (fun h3 => ?_)
    have hoc : (ocOff W.1 (nI i9) f9 t9) = .inr (.int (rDays (vS W.1).2.1 (nI 0) (nI 359) i9)) := by first | (simp_all [ocOff, nI_eq, bI_0, bI_n0]; done) | (simp_all [ocOff, nI_eq, bI_0, bI_n0, nI_0, n10]; done) | (simp_all [ocOff, nI_eq, bI_0, bI_n0, nI_0, n10, ← Int32.not_le]; done) | (simp_all [ocOff, nI_eq, bI_0, bI_n0, ← Int64.not_le]; done) | (simp_all [ocOff, nI_eq, bI_0, bI_n0, nI_0, n10, ← Int64.not_le, ← Int32.not_le]; done)
    refine g_aload_n X rfl rfl ?_
    refine g_get X rfl flX7_40 (ci := 7) rfl (by (repeat (first | exact hL | exact upA_eq | refine (upA_ne (by omega)).trans ?_ | refine (f2 _ (by omega)).trans ?_ | refine (f1 _ (by omega)).trans ?_))) rfl ?_
    refine g_aload_n X rfl rfl ?_
    refine g_get X rfl flX7_30 (ci := 7) rfl (by (repeat (first | exact hL | exact upA_eq | refine (upA_ne (by omega)).trans ?_ | refine (f2 _ (by omega)).trans ?_ | refine (f1 _ (by omega)).trans ?_))) rfl ?_
    refine g_mVN X rfl lcX2_remember lnX7_117 lsX2_remember (cm_X2_remember l D cy B od hH9 hHw.1 hHw.2.1 hs9 hw hwb (by omega)) (ci := 2) (by (repeat (first | exact hh | exact upA_eq | refine (upA_ne (by omega)).trans ?_ | refine (f2 _ (by omega)).trans ?_ | refine (f1 _ (by omega)).trans ?_))) rfl rfl rfl (Nat.le_of_ble_eq_true rfl) ⟨⟨by decide, by decide⟩, rfl, rfl⟩ ⟨Nat.le_of_ble_eq_true rfl, Nat.le_of_ble_eq_true rfl⟩ (fun v4 A4 q4 => ?_)
    obtain ⟨rfl, f1, S2, e2, H1⟩ := q4
    have hW1 := hW.rem (f1.wide (by omega) (by omega)) e2 H1
    have hV : VwA cy A4 W.1 := hW1.1
    obtain ⟨hL, hs9, hw, hS9, hsn⟩ := id hV
    obtain ⟨hS, hS0, hS1⟩ := id hS9
    obtain ⟨hs, hE9, hR9, hA9, hp⟩ := id hs9
    obtain ⟨hE, hE0, hE1, hE2, hE3, hE4, hE5, hE6⟩ := id hE9
    obtain ⟨hR, hR0, hR1, hR2⟩ := id hR9
    obtain ⟨hA, hA0, hA1, hA2, hA3, hA4, hA5⟩ := id hA9
    obtain ⟨w1, w2, w3, w4, w5⟩ := id hw
    refine g_aload_n X rfl rfl ?_
    refine g_get X rfl flX7_30 (ci := 7) rfl (by (repeat (first | exact hL | exact upA_eq | refine (upA_ne (by omega)).trans ?_ | refine (f2 _ (by omega)).trans ?_ | refine (f1 _ (by omega)).trans ?_))) rfl ?_
    refine g_get X rfl flX7_96 (ci := 6) rfl (by (repeat (first | exact hs | exact upA_eq | refine (upA_ne (by omega)).trans ?_ | refine (f2 _ (by omega)).trans ?_ | refine (f1 _ (by omega)).trans ?_))) rfl ?_
    refine g_iload_n X rfl rfl ?_
    refine g_iconst X rfl (v := nI 0) (by decide) ?_
    refine g_sipush X rfl (v := nI 359) (by decide) ?_
    refine g_rVN X rfl lcX3_daysUsed lnX7_144 lsX3_daysUsed (cr_X3_daysUsed l D cy B od hR9 (by omega)) (ci := 3) (by (repeat (first | exact hR | exact upA_eq | refine (upA_ne (by omega)).trans ?_ | refine (f2 _ (by omega)).trans ?_ | refine (f1 _ (by omega)).trans ?_))) rfl rfl rfl (Nat.le_of_ble_eq_true rfl) ⟨⟨by decide, by decide⟩, rfl, rfl⟩ ⟨Nat.le_of_ble_eq_true rfl, Nat.le_of_ble_eq_true rfl⟩ ?_
    refine g_istore X rfl (by decide) ?_
    refine g_aload_n X rfl rfl ?_
    refine g_get X rfl flX7_30 (ci := 7) rfl (by (repeat (first | exact hL | exact upA_eq | refine (upA_ne (by omega)).trans ?_ | refine (f2 _ (by omega)).trans ?_ | refine (f1 _ (by omega)).trans ?_))) rfl ?_
    refine g_get X rfl flX7_96 (ci := 6) rfl (by (repeat (first | exact hs | exact upA_eq | refine (upA_ne (by omega)).trans ?_ | refine (f2 _ (by omega)).trans ?_ | refine (f1 _ (by omega)).trans ?_))) rfl ?_
    refine g_get X rfl flX7_147 (ci := 3) rfl (by (repeat (first | exact hR | exact upA_eq | refine (upA_ne (by omega)).trans ?_ | refine (f2 _ (by omega)).trans ?_ | refine (f1 _ (by omega)).trans ?_))) rfl ?_
    refine g_iload_n X rfl rfl ?_
    refine g_iload_n X rfl rfl ?_
    refine g_iastN X rfl (by (repeat (first | exact hR1 | exact upA_eq | refine (upA_ne (by omega)).trans ?_ | refine (f2 _ (by omega)).trans ?_ | refine (f1 _ (by omega)).trans ?_))) (by omega) (by decide) ?_
    refine g_aload_n X rfl rfl ?_
    refine g_get X rfl flX7_30 (ci := 7) rfl (by (repeat (first | exact hL | exact upA_eq | refine (upA_ne (by omega)).trans ?_ | refine (f2 _ (by omega)).trans ?_ | refine (f1 _ (by omega)).trans ?_))) rfl ?_
    refine g_get X rfl flX7_96 (ci := 6) rfl (by (repeat (first | exact hs | exact upA_eq | refine (upA_ne (by omega)).trans ?_ | refine (f2 _ (by omega)).trans ?_ | refine (f1 _ (by omega)).trans ?_))) rfl ?_
    refine g_get X rfl flX7_150 (ci := 3) rfl (by (repeat (first | exact hR | exact upA_eq | refine (upA_ne (by omega)).trans ?_ | refine (f2 _ (by omega)).trans ?_ | refine (f1 _ (by omega)).trans ?_))) rfl ?_
    refine g_iload_n X rfl rfl ?_
    refine g_iload_n X rfl rfl ?_
    refine g_iconst X rfl (v := (-1)) (by decide) ?_
    refine g_icmp_ne X rfl (fun h5 => ?_) (fun h5 => ?_)
    · refine g_iload_n X rfl rfl ?_
      refine g_iastN X rfl (by (repeat (first | exact hR2 | exact upA_eq | refine (upA_ne (by omega)).trans ?_ | refine (f2 _ (by omega)).trans ?_ | refine (f1 _ (by omega)).trans ?_))) (by omega) (by decide) ?_
      refine g_iload X rfl rfl ?_
      refine g_iret X rfl rfl (by first | rfl | exact bI_nar _ | decide) (Nat.le_of_ble_eq_true rfl) (Nat.le_of_ble_eq_true rfl) ⟨_, ?_, rfl, rfl, ?_⟩
      · exact hoc
      · refine ⟨((f1.wide (b' := 0) (c' := 231) (by omega) (by omega)).up (by omega) (by omega)).up (by omega) (by omega), S2, _, e2, rfl, hW1.upNow (((SameOff.refl _ 18 39).up (by omega) (by omega)).up (by omega) (by omega)) ⟨(upA_ne (by omega)).trans ((upA_ne (by omega)).trans hs), hE9.same (fun k _ _ => (upA_ne (by omega)).trans (upA_ne (by omega))), by (first | rw [hcl, if_pos (by assumption)] | rw [hcl, if_neg (by assumption)]); first | exact hR9.set12 | exact absurd (show f9 = -1 by assumption) (by assumption), hA9.same (fun k _ _ => (upA_ne (by omega)).trans (upA_ne (by omega))), (upA_ne (by omega)).trans ((upA_ne (by omega)).trans hp)⟩ ⟨w1, w2, w3, w4, w5⟩ hwb⟩
    · refine g_iconst X rfl (v := (-1)) (by decide) ?_
      refine g_goto X rfl ?_
      refine g_iastN X rfl (by (repeat (first | exact hR2 | exact upA_eq | refine (upA_ne (by omega)).trans ?_ | refine (f2 _ (by omega)).trans ?_ | refine (f1 _ (by omega)).trans ?_))) (by omega) (by decide) ?_
      refine g_iload X rfl rfl ?_
      refine g_iret X rfl rfl (by first | rfl | exact bI_nar _ | decide) (Nat.le_of_ble_eq_true rfl) (Nat.le_of_ble_eq_true rfl) ⟨_, ?_, rfl, rfl, ?_⟩
      · exact hoc
      · refine ⟨((f1.wide (b' := 0) (c' := 231) (by omega) (by omega)).up (by omega) (by omega)).up (by omega) (by omega), S2, _, e2, rfl, hW1.upNow (((SameOff.refl _ 18 39).up (by omega) (by omega)).up (by omega) (by omega)) ⟨(upA_ne (by omega)).trans ((upA_ne (by omega)).trans hs), hE9.same (fun k _ _ => (upA_ne (by omega)).trans (upA_ne (by omega))), by (first | rw [hcl, if_pos (by assumption)] | rw [hcl, if_neg (by assumption)]); first | exact hR9.set12 | exact absurd (show f9 = -1 by assumption) (by assumption), hA9.same (fun k _ _ => (upA_ne (by omega)).trans (upA_ne (by omega))), (upA_ne (by omega)).trans ((upA_ne (by omega)).trans hp)⟩ ⟨w1, w2, w3, w4, w5⟩ hwb⟩
  · refine g_iload_n X rfl rfl ?_
    refine g_iconst X rfl (v := nI 0) (by decide) ?_
    refine g_sipush X rfl (v := nI 359) (by decide) ?_
    refine g_rS X rfl lcX7_within lmX7_74 stX7_within (cr_X7_within l D cy B od) rfl rfl (Nat.le_of_ble_eq_true rfl) ⟨⟨by decide, by decide⟩, rfl, rfl⟩ ⟨Nat.le_of_ble_eq_true rfl, Nat.le_of_ble_eq_true rfl⟩ ?_
    first | refine g_if_eqB X rfl (fun h6 => ?_) (fun h6 => ?_) | refine g_if_eq X rfl (fun h6 => ?_) (fun h6 => ?_)
    · refine g_iconst X rfl (v := nI 0) (by decide) ?_
      refine g_req X hnt rfl lcX7_requireArgument lmX7_78 stX7_requireArgument (cq_X7_requireArgument l D cy B od hl9) rfl rfl (Nat.le_of_ble_eq_true rfl) ⟨by decide, by decide⟩ ⟨Nat.le_of_ble_eq_true rfl, Nat.le_of_ble_eq_true rfl⟩ (Nat.le_of_ble_eq_true rfl) (Nat.le_of_ble_eq_true rfl) (fun h7 => ?_) (fun h7 => absurd nI_0 h7)
      exact ⟨by first | (simp_all [ocOff, nI_eq, bI_0, bI_n0]; done) | (simp_all [ocOff, nI_eq, bI_0, bI_n0, nI_0, n10]; done) | (simp_all [ocOff, nI_eq, bI_0, bI_n0, nI_0, n10, ← Int32.not_le]; done) | (simp_all [ocOff, nI_eq, bI_0, bI_n0, ← Int64.not_le]; done) | (simp_all [ocOff, nI_eq, bI_0, bI_n0, nI_0, n10, ← Int64.not_le, ← Int32.not_le]; done), rfl⟩
    · refine g_iload_n X rfl rfl ?_
      refine g_iload_n X rfl rfl ?_
      refine g_sipush X rfl (v := nI 359) (by decide) ?_
      refine g_rS X rfl lcX7_within lmX7_74 stX7_within (cr_X7_within l D cy B od) rfl rfl (Nat.le_of_ble_eq_true rfl) ⟨⟨by decide, by decide⟩, rfl, rfl⟩ ⟨Nat.le_of_ble_eq_true rfl, Nat.le_of_ble_eq_true rfl⟩ ?_
      first | refine g_if_eqB X rfl (fun h8 => ?_) (fun h8 => ?_) | refine g_if_eq X rfl (fun h8 => ?_) (fun h8 => ?_)
      · refine g_iconst X rfl (v := nI 0) (by decide) ?_
        refine g_req X hnt rfl lcX7_requireArgument lmX7_78 stX7_requireArgument (cq_X7_requireArgument l D cy B od hl9) rfl rfl (Nat.le_of_ble_eq_true rfl) ⟨by decide, by decide⟩ ⟨Nat.le_of_ble_eq_true rfl, Nat.le_of_ble_eq_true rfl⟩ (Nat.le_of_ble_eq_true rfl) (Nat.le_of_ble_eq_true rfl) (fun h9 => ?_) (fun h9 => absurd nI_0 h9)
        exact ⟨by first | (simp_all [ocOff, nI_eq, bI_0, bI_n0]; done) | (simp_all [ocOff, nI_eq, bI_0, bI_n0, nI_0, n10]; done) | (simp_all [ocOff, nI_eq, bI_0, bI_n0, nI_0, n10, ← Int32.not_le]; done) | (simp_all [ocOff, nI_eq, bI_0, bI_n0, ← Int64.not_le]; done) | (simp_all [ocOff, nI_eq, bI_0, bI_n0, nI_0, n10, ← Int64.not_le, ← Int32.not_le]; done), rfl⟩
      · refine g_iconst X rfl (v := nI 1) (by decide) ?_
        refine g_goto X rfl ?_
        refine g_req X hnt rfl lcX7_requireArgument lmX7_78 stX7_requireArgument (cq_X7_requireArgument l D cy B od hl9) rfl rfl (Nat.le_of_ble_eq_true rfl) ⟨by decide, by decide⟩ ⟨Nat.le_of_ble_eq_true rfl, Nat.le_of_ble_eq_true rfl⟩ (Nat.le_of_ble_eq_true rfl) (Nat.le_of_ble_eq_true rfl) (fun h10 => absurd n10 h10) (fun h10 => ?_)
        have hoc : (ocOff W.1 (nI i9) f9 t9) = .inr (.int (rDays (vS W.1).2.1 (nI 0) (nI 359) i9)) := by first | (simp_all [ocOff, nI_eq, bI_0, bI_n0]; done) | (simp_all [ocOff, nI_eq, bI_0, bI_n0, nI_0, n10]; done) | (simp_all [ocOff, nI_eq, bI_0, bI_n0, nI_0, n10, ← Int32.not_le]; done) | (simp_all [ocOff, nI_eq, bI_0, bI_n0, ← Int64.not_le]; done) | (simp_all [ocOff, nI_eq, bI_0, bI_n0, nI_0, n10, ← Int64.not_le, ← Int32.not_le]; done)
        refine g_aload_n X rfl rfl ?_
        refine g_get X rfl flX7_40 (ci := 7) rfl (by (repeat (first | exact hL | exact upA_eq | refine (upA_ne (by omega)).trans ?_ | refine (f2 _ (by omega)).trans ?_ | refine (f1 _ (by omega)).trans ?_))) rfl ?_
        refine g_aload_n X rfl rfl ?_
        refine g_get X rfl flX7_30 (ci := 7) rfl (by (repeat (first | exact hL | exact upA_eq | refine (upA_ne (by omega)).trans ?_ | refine (f2 _ (by omega)).trans ?_ | refine (f1 _ (by omega)).trans ?_))) rfl ?_
        refine g_mVN X rfl lcX2_remember lnX7_117 lsX2_remember (cm_X2_remember l D cy B od hH9 hHw.1 hHw.2.1 hs9 hw hwb (by omega)) (ci := 2) (by (repeat (first | exact hh | exact upA_eq | refine (upA_ne (by omega)).trans ?_ | refine (f2 _ (by omega)).trans ?_ | refine (f1 _ (by omega)).trans ?_))) rfl rfl rfl (Nat.le_of_ble_eq_true rfl) ⟨⟨by decide, by decide⟩, rfl, rfl⟩ ⟨Nat.le_of_ble_eq_true rfl, Nat.le_of_ble_eq_true rfl⟩ (fun v11 A11 q11 => ?_)
        obtain ⟨rfl, f1, S2, e2, H1⟩ := q11
        have hW1 := hW.rem (f1.wide (by omega) (by omega)) e2 H1
        have hV : VwA cy A11 W.1 := hW1.1
        obtain ⟨hL, hs9, hw, hS9, hsn⟩ := id hV
        obtain ⟨hS, hS0, hS1⟩ := id hS9
        obtain ⟨hs, hE9, hR9, hA9, hp⟩ := id hs9
        obtain ⟨hE, hE0, hE1, hE2, hE3, hE4, hE5, hE6⟩ := id hE9
        obtain ⟨hR, hR0, hR1, hR2⟩ := id hR9
        obtain ⟨hA, hA0, hA1, hA2, hA3, hA4, hA5⟩ := id hA9
        obtain ⟨w1, w2, w3, w4, w5⟩ := id hw
        refine g_aload_n X rfl rfl ?_
        refine g_get X rfl flX7_30 (ci := 7) rfl (by (repeat (first | exact hL | exact upA_eq | refine (upA_ne (by omega)).trans ?_ | refine (f2 _ (by omega)).trans ?_ | refine (f1 _ (by omega)).trans ?_))) rfl ?_
        refine g_get X rfl flX7_96 (ci := 6) rfl (by (repeat (first | exact hs | exact upA_eq | refine (upA_ne (by omega)).trans ?_ | refine (f2 _ (by omega)).trans ?_ | refine (f1 _ (by omega)).trans ?_))) rfl ?_
        refine g_iload_n X rfl rfl ?_
        refine g_iconst X rfl (v := nI 0) (by decide) ?_
        refine g_sipush X rfl (v := nI 359) (by decide) ?_
        refine g_rVN X rfl lcX3_daysUsed lnX7_144 lsX3_daysUsed (cr_X3_daysUsed l D cy B od hR9 (by omega)) (ci := 3) (by (repeat (first | exact hR | exact upA_eq | refine (upA_ne (by omega)).trans ?_ | refine (f2 _ (by omega)).trans ?_ | refine (f1 _ (by omega)).trans ?_))) rfl rfl rfl (Nat.le_of_ble_eq_true rfl) ⟨⟨by decide, by decide⟩, rfl, rfl⟩ ⟨Nat.le_of_ble_eq_true rfl, Nat.le_of_ble_eq_true rfl⟩ ?_
        refine g_istore X rfl (by decide) ?_
        refine g_aload_n X rfl rfl ?_
        refine g_get X rfl flX7_30 (ci := 7) rfl (by (repeat (first | exact hL | exact upA_eq | refine (upA_ne (by omega)).trans ?_ | refine (f2 _ (by omega)).trans ?_ | refine (f1 _ (by omega)).trans ?_))) rfl ?_
        refine g_get X rfl flX7_96 (ci := 6) rfl (by (repeat (first | exact hs | exact upA_eq | refine (upA_ne (by omega)).trans ?_ | refine (f2 _ (by omega)).trans ?_ | refine (f1 _ (by omega)).trans ?_))) rfl ?_
        refine g_get X rfl flX7_147 (ci := 3) rfl (by (repeat (first | exact hR | exact upA_eq | refine (upA_ne (by omega)).trans ?_ | refine (f2 _ (by omega)).trans ?_ | refine (f1 _ (by omega)).trans ?_))) rfl ?_
        refine g_iload_n X rfl rfl ?_
        refine g_iload_n X rfl rfl ?_
        refine g_iastN X rfl (by (repeat (first | exact hR1 | exact upA_eq | refine (upA_ne (by omega)).trans ?_ | refine (f2 _ (by omega)).trans ?_ | refine (f1 _ (by omega)).trans ?_))) (by omega) (by decide) ?_
        refine g_aload_n X rfl rfl ?_
        refine g_get X rfl flX7_30 (ci := 7) rfl (by (repeat (first | exact hL | exact upA_eq | refine (upA_ne (by omega)).trans ?_ | refine (f2 _ (by omega)).trans ?_ | refine (f1 _ (by omega)).trans ?_))) rfl ?_
        refine g_get X rfl flX7_96 (ci := 6) rfl (by (repeat (first | exact hs | exact upA_eq | refine (upA_ne (by omega)).trans ?_ | refine (f2 _ (by omega)).trans ?_ | refine (f1 _ (by omega)).trans ?_))) rfl ?_
        refine g_get X rfl flX7_150 (ci := 3) rfl (by (repeat (first | exact hR | exact upA_eq | refine (upA_ne (by omega)).trans ?_ | refine (f2 _ (by omega)).trans ?_ | refine (f1 _ (by omega)).trans ?_))) rfl ?_
        refine g_iload_n X rfl rfl ?_
        refine g_iload_n X rfl rfl ?_
        refine g_iconst X rfl (v := (-1)) (by decide) ?_
        refine g_icmp_ne X rfl (fun h12 => ?_) (fun h12 => ?_)
        · refine g_iload_n X rfl rfl ?_
          refine g_iastN X rfl (by (repeat (first | exact hR2 | exact upA_eq | refine (upA_ne (by omega)).trans ?_ | refine (f2 _ (by omega)).trans ?_ | refine (f1 _ (by omega)).trans ?_))) (by omega) (by decide) ?_
          refine g_iload X rfl rfl ?_
          refine g_iret X rfl rfl (by first | rfl | exact bI_nar _ | decide) (Nat.le_of_ble_eq_true rfl) (Nat.le_of_ble_eq_true rfl) ⟨_, ?_, rfl, rfl, ?_⟩
          · exact hoc
          · refine ⟨((f1.wide (b' := 0) (c' := 231) (by omega) (by omega)).up (by omega) (by omega)).up (by omega) (by omega), S2, _, e2, rfl, hW1.upNow (((SameOff.refl _ 18 39).up (by omega) (by omega)).up (by omega) (by omega)) ⟨(upA_ne (by omega)).trans ((upA_ne (by omega)).trans hs), hE9.same (fun k _ _ => (upA_ne (by omega)).trans (upA_ne (by omega))), by (first | rw [hcl, if_pos (by assumption)] | rw [hcl, if_neg (by assumption)]); first | exact hR9.set12 | exact absurd (show f9 = -1 by assumption) (by assumption), hA9.same (fun k _ _ => (upA_ne (by omega)).trans (upA_ne (by omega))), (upA_ne (by omega)).trans ((upA_ne (by omega)).trans hp)⟩ ⟨w1, w2, w3, w4, w5⟩ hwb⟩
        · refine g_iconst X rfl (v := (-1)) (by decide) ?_
          refine g_goto X rfl ?_
          refine g_iastN X rfl (by (repeat (first | exact hR2 | exact upA_eq | refine (upA_ne (by omega)).trans ?_ | refine (f2 _ (by omega)).trans ?_ | refine (f1 _ (by omega)).trans ?_))) (by omega) (by decide) ?_
          refine g_iload X rfl rfl ?_
          refine g_iret X rfl rfl (by first | rfl | exact bI_nar _ | decide) (Nat.le_of_ble_eq_true rfl) (Nat.le_of_ble_eq_true rfl) ⟨_, ?_, rfl, rfl, ?_⟩
          · exact hoc
          · refine ⟨((f1.wide (b' := 0) (c' := 231) (by omega) (by omega)).up (by omega) (by omega)).up (by omega) (by omega), S2, _, e2, rfl, hW1.upNow (((SameOff.refl _ 18 39).up (by omega) (by omega)).up (by omega) (by omega)) ⟨(upA_ne (by omega)).trans ((upA_ne (by omega)).trans hs), hE9.same (fun k _ _ => (upA_ne (by omega)).trans (upA_ne (by omega))), by (first | rw [hcl, if_pos (by assumption)] | rw [hcl, if_neg (by assumption)]); first | exact hR9.set12 | exact absurd (show f9 = -1 by assumption) (by assumption), hA9.same (fun k _ _ => (upA_ne (by omega)).trans (upA_ne (by omega))), (upA_ne (by omega)).trans ((upA_ne (by omega)).trans hp)⟩ ⟨w1, w2, w3, w4, w5⟩ hwb⟩
def ocAddA (V : LV) (pr dy li : Int32) : OC := if within9 pr (nI 1) (nI 5000000) && (within9 dy (nI 0) (nI 359) && within9 li (nI 1) (nI 120)) then (if (vS V).2.2.1.1 < 12 then .inr (.int (nI (vS V).2.2.1.1)) else .inl eISE) else .inl eIAE
set_option maxRecDepth 100000 in
set_option maxHeartbeats 400000 in
theorem cp_X7_addAsset (l : Launch) (D : va_G) (cy : Nat → ClassId) (B : Nat) (od : Nat → Option Nat) (hl9 : l.stackTraces = false) {A : AH} {W : LW} (hW : LedA cy A W) {pr dy li : Int32} : CP l D cy B od yX7_addAsset cX7_addAsset 4 (some .int) rmX7_addAsset [.ref 0, .int pr, .int dy, .int li] A (ocAddA W.1 pr dy li) (ChP cy A W (fun S9 => S9.1 = (vS W.1).1 ∧ S9.2.1 = (vS W.1).2.1 ∧ (S9.2.2.1.1 = (vS W.1).2.2.1.1 + 1 ∧ (∀ q j, j < (vS W.1).2.2.1.1 → S9.2.2.1.2 q j = (vS W.1).2.2.1.2 q j) ∧ (S9.2.2.1.2 0 (vS W.1).2.2.1.1 = pr ∧ S9.2.2.1.2 1 (vS W.1).2.2.1.1 = dy ∧ S9.2.2.1.2 2 (vS W.1).2.2.1.1 = li ∧ S9.2.2.1.2 3 (vS W.1).2.2.1.1 = sSort (vZ W.1) pr ∧ S9.2.2.1.2 4 (vS W.1).2.2.1.1 = -1 ∧ S9.2.2.1.2 5 (vS W.1).2.2.1.1 = -1)) ∧ S9.2.2.2 = (vS W.1).2.2.2)) (fun A' => A' = A) := by
  intro z
  refine CX.of (by decide) tX7_addAsset okX7_addAsset (Nat.le_of_ble_eq_true rfl) (q0 := tX7_addAsset[0]) rfl rfl ?_
  intro p e s m args below meth c X hnt
  obtain ⟨hV, hwb, ⟨Rm, hRm, hRn⟩, ⟨hb, hbl⟩, ⟨hv9, hvw, hvb⟩, ⟨hH9, hHw⟩, ⟨fb, hbal⟩, hrd⟩ := id hW
  obtain ⟨hL, hs9, hw, hS9, hsn⟩ := id hV
  obtain ⟨hS, hS0, hS1⟩ := id hS9
  obtain ⟨hs, hE9, hR9, hA9, hp⟩ := id hs9
  obtain ⟨hE, hE0, hE1, hE2, hE3, hE4, hE5, hE6⟩ := id hE9
  obtain ⟨hR, hR0, hR1, hR2⟩ := id hR9
  obtain ⟨hA, hA0, hA1, hA2, hA3, hA4, hA5⟩ := id hA9
  obtain ⟨w1, w2, w3, w4, w5⟩ := id hw
  have hH8 := id hH9
  obtain ⟨hh, ⟨fh, hhr, hhf⟩, hhk⟩ := hH8
  refine g_iload_n X rfl rfl ?_
  refine g_iconst X rfl (v := nI 1) (by decide) ?_
  refine g_ldc X rfl kcX7_153 ?_
  refine g_rS X rfl lcX7_within lmX7_74 stX7_within (cr_X7_within l D cy B od) rfl rfl (Nat.le_of_ble_eq_true rfl) ⟨⟨by decide, by decide⟩, rfl, rfl⟩ ⟨Nat.le_of_ble_eq_true rfl, Nat.le_of_ble_eq_true rfl⟩ ?_
  first | refine g_if_eqB X rfl (fun h1 => ?_) (fun h1 => ?_) | refine g_if_eq X rfl (fun h1 => ?_) (fun h1 => ?_)
  · refine g_iconst X rfl (v := nI 0) (by decide) ?_
    refine g_req X hnt rfl lcX7_requireArgument lmX7_78 stX7_requireArgument (cq_X7_requireArgument l D cy B od hl9) rfl rfl (Nat.le_of_ble_eq_true rfl) ⟨by decide, by decide⟩ ⟨Nat.le_of_ble_eq_true rfl, Nat.le_of_ble_eq_true rfl⟩ (Nat.le_of_ble_eq_true rfl) (Nat.le_of_ble_eq_true rfl) (fun h2 => ?_) (fun h2 => absurd nI_0 h2)
    exact ⟨by first | (simp_all [ocAddA, nI_eq, bI_0, bI_n0]; done) | (simp_all [ocAddA, nI_eq, bI_0, bI_n0, nI_0, n10]; done) | (simp_all [ocAddA, nI_eq, bI_0, bI_n0, nI_0, n10, ← Int32.not_le]; done) | (simp_all [ocAddA, nI_eq, bI_0, bI_n0, ← Int64.not_le]; done) | (simp_all [ocAddA, nI_eq, bI_0, bI_n0, nI_0, n10, ← Int64.not_le, ← Int32.not_le]; done), rfl⟩
  · refine g_iload_n X rfl rfl ?_
    refine g_iconst X rfl (v := nI 0) (by decide) ?_
    refine g_sipush X rfl (v := nI 359) (by decide) ?_
    refine g_rS X rfl lcX7_within lmX7_74 stX7_within (cr_X7_within l D cy B od) rfl rfl (Nat.le_of_ble_eq_true rfl) ⟨⟨by decide, by decide⟩, rfl, rfl⟩ ⟨Nat.le_of_ble_eq_true rfl, Nat.le_of_ble_eq_true rfl⟩ ?_
    first | refine g_if_eqB X rfl (fun h3 => ?_) (fun h3 => ?_) | refine g_if_eq X rfl (fun h3 => ?_) (fun h3 => ?_)
    · refine g_iconst X rfl (v := nI 0) (by decide) ?_
      refine g_req X hnt rfl lcX7_requireArgument lmX7_78 stX7_requireArgument (cq_X7_requireArgument l D cy B od hl9) rfl rfl (Nat.le_of_ble_eq_true rfl) ⟨by decide, by decide⟩ ⟨Nat.le_of_ble_eq_true rfl, Nat.le_of_ble_eq_true rfl⟩ (Nat.le_of_ble_eq_true rfl) (Nat.le_of_ble_eq_true rfl) (fun h4 => ?_) (fun h4 => absurd nI_0 h4)
      exact ⟨by first | (simp_all [ocAddA, nI_eq, bI_0, bI_n0]; done) | (simp_all [ocAddA, nI_eq, bI_0, bI_n0, nI_0, n10]; done) | (simp_all [ocAddA, nI_eq, bI_0, bI_n0, nI_0, n10, ← Int32.not_le]; done) | (simp_all [ocAddA, nI_eq, bI_0, bI_n0, ← Int64.not_le]; done) | (simp_all [ocAddA, nI_eq, bI_0, bI_n0, nI_0, n10, ← Int64.not_le, ← Int32.not_le]; done), rfl⟩
    · refine g_iload_n X rfl rfl ?_
      refine g_iconst X rfl (v := nI 1) (by decide) ?_
      refine g_bipush X rfl (v := nI 120) (by decide) ?_
      refine g_rS X rfl lcX7_within lmX7_74 stX7_within (cr_X7_within l D cy B od) rfl rfl (Nat.le_of_ble_eq_true rfl) ⟨⟨by decide, by decide⟩, rfl, rfl⟩ ⟨Nat.le_of_ble_eq_true rfl, Nat.le_of_ble_eq_true rfl⟩ ?_
      first | refine g_if_eqB X rfl (fun h5 => ?_) (fun h5 => ?_) | refine g_if_eq X rfl (fun h5 => ?_) (fun h5 => ?_)
      · refine g_iconst X rfl (v := nI 0) (by decide) ?_
        refine g_req X hnt rfl lcX7_requireArgument lmX7_78 stX7_requireArgument (cq_X7_requireArgument l D cy B od hl9) rfl rfl (Nat.le_of_ble_eq_true rfl) ⟨by decide, by decide⟩ ⟨Nat.le_of_ble_eq_true rfl, Nat.le_of_ble_eq_true rfl⟩ (Nat.le_of_ble_eq_true rfl) (Nat.le_of_ble_eq_true rfl) (fun h6 => ?_) (fun h6 => absurd nI_0 h6)
        exact ⟨by first | (simp_all [ocAddA, nI_eq, bI_0, bI_n0]; done) | (simp_all [ocAddA, nI_eq, bI_0, bI_n0, nI_0, n10]; done) | (simp_all [ocAddA, nI_eq, bI_0, bI_n0, nI_0, n10, ← Int32.not_le]; done) | (simp_all [ocAddA, nI_eq, bI_0, bI_n0, ← Int64.not_le]; done) | (simp_all [ocAddA, nI_eq, bI_0, bI_n0, nI_0, n10, ← Int64.not_le, ← Int32.not_le]; done), rfl⟩
      · refine g_iconst X rfl (v := nI 1) (by decide) ?_
        refine g_goto X rfl ?_
        refine g_req X hnt rfl lcX7_requireArgument lmX7_78 stX7_requireArgument (cq_X7_requireArgument l D cy B od hl9) rfl rfl (Nat.le_of_ble_eq_true rfl) ⟨by decide, by decide⟩ ⟨Nat.le_of_ble_eq_true rfl, Nat.le_of_ble_eq_true rfl⟩ (Nat.le_of_ble_eq_true rfl) (Nat.le_of_ble_eq_true rfl) (fun h7 => absurd n10 h7) (fun h7 => ?_)
        refine g_aload_n X rfl rfl ?_
        refine g_get X rfl flX7_30 (ci := 7) rfl (by (repeat (first | exact hL | exact upA_eq | refine (upA_ne (by omega)).trans ?_ | refine (f2 _ (by omega)).trans ?_ | refine (f1 _ (by omega)).trans ?_))) rfl ?_
        refine g_get X rfl flX7_154 (ci := 6) rfl (by (repeat (first | exact hs | exact upA_eq | refine (upA_ne (by omega)).trans ?_ | refine (f2 _ (by omega)).trans ?_ | refine (f1 _ (by omega)).trans ?_))) rfl ?_
        refine g_get X rfl flX7_158 (ci := 0) rfl (by (repeat (first | exact hA | exact upA_eq | refine (upA_ne (by omega)).trans ?_ | refine (f2 _ (by omega)).trans ?_ | refine (f1 _ (by omega)).trans ?_))) rfl ?_
        refine g_bipush X rfl (v := nI 12) (by decide) ?_
        first | refine g_ic_geN X rfl (by omega) (by omega) (fun h8 => ?_) (fun h8 => ?_) | refine g_icmp_ge X rfl (fun h8 => ?_) (fun h8 => ?_)
        · refine g_iconst X rfl (v := nI 0) (by decide) ?_
          refine g_req X hnt rfl lcX7_requireState lmX7_66 stX7_requireState (cq_X7_requireState l D cy B od hl9) rfl rfl (Nat.le_of_ble_eq_true rfl) ⟨by decide, by decide⟩ ⟨Nat.le_of_ble_eq_true rfl, Nat.le_of_ble_eq_true rfl⟩ (Nat.le_of_ble_eq_true rfl) (Nat.le_of_ble_eq_true rfl) (fun h9 => ?_) (fun h9 => absurd nI_0 h9)
          exact ⟨by first | (simp_all [ocAddA, nI_eq, bI_0, bI_n0]; done) | (simp_all [ocAddA, nI_eq, bI_0, bI_n0, nI_0, n10]; done) | (simp_all [ocAddA, nI_eq, bI_0, bI_n0, nI_0, n10, ← Int32.not_le]; done) | (simp_all [ocAddA, nI_eq, bI_0, bI_n0, ← Int64.not_le]; done) | (simp_all [ocAddA, nI_eq, bI_0, bI_n0, nI_0, n10, ← Int64.not_le, ← Int32.not_le]; done), rfl⟩
        · refine g_iconst X rfl (v := nI 1) (by decide) ?_
          refine g_goto X rfl ?_
          refine g_req X hnt rfl lcX7_requireState lmX7_66 stX7_requireState (cq_X7_requireState l D cy B od hl9) rfl rfl (Nat.le_of_ble_eq_true rfl) ⟨by decide, by decide⟩ ⟨Nat.le_of_ble_eq_true rfl, Nat.le_of_ble_eq_true rfl⟩ (Nat.le_of_ble_eq_true rfl) (Nat.le_of_ble_eq_true rfl) (fun h10 => absurd n10 h10) (fun h10 => ?_)
          have hli0 : ¬ li = 0 := by intro q; subst q; simp_all [show within9 0 (nI 1) (nI 120) = false by decide]
          have hoc : (ocAddA W.1 pr dy li) = .inr (.int (nI (vS W.1).2.2.1.1)) := by first | (simp_all [ocAddA, nI_eq, bI_0, bI_n0]; done) | (simp_all [ocAddA, nI_eq, bI_0, bI_n0, nI_0, n10]; done) | (simp_all [ocAddA, nI_eq, bI_0, bI_n0, nI_0, n10, ← Int32.not_le]; done) | (simp_all [ocAddA, nI_eq, bI_0, bI_n0, ← Int64.not_le]; done) | (simp_all [ocAddA, nI_eq, bI_0, bI_n0, nI_0, n10, ← Int64.not_le, ← Int32.not_le]; done)
          refine g_aload_n X rfl rfl ?_
          refine g_get X rfl flX7_40 (ci := 7) rfl (by (repeat (first | exact hL | exact upA_eq | refine (upA_ne (by omega)).trans ?_ | refine (f2 _ (by omega)).trans ?_ | refine (f1 _ (by omega)).trans ?_))) rfl ?_
          refine g_aload_n X rfl rfl ?_
          refine g_get X rfl flX7_30 (ci := 7) rfl (by (repeat (first | exact hL | exact upA_eq | refine (upA_ne (by omega)).trans ?_ | refine (f2 _ (by omega)).trans ?_ | refine (f1 _ (by omega)).trans ?_))) rfl ?_
          refine g_mVN X rfl lcX2_remember lnX7_117 lsX2_remember (cm_X2_remember l D cy B od hH9 hHw.1 hHw.2.1 hs9 hw hwb (by omega)) (ci := 2) (by (repeat (first | exact hh | exact upA_eq | refine (upA_ne (by omega)).trans ?_ | refine (f2 _ (by omega)).trans ?_ | refine (f1 _ (by omega)).trans ?_))) rfl rfl rfl (Nat.le_of_ble_eq_true rfl) ⟨⟨by decide, by decide⟩, rfl, rfl⟩ ⟨Nat.le_of_ble_eq_true rfl, Nat.le_of_ble_eq_true rfl⟩ (fun v11 A11 q11 => ?_)
          obtain ⟨rfl, f1, S2, e2, H1⟩ := q11
          have hW1 := hW.rem (f1.wide (by omega) (by omega)) e2 H1
          have hV : VwA cy A11 W.1 := hW1.1
          obtain ⟨hL, hs9, hw, hS9, hsn⟩ := id hV
          obtain ⟨hS, hS0, hS1⟩ := id hS9
          obtain ⟨hs, hE9, hR9, hA9, hp⟩ := id hs9
          obtain ⟨hE, hE0, hE1, hE2, hE3, hE4, hE5, hE6⟩ := id hE9
          obtain ⟨hR, hR0, hR1, hR2⟩ := id hR9
          obtain ⟨hA, hA0, hA1, hA2, hA3, hA4, hA5⟩ := id hA9
          obtain ⟨w1, w2, w3, w4, w5⟩ := id hw
          refine g_aload_n X rfl rfl ?_
          refine g_get X rfl flX7_30 (ci := 7) rfl (by (repeat (first | exact hL | exact upA_eq | refine (upA_ne (by omega)).trans ?_ | refine (f2 _ (by omega)).trans ?_ | refine (f1 _ (by omega)).trans ?_))) rfl ?_
          refine g_get X rfl flX7_154 (ci := 6) rfl (by (repeat (first | exact hs | exact upA_eq | refine (upA_ne (by omega)).trans ?_ | refine (f2 _ (by omega)).trans ?_ | refine (f1 _ (by omega)).trans ?_))) rfl ?_
          refine g_iload_n X rfl rfl ?_
          refine g_iload_n X rfl rfl ?_
          refine g_iload_n X rfl rfl ?_
          refine g_aload_n X rfl rfl ?_
          refine g_get X rfl flX7_23 (ci := 7) rfl (by (repeat (first | exact hL | exact upA_eq | refine (upA_ne (by omega)).trans ?_ | refine (f2 _ (by omega)).trans ?_ | refine (f1 _ (by omega)).trans ?_))) rfl ?_
          refine g_iload_n X rfl rfl ?_
          refine g_rVN X rfl lcX4_sortOf lnX7_161 lsX4_sortOf (cr_X4_sortOf l D cy B od hS9) (ci := 4) (by (repeat (first | exact hS | exact upA_eq | refine (upA_ne (by omega)).trans ?_ | refine (f2 _ (by omega)).trans ?_ | refine (f1 _ (by omega)).trans ?_))) rfl rfl rfl (Nat.le_of_ble_eq_true rfl) ⟨⟨by decide, by decide⟩, rfl, rfl⟩ ⟨Nat.le_of_ble_eq_true rfl, Nat.le_of_ble_eq_true rfl⟩ ?_
          refine g_mVN X rfl lcX0_add lnX7_164 lsX0_add (cm_X0_add l D cy B od hA9 (by omega)) (ci := 0) (by (repeat (first | exact hA | exact upA_eq | refine (upA_ne (by omega)).trans ?_ | refine (f2 _ (by omega)).trans ?_ | refine (f1 _ (by omega)).trans ?_))) rfl rfl rfl (Nat.le_of_ble_eq_true rfl) ⟨⟨by decide, by decide⟩, rfl, rfl⟩ ⟨Nat.le_of_ble_eq_true rfl, Nat.le_of_ble_eq_true rfl⟩ (fun v12 A12 q12 => ?_)
          obtain ⟨rfl, f2, c9, E2, g1, k0, k1, k2, k3, k4, k5⟩ := q12
          refine g_iret X rfl rfl (by first | rfl | exact bI_nar _ | decide) (Nat.le_of_ble_eq_true rfl) (Nat.le_of_ble_eq_true rfl) ⟨_, ?_, rfl, rfl, ?_⟩
          · exact hoc
          · refine ⟨((f1.wide (b' := 0) (c' := 231) (by omega) (by omega)).trans (f2.wide (b' := 0) (c' := 231) (by omega) (by omega))), S2, ((vS W.1).1, (vS W.1).2.1, ((vS W.1).2.2.1.1 + 1, c9), (vS W.1).2.2.2), e2, ⟨rfl, rfl, ⟨rfl, g1, k0, k1, k2, k3, k4, k5⟩, rfl⟩, hW1.upNow (f2.wide (by omega) (by omega)) ⟨(f2 _ (by omega)).trans hs, hE9.same (f2.on (by omega)), hR9.same (f2.on (by omega)), E2, (f2 _ (by omega)).trans hp⟩ ⟨w1, w2, Nat.succ_le_of_lt (by assumption), w4, ?_⟩ hwb⟩
            intro j hj
            by_cases ej : j < (vS W.1).2.2.1.1
            · show ¬ c9 2 j = 0
              rw [g1 2 j ej]; exact w5 j ej
            · have ej2 : j = (vS W.1).2.2.1.1 := by have hj2 : j < (vS W.1).2.2.1.1 + 1 := hj; omega
              subst ej2
              show ¬ c9 2 _ = 0
              rw [k2]; exact hli0
def ocSell (V : LV) (x dy pr : Int32) : OC := if ¬ (0 ≤ x ∧ x < nI (vS V).2.2.1.1) then .inl eIOB else if within9 dy ((vS V).2.2.1.2 1 x.toNatClampNeg) (nI 359) && within9 pr (nI 0) (nI 5000000) then (if (vS V).2.2.1.2 4 x.toNatClampNeg = -1 then .inr (.int (aVal (vS V).2.2.1 x.toNatClampNeg (dy / nI 30 - nI 1))) else .inl eISE) else .inl eIAE
set_option maxRecDepth 100000 in
set_option maxHeartbeats 400000 in
theorem cp_X7_sellAsset (l : Launch) (D : va_G) (cy : Nat → ClassId) (B : Nat) (od : Nat → Option Nat) (hl9 : l.stackTraces = false) {A : AH} {W : LW} (hW : LedA cy A W) {x dy pr : Int32} : CP l D cy B od yX7_sellAsset cX7_sellAsset 5 (some .int) rmX7_sellAsset [.ref 0, .int x, .int dy, .int pr] A (ocSell W.1 x dy pr) (ChP cy A W (fun S9 => S9 = ((vS W.1).1, (vS W.1).2.1, rSet (rSet (vS W.1).2.2.1 4 x.toNatClampNeg dy) 5 x.toNatClampNeg pr, (vS W.1).2.2.2))) (fun A' => A' = A) := by
  intro z
  refine CX.of (by decide) tX7_sellAsset okX7_sellAsset (Nat.le_of_ble_eq_true rfl) (q0 := tX7_sellAsset[0]) rfl rfl ?_
  intro p e s m args below meth c X hnt
  obtain ⟨hV, hwb, ⟨Rm, hRm, hRn⟩, ⟨hb, hbl⟩, ⟨hv9, hvw, hvb⟩, ⟨hH9, hHw⟩, ⟨fb, hbal⟩, hrd⟩ := id hW
  obtain ⟨hL, hs9, hw, hS9, hsn⟩ := id hV
  obtain ⟨hS, hS0, hS1⟩ := id hS9
  obtain ⟨hs, hE9, hR9, hA9, hp⟩ := id hs9
  obtain ⟨hE, hE0, hE1, hE2, hE3, hE4, hE5, hE6⟩ := id hE9
  obtain ⟨hR, hR0, hR1, hR2⟩ := id hR9
  obtain ⟨hA, hA0, hA1, hA2, hA3, hA4, hA5⟩ := id hA9
  obtain ⟨w1, w2, w3, w4, w5⟩ := id hw
  have hH8 := id hH9
  obtain ⟨hh, ⟨fh, hhr, hhf⟩, hhk⟩ := hH8
  refine g_iload_n X rfl rfl ?_
  refine g_aload_n X rfl rfl ?_
  refine g_get X rfl flX7_30 (ci := 7) rfl (by (repeat (first | exact hL | exact upA_eq | refine (upA_ne (by omega)).trans ?_ | refine (f2 _ (by omega)).trans ?_ | refine (f1 _ (by omega)).trans ?_))) rfl ?_
  refine g_get X rfl flX7_154 (ci := 6) rfl (by (repeat (first | exact hs | exact upA_eq | refine (upA_ne (by omega)).trans ?_ | refine (f2 _ (by omega)).trans ?_ | refine (f1 _ (by omega)).trans ?_))) rfl ?_
  refine g_get X rfl flX7_158 (ci := 0) rfl (by (repeat (first | exact hA | exact upA_eq | refine (upA_ne (by omega)).trans ?_ | refine (f2 _ (by omega)).trans ?_ | refine (f1 _ (by omega)).trans ?_))) rfl ?_
  refine g_req X hnt rfl lcX7_requireIndex lmX7_128 stX7_requireIndex (cq_X7_requireIndex l D cy B od hl9) rfl rfl (Nat.le_of_ble_eq_true rfl) ⟨by decide, by decide⟩ ⟨Nat.le_of_ble_eq_true rfl, Nat.le_of_ble_eq_true rfl⟩ (Nat.le_of_ble_eq_true rfl) (Nat.le_of_ble_eq_true rfl) (fun h1 => ?_) (fun h1 => ?_)
  · exact ⟨by first | (simp_all [ocSell, nI_eq, bI_0, bI_n0]; done) | (simp_all [ocSell, nI_eq, bI_0, bI_n0, nI_0, n10]; done) | (simp_all [ocSell, nI_eq, bI_0, bI_n0, nI_0, n10, ← Int32.not_le]; done) | (simp_all [ocSell, nI_eq, bI_0, bI_n0, ← Int64.not_le]; done) | (simp_all [ocSell, nI_eq, bI_0, bI_n0, nI_0, n10, ← Int64.not_le, ← Int32.not_le]; done), rfl⟩
  obtain ⟨i9, hi9, e9⟩ := ix_of h1 (by omega)
  subst e9
  have hcl := nI_clamp (n := i9) (by omega)
  refine g_iload_n X rfl rfl ?_
  refine g_aload_n X rfl rfl ?_
  refine g_get X rfl flX7_30 (ci := 7) rfl (by (repeat (first | exact hL | exact upA_eq | refine (upA_ne (by omega)).trans ?_ | refine (f2 _ (by omega)).trans ?_ | refine (f1 _ (by omega)).trans ?_))) rfl ?_
  refine g_get X rfl flX7_154 (ci := 6) rfl (by (repeat (first | exact hs | exact upA_eq | refine (upA_ne (by omega)).trans ?_ | refine (f2 _ (by omega)).trans ?_ | refine (f1 _ (by omega)).trans ?_))) rfl ?_
  refine g_get X rfl flX7_167 (ci := 0) rfl (by (repeat (first | exact hA | exact upA_eq | refine (upA_ne (by omega)).trans ?_ | refine (f2 _ (by omega)).trans ?_ | refine (f1 _ (by omega)).trans ?_))) rfl ?_
  refine g_iload_n X rfl rfl ?_
  refine g_ialdN X rfl (by (repeat (first | exact hA1 | exact upA_eq | refine (upA_ne (by omega)).trans ?_ | refine (f2 _ (by omega)).trans ?_ | refine (f1 _ (by omega)).trans ?_))) (by omega) (by decide) ?_
  refine g_sipush X rfl (v := nI 359) (by decide) ?_
  refine g_rS X rfl lcX7_within lmX7_74 stX7_within (cr_X7_within l D cy B od) rfl rfl (Nat.le_of_ble_eq_true rfl) ⟨⟨by decide, by decide⟩, rfl, rfl⟩ ⟨Nat.le_of_ble_eq_true rfl, Nat.le_of_ble_eq_true rfl⟩ ?_
  first | refine g_if_eqB X rfl (fun h2 => ?_) (fun h2 => ?_) | refine g_if_eq X rfl (fun h2 => ?_) (fun h2 => ?_)
  · refine g_iconst X rfl (v := nI 0) (by decide) ?_
    refine g_req X hnt rfl lcX7_requireArgument lmX7_78 stX7_requireArgument (cq_X7_requireArgument l D cy B od hl9) rfl rfl (Nat.le_of_ble_eq_true rfl) ⟨by decide, by decide⟩ ⟨Nat.le_of_ble_eq_true rfl, Nat.le_of_ble_eq_true rfl⟩ (Nat.le_of_ble_eq_true rfl) (Nat.le_of_ble_eq_true rfl) (fun h3 => ?_) (fun h3 => absurd nI_0 h3)
    exact ⟨by first | (simp_all [ocSell, nI_eq, bI_0, bI_n0]; done) | (simp_all [ocSell, nI_eq, bI_0, bI_n0, nI_0, n10]; done) | (simp_all [ocSell, nI_eq, bI_0, bI_n0, nI_0, n10, ← Int32.not_le]; done) | (simp_all [ocSell, nI_eq, bI_0, bI_n0, ← Int64.not_le]; done) | (simp_all [ocSell, nI_eq, bI_0, bI_n0, nI_0, n10, ← Int64.not_le, ← Int32.not_le]; done), rfl⟩
  · refine g_iload_n X rfl rfl ?_
    refine g_iconst X rfl (v := nI 0) (by decide) ?_
    refine g_ldc X rfl kcX7_153 ?_
    refine g_rS X rfl lcX7_within lmX7_74 stX7_within (cr_X7_within l D cy B od) rfl rfl (Nat.le_of_ble_eq_true rfl) ⟨⟨by decide, by decide⟩, rfl, rfl⟩ ⟨Nat.le_of_ble_eq_true rfl, Nat.le_of_ble_eq_true rfl⟩ ?_
    first | refine g_if_eqB X rfl (fun h4 => ?_) (fun h4 => ?_) | refine g_if_eq X rfl (fun h4 => ?_) (fun h4 => ?_)
    · refine g_iconst X rfl (v := nI 0) (by decide) ?_
      refine g_req X hnt rfl lcX7_requireArgument lmX7_78 stX7_requireArgument (cq_X7_requireArgument l D cy B od hl9) rfl rfl (Nat.le_of_ble_eq_true rfl) ⟨by decide, by decide⟩ ⟨Nat.le_of_ble_eq_true rfl, Nat.le_of_ble_eq_true rfl⟩ (Nat.le_of_ble_eq_true rfl) (Nat.le_of_ble_eq_true rfl) (fun h5 => ?_) (fun h5 => absurd nI_0 h5)
      exact ⟨by first | (simp_all [ocSell, nI_eq, bI_0, bI_n0]; done) | (simp_all [ocSell, nI_eq, bI_0, bI_n0, nI_0, n10]; done) | (simp_all [ocSell, nI_eq, bI_0, bI_n0, nI_0, n10, ← Int32.not_le]; done) | (simp_all [ocSell, nI_eq, bI_0, bI_n0, ← Int64.not_le]; done) | (simp_all [ocSell, nI_eq, bI_0, bI_n0, nI_0, n10, ← Int64.not_le, ← Int32.not_le]; done), rfl⟩
    · refine g_iconst X rfl (v := nI 1) (by decide) ?_
      refine g_goto X rfl ?_
      refine g_req X hnt rfl lcX7_requireArgument lmX7_78 stX7_requireArgument (cq_X7_requireArgument l D cy B od hl9) rfl rfl (Nat.le_of_ble_eq_true rfl) ⟨by decide, by decide⟩ ⟨Nat.le_of_ble_eq_true rfl, Nat.le_of_ble_eq_true rfl⟩ (Nat.le_of_ble_eq_true rfl) (Nat.le_of_ble_eq_true rfl) (fun h6 => absurd n10 h6) (fun h6 => ?_)
      refine g_aload_n X rfl rfl ?_
      refine g_get X rfl flX7_30 (ci := 7) rfl (by (repeat (first | exact hL | exact upA_eq | refine (upA_ne (by omega)).trans ?_ | refine (f2 _ (by omega)).trans ?_ | refine (f1 _ (by omega)).trans ?_))) rfl ?_
      refine g_get X rfl flX7_154 (ci := 6) rfl (by (repeat (first | exact hs | exact upA_eq | refine (upA_ne (by omega)).trans ?_ | refine (f2 _ (by omega)).trans ?_ | refine (f1 _ (by omega)).trans ?_))) rfl ?_
      refine g_get X rfl flX7_170 (ci := 0) rfl (by (repeat (first | exact hA | exact upA_eq | refine (upA_ne (by omega)).trans ?_ | refine (f2 _ (by omega)).trans ?_ | refine (f1 _ (by omega)).trans ?_))) rfl ?_
      refine g_iload_n X rfl rfl ?_
      refine g_ialdN X rfl (by (repeat (first | exact hA4 | exact upA_eq | refine (upA_ne (by omega)).trans ?_ | refine (f2 _ (by omega)).trans ?_ | refine (f1 _ (by omega)).trans ?_))) (by omega) (by decide) ?_
      refine g_iconst X rfl (v := (-1)) (by decide) ?_
      refine g_icmp_ne X rfl (fun h7 => ?_) (fun h7 => ?_)
      · refine g_iconst X rfl (v := nI 0) (by decide) ?_
        refine g_req X hnt rfl lcX7_requireState lmX7_66 stX7_requireState (cq_X7_requireState l D cy B od hl9) rfl rfl (Nat.le_of_ble_eq_true rfl) ⟨by decide, by decide⟩ ⟨Nat.le_of_ble_eq_true rfl, Nat.le_of_ble_eq_true rfl⟩ (Nat.le_of_ble_eq_true rfl) (Nat.le_of_ble_eq_true rfl) (fun h8 => ?_) (fun h8 => absurd nI_0 h8)
        exact ⟨by first | (simp_all [ocSell, nI_eq, bI_0, bI_n0]; done) | (simp_all [ocSell, nI_eq, bI_0, bI_n0, nI_0, n10]; done) | (simp_all [ocSell, nI_eq, bI_0, bI_n0, nI_0, n10, ← Int32.not_le]; done) | (simp_all [ocSell, nI_eq, bI_0, bI_n0, ← Int64.not_le]; done) | (simp_all [ocSell, nI_eq, bI_0, bI_n0, nI_0, n10, ← Int64.not_le, ← Int32.not_le]; done), rfl⟩
      · refine g_iconst X rfl (v := nI 1) (by decide) ?_
        refine g_goto X rfl ?_
        refine g_req X hnt rfl lcX7_requireState lmX7_66 stX7_requireState (cq_X7_requireState l D cy B od hl9) rfl rfl (Nat.le_of_ble_eq_true rfl) ⟨by decide, by decide⟩ ⟨Nat.le_of_ble_eq_true rfl, Nat.le_of_ble_eq_true rfl⟩ (Nat.le_of_ble_eq_true rfl) (Nat.le_of_ble_eq_true rfl) (fun h9 => absurd n10 h9) (fun h9 => ?_)
        have hoc : (ocSell W.1 (nI i9) dy pr) = .inr (.int (aVal (vS W.1).2.2.1 i9 (dy / nI 30 - nI 1))) := by first | (simp_all [ocSell, nI_eq, bI_0, bI_n0]; done) | (simp_all [ocSell, nI_eq, bI_0, bI_n0, nI_0, n10]; done) | (simp_all [ocSell, nI_eq, bI_0, bI_n0, nI_0, n10, ← Int32.not_le]; done) | (simp_all [ocSell, nI_eq, bI_0, bI_n0, ← Int64.not_le]; done) | (simp_all [ocSell, nI_eq, bI_0, bI_n0, nI_0, n10, ← Int64.not_le, ← Int32.not_le]; done)
        refine g_aload_n X rfl rfl ?_
        refine g_get X rfl flX7_40 (ci := 7) rfl (by (repeat (first | exact hL | exact upA_eq | refine (upA_ne (by omega)).trans ?_ | refine (f2 _ (by omega)).trans ?_ | refine (f1 _ (by omega)).trans ?_))) rfl ?_
        refine g_aload_n X rfl rfl ?_
        refine g_get X rfl flX7_30 (ci := 7) rfl (by (repeat (first | exact hL | exact upA_eq | refine (upA_ne (by omega)).trans ?_ | refine (f2 _ (by omega)).trans ?_ | refine (f1 _ (by omega)).trans ?_))) rfl ?_
        refine g_mVN X rfl lcX2_remember lnX7_117 lsX2_remember (cm_X2_remember l D cy B od hH9 hHw.1 hHw.2.1 hs9 hw hwb (by omega)) (ci := 2) (by (repeat (first | exact hh | exact upA_eq | refine (upA_ne (by omega)).trans ?_ | refine (f2 _ (by omega)).trans ?_ | refine (f1 _ (by omega)).trans ?_))) rfl rfl rfl (Nat.le_of_ble_eq_true rfl) ⟨⟨by decide, by decide⟩, rfl, rfl⟩ ⟨Nat.le_of_ble_eq_true rfl, Nat.le_of_ble_eq_true rfl⟩ (fun v10 A10 q10 => ?_)
        obtain ⟨rfl, f1, S2, e2, H1⟩ := q10
        have hW1 := hW.rem (f1.wide (by omega) (by omega)) e2 H1
        have hV : VwA cy A10 W.1 := hW1.1
        obtain ⟨hL, hs9, hw, hS9, hsn⟩ := id hV
        obtain ⟨hS, hS0, hS1⟩ := id hS9
        obtain ⟨hs, hE9, hR9, hA9, hp⟩ := id hs9
        obtain ⟨hE, hE0, hE1, hE2, hE3, hE4, hE5, hE6⟩ := id hE9
        obtain ⟨hR, hR0, hR1, hR2⟩ := id hR9
        obtain ⟨hA, hA0, hA1, hA2, hA3, hA4, hA5⟩ := id hA9
        obtain ⟨w1, w2, w3, w4, w5⟩ := id hw
        refine g_aload_n X rfl rfl ?_
        refine g_get X rfl flX7_30 (ci := 7) rfl (by (repeat (first | exact hL | exact upA_eq | refine (upA_ne (by omega)).trans ?_ | refine (f2 _ (by omega)).trans ?_ | refine (f1 _ (by omega)).trans ?_))) rfl ?_
        refine g_get X rfl flX7_154 (ci := 6) rfl (by (repeat (first | exact hs | exact upA_eq | refine (upA_ne (by omega)).trans ?_ | refine (f2 _ (by omega)).trans ?_ | refine (f1 _ (by omega)).trans ?_))) rfl ?_
        refine g_iload_n X rfl rfl ?_
        refine g_iload_n X rfl rfl ?_
        refine g_bipush X rfl (v := nI 30) (by decide) ?_
        refine g_idiv X rfl (by decide) ?_
        refine g_iconst X rfl (v := nI 1) (by decide) ?_
        refine g_isub X rfl ?_
        refine g_rVN X rfl lcX0_valueAt lnX7_173 lsX0_valueAt (cr_X0_valueAt l D cy B od hA9 (by omega) (w5 _ hi9)) (ci := 0) (by (repeat (first | exact hA | exact upA_eq | refine (upA_ne (by omega)).trans ?_ | refine (f2 _ (by omega)).trans ?_ | refine (f1 _ (by omega)).trans ?_))) rfl rfl rfl (Nat.le_of_ble_eq_true rfl) ⟨⟨by decide, by decide⟩, rfl, rfl⟩ ⟨Nat.le_of_ble_eq_true rfl, Nat.le_of_ble_eq_true rfl⟩ ?_
        refine g_istore X rfl (by decide) ?_
        refine g_aload_n X rfl rfl ?_
        refine g_get X rfl flX7_30 (ci := 7) rfl (by (repeat (first | exact hL | exact upA_eq | refine (upA_ne (by omega)).trans ?_ | refine (f2 _ (by omega)).trans ?_ | refine (f1 _ (by omega)).trans ?_))) rfl ?_
        refine g_get X rfl flX7_154 (ci := 6) rfl (by (repeat (first | exact hs | exact upA_eq | refine (upA_ne (by omega)).trans ?_ | refine (f2 _ (by omega)).trans ?_ | refine (f1 _ (by omega)).trans ?_))) rfl ?_
        refine g_get X rfl flX7_170 (ci := 0) rfl (by (repeat (first | exact hA | exact upA_eq | refine (upA_ne (by omega)).trans ?_ | refine (f2 _ (by omega)).trans ?_ | refine (f1 _ (by omega)).trans ?_))) rfl ?_
        refine g_iload_n X rfl rfl ?_
        refine g_iload_n X rfl rfl ?_
        refine g_iastN X rfl (by (repeat (first | exact hA4 | exact upA_eq | refine (upA_ne (by omega)).trans ?_ | refine (f2 _ (by omega)).trans ?_ | refine (f1 _ (by omega)).trans ?_))) (by omega) (by decide) ?_
        refine g_aload_n X rfl rfl ?_
        refine g_get X rfl flX7_30 (ci := 7) rfl (by (repeat (first | exact hL | exact upA_eq | refine (upA_ne (by omega)).trans ?_ | refine (f2 _ (by omega)).trans ?_ | refine (f1 _ (by omega)).trans ?_))) rfl ?_
        refine g_get X rfl flX7_154 (ci := 6) rfl (by (repeat (first | exact hs | exact upA_eq | refine (upA_ne (by omega)).trans ?_ | refine (f2 _ (by omega)).trans ?_ | refine (f1 _ (by omega)).trans ?_))) rfl ?_
        refine g_get X rfl flX7_177 (ci := 0) rfl (by (repeat (first | exact hA | exact upA_eq | refine (upA_ne (by omega)).trans ?_ | refine (f2 _ (by omega)).trans ?_ | refine (f1 _ (by omega)).trans ?_))) rfl ?_
        refine g_iload_n X rfl rfl ?_
        refine g_iload_n X rfl rfl ?_
        refine g_iastN X rfl (by (repeat (first | exact hA5 | exact upA_eq | refine (upA_ne (by omega)).trans ?_ | refine (f2 _ (by omega)).trans ?_ | refine (f1 _ (by omega)).trans ?_))) (by omega) (by decide) ?_
        refine g_iload X rfl rfl ?_
        refine g_iret X rfl rfl (by first | rfl | exact bI_nar _ | decide) (Nat.le_of_ble_eq_true rfl) (Nat.le_of_ble_eq_true rfl) ⟨_, ?_, rfl, rfl, ?_⟩
        · exact hoc
        · refine ⟨((f1.wide (b' := 0) (c' := 231) (by omega) (by omega)).up (by omega) (by omega)).up (by omega) (by omega), S2, _, e2, rfl, hW1.upNow (((SameOff.refl _ 18 39).up (by omega) (by omega)).up (by omega) (by omega)) ⟨(upA_ne (by omega)).trans ((upA_ne (by omega)).trans hs), hE9.same (fun k _ _ => (upA_ne (by omega)).trans (upA_ne (by omega))), hR9.same (fun k _ _ => (upA_ne (by omega)).trans (upA_ne (by omega))), by rw [hcl]; exact hA9.set45, (upA_ne (by omega)).trans ((upA_ne (by omega)).trans hp)⟩ ⟨w1, w2, w3, w4, fun j hj => w5 j hj⟩ hwb⟩
def cqAmt (V : LV) : Int32 := (if sTgt (vZ V) (nI (vS V).2.2.2.2.1) (sProf (vS V) (nI (vS V).2.2.2.2.1)) - sPre (vS V) < 0 then 0 else sTgt (vZ V) (nI (vS V).2.2.2.2.1) (sProf (vS V) (nI (vS V).2.2.2.2.1)) - sPre (vS V)).toInt32
def ocClose (V : LV) : OC := if (vS V).2.2.2.2.1 < 4 then .inr (.int (cqAmt V)) else .inl eISE
set_option maxRecDepth 100000 in
set_option maxHeartbeats 400000 in
theorem cp_X7_closeQuarter (l : Launch) (D : va_G) (cy : Nat → ClassId) (B : Nat) (od : Nat → Option Nat) (hl9 : l.stackTraces = false) {A : AH} {W : LW} (hW : LedA cy A W)  : CP l D cy B od yX7_closeQuarter cX7_closeQuarter 5 (some .int) rmX7_closeQuarter [.ref 0] A (ocClose W.1) (ChP cy A W (fun S9 => S9 = ((vS W.1).1, (vS W.1).2.1, (vS W.1).2.2.1, upd (vS W.1).2.2.2.1 (vS W.1).2.2.2.2.1 (cqAmt W.1), (vS W.1).2.2.2.2.1 + 1, (vS W.1).2.2.2.2.2))) (fun A' => A' = A) := by
  intro z
  refine CX.of (by decide) tX7_closeQuarter okX7_closeQuarter (Nat.le_of_ble_eq_true rfl) (q0 := tX7_closeQuarter[0]) rfl rfl ?_
  intro p e s m args below meth c X hnt
  obtain ⟨hV, hwb, ⟨Rm, hRm, hRn⟩, ⟨hb, hbl⟩, ⟨hv9, hvw, hvb⟩, ⟨hH9, hHw⟩, ⟨fb, hbal⟩, hrd⟩ := id hW
  obtain ⟨hL, hs9, hw, hS9, hsn⟩ := id hV
  obtain ⟨hS, hS0, hS1⟩ := id hS9
  obtain ⟨hs, hE9, hR9, hA9, hp⟩ := id hs9
  obtain ⟨hE, hE0, hE1, hE2, hE3, hE4, hE5, hE6⟩ := id hE9
  obtain ⟨hR, hR0, hR1, hR2⟩ := id hR9
  obtain ⟨hA, hA0, hA1, hA2, hA3, hA4, hA5⟩ := id hA9
  obtain ⟨w1, w2, w3, w4, w5⟩ := id hw
  have hH8 := id hH9
  obtain ⟨hh, ⟨fh, hhr, hhf⟩, hhk⟩ := hH8
  refine g_aload_n X rfl rfl ?_
  refine g_get X rfl flX7_30 (ci := 7) rfl (by (repeat (first | exact hL | exact upA_eq | refine (upA_ne (by omega)).trans ?_ | refine (f2 _ (by omega)).trans ?_ | refine (f1 _ (by omega)).trans ?_))) rfl ?_
  refine g_get X rfl flX7_121 (ci := 6) rfl (by (repeat (first | exact hs | exact upA_eq | refine (upA_ne (by omega)).trans ?_ | refine (f2 _ (by omega)).trans ?_ | refine (f1 _ (by omega)).trans ?_))) rfl ?_
  refine g_istore_n X rfl (by decide) ?_
  refine g_iload_n X rfl rfl ?_
  refine g_iconst X rfl (v := nI 4) (by decide) ?_
  first | refine g_ic_geN X rfl (by omega) (by omega) (fun h1 => ?_) (fun h1 => ?_) | refine g_icmp_ge X rfl (fun h1 => ?_) (fun h1 => ?_)
  · refine g_iconst X rfl (v := nI 0) (by decide) ?_
    refine g_req X hnt rfl lcX7_requireState lmX7_66 stX7_requireState (cq_X7_requireState l D cy B od hl9) rfl rfl (Nat.le_of_ble_eq_true rfl) ⟨by decide, by decide⟩ ⟨Nat.le_of_ble_eq_true rfl, Nat.le_of_ble_eq_true rfl⟩ (Nat.le_of_ble_eq_true rfl) (Nat.le_of_ble_eq_true rfl) (fun h2 => ?_) (fun h2 => absurd nI_0 h2)
    exact ⟨by first | (simp_all [ocClose, nI_eq, bI_0, bI_n0]; done) | (simp_all [ocClose, nI_eq, bI_0, bI_n0, nI_0, n10]; done) | (simp_all [ocClose, nI_eq, bI_0, bI_n0, nI_0, n10, ← Int32.not_le]; done) | (simp_all [ocClose, nI_eq, bI_0, bI_n0, ← Int64.not_le]; done) | (simp_all [ocClose, nI_eq, bI_0, bI_n0, nI_0, n10, ← Int64.not_le, ← Int32.not_le]; done), rfl⟩
  · refine g_iconst X rfl (v := nI 1) (by decide) ?_
    refine g_goto X rfl ?_
    refine g_req X hnt rfl lcX7_requireState lmX7_66 stX7_requireState (cq_X7_requireState l D cy B od hl9) rfl rfl (Nat.le_of_ble_eq_true rfl) ⟨by decide, by decide⟩ ⟨Nat.le_of_ble_eq_true rfl, Nat.le_of_ble_eq_true rfl⟩ (Nat.le_of_ble_eq_true rfl) (Nat.le_of_ble_eq_true rfl) (fun h3 => absurd n10 h3) (fun h3 => ?_)
    have hoc : (ocClose W.1) = .inr (.int (cqAmt W.1)) := by first | (simp_all [ocClose, nI_eq, bI_0, bI_n0]; done) | (simp_all [ocClose, nI_eq, bI_0, bI_n0, nI_0, n10]; done) | (simp_all [ocClose, nI_eq, bI_0, bI_n0, nI_0, n10, ← Int32.not_le]; done) | (simp_all [ocClose, nI_eq, bI_0, bI_n0, ← Int64.not_le]; done) | (simp_all [ocClose, nI_eq, bI_0, bI_n0, nI_0, n10, ← Int64.not_le, ← Int32.not_le]; done)
    refine g_aload_n X rfl rfl ?_
    refine g_get X rfl flX7_40 (ci := 7) rfl (by (repeat (first | exact hL | exact upA_eq | refine (upA_ne (by omega)).trans ?_ | refine (f2 _ (by omega)).trans ?_ | refine (f1 _ (by omega)).trans ?_))) rfl ?_
    refine g_aload_n X rfl rfl ?_
    refine g_get X rfl flX7_30 (ci := 7) rfl (by (repeat (first | exact hL | exact upA_eq | refine (upA_ne (by omega)).trans ?_ | refine (f2 _ (by omega)).trans ?_ | refine (f1 _ (by omega)).trans ?_))) rfl ?_
    refine g_mVN X rfl lcX2_remember lnX7_117 lsX2_remember (cm_X2_remember l D cy B od hH9 hHw.1 hHw.2.1 hs9 hw hwb (by omega)) (ci := 2) (by (repeat (first | exact hh | exact upA_eq | refine (upA_ne (by omega)).trans ?_ | refine (f2 _ (by omega)).trans ?_ | refine (f1 _ (by omega)).trans ?_))) rfl rfl rfl (Nat.le_of_ble_eq_true rfl) ⟨⟨by decide, by decide⟩, rfl, rfl⟩ ⟨Nat.le_of_ble_eq_true rfl, Nat.le_of_ble_eq_true rfl⟩ (fun v4 A4 q4 => ?_)
    obtain ⟨rfl, f1, S2, e2, H1⟩ := q4
    have hW1 := hW.rem (f1.wide (by omega) (by omega)) e2 H1
    have hV : VwA cy A4 W.1 := hW1.1
    obtain ⟨hL, hs9, hw, hS9, hsn⟩ := id hV
    obtain ⟨hS, hS0, hS1⟩ := id hS9
    obtain ⟨hs, hE9, hR9, hA9, hp⟩ := id hs9
    obtain ⟨hE, hE0, hE1, hE2, hE3, hE4, hE5, hE6⟩ := id hE9
    obtain ⟨hR, hR0, hR1, hR2⟩ := id hR9
    obtain ⟨hA, hA0, hA1, hA2, hA3, hA4, hA5⟩ := id hA9
    obtain ⟨w1, w2, w3, w4, w5⟩ := id hw
    refine g_aload_n X rfl rfl ?_
    refine g_iload_n X rfl rfl ?_
    refine g_aload_n X rfl rfl ?_
    refine g_get X rfl flX7_30 (ci := 7) rfl (by (repeat (first | exact hL | exact upA_eq | refine (upA_ne (by omega)).trans ?_ | refine (f2 _ (by omega)).trans ?_ | refine (f1 _ (by omega)).trans ?_))) rfl ?_
    refine g_iload_n X rfl rfl ?_
    refine g_rVN X rfl lcX6_profitUpTo lnX7_180 lsX6_profitUpTo (cr_X6_profitUpTo l D cy B od hs9 hw) (ci := 6) (by (repeat (first | exact hs | exact upA_eq | refine (upA_ne (by omega)).trans ?_ | refine (f2 _ (by omega)).trans ?_ | refine (f1 _ (by omega)).trans ?_))) rfl rfl rfl (Nat.le_of_ble_eq_true rfl) ⟨⟨by decide, by decide⟩, rfl, rfl⟩ ⟨Nat.le_of_ble_eq_true rfl, Nat.le_of_ble_eq_true rfl⟩ ?_
    refine g_rV X rfl lcX7_targetAt lmX7_184 lsX7_targetAt (cr_X7_targetAt l D cy B od hV (by omega)) (ci := 7) (by (repeat (first | exact hL | exact upA_eq | refine (upA_ne (by omega)).trans ?_ | refine (f2 _ (by omega)).trans ?_ | refine (f1 _ (by omega)).trans ?_))) rfl rfl rfl (Nat.le_of_ble_eq_true rfl) ⟨⟨by decide, by decide⟩, rfl, rfl⟩ ⟨Nat.le_of_ble_eq_true rfl, Nat.le_of_ble_eq_true rfl⟩ ?_
    refine g_lstore_n X rfl (by decide) ?_
    refine g_lconst X rfl (v := 0) (by decide) ?_
    refine g_lload_n X rfl rfl ?_
    refine g_aload_n X rfl rfl ?_
    refine g_get X rfl flX7_30 (ci := 7) rfl (by (repeat (first | exact hL | exact upA_eq | refine (upA_ne (by omega)).trans ?_ | refine (f2 _ (by omega)).trans ?_ | refine (f1 _ (by omega)).trans ?_))) rfl ?_
    refine g_rVN X rfl lcX6_prepaidSoFar lnX7_188 lsX6_prepaidSoFar (cr_X6_prepaidSoFar l D cy B od hs9 hw) (ci := 6) (by (repeat (first | exact hs | exact upA_eq | refine (upA_ne (by omega)).trans ?_ | refine (f2 _ (by omega)).trans ?_ | refine (f1 _ (by omega)).trans ?_))) rfl rfl rfl (Nat.le_of_ble_eq_true rfl) ⟨⟨by decide, by decide⟩, rfl, rfl⟩ ⟨Nat.le_of_ble_eq_true rfl, Nat.le_of_ble_eq_true rfl⟩ ?_
    refine g_lsub X rfl ?_
    refine g_m_max_l X rfl lmX7_192 (Nat.le_of_ble_eq_true rfl) ⟨by decide, by decide⟩ ⟨Nat.le_of_ble_eq_true rfl, Nat.le_of_ble_eq_true rfl⟩ ?_
    refine g_l2i X rfl ?_
    refine g_istore X rfl (by decide) ?_
    refine g_aload_n X rfl rfl ?_
    refine g_get X rfl flX7_30 (ci := 7) rfl (by (repeat (first | exact hL | exact upA_eq | refine (upA_ne (by omega)).trans ?_ | refine (f2 _ (by omega)).trans ?_ | refine (f1 _ (by omega)).trans ?_))) rfl ?_
    refine g_get X rfl flX7_198 (ci := 6) rfl (by (repeat (first | exact hs | exact upA_eq | refine (upA_ne (by omega)).trans ?_ | refine (f2 _ (by omega)).trans ?_ | refine (f1 _ (by omega)).trans ?_))) rfl ?_
    refine g_iload_n X rfl rfl ?_
    refine g_iload X rfl rfl ?_
    refine g_iastN X rfl (by (repeat (first | exact hp | exact upA_eq | refine (upA_ne (by omega)).trans ?_ | refine (f2 _ (by omega)).trans ?_ | refine (f1 _ (by omega)).trans ?_))) (by omega) (by decide) ?_
    refine g_aload_n X rfl rfl ?_
    refine g_get X rfl flX7_30 (ci := 7) rfl (by (repeat (first | exact hL | exact upA_eq | refine (upA_ne (by omega)).trans ?_ | refine (f2 _ (by omega)).trans ?_ | refine (f1 _ (by omega)).trans ?_))) rfl ?_
    refine g_iload_n X rfl rfl ?_
    refine g_iconst X rfl (v := nI 1) (by decide) ?_
    refine g_iadd X rfl ?_
    rw [nI_add]
    refine g_put X rfl flX7_121 rfl (ci := 6) rfl (by (repeat (first | exact hs | exact upA_eq | refine (upA_ne (by omega)).trans ?_ | refine (f2 _ (by omega)).trans ?_ | refine (f1 _ (by omega)).trans ?_))) (Nat.le_of_ble_eq_true rfl) (by first | rfl | exact bI_nar _) (by first | rfl | decide) ?_
    refine g_iload X rfl rfl ?_
    refine g_iret X rfl rfl (by first | rfl | exact bI_nar _ | decide) (Nat.le_of_ble_eq_true rfl) (Nat.le_of_ble_eq_true rfl) ⟨_, ?_, rfl, rfl, ?_⟩
    · exact hoc
    · refine ⟨((f1.wide (b' := 0) (c' := 231) (by omega) (by omega)).up (by omega) (by omega)).up (by omega) (by omega), S2, _, e2, rfl, hW1.upNow (((SameOff.refl _ 18 39).up (by omega) (by omega)).up (by omega) (by omega)) ⟨upA_eq, hE9.same (fun k _ _ => (upA_ne (by omega)).trans (upA_ne (by omega))), hR9.same (fun k _ _ => (upA_ne (by omega)).trans (upA_ne (by omega))), hA9.same (fun k _ _ => (upA_ne (by omega)).trans (upA_ne (by omega))), (upA_ne (by omega)).trans upA_eq⟩ ⟨w1, w2, w3, Nat.succ_le_of_lt (by assumption), w5⟩ hwb⟩
def ocStart (V : LV) (ba : Int32) : OC := if within9 ba (-10000000) (nI 10000000) then .inr (.int (vS V).2.2.2.2.2) else .inl eIAE
set_option maxRecDepth 100000 in
set_option maxHeartbeats 400000 in
theorem cp_X7_setStart (l : Launch) (D : va_G) (cy : Nat → ClassId) (B : Nat) (od : Nat → Option Nat) (hl9 : l.stackTraces = false) {A : AH} {W : LW} (hW : LedA cy A W) {ba : Int32} : CP l D cy B od yX7_setStart cX7_setStart 3 (some .int) rmX7_setStart [.ref 0, .int ba] A (ocStart W.1 ba) (ChP cy A W (fun S9 => S9 = ((vS W.1).1, (vS W.1).2.1, (vS W.1).2.2.1, (vS W.1).2.2.2.1, (vS W.1).2.2.2.2.1, ba))) (fun A' => A' = A) := by
  intro z
  refine CX.of (by decide) tX7_setStart okX7_setStart (Nat.le_of_ble_eq_true rfl) (q0 := tX7_setStart[0]) rfl rfl ?_
  intro p e s m args below meth c X hnt
  obtain ⟨hV, hwb, ⟨Rm, hRm, hRn⟩, ⟨hb, hbl⟩, ⟨hv9, hvw, hvb⟩, ⟨hH9, hHw⟩, ⟨fb, hbal⟩, hrd⟩ := id hW
  obtain ⟨hL, hs9, hw, hS9, hsn⟩ := id hV
  obtain ⟨hS, hS0, hS1⟩ := id hS9
  obtain ⟨hs, hE9, hR9, hA9, hp⟩ := id hs9
  obtain ⟨hE, hE0, hE1, hE2, hE3, hE4, hE5, hE6⟩ := id hE9
  obtain ⟨hR, hR0, hR1, hR2⟩ := id hR9
  obtain ⟨hA, hA0, hA1, hA2, hA3, hA4, hA5⟩ := id hA9
  obtain ⟨w1, w2, w3, w4, w5⟩ := id hw
  have hH8 := id hH9
  obtain ⟨hh, ⟨fh, hhr, hhf⟩, hhk⟩ := hH8
  refine g_iload_n X rfl rfl ?_
  refine g_ldc X rfl kcX7_201 ?_
  refine g_ldc X rfl kcX7_105 ?_
  refine g_rS X rfl lcX7_within lmX7_74 stX7_within (cr_X7_within l D cy B od) rfl rfl (Nat.le_of_ble_eq_true rfl) ⟨⟨by decide, by decide⟩, rfl, rfl⟩ ⟨Nat.le_of_ble_eq_true rfl, Nat.le_of_ble_eq_true rfl⟩ ?_
  refine g_req X hnt rfl lcX7_requireArgument lmX7_78 stX7_requireArgument (cq_X7_requireArgument l D cy B od hl9) rfl rfl (Nat.le_of_ble_eq_true rfl) ⟨by decide, by decide⟩ ⟨Nat.le_of_ble_eq_true rfl, Nat.le_of_ble_eq_true rfl⟩ (Nat.le_of_ble_eq_true rfl) (Nat.le_of_ble_eq_true rfl) (fun h1 => ?_) (fun h1 => ?_)
  · exact ⟨by first | (simp_all [ocStart, nI_eq, bI_0, bI_n0]; done) | (simp_all [ocStart, nI_eq, bI_0, bI_n0, nI_0, n10]; done) | (simp_all [ocStart, nI_eq, bI_0, bI_n0, nI_0, n10, ← Int32.not_le]; done) | (simp_all [ocStart, nI_eq, bI_0, bI_n0, ← Int64.not_le]; done) | (simp_all [ocStart, nI_eq, bI_0, bI_n0, nI_0, n10, ← Int64.not_le, ← Int32.not_le]; done), rfl⟩
  have hoc : (ocStart W.1 ba) = .inr (.int (vS W.1).2.2.2.2.2) := by first | (simp_all [ocStart, nI_eq, bI_0, bI_n0]; done) | (simp_all [ocStart, nI_eq, bI_0, bI_n0, nI_0, n10]; done) | (simp_all [ocStart, nI_eq, bI_0, bI_n0, nI_0, n10, ← Int32.not_le]; done) | (simp_all [ocStart, nI_eq, bI_0, bI_n0, ← Int64.not_le]; done) | (simp_all [ocStart, nI_eq, bI_0, bI_n0, nI_0, n10, ← Int64.not_le, ← Int32.not_le]; done)
  refine g_aload_n X rfl rfl ?_
  refine g_get X rfl flX7_40 (ci := 7) rfl (by (repeat (first | exact hL | exact upA_eq | refine (upA_ne (by omega)).trans ?_ | refine (f2 _ (by omega)).trans ?_ | refine (f1 _ (by omega)).trans ?_))) rfl ?_
  refine g_aload_n X rfl rfl ?_
  refine g_get X rfl flX7_30 (ci := 7) rfl (by (repeat (first | exact hL | exact upA_eq | refine (upA_ne (by omega)).trans ?_ | refine (f2 _ (by omega)).trans ?_ | refine (f1 _ (by omega)).trans ?_))) rfl ?_
  refine g_mVN X rfl lcX2_remember lnX7_117 lsX2_remember (cm_X2_remember l D cy B od hH9 hHw.1 hHw.2.1 hs9 hw hwb (by omega)) (ci := 2) (by (repeat (first | exact hh | exact upA_eq | refine (upA_ne (by omega)).trans ?_ | refine (f2 _ (by omega)).trans ?_ | refine (f1 _ (by omega)).trans ?_))) rfl rfl rfl (Nat.le_of_ble_eq_true rfl) ⟨⟨by decide, by decide⟩, rfl, rfl⟩ ⟨Nat.le_of_ble_eq_true rfl, Nat.le_of_ble_eq_true rfl⟩ (fun v2 A2 q2 => ?_)
  obtain ⟨rfl, f1, S2, e2, H1⟩ := q2
  have hW1 := hW.rem (f1.wide (by omega) (by omega)) e2 H1
  have hV : VwA cy A2 W.1 := hW1.1
  obtain ⟨hL, hs9, hw, hS9, hsn⟩ := id hV
  obtain ⟨hS, hS0, hS1⟩ := id hS9
  obtain ⟨hs, hE9, hR9, hA9, hp⟩ := id hs9
  obtain ⟨hE, hE0, hE1, hE2, hE3, hE4, hE5, hE6⟩ := id hE9
  obtain ⟨hR, hR0, hR1, hR2⟩ := id hR9
  obtain ⟨hA, hA0, hA1, hA2, hA3, hA4, hA5⟩ := id hA9
  obtain ⟨w1, w2, w3, w4, w5⟩ := id hw
  refine g_aload_n X rfl rfl ?_
  refine g_get X rfl flX7_30 (ci := 7) rfl (by (repeat (first | exact hL | exact upA_eq | refine (upA_ne (by omega)).trans ?_ | refine (f2 _ (by omega)).trans ?_ | refine (f1 _ (by omega)).trans ?_))) rfl ?_
  refine g_get X rfl flX7_202 (ci := 6) rfl (by (repeat (first | exact hs | exact upA_eq | refine (upA_ne (by omega)).trans ?_ | refine (f2 _ (by omega)).trans ?_ | refine (f1 _ (by omega)).trans ?_))) rfl ?_
  refine g_istore_n X rfl (by decide) ?_
  refine g_aload_n X rfl rfl ?_
  refine g_get X rfl flX7_30 (ci := 7) rfl (by (repeat (first | exact hL | exact upA_eq | refine (upA_ne (by omega)).trans ?_ | refine (f2 _ (by omega)).trans ?_ | refine (f1 _ (by omega)).trans ?_))) rfl ?_
  refine g_iload_n X rfl rfl ?_
  refine g_put X rfl flX7_202 rfl (ci := 6) rfl (by (repeat (first | exact hs | exact upA_eq | refine (upA_ne (by omega)).trans ?_ | refine (f2 _ (by omega)).trans ?_ | refine (f1 _ (by omega)).trans ?_))) (Nat.le_of_ble_eq_true rfl) (by first | rfl | exact bI_nar _) (by first | rfl | decide) ?_
  refine g_iload_n X rfl rfl ?_
  refine g_iret X rfl rfl (by first | rfl | exact bI_nar _ | decide) (Nat.le_of_ble_eq_true rfl) (Nat.le_of_ble_eq_true rfl) ⟨_, ?_, rfl, rfl, ?_⟩
  · exact hoc
  · refine ⟨(f1.wide (b' := 0) (c' := 231) (by omega) (by omega)).up (by omega) (by omega), S2, _, e2, rfl, hW1.upNow ((SameOff.refl _ 18 39).up (by omega) (by omega)) ⟨upA_eq, hE9.same (fun k _ _ => upA_ne (by omega)), hR9.same (fun k _ _ => upA_ne (by omega)), hA9.same (fun k _ _ => upA_ne (by omega)), (upA_ne (by omega)).trans hp⟩ ⟨w1, w2, w3, w4, w5⟩ hwb⟩
def ocTrun (V : LV) (x : Int32) : OC := if within9 x (nI 0) (nI V.2.1) then .inr (.int x) else .inl eIAE
set_option maxRecDepth 100000 in
set_option maxHeartbeats 400000 in
theorem cp_X7_truncate (l : Launch) (D : va_G) (cy : Nat → ClassId) (B : Nat) (od : Nat → Option Nat) (hl9 : l.stackTraces = false) {A : AH} {W : LW} (hW : LedA cy A W) {x : Int32} : CP l D cy B od yX7_truncate cX7_truncate 2 (some .int) rmX7_truncate [.ref 0, .int x] A (ocTrun W.1 x) (fun A' => SameOff A A' 0 231 ∧ LedA cy A' ((W.1.1, x.toNatClampNeg, W.1.2.2), W.2)) (fun A' => A' = A) := by
  intro z
  refine CX.of (by decide) tX7_truncate okX7_truncate (Nat.le_of_ble_eq_true rfl) (q0 := tX7_truncate[0]) rfl rfl ?_
  intro p e s m args below meth c X hnt
  obtain ⟨hV, hwb, ⟨Rm, hRm, hRn⟩, ⟨hb, hbl⟩, ⟨hv9, hvw, hvb⟩, ⟨hH9, hHw⟩, ⟨fb, hbal⟩, hrd⟩ := id hW
  obtain ⟨hL, hs9, hw, hS9, hsn⟩ := id hV
  obtain ⟨hS, hS0, hS1⟩ := id hS9
  obtain ⟨hs, hE9, hR9, hA9, hp⟩ := id hs9
  obtain ⟨hE, hE0, hE1, hE2, hE3, hE4, hE5, hE6⟩ := id hE9
  obtain ⟨hR, hR0, hR1, hR2⟩ := id hR9
  obtain ⟨hA, hA0, hA1, hA2, hA3, hA4, hA5⟩ := id hA9
  obtain ⟨w1, w2, w3, w4, w5⟩ := id hw
  have hH8 := id hH9
  obtain ⟨hh, ⟨fh, hhr, hhf⟩, hhk⟩ := hH8
  refine g_iload_n X rfl rfl ?_
  refine g_iconst X rfl (v := nI 0) (by decide) ?_
  refine g_aload_n X rfl rfl ?_
  refine g_get X rfl flX7_62 (ci := 7) rfl (by (repeat (first | exact hL | exact upA_eq | refine (upA_ne (by omega)).trans ?_ | refine (f2 _ (by omega)).trans ?_ | refine (f1 _ (by omega)).trans ?_))) rfl ?_
  refine g_rS X rfl lcX7_within lmX7_74 stX7_within (cr_X7_within l D cy B od) rfl rfl (Nat.le_of_ble_eq_true rfl) ⟨⟨by decide, by decide⟩, rfl, rfl⟩ ⟨Nat.le_of_ble_eq_true rfl, Nat.le_of_ble_eq_true rfl⟩ ?_
  refine g_req X hnt rfl lcX7_requireArgument lmX7_78 stX7_requireArgument (cq_X7_requireArgument l D cy B od hl9) rfl rfl (Nat.le_of_ble_eq_true rfl) ⟨by decide, by decide⟩ ⟨Nat.le_of_ble_eq_true rfl, Nat.le_of_ble_eq_true rfl⟩ (Nat.le_of_ble_eq_true rfl) (Nat.le_of_ble_eq_true rfl) (fun h1 => ?_) (fun h1 => ?_)
  · exact ⟨by first | (simp_all [ocTrun, nI_eq, bI_0, bI_n0]; done) | (simp_all [ocTrun, nI_eq, bI_0, bI_n0, nI_0, n10]; done) | (simp_all [ocTrun, nI_eq, bI_0, bI_n0, nI_0, n10, ← Int32.not_le]; done) | (simp_all [ocTrun, nI_eq, bI_0, bI_n0, ← Int64.not_le]; done) | (simp_all [ocTrun, nI_eq, bI_0, bI_n0, nI_0, n10, ← Int64.not_le, ← Int32.not_le]; done), rfl⟩
  obtain ⟨i9, hi9, e9⟩ := wi_of (bI_n0.mp h1) (by omega)
  subst e9
  have hcl := nI_clamp (n := i9) (by omega)
  have hoc : (ocTrun W.1 (nI i9)) = .inr (.int (nI i9)) := by first | (simp_all [ocTrun, nI_eq, bI_0, bI_n0]; done) | (simp_all [ocTrun, nI_eq, bI_0, bI_n0, nI_0, n10]; done) | (simp_all [ocTrun, nI_eq, bI_0, bI_n0, nI_0, n10, ← Int32.not_le]; done) | (simp_all [ocTrun, nI_eq, bI_0, bI_n0, ← Int64.not_le]; done) | (simp_all [ocTrun, nI_eq, bI_0, bI_n0, nI_0, n10, ← Int64.not_le, ← Int32.not_le]; done)
  refine g_aload_n X rfl rfl ?_
  refine g_iload_n X rfl rfl ?_
  refine g_put X rfl flX7_62 rfl (ci := 7) rfl (by (repeat (first | exact hL | exact upA_eq | refine (upA_ne (by omega)).trans ?_ | refine (f2 _ (by omega)).trans ?_ | refine (f1 _ (by omega)).trans ?_))) (Nat.le_of_ble_eq_true rfl) (by first | rfl | exact bI_nar _) (by first | rfl | decide) ?_
  refine g_aload_n X rfl rfl ?_
  refine g_get X rfl flX7_62 (ci := 7) rfl (by (repeat (first | exact hL | exact upA_eq | refine (upA_ne (by omega)).trans ?_ | refine (f2 _ (by omega)).trans ?_ | refine (f1 _ (by omega)).trans ?_))) rfl ?_
  refine g_iret X rfl rfl (by first | rfl | exact bI_nar _ | decide) (Nat.le_of_ble_eq_true rfl) (Nat.le_of_ble_eq_true rfl) ⟨_, ?_, rfl, rfl, ?_⟩
  · exact hoc
  · exact ⟨(SameOff.refl A 0 231).up (by omega) (by omega), by rw [hcl]; exact hW.upObj (by omega)⟩
theorem LedA.upNH {cy : Nat → ClassId} {A A' : AH} {W : LW} {S : StV} {K : HV} (h : LedA cy A W) (hf : ∀ k, (k < 18 ∨ 39 ≤ k) → (k < 60 ∨ 230 ≤ k) → A' k = A k) (hS : StA cy A' 18 S) (hw : WfS S) (hb : WfB S) (hK : HisA cy A' 60 K) (hk : WfH K) : LedA cy A' (vNow W.1 S, W.2.1, W.2.2.1, K) := by
  have hu := h.u
  obtain ⟨⟨a1, a2, a3, a4, a5⟩, b1, ⟨Rm, c1, c2⟩, ⟨d1, d2⟩, ⟨e1, e2⟩, ⟨f1, f2⟩, ⟨f, g1⟩, h1⟩ := h
  exact ⟨⟨(hf _ (by omega) (by omega)).trans a1, hS, hw, SetA.same (b := W.1.1) (fun k _ _ => hf k (by omega) (by omega)) a4, a5⟩, hb, ⟨Rm, RoomA.same (b := W.1.1 + 3) (fun k _ _ => hf k (by omega) (by omega)) c1, c2⟩, ⟨(hf _ (by omega) (by omega)).trans d1, d2⟩, ⟨e1.same (fun k _ _ => hf k (by omega) (by omega)), e2⟩, ⟨hK, hk⟩, ⟨f, (hf _ (by omega) (by omega)).trans g1⟩, h1.same (fun k _ _ => hf k (by omega) (by omega))⟩
def ocUndo (K : HV) : OC := if 0 < K.2.1 then .inr (.int (nI (K.2.1 - 1))) else .inl eISE
set_option maxRecDepth 100000 in
set_option maxHeartbeats 400000 in
theorem cp_X7_undo (l : Launch) (D : va_G) (cy : Nat → ClassId) (B : Nat) (od : Nat → Option Nat) (hl9 : l.stackTraces = false) {A : AH} {W : LW} (hW : LedA cy A W)  : CP l D cy B od yX7_undo cX7_undo 1 (some .int) rmX7_undo [.ref 0] A (ocUndo W.2.2.2) (fun A' => SameOff A A' 0 231 ∧ 0 < W.2.2.2.2.1 ∧ ∃ S2 : StV, StE (W.2.2.2.2.2 ((W.2.2.2.1 + 7) % 8)) S2 ∧ LedA cy A' (vNow W.1 S2, W.2.1, W.2.2.1, ((W.2.2.2.1 + 7) % 8, W.2.2.2.2.1 - 1, W.2.2.2.2.2))) (fun A' => A' = A) := by
  intro z
  refine CX.of (by decide) tX7_undo okX7_undo (Nat.le_of_ble_eq_true rfl) (q0 := tX7_undo[0]) rfl rfl ?_
  intro p e s m args below meth c X hnt
  obtain ⟨hV, hwb, ⟨Rm, hRm, hRn⟩, ⟨hb, hbl⟩, ⟨hv9, hvw, hvb⟩, ⟨hH9, hHw⟩, ⟨fb, hbal⟩, hrd⟩ := id hW
  obtain ⟨hL, hs9, hw, hS9, hsn⟩ := id hV
  obtain ⟨hS, hS0, hS1⟩ := id hS9
  obtain ⟨hs, hE9, hR9, hA9, hp⟩ := id hs9
  obtain ⟨hE, hE0, hE1, hE2, hE3, hE4, hE5, hE6⟩ := id hE9
  obtain ⟨hR, hR0, hR1, hR2⟩ := id hR9
  obtain ⟨hA, hA0, hA1, hA2, hA3, hA4, hA5⟩ := id hA9
  obtain ⟨w1, w2, w3, w4, w5⟩ := id hw
  have hH8 := id hH9
  obtain ⟨hh, ⟨fh, hhr, hhf⟩, hhk⟩ := hH8
  refine g_aload_n X rfl rfl ?_
  refine g_get X rfl flX7_40 (ci := 7) rfl (by (repeat (first | exact hL | exact upA_eq | refine (upA_ne (by omega)).trans ?_ | refine (f2 _ (by omega)).trans ?_ | refine (f1 _ (by omega)).trans ?_))) rfl ?_
  refine g_get X rfl flX7_205 (ci := 2) rfl (by (repeat (first | exact hh | exact upA_eq | refine (upA_ne (by omega)).trans ?_ | refine (f2 _ (by omega)).trans ?_ | refine (f1 _ (by omega)).trans ?_))) rfl ?_
  refine g_if_le X rfl (fun h1 => ?_) (fun h1 => ?_)
  · have hz0 : ¬ 0 < W.2.2.2.2.1 := fun q => absurd (show nI W.2.2.2.2.1 ≤ 0 by assumption) (nI_nle q (by have := hHw.2.1; omega))
    refine g_iconst X rfl (v := nI 0) (by decide) ?_
    refine g_req X hnt rfl lcX7_requireState lmX7_66 stX7_requireState (cq_X7_requireState l D cy B od hl9) rfl rfl (Nat.le_of_ble_eq_true rfl) ⟨by decide, by decide⟩ ⟨Nat.le_of_ble_eq_true rfl, Nat.le_of_ble_eq_true rfl⟩ (Nat.le_of_ble_eq_true rfl) (Nat.le_of_ble_eq_true rfl) (fun h2 => ?_) (fun h2 => absurd nI_0 h2)
    exact ⟨by first | (simp_all [ocUndo, nI_eq, bI_0, bI_n0]; done) | (simp_all [ocUndo, nI_eq, bI_0, bI_n0, nI_0, n10]; done) | (simp_all [ocUndo, nI_eq, bI_0, bI_n0, nI_0, n10, ← Int32.not_le]; done) | (simp_all [ocUndo, nI_eq, bI_0, bI_n0, ← Int64.not_le]; done) | (simp_all [ocUndo, nI_eq, bI_0, bI_n0, nI_0, n10, ← Int64.not_le, ← Int32.not_le]; done), rfl⟩
  · have hpos : 0 < W.2.2.2.2.1 := Nat.pos_of_ne_zero (fun q => by simp_all [nI_0])
    refine g_iconst X rfl (v := nI 1) (by decide) ?_
    refine g_goto X rfl ?_
    refine g_req X hnt rfl lcX7_requireState lmX7_66 stX7_requireState (cq_X7_requireState l D cy B od hl9) rfl rfl (Nat.le_of_ble_eq_true rfl) ⟨by decide, by decide⟩ ⟨Nat.le_of_ble_eq_true rfl, Nat.le_of_ble_eq_true rfl⟩ (Nat.le_of_ble_eq_true rfl) (Nat.le_of_ble_eq_true rfl) (fun h3 => absurd n10 h3) (fun h3 => ?_)
    have hoc : (ocUndo W.2.2.2) = .inr (.int (nI (W.2.2.2.2.1 - 1))) := by first | (simp_all [ocUndo, nI_eq, bI_0, bI_n0]; done) | (simp_all [ocUndo, nI_eq, bI_0, bI_n0, nI_0, n10]; done) | (simp_all [ocUndo, nI_eq, bI_0, bI_n0, nI_0, n10, ← Int32.not_le]; done) | (simp_all [ocUndo, nI_eq, bI_0, bI_n0, ← Int64.not_le]; done) | (simp_all [ocUndo, nI_eq, bI_0, bI_n0, nI_0, n10, ← Int64.not_le, ← Int32.not_le]; done)
    refine g_aload_n X rfl rfl ?_
    refine g_get X rfl flX7_40 (ci := 7) rfl (by (repeat (first | exact hL | exact upA_eq | refine (upA_ne (by omega)).trans ?_ | refine (f2 _ (by omega)).trans ?_ | refine (f1 _ (by omega)).trans ?_))) rfl ?_
    refine g_aload_n X rfl rfl ?_
    refine g_get X rfl flX7_30 (ci := 7) rfl (by (repeat (first | exact hL | exact upA_eq | refine (upA_ne (by omega)).trans ?_ | refine (f2 _ (by omega)).trans ?_ | refine (f1 _ (by omega)).trans ?_))) rfl ?_
    refine g_mVN X rfl lcX2_takeBack lnX7_206 lsX2_takeBack (cm_X2_takeBack l D cy B od hH9 hHw.1 hHw.2.1 hs9 (hHw.2.2 _ (Nat.mod_lt _ (by decide))).1 (hHw.2.2 _ (Nat.mod_lt _ (by decide))).2 (by omega)) (ci := 2) (by (repeat (first | exact hh | exact upA_eq | refine (upA_ne (by omega)).trans ?_ | refine (f2 _ (by omega)).trans ?_ | refine (f1 _ (by omega)).trans ?_))) rfl rfl rfl (Nat.le_of_ble_eq_true rfl) ⟨⟨by decide, by decide⟩, rfl, rfl⟩ ⟨Nat.le_of_ble_eq_true rfl, Nat.le_of_ble_eq_true rfl⟩ (fun v4 A4 q4 => ?_)
    obtain ⟨rfl, f1, f2, f3, H1, S2, e2, E2⟩ := q4
    have g9 : ∀ k, (k < 18 ∨ 39 ≤ k) → (k < 60 ∨ 230 ≤ k) → A4 k = A k := fun k h1 h2 => by
      rcases Nat.lt_or_ge k 18 with h | h
      · exact f1 k (by omega) (by omega)
      · rcases Nat.lt_or_ge k 60 with h' | h'
        · exact f3 k (by omega) (by omega)
        · exact f2 k (by omega)
    have hwm := hHw.2.2 ((W.2.2.2.1 + 7) % 8) (Nat.mod_lt _ (by decide))
    have hW2 := hW.upNH g9 E2 (e2.wf hwm.1) (e2.wb hwm.2) H1 ⟨Nat.mod_lt _ (by decide), by show W.2.2.2.2.1 - 1 ≤ 8; have := hHw.2.1; omega, hHw.2.2⟩
    have hL := (g9 0 (by omega) (by omega)).trans hL
    have hh := H1.1
    refine g_aload_n X rfl rfl ?_
    refine g_get X rfl flX7_40 (ci := 7) rfl (by (repeat (first | exact hL | exact upA_eq | refine (upA_ne (by omega)).trans ?_ | refine (f2 _ (by omega)).trans ?_ | refine (f1 _ (by omega)).trans ?_))) rfl ?_
    refine g_get X rfl flX7_205 (ci := 2) rfl (by (repeat (first | exact hh | exact upA_eq | refine (upA_ne (by omega)).trans ?_ | refine (f2 _ (by omega)).trans ?_ | refine (f1 _ (by omega)).trans ?_))) rfl ?_
    refine g_iret X rfl rfl (by first | rfl | exact bI_nar _ | decide) (Nat.le_of_ble_eq_true rfl) (Nat.le_of_ble_eq_true rfl) ⟨_, ?_, rfl, rfl, ?_⟩
    · exact hoc
    · exact ⟨fun k _ => g9 k (by omega) (by omega), hpos, S2, e2, hW2⟩
set_option maxRecDepth 100000 in
set_option maxHeartbeats 400000 in
theorem cm_X7_undoCount (l : Launch) (D : va_G) (cy : Nat → ClassId) (B : Nat) (od : Nat → Option Nat) {A : AH} {W : LW} (hW : LedA cy A W) : CM l D cy B od yX7_undoCount cX7_undoCount 1 (some .int) rmX7_undoCount [.ref 0] A (fun v A' => v = some (.int (nI W.2.2.2.2.1)) ∧ A' = A) := by
  intro z
  refine CT.of (by decide) tX7_undoCount okX7_undoCount (Nat.le_of_ble_eq_true rfl) (q0 := tX7_undoCount[0]) rfl rfl ?_
  intro p e s m args below meth c X _
  obtain ⟨hV, hwb, ⟨Rm, hRm, hRn⟩, ⟨hb, hbl⟩, ⟨hv9, hvw, hvb⟩, ⟨hH9, hHw⟩, ⟨fb, hbal⟩, hrd⟩ := id hW
  obtain ⟨hL, hs9, hw, hS9, hsn⟩ := id hV
  obtain ⟨hS, hS0, hS1⟩ := id hS9
  obtain ⟨hs, hE9, hR9, hA9, hp⟩ := id hs9
  obtain ⟨hE, hE0, hE1, hE2, hE3, hE4, hE5, hE6⟩ := id hE9
  obtain ⟨hR, hR0, hR1, hR2⟩ := id hR9
  obtain ⟨hA, hA0, hA1, hA2, hA3, hA4, hA5⟩ := id hA9
  obtain ⟨w1, w2, w3, w4, w5⟩ := id hw
  have hH8 := id hH9
  obtain ⟨hh, ⟨fh, hhr, hhf⟩, hhk⟩ := hH8
  refine g_aload_n X rfl rfl ?_
  refine g_get X rfl flX7_40 (ci := 7) rfl (by (repeat (first | exact hL | exact upA_eq | refine (upA_ne (by omega)).trans ?_))) rfl ?_
  refine g_get X rfl flX7_205 (ci := 2) rfl (by (repeat (first | exact hh | exact upA_eq | refine (upA_ne (by omega)).trans ?_))) rfl ?_
  refine g_iret X rfl rfl (by first | rfl | exact bI_nar _ | decide) (Nat.le_of_ble_eq_true rfl) (Nat.le_of_ble_eq_true rfl) ⟨rfl, ?_⟩
  exact ⟨rfl, rfl⟩
set_option maxRecDepth 100000 in
set_option maxHeartbeats 400000 in
theorem cm_X7_save (l : Launch) (D : va_G) (cy : Nat → ClassId) (B : Nat) (od : Nat → Option Nat) {A : AH} {W : LW} (hW : LedA cy A W) : CM l D cy B od yX7_save cX7_save 1 (some .int) rmX7_save [.ref 0] A (fun v A' => v = some (.int (nI (vS W.1).1.1)) ∧ SameOff A A' 0 231 ∧ ∃ S2 : StV, StE (vS W.1) S2 ∧ LedA cy A' ((W.1.1, W.1.2.1, nI 1, W.1.2.2.2), W.2.1, S2, W.2.2.2)) := by
  intro z
  refine CT.of (by decide) tX7_save okX7_save (Nat.le_of_ble_eq_true rfl) (q0 := tX7_save[0]) rfl rfl ?_
  intro p e s m args below meth c X _
  obtain ⟨hV, hwb, ⟨Rm, hRm, hRn⟩, ⟨hb, hbl⟩, ⟨hv9, hvw, hvb⟩, ⟨hH9, hHw⟩, ⟨fb, hbal⟩, hrd⟩ := id hW
  obtain ⟨hL, hs9, hw, hS9, hsn⟩ := id hV
  obtain ⟨hS, hS0, hS1⟩ := id hS9
  obtain ⟨hs, hE9, hR9, hA9, hp⟩ := id hs9
  obtain ⟨hE, hE0, hE1, hE2, hE3, hE4, hE5, hE6⟩ := id hE9
  obtain ⟨hR, hR0, hR1, hR2⟩ := id hR9
  obtain ⟨hA, hA0, hA1, hA2, hA3, hA4, hA5⟩ := id hA9
  obtain ⟨w1, w2, w3, w4, w5⟩ := id hw
  have hH8 := id hH9
  obtain ⟨hh, ⟨fh, hhr, hhf⟩, hhk⟩ := hH8
  refine g_aload_n X rfl rfl ?_
  refine g_get X rfl flX7_34 (ci := 7) rfl (by (repeat (first | exact hL | exact upA_eq | refine (upA_ne (by omega)).trans ?_ | refine (f1 _ (by omega)).trans ?_))) rfl ?_
  refine g_aload_n X rfl rfl ?_
  refine g_get X rfl flX7_30 (ci := 7) rfl (by (repeat (first | exact hL | exact upA_eq | refine (upA_ne (by omega)).trans ?_ | refine (f1 _ (by omega)).trans ?_))) rfl ?_
  refine g_mVN X rfl lcX6_copyFrom lnX7_209 lsX6_copyFrom (cm_X6_copyFrom l D cy B od hv9 hs9 hw hwb (by omega)) (ci := 6) (by (repeat (first | exact hv9.1 | exact upA_eq | refine (upA_ne (by omega)).trans ?_ | refine (f1 _ (by omega)).trans ?_))) rfl rfl rfl (Nat.le_of_ble_eq_true rfl) ⟨⟨by decide, by decide⟩, rfl, rfl⟩ ⟨Nat.le_of_ble_eq_true rfl, Nat.le_of_ble_eq_true rfl⟩ (fun v1 A1 q1 => ?_)
  obtain ⟨rfl, f1, S2, E2, e2⟩ := q1
  have hW2 := hW.upSav (f1.wide (by omega) (by omega)) E2 (e2.wf hw) (e2.wb hwb)
  refine g_aload_n X rfl rfl ?_
  refine g_iconst X rfl (v := nI 1) (by decide) ?_
  refine g_put X rfl flX7_92 rfl (ci := 7) rfl (by (repeat (first | exact hL | exact upA_eq | refine (upA_ne (by omega)).trans ?_ | refine (f1 _ (by omega)).trans ?_))) (Nat.le_of_ble_eq_true rfl) (show narrow .boolean (.int (nI 1)) = .int (nI 1) from by decide) (by first | rfl | decide) ?_
  refine g_aload_n X rfl rfl ?_
  refine g_get X rfl flX7_30 (ci := 7) rfl (by (repeat (first | exact hL | exact upA_eq | refine (upA_ne (by omega)).trans ?_ | refine (f1 _ (by omega)).trans ?_))) rfl ?_
  refine g_get X rfl flX7_110 (ci := 6) rfl (by (repeat (first | exact hs | exact upA_eq | refine (upA_ne (by omega)).trans ?_ | refine (f1 _ (by omega)).trans ?_))) rfl ?_
  refine g_get X rfl flX7_114 (ci := 1) rfl (by (repeat (first | exact hE | exact upA_eq | refine (upA_ne (by omega)).trans ?_ | refine (f1 _ (by omega)).trans ?_))) rfl ?_
  refine g_iret X rfl rfl (by first | rfl | exact bI_nar _ | decide) (Nat.le_of_ble_eq_true rfl) (Nat.le_of_ble_eq_true rfl) ⟨rfl, ?_⟩
  exact ⟨rfl, ((f1.wide (by omega) (by omega)).up (by omega) (by omega)), S2, e2, hW2.upObj hbl⟩
def ocRest (W : LW) : OC := if W.1.2.2.1 = 0 then .inl eISE else .inr (.int (nI W.2.2.1.1.1))
set_option maxRecDepth 100000 in
set_option maxHeartbeats 400000 in
theorem cp_X7_restore (l : Launch) (D : va_G) (cy : Nat → ClassId) (B : Nat) (od : Nat → Option Nat) (hl9 : l.stackTraces = false) {A : AH} {W : LW} (hW : LedA cy A W)  : CP l D cy B od yX7_restore cX7_restore 1 (some .int) rmX7_restore [.ref 0] A (ocRest W) (fun A' => SameOff A A' 0 231 ∧ ∃ S2 : StV, StE W.2.2.1 S2 ∧ LedA cy A' (vNow W.1 S2, W.2.1, W.2.2.1, (0, 0, W.2.2.2.2.2))) (fun A' => A' = A) := by
  intro z
  refine CX.of (by decide) tX7_restore okX7_restore (Nat.le_of_ble_eq_true rfl) (q0 := tX7_restore[0]) rfl rfl ?_
  intro p e s m args below meth c X hnt
  obtain ⟨hV, hwb, ⟨Rm, hRm, hRn⟩, ⟨hb, hbl⟩, ⟨hv9, hvw, hvb⟩, ⟨hH9, hHw⟩, ⟨fb, hbal⟩, hrd⟩ := id hW
  obtain ⟨hL, hs9, hw, hS9, hsn⟩ := id hV
  obtain ⟨hS, hS0, hS1⟩ := id hS9
  obtain ⟨hs, hE9, hR9, hA9, hp⟩ := id hs9
  obtain ⟨hE, hE0, hE1, hE2, hE3, hE4, hE5, hE6⟩ := id hE9
  obtain ⟨hR, hR0, hR1, hR2⟩ := id hR9
  obtain ⟨hA, hA0, hA1, hA2, hA3, hA4, hA5⟩ := id hA9
  obtain ⟨w1, w2, w3, w4, w5⟩ := id hw
  have hH8 := id hH9
  obtain ⟨hh, ⟨fh, hhr, hhf⟩, hhk⟩ := hH8
  refine g_aload_n X rfl rfl ?_
  refine g_get X rfl flX7_92 (ci := 7) rfl (by (repeat (first | exact hL | exact upA_eq | refine (upA_ne (by omega)).trans ?_ | refine (f2 _ (by omega)).trans ?_ | refine (f1 _ (by omega)).trans ?_))) rfl ?_
  refine g_req X hnt rfl lcX7_requireState lmX7_66 stX7_requireState (cq_X7_requireState l D cy B od hl9) rfl rfl (Nat.le_of_ble_eq_true rfl) ⟨by decide, by decide⟩ ⟨Nat.le_of_ble_eq_true rfl, Nat.le_of_ble_eq_true rfl⟩ (Nat.le_of_ble_eq_true rfl) (Nat.le_of_ble_eq_true rfl) (fun h1 => ?_) (fun h1 => ?_)
  · exact ⟨by first | (simp_all [ocRest, nI_eq, bI_0, bI_n0]; done) | (simp_all [ocRest, nI_eq, bI_0, bI_n0, nI_0, n10]; done) | (simp_all [ocRest, nI_eq, bI_0, bI_n0, nI_0, n10, ← Int32.not_le]; done) | (simp_all [ocRest, nI_eq, bI_0, bI_n0, ← Int64.not_le]; done) | (simp_all [ocRest, nI_eq, bI_0, bI_n0, nI_0, n10, ← Int64.not_le, ← Int32.not_le]; done), rfl⟩
  have hoc : (ocRest W) = .inr (.int (nI W.2.2.1.1.1)) := by first | (simp_all [ocRest, nI_eq, bI_0, bI_n0]; done) | (simp_all [ocRest, nI_eq, bI_0, bI_n0, nI_0, n10]; done) | (simp_all [ocRest, nI_eq, bI_0, bI_n0, nI_0, n10, ← Int32.not_le]; done) | (simp_all [ocRest, nI_eq, bI_0, bI_n0, ← Int64.not_le]; done) | (simp_all [ocRest, nI_eq, bI_0, bI_n0, nI_0, n10, ← Int64.not_le, ← Int32.not_le]; done)
  refine g_aload_n X rfl rfl ?_
  refine g_get X rfl flX7_30 (ci := 7) rfl (by (repeat (first | exact hL | exact upA_eq | refine (upA_ne (by omega)).trans ?_ | refine (f2 _ (by omega)).trans ?_ | refine (f1 _ (by omega)).trans ?_))) rfl ?_
  refine g_aload_n X rfl rfl ?_
  refine g_get X rfl flX7_34 (ci := 7) rfl (by (repeat (first | exact hL | exact upA_eq | refine (upA_ne (by omega)).trans ?_ | refine (f2 _ (by omega)).trans ?_ | refine (f1 _ (by omega)).trans ?_))) rfl ?_
  refine g_mVN X rfl lcX6_copyFrom lnX7_209 lsX6_copyFrom (cm_X6_copyFrom l D cy B od hs9 hv9 hvw hvb (by omega)) (ci := 6) (by (repeat (first | exact hs | exact upA_eq | refine (upA_ne (by omega)).trans ?_ | refine (f2 _ (by omega)).trans ?_ | refine (f1 _ (by omega)).trans ?_))) rfl rfl rfl (Nat.le_of_ble_eq_true rfl) ⟨⟨by decide, by decide⟩, rfl, rfl⟩ ⟨Nat.le_of_ble_eq_true rfl, Nat.le_of_ble_eq_true rfl⟩ (fun v2 A2 q2 => ?_)
  obtain ⟨rfl, f1, S2, E2, e2⟩ := q2
  have hW2 := hW.upNow (f1.wide (by omega) (by omega)) E2 (e2.wf hvw) (e2.wb hvb)
  obtain ⟨hs, hE9, hR9, hA9, hp⟩ := id E2
  obtain ⟨hE, hE0, hE1, hE2, hE3, hE4, hE5, hE6⟩ := id hE9
  refine g_aload_n X rfl rfl ?_
  refine g_get X rfl flX7_40 (ci := 7) rfl (by (repeat (first | exact hL | exact upA_eq | refine (upA_ne (by omega)).trans ?_ | refine (f2 _ (by omega)).trans ?_ | refine (f1 _ (by omega)).trans ?_))) rfl ?_
  refine g_mVN X rfl lcX2_clear lnX7_89 lsX2_clear (cm_X2_clear l D cy B od (hH9.same (f1.on (by omega)))) (ci := 2) (by (repeat (first | exact hh | exact upA_eq | refine (upA_ne (by omega)).trans ?_ | refine (f2 _ (by omega)).trans ?_ | refine (f1 _ (by omega)).trans ?_))) rfl rfl rfl (Nat.le_of_ble_eq_true rfl) ⟨⟨by decide, by decide⟩, rfl, rfl⟩ ⟨Nat.le_of_ble_eq_true rfl, Nat.le_of_ble_eq_true rfl⟩ (fun v3 A3 q3 => ?_)
  obtain ⟨rfl, f2, H2⟩ := q3
  have hW3 := hW2.upHis (f2.wide (by omega) (by omega)) H2 ⟨Nat.le_of_ble_eq_true rfl, Nat.le_of_ble_eq_true rfl, hHw.2.2⟩
  refine g_aload_n X rfl rfl ?_
  refine g_get X rfl flX7_30 (ci := 7) rfl (by (repeat (first | exact hL | exact upA_eq | refine (upA_ne (by omega)).trans ?_ | refine (f2 _ (by omega)).trans ?_ | refine (f1 _ (by omega)).trans ?_))) rfl ?_
  refine g_get X rfl flX7_110 (ci := 6) rfl (by (repeat (first | exact hs | exact upA_eq | refine (upA_ne (by omega)).trans ?_ | refine (f2 _ (by omega)).trans ?_ | refine (f1 _ (by omega)).trans ?_))) rfl ?_
  refine g_get X rfl flX7_114 (ci := 1) rfl (by (repeat (first | exact hE | exact upA_eq | refine (upA_ne (by omega)).trans ?_ | refine (f2 _ (by omega)).trans ?_ | refine (f1 _ (by omega)).trans ?_))) rfl ?_
  refine g_iret X rfl rfl (by first | rfl | exact bI_nar _ | decide) (Nat.le_of_ble_eq_true rfl) (Nat.le_of_ble_eq_true rfl) ⟨_, ?_, rfl, rfl, ?_⟩
  · rw [hoc, ← e2.1]
  · exact ⟨(f1.wide (by omega) (by omega)).trans (f2.wide (by omega) (by omega)), S2, e2, hW3⟩
