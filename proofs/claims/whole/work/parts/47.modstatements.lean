/-! 47: the reference: statements and whole texts -/
set_option maxRecDepth 100000 in
set_option maxHeartbeats 400000 in
theorem cm_X8_roomStatement (l : Launch) (D : va_G) (cy : Nat → ClassId) (B : Nat) (od : Nat → Option Nat) {A : AH} {th : Int32} {len en : Nat} {td sv : Int32} {mb tx rr : Nat → Int32} {u : PS} (hS : MS cy A th len (-1) en sv mb tx u.1 td rr) (hT : TdC td u.2.1) (hC : RdC rr u.2.2.1 u.2.2.2) (hg : RgP u.2.2.1 u.2.2.2)  : CM l D cy B od yX8_roomStatement cX8_roomStatement 2 none rmX8_roomStatement [.ref 231] A (fun v A' => v = none ∧ MFr A A' ∧ RES cy A' th len en sv mb tx (rdRoom tx len u)) := by
  intro z
  refine CT.of (by decide) tX8_roomStatement okX8_roomStatement (Nat.le_of_ble_eq_true rfl) (q0 := tX8_roomStatement[0]) rfl rfl ?_
  intro p e s m args below meth c X _
  obtain ⟨num, hM, hX, hrd, hT3, hNk⟩ := id hS
  have hT1 := hT3.1.1
  have hT2 := hT3.1.2
  obtain ⟨hb, hlen, hal, hpos⟩ := id hX
  obtain ⟨c0, ⟨c1, c2, c3, c4, c5⟩, cb, ⟨c16, cr⟩, -⟩ := id hC
  obtain ⟨hg1, hgz, hz5, hr6⟩ := id hg
  have c16 : rr 16 = nI u.2.2.2.1 := c16
  refine g_aload_n X rfl rfl ?_
  refine g_get X rfl flX8_13 (ci := 8) rfl (by (repeat (first | exact hM | exact upA_eq | refine (upA_ne (by omega)).trans ?_))) rfl ?_
  refine g_bipush X rfl (v := nI 16) (by decide) ?_
  refine g_ialdN X rfl (by (repeat (first | exact hrd | exact upA_eq | refine (upA_ne (by omega)).trans ?_))) (by omega) (by decide) ?_
  rw [c16]
  refine g_bipush X rfl (v := nI 6) (by decide) ?_
  first | refine g_ic_neN X rfl (by omega) (by omega) (fun h1 => ?_) (fun h1 => ?_) | refine g_icmp_ne X rfl (fun h1 => ?_) (fun h1 => ?_)
  · refine g_aload_n X rfl rfl ?_
    refine g_mV X rfl lcX8_step lmX8_115 lsX8_step (cm_X8_step l D cy B od (nm := u.1.2.2.2) hM hX hT3.1.1) (ci := 8) (by (repeat (first | exact hM | exact upA_eq | refine (upA_ne (by omega)).trans ?_))) rfl rfl rfl (Nat.le_of_ble_eq_true rfl) ⟨⟨by decide, by decide⟩, rfl, rfl⟩ ⟨Nat.le_of_ble_eq_true rfl, Nat.le_of_ble_eq_true rfl⟩ (fun v2 A2 q2 => ?_)
    obtain ⟨rfl, n9, tk9, hn9, e9, rfl⟩ := q2
    have hS1 := hS.step e9 hn9
    have hF1 := (MFr.refl A).m (x := mP th len (nI tk9.1) (nI tk9.2.2.1) tk9.2.1 (-1) n9 en td sv)
    obtain ⟨num1, hM, hX, hrd, hT3, hNk⟩ := id hS1
    have hT1 := hT3.1.1
    have hT2 := hT3.1.2
    refine g_bipush X rfl (v := nI 17) (by decide) ?_
    refine g_iconst X rfl (v := nI 3) (by decide) ?_
    refine g_aload_n X rfl rfl ?_
    refine g_get X rfl flX8_13 (ci := 8) rfl (by (repeat (first | exact hM | exact upA_eq | refine (upA_ne (by omega)).trans ?_))) rfl ?_
    refine g_bipush X rfl (v := nI 16) (by decide) ?_
    refine g_ialdN X rfl (by (repeat (first | exact hrd | exact upA_eq | refine (upA_ne (by omega)).trans ?_))) (by omega) (by decide) ?_
    rw [c16]
    refine g_imul X rfl ?_
    refine g_iadd X rfl ?_
    rw [pk_mul, nI_add]
    refine g_istore_n X rfl (by decide) ?_
    refine g_aload_n X rfl rfl ?_
    refine g_get X rfl flX8_13 (ci := 8) rfl (by (repeat (first | exact hM | exact upA_eq | refine (upA_ne (by omega)).trans ?_))) rfl ?_
    refine g_iload_n X rfl rfl ?_
    refine g_iconst X rfl (v := nI 0) (by decide) ?_
    refine g_iadd X rfl ?_
    rw [nI_add, Nat.add_zero]
    refine g_aload_n X rfl rfl ?_
    refine g_iconst X rfl (v := nI 1) (by decide) ?_
    refine g_sipush X rfl (v := nI 500) (by decide) ?_
    refine g_mV X rfl lcX8_takeNumber lmX8_124 lsX8_takeNumber (cm_X8_takeNumber l D cy B od hS1 (lo := nI 1) (by decide)) (ci := 8) (by (repeat (first | exact hM | exact upA_eq | refine (upA_ne (by omega)).trans ?_))) rfl rfl rfl (Nat.le_of_ble_eq_true rfl) ⟨⟨by decide, by decide⟩, rfl, rfl⟩ ⟨Nat.le_of_ble_eq_true rfl, Nat.le_of_ble_eq_true rfl⟩ (fun v3 A3 q3 => ?_)
    rcases q3 with ⟨hok, rfl, hF2, hS2⟩ | ⟨hok, rfl, hF2, hS2⟩
    · obtain ⟨num2, hM, hX, hrd, hT3, hNk⟩ := id hS2
      have hT1 := hT3.1.1
      have hT2 := hT3.1.2
      refine g_iastN X rfl (by (repeat (first | exact hrd | exact upA_eq | refine (upA_ne (by omega)).trans ?_))) (by omega) (by decide) ?_
      first | rw [upA_up] | skip
      refine g_aload_n X rfl rfl ?_
      refine g_get X rfl flX8_13 (ci := 8) rfl (by (repeat (first | exact hM | exact upA_eq | refine (upA_ne (by omega)).trans ?_))) rfl ?_
      refine g_iload_n X rfl rfl ?_
      refine g_iconst X rfl (v := nI 1) (by decide) ?_
      refine g_iadd X rfl ?_
      rw [nI_add]
      refine g_iconst X rfl (v := (-1)) (by decide) ?_
      refine g_iastN X rfl (by (repeat (first | exact hrd | exact upA_eq | refine (upA_ne (by omega)).trans ?_))) (by omega) (by decide) ?_
      first | rw [upA_up] | skip
      refine g_aload_n X rfl rfl ?_
      refine g_get X rfl flX8_13 (ci := 8) rfl (by (repeat (first | exact hM | exact upA_eq | refine (upA_ne (by omega)).trans ?_))) rfl ?_
      refine g_iload_n X rfl rfl ?_
      refine g_iconst X rfl (v := nI 2) (by decide) ?_
      refine g_iadd X rfl ?_
      rw [nI_add]
      refine g_iconst X rfl (v := (-1)) (by decide) ?_
      refine g_iastN X rfl (by (repeat (first | exact hrd | exact upA_eq | refine (upA_ne (by omega)).trans ?_))) (by omega) (by decide) ?_
      first | rw [upA_up] | skip
      have hS4 := hS2.r (rr2 := upd (upd (upd rr (17 + 3 * u.2.2.2.1) (tokN tx len u.1).2.2.2) (17 + 3 * u.2.2.2.1 + 1) (-1)) (17 + 3 * u.2.2.2.1 + 2) (-1))
      obtain ⟨num4, hM, hX, hrd, hT3, hNk⟩ := id hS4
      have hT1 := hT3.1.1
      have hT2 := hT3.1.2
      refine g_aload_n X rfl rfl ?_
      refine g_ldcS X rfl (j := 14) rfl ?_
      refine g_mV X rfl lcX8_isWord lmX8_130 lsX8_isWord (cm_X8_isWord l D cy B od hS4 (j := 14) (by decide)) (ci := 8) (by (repeat (first | exact hM | exact upA_eq | refine (upA_ne (by omega)).trans ?_))) rfl rfl rfl (Nat.le_of_ble_eq_true rfl) ⟨⟨by decide, by decide⟩, rfl, rfl⟩ ⟨Nat.le_of_ble_eq_true rfl, Nat.le_of_ble_eq_true rfl⟩ (fun v4 A4 q4 => ?_)
      obtain ⟨rfl, e8⟩ := q4
      have e8 := e8.symm
      subst e8
      rw [show decide ((-1 : Int32) < 0) = true by decide, Bool.true_and]
      first | refine g_if_eqB X rfl (fun h5 => ?_) (fun h5 => ?_) | refine g_if_eq X rfl (fun h5 => ?_) (fun h5 => ?_)
      · have hno : isW tx (tokN tx len (tokN tx len u.1)) 14 = false := h5
        refine g_aload_n X rfl rfl ?_
        refine g_get X rfl flX8_13 (ci := 8) rfl (by (repeat (first | exact hM | exact upA_eq | refine (upA_ne (by omega)).trans ?_))) rfl ?_
        refine g_bipush X rfl (v := nI 16) (by decide) ?_
        refine g_dup2 X rfl rfl rfl ?_
        refine g_ialdN X rfl upA_eq (by omega) (by decide) ?_
        rw [show (upd (upd (upd rr (17 + 3 * u.2.2.2.1) (tokN tx len u.1).2.2.2) (17 + 3 * u.2.2.2.1 + 1) (-1)) (17 + 3 * u.2.2.2.1 + 2) (-1)) 16 = nI u.2.2.2.1 by rw [pk_un (by omega), pk_un (by omega), pk_un (by omega), c16]]
        refine g_iconst X rfl (v := nI 1) (by decide) ?_
        refine g_iadd X rfl ?_
        rw [nI_add]
        refine g_iastN X rfl (by (repeat (first | exact hrd | exact upA_eq | refine (upA_ne (by omega)).trans ?_))) (by omega) (by decide) ?_
        first | rw [upA_up] | skip
        refine g_vret X rfl rfl (Nat.le_of_ble_eq_true rfl) (Nat.le_of_ble_eq_true rfl) ⟨rfl, ?_⟩
        exact ⟨rfl, (hF1.trans hF2).r, RES.good (s2 := (tokN tx len (tokN tx len u.1), u.2.1, u.2.2.1, rAdd u.2.2.2 (tokN tx len u.1).2.2.2 (-1) (-1))) (by rw [rdRoom, if_neg (show ¬ 6 ≤ u.2.2.2.1 by omega), if_neg (show ¬ tkV (tokN tx len u.1) (nI 1) (nI 500) = -1 by rw [tkV_t hok]; exact numOk_ne hok (by decide)), rdRo2, tkS_t hok, if_neg (show ¬ isW tx (tokN tx len (tokN tx len u.1)) 6 = true from by rw [Bool.not_eq_true]; exact hno), tkV_t hok]) hS2.r hT (hC.r (by omega) hz5 (by rw [pk_un (by omega), pk_un (by omega), pk_us]) (by rw [pk_un (by omega), pk_us]) pk_us (fun j h1 h2 h3 => by rw [pk_un h3, pk_un h2, pk_un h1])) (hg.r (by omega) (numOk_N (a := 1) (b := 500) hok (by decide) (by decide)) (Or.inl rfl))⟩
      · have hyes : isW tx (tokN tx len (tokN tx len u.1)) 14 = true := h5
        refine g_aload_n X rfl rfl ?_
        refine g_mV X rfl lcX8_step lmX8_115 lsX8_step (cm_X8_step l D cy B od (nm := (tokN tx len (tokN tx len u.1)).2.2.2) hM hX hT3.1.1) (ci := 8) (by (repeat (first | exact hM | exact upA_eq | refine (upA_ne (by omega)).trans ?_))) rfl rfl rfl (Nat.le_of_ble_eq_true rfl) ⟨⟨by decide, by decide⟩, rfl, rfl⟩ ⟨Nat.le_of_ble_eq_true rfl, Nat.le_of_ble_eq_true rfl⟩ (fun v6 A6 q6 => ?_)
        obtain ⟨rfl, n8, tk8, hn8, e8, rfl⟩ := q6
        have hS5 := hS4.step e8 hn8
        have hF5 := ((hF1.trans hF2).r (x := .inl (cy 0, 522, .inl (upd (upd (upd rr (17 + 3 * u.2.2.2.1) (tokN tx len u.1).2.2.2) (17 + 3 * u.2.2.2.1 + 1) (-1)) (17 + 3 * u.2.2.2.1 + 2) (-1))))).m (x := mP th len (nI tk8.1) (nI tk8.2.2.1) tk8.2.1 (-1) n8 en td sv)
        obtain ⟨num5, hM, hX, hrd, hT3, hNk⟩ := id hS5
        have hT1 := hT3.1.1
        have hT2 := hT3.1.2
        refine g_aload_n X rfl rfl ?_
        refine g_get X rfl flX8_13 (ci := 8) rfl (by (repeat (first | exact hM | exact upA_eq | refine (upA_ne (by omega)).trans ?_))) rfl ?_
        refine g_iload_n X rfl rfl ?_
        refine g_iconst X rfl (v := nI 1) (by decide) ?_
        refine g_iadd X rfl ?_
        rw [nI_add]
        refine g_aload_n X rfl rfl ?_
        refine g_iconst X rfl (v := nI 0) (by decide) ?_
        refine g_sipush X rfl (v := nI 359) (by decide) ?_
        refine g_mV X rfl lcX8_takeNumber lmX8_124 lsX8_takeNumber (cm_X8_takeNumber l D cy B od hS5 (lo := nI 0) (by decide)) (ci := 8) (by (repeat (first | exact hM | exact upA_eq | refine (upA_ne (by omega)).trans ?_))) rfl rfl rfl (Nat.le_of_ble_eq_true rfl) ⟨⟨by decide, by decide⟩, rfl, rfl⟩ ⟨Nat.le_of_ble_eq_true rfl, Nat.le_of_ble_eq_true rfl⟩ (fun v7 A7 q7 => ?_)
        rcases q7 with ⟨hok2, rfl, hF6, hS6⟩ | ⟨hok2, rfl, hF6, hS6⟩
        · obtain ⟨num6, hM, hX, hrd, hT3, hNk⟩ := id hS6
          have hT1 := hT3.1.1
          have hT2 := hT3.1.2
          refine g_iastN X rfl (by (repeat (first | exact hrd | exact upA_eq | refine (upA_ne (by omega)).trans ?_))) (by omega) (by decide) ?_
          first | rw [upA_up] | skip
          refine g_aload_n X rfl rfl ?_
          refine g_get X rfl flX8_13 (ci := 8) rfl (by (repeat (first | exact hM | exact upA_eq | refine (upA_ne (by omega)).trans ?_))) rfl ?_
          refine g_iload_n X rfl rfl ?_
          refine g_iconst X rfl (v := nI 2) (by decide) ?_
          refine g_iadd X rfl ?_
          rw [nI_add]
          refine g_aload_n X rfl rfl ?_
          refine g_aload_n X rfl rfl ?_
          refine g_get X rfl flX8_13 (ci := 8) rfl (by (repeat (first | exact hM | exact upA_eq | refine (upA_ne (by omega)).trans ?_))) rfl ?_
          refine g_iload_n X rfl rfl ?_
          refine g_iconst X rfl (v := nI 1) (by decide) ?_
          refine g_iadd X rfl ?_
          rw [nI_add]
          refine g_ialdN X rfl upA_eq (by omega) (by decide) ?_
          rw [pk_us]
          refine g_sipush X rfl (v := nI 359) (by decide) ?_
          refine g_mV X rfl lcX8_takeNumber lmX8_124 lsX8_takeNumber (cm_X8_takeNumber l D cy B od (hS6.r (rr2 := upd (upd (upd (upd rr (17 + 3 * u.2.2.2.1) (tokN tx len u.1).2.2.2) (17 + 3 * u.2.2.2.1 + 1) (-1)) (17 + 3 * u.2.2.2.1 + 2) (-1)) (17 + 3 * u.2.2.2.1 + 1) (tokN tx len (tokN tx len (tokN tx len u.1))).2.2.2)) (Int32.le_trans (by decide) (numOk_w hok2).1)) (ci := 8) (by (repeat (first | exact hM | exact upA_eq | refine (upA_ne (by omega)).trans ?_))) rfl rfl rfl (Nat.le_of_ble_eq_true rfl) ⟨⟨by decide, by decide⟩, rfl, rfl⟩ ⟨Nat.le_of_ble_eq_true rfl, Nat.le_of_ble_eq_true rfl⟩ (fun v8 A8 q8 => ?_)
          rcases q8 with ⟨hok3, rfl, hF8, hS8⟩ | ⟨hok3, rfl, hF8, hS8⟩
          · obtain ⟨num8, hM, hX, hrd, hT3, hNk⟩ := id hS8
            have hT1 := hT3.1.1
            have hT2 := hT3.1.2
            refine g_iastN X rfl (by (repeat (first | exact hrd | exact upA_eq | refine (upA_ne (by omega)).trans ?_))) (by omega) (by decide) ?_
            first | rw [upA_up] | skip
            refine g_aload_n X rfl rfl ?_
            refine g_get X rfl flX8_13 (ci := 8) rfl (by (repeat (first | exact hM | exact upA_eq | refine (upA_ne (by omega)).trans ?_))) rfl ?_
            refine g_bipush X rfl (v := nI 16) (by decide) ?_
            refine g_dup2 X rfl rfl rfl ?_
            refine g_ialdN X rfl upA_eq (by omega) (by decide) ?_
            rw [show (upd (upd (upd (upd (upd rr (17 + 3 * u.2.2.2.1) (tokN tx len u.1).2.2.2) (17 + 3 * u.2.2.2.1 + 1) (-1)) (17 + 3 * u.2.2.2.1 + 2) (-1)) (17 + 3 * u.2.2.2.1 + 1) (tokN tx len (tokN tx len (tokN tx len u.1))).2.2.2) (17 + 3 * u.2.2.2.1 + 2) (tokN tx len (tokN tx len (tokN tx len (tokN tx len u.1)))).2.2.2) 16 = nI u.2.2.2.1 by rw [pk_un (by omega), pk_un (by omega), pk_un (by omega), pk_un (by omega), pk_un (by omega), c16]]
            refine g_iconst X rfl (v := nI 1) (by decide) ?_
            refine g_iadd X rfl ?_
            rw [nI_add]
            refine g_iastN X rfl (by (repeat (first | exact hrd | exact upA_eq | refine (upA_ne (by omega)).trans ?_))) (by omega) (by decide) ?_
            first | rw [upA_up] | skip
            refine g_vret X rfl rfl (Nat.le_of_ble_eq_true rfl) (Nat.le_of_ble_eq_true rfl) ⟨rfl, ?_⟩
            obtain ⟨x9, -, hx2, hx3⟩ := numOk_N (a := 0) (b := 359) hok2 (by decide) (by decide)
            obtain ⟨y9, hy1, hy2, hy3⟩ := numOk_N (a := x9) (b := 359) (by rw [← hx3]; exact hok3) (by decide) hx2
            exact ⟨rfl, (((hF5.trans hF6).r).trans hF8).r, RES.good (s2 := (tokN tx len (tokN tx len (tokN tx len (tokN tx len (tokN tx len u.1)))), u.2.1, u.2.2.1, rAdd u.2.2.2 (tokN tx len u.1).2.2.2 (tokN tx len (tokN tx len (tokN tx len u.1))).2.2.2 (tokN tx len (tokN tx len (tokN tx len (tokN tx len u.1)))).2.2.2)) (by rw [rdRoom, if_neg (show ¬ 6 ≤ u.2.2.2.1 by omega), if_neg (show ¬ tkV (tokN tx len u.1) (nI 1) (nI 500) = -1 by rw [tkV_t hok]; exact numOk_ne hok (by decide)), rdRo2, tkS_t hok, if_pos (show isW tx (tokN tx len (tokN tx len u.1)) 6 = true from hyes), if_neg (show ¬ tkV (tokN tx len (tokN tx len (tokN tx len u.1))) (nI 0) (nI 359) = -1 by rw [tkV_t hok2]; exact numOk_ne hok2 (by decide)), rdRo3, tkV_t hok2, tkS_t hok2, if_neg (by rw [tkV_t hok3]; exact numOk_ne hok3 (Int32.le_trans (by decide) (numOk_w hok2).1)), tkV_t hok3, tkV_t hok, tkS_t hok3]) hS8.r hT (hC.r (by omega) hz5 (by rw [pk_un (by omega), pk_un (by omega), pk_un (by omega), pk_un (by omega), pk_us]) (by rw [pk_un (by omega), pk_us]) pk_us (fun j h1 h2 h3 => by rw [pk_un h3, pk_un h2, pk_un h3, pk_un h2, pk_un h1])) (hg.r (by omega) (numOk_N (a := 1) (b := 500) hok (by decide) (by decide)) (Or.inr ⟨x9, y9, hy1, hy2, hx3, hy3⟩))⟩
          · obtain ⟨num8, hM, hX, hrd, hT3, hNk⟩ := id hS8
            have hT1 := hT3.1.1
            have hT2 := hT3.1.2
            refine g_iastN X rfl (by (repeat (first | exact hrd | exact upA_eq | refine (upA_ne (by omega)).trans ?_))) (by omega) (by decide) ?_
            first | rw [upA_up] | skip
            refine g_aload_n X rfl rfl ?_
            refine g_get X rfl flX8_13 (ci := 8) rfl (by (repeat (first | exact hM | exact upA_eq | refine (upA_ne (by omega)).trans ?_))) rfl ?_
            refine g_bipush X rfl (v := nI 16) (by decide) ?_
            refine g_dup2 X rfl rfl rfl ?_
            refine g_ialdN X rfl upA_eq (by omega) (by decide) ?_
            refine g_iconst X rfl (v := nI 1) (by decide) ?_
            refine g_iadd X rfl ?_
            refine g_iastN X rfl (by (repeat (first | exact hrd | exact upA_eq | refine (upA_ne (by omega)).trans ?_))) (by omega) (by decide) ?_
            first | rw [upA_up] | skip
            refine g_vret X rfl rfl (Nat.le_of_ble_eq_true rfl) (Nat.le_of_ble_eq_true rfl) ⟨rfl, ?_⟩
            exact ⟨rfl, (((hF5.trans hF6).r).trans hF8).r, RES.bad (by rw [rdRoom, if_neg (show ¬ 6 ≤ u.2.2.2.1 by omega), if_neg (show ¬ tkV (tokN tx len u.1) (nI 1) (nI 500) = -1 by rw [tkV_t hok]; exact numOk_ne hok (by decide)), rdRo2, tkS_t hok, if_pos (show isW tx (tokN tx len (tokN tx len u.1)) 6 = true from hyes), if_neg (show ¬ tkV (tokN tx len (tokN tx len (tokN tx len u.1))) (nI 0) (nI 359) = -1 by rw [tkV_t hok2]; exact numOk_ne hok2 (by decide)), rdRo3, tkV_t hok2, tkS_t hok2, if_pos (tkV_f hok3)]) (by rw [rdRoom, if_neg (show ¬ 6 ≤ u.2.2.2.1 by omega), if_neg (show ¬ tkV (tokN tx len u.1) (nI 1) (nI 500) = -1 by rw [tkV_t hok]; exact numOk_ne hok (by decide)), rdRo2, tkS_t hok, if_pos (show isW tx (tokN tx len (tokN tx len u.1)) 6 = true from hyes), if_neg (show ¬ tkV (tokN tx len (tokN tx len (tokN tx len u.1))) (nI 0) (nI 359) = -1 by rw [tkV_t hok2]; exact numOk_ne hok2 (by decide)), rdRo3, tkV_t hok2, tkS_t hok2, if_pos (tkV_f hok3), tkS_f hok3]) hS8.r⟩
        · have hwb2 : ¬ nI (tokN tx len (tokN tx len (tokN tx len u.1))).2.2.1 < 0 := nI_pos (by omega)
          obtain ⟨num6, hM, hX, hrd, hT3, hNk⟩ := id hS6
          have hT1 := hT3.1.1
          have hT2 := hT3.1.2
          refine g_iastN X rfl (by (repeat (first | exact hrd | exact upA_eq | refine (upA_ne (by omega)).trans ?_))) (by omega) (by decide) ?_
          first | rw [upA_up] | skip
          refine g_aload_n X rfl rfl ?_
          refine g_get X rfl flX8_13 (ci := 8) rfl (by (repeat (first | exact hM | exact upA_eq | refine (upA_ne (by omega)).trans ?_))) rfl ?_
          refine g_iload_n X rfl rfl ?_
          refine g_iconst X rfl (v := nI 2) (by decide) ?_
          refine g_iadd X rfl ?_
          rw [nI_add]
          refine g_aload_n X rfl rfl ?_
          refine g_aload_n X rfl rfl ?_
          refine g_get X rfl flX8_13 (ci := 8) rfl (by (repeat (first | exact hM | exact upA_eq | refine (upA_ne (by omega)).trans ?_))) rfl ?_
          refine g_iload_n X rfl rfl ?_
          refine g_iconst X rfl (v := nI 1) (by decide) ?_
          refine g_iadd X rfl ?_
          rw [nI_add]
          refine g_ialdN X rfl upA_eq (by omega) (by decide) ?_
          rw [pk_us]
          refine g_sipush X rfl (v := nI 359) (by decide) ?_
          refine g_mV X rfl lcX8_takeNumber lmX8_124 lsX8_takeNumber (cm_X8_takeNumberB l D cy B od (hS6.r (rr2 := upd (upd (upd (upd rr (17 + 3 * u.2.2.2.1) (tokN tx len u.1).2.2.2) (17 + 3 * u.2.2.2.1 + 1) (-1)) (17 + 3 * u.2.2.2.1 + 2) (-1)) (17 + 3 * u.2.2.2.1 + 1) (nI 0))) hwb2) (ci := 8) (by (repeat (first | exact hM | exact upA_eq | refine (upA_ne (by omega)).trans ?_))) rfl rfl rfl (Nat.le_of_ble_eq_true rfl) ⟨⟨by decide, by decide⟩, rfl, rfl⟩ ⟨Nat.le_of_ble_eq_true rfl, Nat.le_of_ble_eq_true rfl⟩ (fun v9 A9 q9 => ?_)
          obtain ⟨rfl, e8⟩ := q9
          have e8 := e8.symm
          subst e8
          refine g_iastN X rfl (by (repeat (first | exact hrd | exact upA_eq | refine (upA_ne (by omega)).trans ?_))) (by omega) (by decide) ?_
          first | rw [upA_up] | skip
          refine g_aload_n X rfl rfl ?_
          refine g_get X rfl flX8_13 (ci := 8) rfl (by (repeat (first | exact hM | exact upA_eq | refine (upA_ne (by omega)).trans ?_))) rfl ?_
          refine g_bipush X rfl (v := nI 16) (by decide) ?_
          refine g_dup2 X rfl rfl rfl ?_
          refine g_ialdN X rfl upA_eq (by omega) (by decide) ?_
          refine g_iconst X rfl (v := nI 1) (by decide) ?_
          refine g_iadd X rfl ?_
          refine g_iastN X rfl (by (repeat (first | exact hrd | exact upA_eq | refine (upA_ne (by omega)).trans ?_))) (by omega) (by decide) ?_
          first | rw [upA_up] | skip
          refine g_vret X rfl rfl (Nat.le_of_ble_eq_true rfl) (Nat.le_of_ble_eq_true rfl) ⟨rfl, ?_⟩
          exact ⟨rfl, (hF5.trans hF6).r, RES.bad (by rw [rdRoom, if_neg (show ¬ 6 ≤ u.2.2.2.1 by omega), if_neg (show ¬ tkV (tokN tx len u.1) (nI 1) (nI 500) = -1 by rw [tkV_t hok]; exact numOk_ne hok (by decide)), rdRo2, tkS_t hok, if_pos (show isW tx (tokN tx len (tokN tx len u.1)) 6 = true from hyes), if_pos (tkV_f hok2)]) (by rw [rdRoom, if_neg (show ¬ 6 ≤ u.2.2.2.1 by omega), if_neg (show ¬ tkV (tokN tx len u.1) (nI 1) (nI 500) = -1 by rw [tkV_t hok]; exact numOk_ne hok (by decide)), rdRo2, tkS_t hok, if_pos (show isW tx (tokN tx len (tokN tx len u.1)) 6 = true from hyes), if_pos (tkV_f hok2), tkS_f hok2]) hS6.r⟩
    · have hwb : ¬ nI (tokN tx len u.1).2.2.1 < 0 := nI_pos (by omega)
      obtain ⟨num2, hM, hX, hrd, hT3, hNk⟩ := id hS2
      have hT1 := hT3.1.1
      have hT2 := hT3.1.2
      refine g_iastN X rfl (by (repeat (first | exact hrd | exact upA_eq | refine (upA_ne (by omega)).trans ?_))) (by omega) (by decide) ?_
      first | rw [upA_up] | skip
      refine g_aload_n X rfl rfl ?_
      refine g_get X rfl flX8_13 (ci := 8) rfl (by (repeat (first | exact hM | exact upA_eq | refine (upA_ne (by omega)).trans ?_))) rfl ?_
      refine g_iload_n X rfl rfl ?_
      refine g_iconst X rfl (v := nI 1) (by decide) ?_
      refine g_iadd X rfl ?_
      rw [nI_add]
      refine g_iconst X rfl (v := (-1)) (by decide) ?_
      refine g_iastN X rfl (by (repeat (first | exact hrd | exact upA_eq | refine (upA_ne (by omega)).trans ?_))) (by omega) (by decide) ?_
      first | rw [upA_up] | skip
      refine g_aload_n X rfl rfl ?_
      refine g_get X rfl flX8_13 (ci := 8) rfl (by (repeat (first | exact hM | exact upA_eq | refine (upA_ne (by omega)).trans ?_))) rfl ?_
      refine g_iload_n X rfl rfl ?_
      refine g_iconst X rfl (v := nI 2) (by decide) ?_
      refine g_iadd X rfl ?_
      rw [nI_add]
      refine g_iconst X rfl (v := (-1)) (by decide) ?_
      refine g_iastN X rfl (by (repeat (first | exact hrd | exact upA_eq | refine (upA_ne (by omega)).trans ?_))) (by omega) (by decide) ?_
      first | rw [upA_up] | skip
      have hS4 := hS2.r (rr2 := upd (upd (upd rr (17 + 3 * u.2.2.2.1) (nI 1)) (17 + 3 * u.2.2.2.1 + 1) (-1)) (17 + 3 * u.2.2.2.1 + 2) (-1))
      obtain ⟨num4, hM, hX, hrd, hT3, hNk⟩ := id hS4
      have hT1 := hT3.1.1
      have hT2 := hT3.1.2
      refine g_aload_n X rfl rfl ?_
      refine g_ldcS X rfl (j := 14) rfl ?_
      refine g_mV X rfl lcX8_isWord lmX8_130 lsX8_isWord (cm_X8_isWord l D cy B od hS4 (j := 14) (by decide)) (ci := 8) (by (repeat (first | exact hM | exact upA_eq | refine (upA_ne (by omega)).trans ?_))) rfl rfl rfl (Nat.le_of_ble_eq_true rfl) ⟨⟨by decide, by decide⟩, rfl, rfl⟩ ⟨Nat.le_of_ble_eq_true rfl, Nat.le_of_ble_eq_true rfl⟩ (fun v10 A10 q10 => ?_)
      obtain ⟨rfl, e8⟩ := q10
      have e8 := e8.symm
      subst e8
      rw [decide_eq_false hwb, Bool.false_and]
      first | refine g_if_eqB X rfl (fun h11 => ?_) (fun h11 => ?_) | refine g_if_eq X rfl (fun h11 => ?_) (fun h11 => ?_)
      · refine g_aload_n X rfl rfl ?_
        refine g_get X rfl flX8_13 (ci := 8) rfl (by (repeat (first | exact hM | exact upA_eq | refine (upA_ne (by omega)).trans ?_))) rfl ?_
        refine g_bipush X rfl (v := nI 16) (by decide) ?_
        refine g_dup2 X rfl rfl rfl ?_
        refine g_ialdN X rfl upA_eq (by omega) (by decide) ?_
        refine g_iconst X rfl (v := nI 1) (by decide) ?_
        refine g_iadd X rfl ?_
        refine g_iastN X rfl (by (repeat (first | exact hrd | exact upA_eq | refine (upA_ne (by omega)).trans ?_))) (by omega) (by decide) ?_
        first | rw [upA_up] | skip
        refine g_vret X rfl rfl (Nat.le_of_ble_eq_true rfl) (Nat.le_of_ble_eq_true rfl) ⟨rfl, ?_⟩
        exact ⟨rfl, (hF1.trans hF2).r, RES.bad (by rw [rdRoom, if_neg (show ¬ 6 ≤ u.2.2.2.1 by omega), if_pos (tkV_f hok)]) (by rw [rdRoom, if_neg (show ¬ 6 ≤ u.2.2.2.1 by omega), if_pos (tkV_f hok), tkS_f hok]) hS2.r⟩
      · exact absurd h11 (by decide)
  · refine g_aload_n X rfl rfl ?_
    refine g_mV X rfl lcX8_fail lmX8_112 lsX8_fail (cm_X8_fail l D cy B od (mb := mb) (tx := tx) hM rfl) (ci := 8) (by (repeat (first | exact hM | exact upA_eq | refine (upA_ne (by omega)).trans ?_))) rfl rfl rfl (Nat.le_of_ble_eq_true rfl) ⟨⟨by decide, by decide⟩, rfl, rfl⟩ ⟨Nat.le_of_ble_eq_true rfl, Nat.le_of_ble_eq_true rfl⟩ (fun v12 A12 q12 => ?_)
    obtain ⟨rfl, rfl⟩ := q12
    refine g_vret X rfl rfl (Nat.le_of_ble_eq_true rfl) (Nat.le_of_ble_eq_true rfl) ⟨rfl, ?_⟩
    exact ⟨rfl, (MFr.refl A).m, RES.bad (by rw [rdRoom, if_pos (show 6 ≤ u.2.2.2.1 by omega)]) (by rw [rdRoom, if_pos (show 6 ≤ u.2.2.2.1 by omega)]) (hS.m hT3 hNk)⟩
