/-! 35: the reference: rooms and assets -/
set_option maxRecDepth 100000 in
set_option maxHeartbeats 400000 in
theorem cr_X8_usedDays (l : Launch) (D : va_G) (cy : Nat → ClassId) (B : Nat) (od : Nat → Option Nat) {A : AH} {f : MF} {r : Nat → Int32} {Z : SV} {S : StV} (hm : MdR cy A f r Z S) (hg : Rng Z S) {k f0 t0 : Nat} (hk : k < S.2.1.1) (hf : f0 ≤ 400) (ht : t0 ≤ 400) : CR l D cy B od yX8_usedDays cX8_usedDays 6 (some .int) rmX8_usedDays [.ref 231, .int (nI k), .int (nI f0), .int (nI t0)] A (.int (rDays S.2.1 (nI f0) (nI t0) k)) := by
  intro z
  refine CT.of (by decide) tX8_usedDays okX8_usedDays (Nat.le_of_ble_eq_true rfl) (q0 := tX8_usedDays[0]) rfl rfl ?_
  intro p e s m args below meth c X _
  obtain ⟨hM, hn, hc, hw, hwb, hz⟩ := id hm
  obtain ⟨c0, ⟨c1, c2, c3, c4, c5⟩, cb, ⟨c16, cr⟩, ⟨c35, ce⟩, ⟨c456, ca⟩, c517, cp⟩ := id hc
  obtain ⟨w1, w2, w3, w4, w5⟩ := id hw
  refine g_aload_n X rfl rfl ?_
  refine g_iload_n X rfl rfl ?_
  refine g_iconst X rfl (v := nI 1) (by decide) ?_
  refine g_rV X rfl lcX8_roomPart lmX8_251 lsX8_roomPart (cr_X8_roomPart l D cy B od hm (by omega) (by omega)) (ci := 8) hM rfl rfl rfl (Nat.le_of_ble_eq_true rfl) ⟨⟨by decide, by decide⟩, rfl, rfl⟩ ⟨Nat.le_of_ble_eq_true rfl, Nat.le_of_ble_eq_true rfl⟩ ?_
  refine g_iconst X rfl (v := (-1)) (by decide) ?_
  refine g_icmp_ne X rfl (fun h1 => ?_) (fun h1 => ?_)
  · refine g_iload_n X rfl rfl ?_
    refine g_aload_n X rfl rfl ?_
    refine g_iload_n X rfl rfl ?_
    refine g_iconst X rfl (v := nI 1) (by decide) ?_
    refine g_rV X rfl lcX8_roomPart lmX8_251 lsX8_roomPart (cr_X8_roomPart l D cy B od hm (by omega) (by omega)) (ci := 8) hM rfl rfl rfl (Nat.le_of_ble_eq_true rfl) ⟨⟨by decide, by decide⟩, rfl, rfl⟩ ⟨Nat.le_of_ble_eq_true rfl, Nat.le_of_ble_eq_true rfl⟩ ?_
    refine g_m_max_i X rfl lmX8_254 (Nat.le_of_ble_eq_true rfl) ⟨by decide, by decide⟩ ⟨Nat.le_of_ble_eq_true rfl, Nat.le_of_ble_eq_true rfl⟩ ?_
    refine g_istore X rfl (by decide) ?_
    refine g_iload_n X rfl rfl ?_
    refine g_aload_n X rfl rfl ?_
    refine g_iload_n X rfl rfl ?_
    refine g_iconst X rfl (v := nI 2) (by decide) ?_
    refine g_rV X rfl lcX8_roomPart lmX8_251 lsX8_roomPart (cr_X8_roomPart l D cy B od hm (by omega) (by omega)) (ci := 8) hM rfl rfl rfl (Nat.le_of_ble_eq_true rfl) ⟨⟨by decide, by decide⟩, rfl, rfl⟩ ⟨Nat.le_of_ble_eq_true rfl, Nat.le_of_ble_eq_true rfl⟩ ?_
    refine g_m_min_i X rfl lmX8_257 (Nat.le_of_ble_eq_true rfl) ⟨by decide, by decide⟩ ⟨Nat.le_of_ble_eq_true rfl, Nat.le_of_ble_eq_true rfl⟩ ?_
    refine g_istore X rfl (by decide) ?_
    refine g_iconst X rfl (v := nI 0) (by decide) ?_
    refine g_iload X rfl rfl ?_
    refine g_iload X rfl rfl ?_
    refine g_isub X rfl ?_
    refine g_iconst X rfl (v := nI 1) (by decide) ?_
    refine g_iadd X rfl ?_
    refine g_m_max_i X rfl lmX8_254 (Nat.le_of_ble_eq_true rfl) ⟨by decide, by decide⟩ ⟨Nat.le_of_ble_eq_true rfl, Nat.le_of_ble_eq_true rfl⟩ ?_
    refine g_iret X rfl rfl (by first | rfl | exact bI_nar _ | decide) (Nat.le_refl _) (Nat.le_refl _) ⟨?_, rfl, rfl⟩
    first | (rw [rDays_no (by assumption)]) | (rcases (hg.2.1 k hk).2 with h9 | ⟨a, b, q1, q2, q3, q4⟩; exact absurd h9 (by assumption); rw [q3, q4, mxN (by omega) (by omega), mnN (by omega) (by omega), sub1, max0N (by omega) (by omega), rDays_N q3 q4 q2 (by omega) hf ht]; rfl)
  · refine g_iconst X rfl (v := nI 0) (by decide) ?_
    refine g_iret X rfl rfl (by first | rfl | exact bI_nar _ | decide) (Nat.le_refl _) (Nat.le_refl _) ⟨?_, rfl, rfl⟩
    first | (rw [rDays_no (by assumption)]) | (rcases (hg.2.1 k hk).2 with h9 | ⟨a, b, q1, q2, q3, q4⟩; exact absurd h9 (by assumption); rw [q3, q4, mxN (by omega) (by omega), mnN (by omega) (by omega), sub1, max0N (by omega) (by omega), rDays_N q3 q4 q2 (by omega) hf ht]; rfl)
set_option maxRecDepth 100000 in
set_option maxHeartbeats 400000 in
theorem lp_X8_shareAbove (l : Launch) (D : va_G) (cy : Nat → ClassId) (B : Nat) (od : Nat → Option Nat) {p : Program} {e : Env} {s : State} {m : MethodId} {args : Array Value} {below : List Frame} {meth : Method} {c : Code} {A : AH} {z : Nat} {f : MF} {r : Nat → Int32} {Z : SV} {S : StV} (hm : MdR cy A f r Z S) (hg : Rng Z S) {mo : Nat} (hmo : mo ≤ 11) (X : Cx p s m args meth c D cy B od cX8_shareAbove 4 tX8_shareAbove RX8 (some .int)) : ∀ (k i : Nat), 0 ≤ i → i ≤ S.2.1.1 → S.2.1.1 - i < k → G p l e rmX8_shareAbove s m args below meth c D B od 4 tX8_shareAbove (FinQ false D B od (fun v A' z' => v = some (.int (rUsed S.2.1 (nI mo))) ∧ A' = A ∧ z' = z) (fun _ _ => True) args s below 0 0) 0 0 A z 4 [some (.ref 231), some (.int (nI mo)), some (.int (sumI (fun i => S.2.1.2 0 i * rDays S.2.1 (nI mo * nI 30) (nI mo * nI 30 + nI 30 - nI 1) i) i)), some (.int (nI i))] [] := by
  obtain ⟨hM, hn, hc, hw, hwb, hz⟩ := id hm
  obtain ⟨c0, ⟨c1, c2, c3, c4, c5⟩, cb, ⟨c16, cr⟩, ⟨c35, ce⟩, ⟨c456, ca⟩, c517, cp⟩ := id hc
  obtain ⟨w1, w2, w3, w4, w5⟩ := id hw
  intro k
  induction k with
  | zero => intro i _ _ h; omega
  | succ k ih =>
    intro i hlo hi hk
    refine g_iload_n X rfl rfl ?_
    refine g_aload_n X rfl rfl ?_
    refine g_get X rfl flX8_16 (ci := 8) rfl hM rfl ?_
    refine g_bipush X rfl (v := nI 16) (by decide) ?_
    refine g_ialdN X rfl hn (by omega) (by decide) ?_
    rw [c16]
    first | refine g_ic_geN X rfl (by omega) (by omega) (fun h1 => ?_) (fun h1 => ?_) | refine g_icmp_ge X rfl (fun h1 => ?_) (fun h1 => ?_)
    · refine g_iload_n X rfl rfl ?_
      refine g_iret X rfl rfl (by first | rfl | exact bI_nar _ | decide) (Nat.le_refl _) (Nat.le_refl _) ⟨?_, rfl, rfl⟩
      rw [rUsed, show i = S.2.1.1 by omega]
    · refine g_iload_n X rfl rfl ?_
      refine g_aload_n X rfl rfl ?_
      refine g_iload_n X rfl rfl ?_
      refine g_iconst X rfl (v := nI 0) (by decide) ?_
      refine g_rV X rfl lcX8_roomPart lmX8_251 lsX8_roomPart (cr_X8_roomPart l D cy B od hm (by omega) (by omega)) (ci := 8) hM rfl rfl rfl (Nat.le_of_ble_eq_true rfl) ⟨⟨by decide, by decide⟩, rfl, rfl⟩ ⟨Nat.le_of_ble_eq_true rfl, Nat.le_of_ble_eq_true rfl⟩ ?_
      refine g_aload_n X rfl rfl ?_
      refine g_iload_n X rfl rfl ?_
      refine g_bipush X rfl (v := nI 30) (by decide) ?_
      refine g_iload_n X rfl rfl ?_
      refine g_imul X rfl ?_
      refine g_bipush X rfl (v := nI 30) (by decide) ?_
      refine g_iload_n X rfl rfl ?_
      refine g_imul X rfl ?_
      refine g_bipush X rfl (v := nI 30) (by decide) ?_
      refine g_iadd X rfl ?_
      refine g_iconst X rfl (v := nI 1) (by decide) ?_
      refine g_isub X rfl ?_
      rw [pk_mul 30 mo, nI_add (30 * mo) 30, pk_sub (a := 30 * mo + 30) (b := 1) (by omega)]
      refine g_rV X rfl lcX8_usedDays lmX8_221 lsX8_usedDays (cr_X8_usedDays l D cy B od hm hg (f0 := 30 * mo) (t0 := 30 * mo + 30 - 1) (by omega) (by omega) (by omega)) (ci := 8) hM rfl rfl rfl (Nat.le_of_ble_eq_true rfl) ⟨⟨by decide, by decide⟩, rfl, rfl⟩ ⟨Nat.le_of_ble_eq_true rfl, Nat.le_of_ble_eq_true rfl⟩ ?_
      rw [← (win mo).2, ← (win mo).1]
      refine g_imul X rfl ?_
      refine g_iadd X rfl ?_
      refine g_istore_n X rfl (by decide) ?_
      refine g_iinc1 X rfl rfl (by decide) ?_
      refine g_goto X rfl ?_
      exact ih (i + 1) (by omega) (by omega) (by omega)
set_option maxRecDepth 100000 in
set_option maxHeartbeats 400000 in
theorem cr_X8_shareAbove (l : Launch) (D : va_G) (cy : Nat → ClassId) (B : Nat) (od : Nat → Option Nat) {A : AH} {f : MF} {r : Nat → Int32} {Z : SV} {S : StV} (hm : MdR cy A f r Z S) (hg : Rng Z S) {mo : Nat} (hmo : mo ≤ 11) : CR l D cy B od yX8_shareAbove cX8_shareAbove 4 (some .int) rmX8_shareAbove [.ref 231, .int (nI mo)] A (.int (rUsed S.2.1 (nI mo))) := by
  intro z
  refine CT.of (by decide) tX8_shareAbove okX8_shareAbove (Nat.le_of_ble_eq_true rfl) (q0 := tX8_shareAbove[0]) rfl rfl ?_
  intro p e s m args below meth c X _
  obtain ⟨hM, hn, hc, hw, hwb, hz⟩ := id hm
  obtain ⟨c0, ⟨c1, c2, c3, c4, c5⟩, cb, ⟨c16, cr⟩, ⟨c35, ce⟩, ⟨c456, ca⟩, c517, cp⟩ := id hc
  obtain ⟨w1, w2, w3, w4, w5⟩ := id hw
  refine g_iconst X rfl (v := nI 0) (by decide) ?_
  refine g_istore_n X rfl (by decide) ?_
  refine g_iconst X rfl (v := nI 0) (by decide) ?_
  refine g_istore_n X rfl (by decide) ?_
  exact lp_X8_shareAbove l D cy B od hm hg hmo X (S.2.1.1 + 1) 0 (by omega) (by omega) (by omega)
set_option maxRecDepth 100000 in
set_option maxHeartbeats 400000 in
theorem lp_X8_shareBelow (l : Launch) (D : va_G) (cy : Nat → ClassId) (B : Nat) (od : Nat → Option Nat) {p : Program} {e : Env} {s : State} {m : MethodId} {args : Array Value} {below : List Frame} {meth : Method} {c : Code} {A : AH} {z : Nat} {f : MF} {r : Nat → Int32} {Z : SV} {S : StV} (hm : MdR cy A f r Z S) (hg : Rng Z S)  (X : Cx p s m args meth c D cy B od cX8_shareBelow 3 tX8_shareBelow RX8 (some .int)) : ∀ (k i : Nat), 0 ≤ i → i ≤ S.2.1.1 → S.2.1.1 - i < k → G p l e rmX8_shareBelow s m args below meth c D B od 3 tX8_shareBelow (FinQ false D B od (fun v A' z' => v = some (.int (if S.2.1.1 = 0 then nI 1 else rWhole S.2.1)) ∧ A' = A ∧ z' = z) (fun _ _ => True) args s below 0 0) 0 0 A z 4 [some (.ref 231), some (.int (sumI (S.2.1.2 0) i)), some (.int (nI i))] [] := by
  obtain ⟨hM, hn, hc, hw, hwb, hz⟩ := id hm
  obtain ⟨c0, ⟨c1, c2, c3, c4, c5⟩, cb, ⟨c16, cr⟩, ⟨c35, ce⟩, ⟨c456, ca⟩, c517, cp⟩ := id hc
  obtain ⟨w1, w2, w3, w4, w5⟩ := id hw
  intro k
  induction k with
  | zero => intro i _ _ h; omega
  | succ k ih =>
    intro i hlo hi hk
    refine g_iload_n X rfl rfl ?_
    refine g_aload_n X rfl rfl ?_
    refine g_get X rfl flX8_16 (ci := 8) rfl hM rfl ?_
    refine g_bipush X rfl (v := nI 16) (by decide) ?_
    refine g_ialdN X rfl hn (by omega) (by decide) ?_
    rw [c16]
    first | refine g_ic_geN X rfl (by omega) (by omega) (fun h1 => ?_) (fun h1 => ?_) | refine g_icmp_ge X rfl (fun h1 => ?_) (fun h1 => ?_)
    · refine g_iload_n X rfl rfl ?_
      refine g_if_ne X rfl (fun h2 => ?_) (fun h2 => ?_)
      · refine g_bipush X rfl (v := nI 30) (by decide) ?_
        refine g_iload_n X rfl rfl ?_
        refine g_imul X rfl ?_
        refine g_iret X rfl rfl (by first | rfl | exact bI_nar _ | decide) (Nat.le_refl _) (Nat.le_refl _) ⟨?_, rfl, rfl⟩
        (obtain ⟨w, g1, g2, g3, g4, g5, -⟩ := rooms_N hg hw; have hi9 : i = S.2.1.1 := (by omega); subst hi9; first | (rw [g4, nI_eq0 (by omega)] at h2; rw [if_pos (by omega)]) | (rw [g4, nI_eq0 (by omega)] at h2; rw [if_neg (fun q => h2 (g3 q)), g4, g5, pk_mul]))
      · refine g_iconst X rfl (v := nI 1) (by decide) ?_
        refine g_goto X rfl ?_
        refine g_iret X rfl rfl (by first | rfl | exact bI_nar _ | decide) (Nat.le_refl _) (Nat.le_refl _) ⟨?_, rfl, rfl⟩
        (obtain ⟨w, g1, g2, g3, g4, g5, -⟩ := rooms_N hg hw; have hi9 : i = S.2.1.1 := (by omega); subst hi9; first | (rw [g4, nI_eq0 (by omega)] at h2; rw [if_pos (by omega)]) | (rw [g4, nI_eq0 (by omega)] at h2; rw [if_neg (fun q => h2 (g3 q)), g4, g5, pk_mul]))
    · refine g_iload_n X rfl rfl ?_
      refine g_aload_n X rfl rfl ?_
      refine g_iload_n X rfl rfl ?_
      refine g_iconst X rfl (v := nI 0) (by decide) ?_
      refine g_rV X rfl lcX8_roomPart lmX8_251 lsX8_roomPart (cr_X8_roomPart l D cy B od hm (by omega) (by omega)) (ci := 8) hM rfl rfl rfl (Nat.le_of_ble_eq_true rfl) ⟨⟨by decide, by decide⟩, rfl, rfl⟩ ⟨Nat.le_of_ble_eq_true rfl, Nat.le_of_ble_eq_true rfl⟩ ?_
      refine g_iadd X rfl ?_
      refine g_istore_n X rfl (by decide) ?_
      refine g_iinc1 X rfl rfl (by decide) ?_
      refine g_goto X rfl ?_
      exact ih (i + 1) (by omega) (by omega) (by omega)
set_option maxRecDepth 100000 in
set_option maxHeartbeats 400000 in
theorem cr_X8_shareBelow (l : Launch) (D : va_G) (cy : Nat → ClassId) (B : Nat) (od : Nat → Option Nat) {A : AH} {f : MF} {r : Nat → Int32} {Z : SV} {S : StV} (hm : MdR cy A f r Z S) (hg : Rng Z S)  : CR l D cy B od yX8_shareBelow cX8_shareBelow 3 (some .int) rmX8_shareBelow [.ref 231] A (.int (if S.2.1.1 = 0 then nI 1 else rWhole S.2.1)) := by
  intro z
  refine CT.of (by decide) tX8_shareBelow okX8_shareBelow (Nat.le_of_ble_eq_true rfl) (q0 := tX8_shareBelow[0]) rfl rfl ?_
  intro p e s m args below meth c X _
  obtain ⟨hM, hn, hc, hw, hwb, hz⟩ := id hm
  obtain ⟨c0, ⟨c1, c2, c3, c4, c5⟩, cb, ⟨c16, cr⟩, ⟨c35, ce⟩, ⟨c456, ca⟩, c517, cp⟩ := id hc
  obtain ⟨w1, w2, w3, w4, w5⟩ := id hw
  refine g_iconst X rfl (v := nI 0) (by decide) ?_
  refine g_istore_n X rfl (by decide) ?_
  refine g_iconst X rfl (v := nI 0) (by decide) ?_
  refine g_istore_n X rfl (by decide) ?_
  exact lp_X8_shareBelow l D cy B od hm hg  X (S.2.1.1 + 1) 0 (by omega) (by omega) (by omega)
theorem below_ne {Z : SV} {S : StV} (hg : Rng Z S) (hw : WfS S) : ¬ (if S.2.1.1 = 0 then nI 1 else rWhole S.2.1).toInt64 = 0 := by
  obtain ⟨w, g1, g2, g3, g4, g5, -⟩ := rooms_N hg hw
  split
  · decide
  · rw [g5, nIl0 (by omega)]
    omega
theorem ded_eq {Z : SV} {S : StV} (hg : Rng Z S) (hw : WfS S) {am : Int32} {d : Nat} (hd : d ≤ 359) : am.toInt64 * (rUsed S.2.1 (nI (d / 30))).toInt64 / (if S.2.1.1 = 0 then nI 1 else rWhole S.2.1).toInt64 = sDed S.2.1 (nI 2) am (nI d) := by
  obtain ⟨w, g1, g2, g3, g4, g5, g6⟩ := rooms_N hg hw
  unfold sDed
  rw [if_neg (show ¬ nI 2 = nI 1 by decide), pk_div (a := d) (d := 30) (by omega) (by decide) (by decide)]
  by_cases h : S.2.1.1 = 0
  · rw [if_pos h, if_pos (Or.inr (by rw [g5, g3 h]; decide)), rUsed, h]
    show am.toInt64 * (nI 0).toInt64 / (nI 1).toInt64 = 0
    rw [show (nI 0).toInt64 = 0 by decide, Int64.mul_zero]
    decide
  · rw [if_neg h, if_neg]
    rw [g5, nIl0 (by omega)]
    rintro (q | q)
    · exact q rfl
    · omega
set_option maxRecDepth 100000 in
set_option maxHeartbeats 400000 in
theorem cr_X8_deducted (l : Launch) (D : va_G) (cy : Nat → ClassId) (B : Nat) (od : Nat → Option Nat) {A : AH} {f : MF} {r : Nat → Int32} {Z : SV} {S : StV} (hm : MdR cy A f r Z S) (hg : Rng Z S) {kd am : Int32} {d : Nat} (hd : d ≤ 359) : CR l D cy B od yX8_deducted cX8_deducted 4 (some .long) rmX8_deducted [.ref 231, .int kd, .int am, .int (nI d)] A (.long (sDed S.2.1 kd am (nI d))) := by
  intro z
  refine CT.of (by decide) tX8_deducted okX8_deducted (Nat.le_of_ble_eq_true rfl) (q0 := tX8_deducted[0]) rfl rfl ?_
  intro p e s m args below meth c X _
  obtain ⟨hM, hn, hc, hw, hwb, hz⟩ := id hm
  obtain ⟨c0, ⟨c1, c2, c3, c4, c5⟩, cb, ⟨c16, cr⟩, ⟨c35, ce⟩, ⟨c456, ca⟩, c517, cp⟩ := id hc
  obtain ⟨w1, w2, w3, w4, w5⟩ := id hw
  refine g_iload_n X rfl rfl ?_
  refine g_iconst X rfl (v := nI 1) (by decide) ?_
  refine g_icmp_ne X rfl (fun h1 => ?_) (fun h1 => ?_)
  · refine g_iload_n X rfl rfl ?_
    refine g_iconst X rfl (v := nI 2) (by decide) ?_
    refine g_icmp_ne X rfl (fun h2 => ?_) (fun h2 => ?_)
    · refine g_lconst X rfl (v := 0) (by decide) ?_
      refine g_lret X rfl rfl (Nat.le_refl _) (Nat.le_refl _) ⟨?_, rfl, rfl⟩
      first | (rw [show kd = nI 1 by assumption]; rfl) | (rw [show kd = nI 2 by assumption, ded_eq hg hw hd]) | (rw [sDed, if_neg (by assumption), if_pos (Or.inl (by assumption))])
    · refine g_iload_n X rfl rfl ?_
      refine g_i2l X rfl ?_
      refine g_aload_n X rfl rfl ?_
      refine g_iload_n X rfl rfl ?_
      refine g_bipush X rfl (v := nI 30) (by decide) ?_
      refine g_idiv X rfl (by decide) ?_
      rw [pk_div (by omega) (by decide) (by decide)]
      refine g_rV X rfl lcX8_shareAbove lmX8_259 lsX8_shareAbove (cr_X8_shareAbove l D cy B od hm hg (by omega)) (ci := 8) hM rfl rfl rfl (Nat.le_of_ble_eq_true rfl) ⟨⟨by decide, by decide⟩, rfl, rfl⟩ ⟨Nat.le_of_ble_eq_true rfl, Nat.le_of_ble_eq_true rfl⟩ ?_
      refine g_i2l X rfl ?_
      refine g_lmul X rfl ?_
      refine g_aload_n X rfl rfl ?_
      refine g_rV X rfl lcX8_shareBelow lmX8_262 lsX8_shareBelow (cr_X8_shareBelow l D cy B od hm hg) (ci := 8) hM rfl rfl rfl (Nat.le_of_ble_eq_true rfl) ⟨⟨by decide, by decide⟩, rfl, rfl⟩ ⟨Nat.le_of_ble_eq_true rfl, Nat.le_of_ble_eq_true rfl⟩ ?_
      refine g_i2l X rfl ?_
      refine g_ldiv X rfl (below_ne hg hw) ?_
      refine g_goto X rfl ?_
      refine g_lret X rfl rfl (Nat.le_refl _) (Nat.le_refl _) ⟨?_, rfl, rfl⟩
      first | (rw [show kd = nI 1 by assumption]; rfl) | (rw [show kd = nI 2 by assumption, ded_eq hg hw hd]) | (rw [sDed, if_neg (by assumption), if_pos (Or.inl (by assumption))])
  · refine g_iload_n X rfl rfl ?_
    refine g_i2l X rfl ?_
    refine g_lret X rfl rfl (Nat.le_refl _) (Nat.le_refl _) ⟨?_, rfl, rfl⟩
    first | (rw [show kd = nI 1 by assumption]; rfl) | (rw [show kd = nI 2 by assumption, ded_eq hg hw hd]) | (rw [sDed, if_neg (by assumption), if_pos (Or.inl (by assumption))])
def dOf (S : StV) (k : Nat) : Int64 := if eCnt S.1 k = true then sDed S.2.1 (S.1.2 0 k) (S.1.2 2 k) (S.1.2 4 k) else 0
set_option maxRecDepth 100000 in
set_option maxHeartbeats 400000 in
theorem cr_X8_deductedOf (l : Launch) (D : va_G) (cy : Nat → ClassId) (B : Nat) (od : Nat → Option Nat) {A : AH} {f : MF} {r : Nat → Int32} {Z : SV} {S : StV} (hm : MdR cy A f r Z S) (hg : Rng Z S) {k : Nat} (hk : k < S.1.1) : CR l D cy B od yX8_deductedOf cX8_deductedOf 2 (some .long) rmX8_deductedOf [.ref 231, .int (nI k)] A (.long (dOf S k)) := by
  intro z
  refine CT.of (by decide) tX8_deductedOf okX8_deductedOf (Nat.le_of_ble_eq_true rfl) (q0 := tX8_deductedOf[0]) rfl rfl ?_
  intro p e s m args below meth c X _
  obtain ⟨hM, hn, hc, hw, hwb, hz⟩ := id hm
  obtain ⟨c0, ⟨c1, c2, c3, c4, c5⟩, cb, ⟨c16, cr⟩, ⟨c35, ce⟩, ⟨c456, ca⟩, c517, cp⟩ := id hc
  obtain ⟨w1, w2, w3, w4, w5⟩ := id hw
  refine g_aload_n X rfl rfl ?_
  refine g_iload_n X rfl rfl ?_
  refine g_rV X rfl lcX8_counts lmX8_190 lsX8_counts (cr_X8_counts l D cy B od hm (by omega)) (ci := 8) hM rfl rfl rfl (Nat.le_of_ble_eq_true rfl) ⟨⟨by decide, by decide⟩, rfl, rfl⟩ ⟨Nat.le_of_ble_eq_true rfl, Nat.le_of_ble_eq_true rfl⟩ ?_
  first | refine g_if_eqB X rfl (fun h1 => ?_) (fun h1 => ?_) | refine g_if_eq X rfl (fun h1 => ?_) (fun h1 => ?_)
  · refine g_lconst X rfl (v := 0) (by decide) ?_
    refine g_lret X rfl rfl (Nat.le_refl _) (Nat.le_refl _) ⟨?_, rfl, rfl⟩
    first | (rw [dOf, if_pos (by assumption), hpd]) | (rw [dOf, if_neg (by rw [Bool.not_eq_true]; assumption)])
  · refine g_aload_n X rfl rfl ?_
    refine g_aload_n X rfl rfl ?_
    refine g_iload_n X rfl rfl ?_
    refine g_iconst X rfl (v := nI 0) (by decide) ?_
    refine g_rV X rfl lcX8_entryPart lmX8_184 lsX8_entryPart (cr_X8_entryPart l D cy B od hm (by omega) (by omega)) (ci := 8) hM rfl rfl rfl (Nat.le_of_ble_eq_true rfl) ⟨⟨by decide, by decide⟩, rfl, rfl⟩ ⟨Nat.le_of_ble_eq_true rfl, Nat.le_of_ble_eq_true rfl⟩ ?_
    refine g_aload_n X rfl rfl ?_
    refine g_iload_n X rfl rfl ?_
    refine g_iconst X rfl (v := nI 2) (by decide) ?_
    refine g_rV X rfl lcX8_entryPart lmX8_184 lsX8_entryPart (cr_X8_entryPart l D cy B od hm (by omega) (by omega)) (ci := 8) hM rfl rfl rfl (Nat.le_of_ble_eq_true rfl) ⟨⟨by decide, by decide⟩, rfl, rfl⟩ ⟨Nat.le_of_ble_eq_true rfl, Nat.le_of_ble_eq_true rfl⟩ ?_
    refine g_aload_n X rfl rfl ?_
    refine g_iload_n X rfl rfl ?_
    refine g_iconst X rfl (v := nI 4) (by decide) ?_
    refine g_rV X rfl lcX8_entryPart lmX8_184 lsX8_entryPart (cr_X8_entryPart l D cy B od hm (by omega) (by omega)) (ci := 8) hM rfl rfl rfl (Nat.le_of_ble_eq_true rfl) ⟨⟨by decide, by decide⟩, rfl, rfl⟩ ⟨Nat.le_of_ble_eq_true rfl, Nat.le_of_ble_eq_true rfl⟩ ?_
    obtain ⟨pd, hpd9, hpd⟩ : ∃ pd, pd ≤ 359 ∧ S.1.2 4 k = nI pd := by
      rcases (hg.1 k hk).2.2.2.2 with h9 | ⟨n, -, q1, q2⟩
      · simp_all [eCnt]
      · exact ⟨n, q1, q2⟩
    rw [hpd]
    refine g_rV X rfl lcX8_deducted lmX8_265 lsX8_deducted (cr_X8_deducted l D cy B od hm hg hpd9) (ci := 8) hM rfl rfl rfl (Nat.le_of_ble_eq_true rfl) ⟨⟨by decide, by decide⟩, rfl, rfl⟩ ⟨Nat.le_of_ble_eq_true rfl, Nat.le_of_ble_eq_true rfl⟩ ?_
    refine g_goto X rfl ?_
    refine g_lret X rfl rfl (Nat.le_refl _) (Nat.le_refl _) ⟨?_, rfl, rfl⟩
    first | (rw [dOf, if_pos (by assumption), hpd]) | (rw [dOf, if_neg (by rw [Bool.not_eq_true]; assumption)])
set_option maxRecDepth 100000 in
set_option maxHeartbeats 400000 in
theorem cr_X8_sortOf (l : Launch) (D : va_G) (cy : Nat → ClassId) (B : Nat) (od : Nat → Option Nat) {A : AH} {f : MF} {r : Nat → Int32} {Z : SV} {S : StV} (hm : MdR cy A f r Z S) (hg : Rng Z S) {k : Nat} (hk : k < S.2.2.1.1) : CR l D cy B od yX8_sortOf cX8_sortOf 3 (some .int) rmX8_sortOf [.ref 231, .int (nI k)] A (.int (S.2.2.1.2 3 k)) := by
  intro z
  refine CT.of (by decide) tX8_sortOf okX8_sortOf (Nat.le_of_ble_eq_true rfl) (q0 := tX8_sortOf[0]) rfl rfl ?_
  intro p e s m args below meth c X _
  obtain ⟨hM, hn, hc, hw, hwb, hz⟩ := id hm
  obtain ⟨c0, ⟨c1, c2, c3, c4, c5⟩, cb, ⟨c16, cr⟩, ⟨c35, ce⟩, ⟨c456, ca⟩, c517, cp⟩ := id hc
  obtain ⟨w1, w2, w3, w4, w5⟩ := id hw
  refine g_aload_n X rfl rfl ?_
  refine g_iload_n X rfl rfl ?_
  refine g_iconst X rfl (v := nI 0) (by decide) ?_
  refine g_rV X rfl lcX8_assetPart lmX8_229 lsX8_assetPart (cr_X8_assetPart l D cy B od hm (q := 0) (q2 := 0) (by omega) (by decide) rfl) (ci := 8) hM rfl rfl rfl (Nat.le_of_ble_eq_true rfl) ⟨⟨by decide, by decide⟩, rfl, rfl⟩ ⟨Nat.le_of_ble_eq_true rfl, Nat.le_of_ble_eq_true rfl⟩ ?_
  refine g_istore_n X rfl (by decide) ?_
  refine g_iload_n X rfl rfl ?_
  refine g_aload_n X rfl rfl ?_
  refine g_get X rfl flX8_16 (ci := 8) rfl hM rfl ?_
  refine g_iconst X rfl (v := nI 1) (by decide) ?_
  refine g_ialdN X rfl hn (by omega) (by decide) ?_
  rw [c1]
  refine g_icmp_gt X rfl (fun h1 => ?_) (fun h1 => ?_)
  · refine g_iload_n X rfl rfl ?_
    refine g_aload_n X rfl rfl ?_
    refine g_get X rfl flX8_16 (ci := 8) rfl hM rfl ?_
    refine g_iconst X rfl (v := nI 2) (by decide) ?_
    refine g_ialdN X rfl hn (by omega) (by decide) ?_
    rw [c2]
    refine g_icmp_gt X rfl (fun h2 => ?_) (fun h2 => ?_)
    · refine g_iconst X rfl (v := nI 2) (by decide) ?_
      refine g_iret X rfl rfl (by first | rfl | exact bI_nar _ | decide) (Nat.le_refl _) (Nat.le_refl _) ⟨?_, rfl, rfl⟩
      (rw [(hg.2.2.1 k hk).2.2.2.1, sSort]; first | rw [if_pos (Int32.not_lt.mp (by assumption))] | rw [if_neg (Int32.not_le.mpr (by assumption)), if_pos (Int32.not_lt.mp (by assumption))] | rw [if_neg (Int32.not_le.mpr (by assumption)), if_neg (Int32.not_le.mpr (by assumption))])
    · refine g_iconst X rfl (v := nI 1) (by decide) ?_
      refine g_goto X rfl ?_
      refine g_iret X rfl rfl (by first | rfl | exact bI_nar _ | decide) (Nat.le_refl _) (Nat.le_refl _) ⟨?_, rfl, rfl⟩
      (rw [(hg.2.2.1 k hk).2.2.2.1, sSort]; first | rw [if_pos (Int32.not_lt.mp (by assumption))] | rw [if_neg (Int32.not_le.mpr (by assumption)), if_pos (Int32.not_lt.mp (by assumption))] | rw [if_neg (Int32.not_le.mpr (by assumption)), if_neg (Int32.not_le.mpr (by assumption))])
  · refine g_iconst X rfl (v := nI 0) (by decide) ?_
    refine g_goto X rfl ?_
    refine g_iret X rfl rfl (by first | rfl | exact bI_nar _ | decide) (Nat.le_refl _) (Nat.le_refl _) ⟨?_, rfl, rfl⟩
    (rw [(hg.2.2.1 k hk).2.2.2.1, sSort]; first | rw [if_pos (Int32.not_lt.mp (by assumption))] | rw [if_neg (Int32.not_le.mpr (by assumption)), if_pos (Int32.not_lt.mp (by assumption))] | rw [if_neg (Int32.not_le.mpr (by assumption)), if_neg (Int32.not_le.mpr (by assumption))])
set_option maxRecDepth 100000 in
set_option maxHeartbeats 400000 in
theorem cr_X8_boughtIn (l : Launch) (D : va_G) (cy : Nat → ClassId) (B : Nat) (od : Nat → Option Nat) {A : AH} {f : MF} {r : Nat → Int32} {Z : SV} {S : StV} (hm : MdR cy A f r Z S) (hg : Rng Z S) {k : Nat} (hk : k < S.2.2.1.1) : CR l D cy B od yX8_boughtIn cX8_boughtIn 2 (some .int) rmX8_boughtIn [.ref 231, .int (nI k)] A (.int (S.2.2.1.2 1 k / nI 30)) := by
  intro z
  refine CT.of (by decide) tX8_boughtIn okX8_boughtIn (Nat.le_of_ble_eq_true rfl) (q0 := tX8_boughtIn[0]) rfl rfl ?_
  intro p e s m args below meth c X _
  obtain ⟨hM, hn, hc, hw, hwb, hz⟩ := id hm
  obtain ⟨c0, ⟨c1, c2, c3, c4, c5⟩, cb, ⟨c16, cr⟩, ⟨c35, ce⟩, ⟨c456, ca⟩, c517, cp⟩ := id hc
  obtain ⟨w1, w2, w3, w4, w5⟩ := id hw
  refine g_aload_n X rfl rfl ?_
  refine g_iload_n X rfl rfl ?_
  refine g_iconst X rfl (v := nI 1) (by decide) ?_
  refine g_rV X rfl lcX8_assetPart lmX8_229 lsX8_assetPart (cr_X8_assetPart l D cy B od hm (q := 1) (q2 := 1) (by omega) (by decide) rfl) (ci := 8) hM rfl rfl rfl (Nat.le_of_ble_eq_true rfl) ⟨⟨by decide, by decide⟩, rfl, rfl⟩ ⟨Nat.le_of_ble_eq_true rfl, Nat.le_of_ble_eq_true rfl⟩ ?_
  refine g_bipush X rfl (v := nI 30) (by decide) ?_
  refine g_idiv X rfl (by decide) ?_
  refine g_iret X rfl rfl (by first | rfl | exact bI_nar _ | decide) (Nat.le_refl _) (Nat.le_refl _) ⟨?_, rfl, rfl⟩
  rfl
set_option maxRecDepth 100000 in
set_option maxHeartbeats 400000 in
theorem cr_X8_soldIn (l : Launch) (D : va_G) (cy : Nat → ClassId) (B : Nat) (od : Nat → Option Nat) {A : AH} {f : MF} {r : Nat → Int32} {Z : SV} {S : StV} (hm : MdR cy A f r Z S) (hg : Rng Z S) {k : Nat} (hk : k < S.2.2.1.1) : CR l D cy B od yX8_soldIn cX8_soldIn 2 (some .int) rmX8_soldIn [.ref 231, .int (nI k)] A (.int (if S.2.2.1.2 4 k = -1 then nI 12 else S.2.2.1.2 4 k / nI 30)) := by
  intro z
  refine CT.of (by decide) tX8_soldIn okX8_soldIn (Nat.le_of_ble_eq_true rfl) (q0 := tX8_soldIn[0]) rfl rfl ?_
  intro p e s m args below meth c X _
  obtain ⟨hM, hn, hc, hw, hwb, hz⟩ := id hm
  obtain ⟨c0, ⟨c1, c2, c3, c4, c5⟩, cb, ⟨c16, cr⟩, ⟨c35, ce⟩, ⟨c456, ca⟩, c517, cp⟩ := id hc
  obtain ⟨w1, w2, w3, w4, w5⟩ := id hw
  refine g_aload_n X rfl rfl ?_
  refine g_iload_n X rfl rfl ?_
  refine g_rV X rfl lcX8_isSold lmX8_235 lsX8_isSold (cr_X8_isSold l D cy B od hm (by omega)) (ci := 8) hM rfl rfl rfl (Nat.le_of_ble_eq_true rfl) ⟨⟨by decide, by decide⟩, rfl, rfl⟩ ⟨Nat.le_of_ble_eq_true rfl, Nat.le_of_ble_eq_true rfl⟩ ?_
  first | refine g_if_eqB X rfl (fun h1 => ?_) (fun h1 => ?_) | refine g_if_eq X rfl (fun h1 => ?_) (fun h1 => ?_)
  · refine g_bipush X rfl (v := nI 12) (by decide) ?_
    refine g_iret X rfl rfl (by first | rfl | exact bI_nar _ | decide) (Nat.le_refl _) (Nat.le_refl _) ⟨?_, rfl, rfl⟩
    first | (have h9 : S.2.2.1.2 4 k = -1 := (by simpa using h1); rw [if_pos h9]; done) | (have h9 : ¬ S.2.2.1.2 4 k = -1 := (by simpa using h1); rw [if_neg h9]; done)
  · refine g_aload_n X rfl rfl ?_
    refine g_iload_n X rfl rfl ?_
    refine g_iconst X rfl (v := nI 3) (by decide) ?_
    refine g_rV X rfl lcX8_assetPart lmX8_229 lsX8_assetPart (cr_X8_assetPart l D cy B od hm (q := 3) (q2 := 4) (by omega) (by decide) rfl) (ci := 8) hM rfl rfl rfl (Nat.le_of_ble_eq_true rfl) ⟨⟨by decide, by decide⟩, rfl, rfl⟩ ⟨Nat.le_of_ble_eq_true rfl, Nat.le_of_ble_eq_true rfl⟩ ?_
    refine g_bipush X rfl (v := nI 30) (by decide) ?_
    refine g_idiv X rfl (by decide) ?_
    refine g_goto X rfl ?_
    refine g_iret X rfl rfl (by first | rfl | exact bI_nar _ | decide) (Nat.le_refl _) (Nat.le_refl _) ⟨?_, rfl, rfl⟩
    first | (have h9 : S.2.2.1.2 4 k = -1 := (by simpa using h1); rw [if_pos h9]; done) | (have h9 : ¬ S.2.2.1.2 4 k = -1 := (by simpa using h1); rw [if_neg h9]; done)
