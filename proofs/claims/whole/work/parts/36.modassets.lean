/-! 36: the reference: assets -/
/-- what is written off of an asset up to a month, in numbers -/
def wN (p b li s so m : Nat) : Nat := if s = 1 ∨ m < b then 0 else if s = 0 ∨ li ≤ m - b + 1 ∨ so ≤ m then p else p * (m - b + 1) / li
def AsN (As : RV) (k p d li s so : Nat) : Prop := 1 ≤ p ∧ p ≤ 5000000 ∧ d ≤ 359 ∧ 1 ≤ li ∧ li ≤ 120 ∧ s ≤ 2 ∧ so ≤ 12 ∧ As.2 0 k = nI p ∧ As.2 1 k = nI d ∧ As.2 2 k = nI li ∧ As.2 3 k = nI s ∧ (As.2 4 k = -1 ∧ so = 12 ∨ ∃ sd, sd ≤ 359 ∧ As.2 4 k = nI sd ∧ so = sd / 30)
theorem asset_N {Z : SV} {S : StV} (hg : Rng Z S) {k : Nat} (hk : k < S.2.2.1.1) : ∃ p d li s so, AsN S.2.2.1 k p d li s so := by
  obtain ⟨⟨p, a1, a2, a3⟩, ⟨d, -, b2, b3⟩, ⟨li, c1, c2, c3⟩, e1, e2⟩ := hg.2.2.1 k hk
  have hs : ∃ s, s ≤ 2 ∧ S.2.2.1.2 3 k = nI s := by
    rw [e1]; unfold sSort
    split
    · exact ⟨0, by decide, rfl⟩
    · split
      · exact ⟨1, by decide, rfl⟩
      · exact ⟨2, by decide, rfl⟩
  obtain ⟨s, s1, s2⟩ := hs
  rcases e2 with e2 | ⟨⟨sd, -, f2, f3⟩, -⟩
  · exact ⟨p, d, li, s, 12, a1, a2, b2, c1, c2, s1, by decide, a3, b3, c3, s2, Or.inl ⟨e2, rfl⟩⟩
  · exact ⟨p, d, li, s, sd / 30, a1, a2, b2, c1, c2, s1, by omega, a3, b3, c3, s2, Or.inr ⟨sd, f2, f3, rfl⟩⟩
theorem AsN.bo {As : RV} {k p d li s so : Nat} (h : AsN As k p d li s so) : As.2 1 k / nI 30 = nI (d / 30) := by
  obtain ⟨a1, a2, b2, c1, c2, s1, so1, a3, b3, c3, s2, e⟩ := h
  rw [b3, pk_div (by omega) (by decide) (by decide)]
theorem AsN.so9 {As : RV} {k p d li s so : Nat} (h : AsN As k p d li s so) : (if As.2 4 k = -1 then nI 12 else As.2 4 k / nI 30) = nI so := by
  obtain ⟨a1, a2, b2, c1, c2, s1, so1, a3, b3, c3, s2, e⟩ := h
  rcases e with ⟨e1, e2⟩ | ⟨sd, e1, e2, e3⟩
  · rw [if_pos e1, e2]
  · rw [e2, if_neg (nI_nm1 (by omega)), pk_div (by omega) (by decide) (by decide), e3]
theorem AsN.sb {As : RV} {k p d li s so : Nat} (h : AsN As k p d li s so) {m : Nat} (hm : m ≤ 11) : (aSoldBy As (nI m) k = true) = (so ≤ m) := by
  obtain ⟨a1, a2, b2, c1, c2, s1, so1, a3, b3, c3, s2, e⟩ := h
  unfold aSoldBy
  rcases e with ⟨e1, e2⟩ | ⟨sd, e1, e2, e3⟩
  · rw [e1, e2]
    apply propext
    constructor
    · intro q; simp at q
    · intro q; omega
  · rw [e2, pk_div (by omega) (by decide) (by decide), Bool.and_eq_true, decide_eq_true_eq, bne_iff_ne, nI_leI (by omega) (by omega), e3]
    exact propext ⟨fun q => q.2, fun q => ⟨nI_nm1 (by omega), q⟩⟩
theorem AsN.wu {As : RV} {k p d li s so : Nat} (h : AsN As k p d li s so) {m : Nat} (hm : m ≤ 11) : aWU As k (nI m) = nI (wN p (d / 30) li s so m) := by
  obtain ⟨a1, a2, b2, c1, c2, s1, so1, a3, b3, c3, s2, e⟩ := id h
  unfold aWU wN
  rw [h.bo, s2, a3, c3, sub1]
  have q1 : (nI s = nI 1) = (s = 1) := propext (nI_eq (by omega) (by decide))
  have q0 : (nI s = 0) = (s = 0) := propext (nI_eq0 (by omega))
  have q2 : (nI (m + 1) - nI (d / 30) < nI 1) = (m < d / 30) := propext (by rw [Int32.lt_iff_toInt_lt, pk_sub_toInt (by omega) (by omega), nI_toInt (by decide)]; omega)
  simp only [h.sb hm, q1, q2, q0]
  by_cases h1 : s = 1 ∨ m < d / 30
  · rw [if_pos h1, if_pos h1]
  · have hb : p * (m - d / 30 + 1) ≤ 5000000 * 12 := Nat.mul_le_mul a2 (by omega)
    have q3 : (nI li ≤ nI (m - d / 30 + 1)) = (li ≤ m - d / 30 + 1) := propext (nI_leI (by omega) (by omega))
    rw [if_neg h1, if_neg h1, pk_sub (by omega), show m + 1 - d / 30 = m - d / 30 + 1 by omega, pk_mul, pk_div (by omega) (by omega) (by omega)]
    simp only [q3]
    split <;> rfl
theorem AsN.wm {As : RV} {k p d li s so : Nat} (h : AsN As k p d li s so) : aWU As k (nI 0 - nI 1) = nI 0 := by
  unfold aWU
  obtain ⟨a1, a2, b2, c1, c2, s1, so1, a3, b3, c3, s2, e⟩ := id h
  rw [h.bo, if_pos (Or.inr ?_)]
  rw [show nI 0 - nI 1 - nI (d / 30) + nI 1 = nI 0 - nI (d / 30) by grind, Int32.lt_iff_toInt_lt, pk_sub_toInt (by omega) (by omega), nI_toInt (by decide)]
  omega
theorem aWU_1 {As : RV} {k : Nat} {mo : Int32} (h : As.2 3 k = nI 1) : aWU As k mo = nI 0 := by rw [aWU, if_pos (Or.inl h)]
theorem wN_le {p b li s so m : Nat} (hl : 1 ≤ li) : wN p b li s so m ≤ p := by
  unfold wN
  split
  · exact Nat.zero_le _
  · split
    · exact Nat.le_refl _
    · refine Nat.div_le_of_le_mul ?_
      rw [Nat.mul_comm li p]
      exact Nat.mul_le_mul_left _ (by omega)
theorem AsN.val {As : RV} {k p d li s so : Nat} (h : AsN As k p d li s so) {m : Nat} (hm : m ≤ 11) : aVal As k (nI m) = if s = 1 ∨ m < d / 30 ∨ so ≤ m then nI 0 else nI p - aWU As k (nI m) := by
  obtain ⟨a1, a2, b2, c1, c2, s1, so1, a3, b3, c3, s2, e⟩ := id h
  unfold aVal
  rw [h.bo, s2, a3]
  simp only [h.sb hm, show (nI s = nI 1) = (s = 1) from propext (nI_eq (by omega) (by decide)), show (nI m < nI (d / 30)) = (m < d / 30) from propext (nI_ltI (by omega) (by omega))]
theorem life_N {p x li : Nat} (hp : p ≤ 5000000) (hx : x ≤ 12) (h1 : 1 ≤ li) (h2 : li ≤ 120) : (if (nI p).toInt64 < (nI p).toInt64 * (nI x).toInt64 / (nI li).toInt64 then (nI p).toInt64 else (nI p).toInt64 * (nI x).toInt64 / (nI li).toInt64).toInt32 = nI (if li ≤ x then p else p * x / li) := by
  have hb : p * x ≤ 5000000 * 12 := Nat.mul_le_mul hp hx
  have hq : p * x / li ≤ p * x := Nat.div_le_self _ _
  have h3 : (lN p < lN (p * x / li)) ↔ p < p * x / li := pk_lLT (by omega) (by omega)
  rw [nI_l (by omega), nI_l (by omega), nI_l (by omega), lN_mul, pk_lDiv (by omega) (by omega) (by omega)]
  by_cases h : li ≤ x
  · have h9 : p ≤ p * x / li := (Nat.le_div_iff_mul_le (by omega)).mpr (Nat.mul_le_mul_left _ h)
    rw [if_pos h]
    split
    · exact lN_i _
    · rename_i h4
      have h5 : ¬ p < p * x / li := fun q => h4 (h3.mpr q)
      rw [lN_i, show p * x / li = p by omega]
  · have h9 : p * x / li ≤ p := Nat.div_le_of_le_mul (by rw [Nat.mul_comm li p]; exact Nat.mul_le_mul_left _ (by omega))
    rw [if_neg h, if_neg (fun q => by have := h3.mp q; omega), lN_i]
theorem aPW_m {As : RV} : aPW As (nI 0 - nI 1) = nI 0 := by
  unfold aPW
  rw [show nI 0 - nI 1 + nI 1 = (0 : Int32) by decide, Int32.mul_zero]
  decide
set_option maxRecDepth 100000 in
set_option maxHeartbeats 400000 in
theorem cr_X8_byLife (l : Launch) (D : va_G) (cy : Nat → ClassId) (B : Nat) (od : Nat → Option Nat) {A : AH} {f : MF} {r : Nat → Int32} {Z : SV} {S : StV} (hm : MdR cy A f r Z S) (hg : Rng Z S) {k mo pr dy li sr so : Nat} (hk : k < S.2.2.1.1) (hm9 : mo ≤ 11) (hN : AsN S.2.2.1 k pr dy li sr so) (hb : dy / 30 ≤ mo) : CR l D cy B od yX8_byLife cX8_byLife 6 (some .int) rmX8_byLife [.ref 231, .int (nI k), .int (nI mo)] A (.int (nI (if li ≤ mo - dy / 30 + 1 then pr else pr * (mo - dy / 30 + 1) / li))) := by
  intro z
  refine CT.of (by decide) tX8_byLife okX8_byLife (Nat.le_of_ble_eq_true rfl) (q0 := tX8_byLife[0]) rfl rfl ?_
  intro p e s m args below meth c X _
  obtain ⟨hM, hn, hc, hw, hwb, hz⟩ := id hm
  obtain ⟨c0, ⟨c1, c2, c3, c4, c5⟩, cb, ⟨c16, cr⟩, ⟨c35, ce⟩, ⟨c456, ca⟩, c517, cp⟩ := id hc
  obtain ⟨w1, w2, w3, w4, w5⟩ := id hw
  obtain ⟨a1, a2, b2, g1, g2, s1, so1, a3, b3, g3, s2, e9⟩ := id hN
  refine g_iload_n X rfl rfl ?_
  refine g_aload_n X rfl rfl ?_
  refine g_iload_n X rfl rfl ?_
  refine g_rV X rfl lcX8_boughtIn lmX8_269 lsX8_boughtIn (cr_X8_boughtIn l D cy B od hm hg hk) (ci := 8) hM rfl rfl rfl (Nat.le_of_ble_eq_true rfl) ⟨⟨by decide, by decide⟩, rfl, rfl⟩ ⟨Nat.le_of_ble_eq_true rfl, Nat.le_of_ble_eq_true rfl⟩ ?_
  rw [hN.bo]
  refine g_isub X rfl ?_
  refine g_iconst X rfl (v := nI 1) (by decide) ?_
  refine g_iadd X rfl ?_
  rw [sub1, pk_sub (by omega), show mo + 1 - dy / 30 = mo - dy / 30 + 1 by omega]
  refine g_istore_n X rfl (by decide) ?_
  refine g_iload_n X rfl rfl ?_
  refine g_if_gt X rfl (fun h1 => ?_) (fun h1 => ?_)
  · refine g_aload_n X rfl rfl ?_
    refine g_iload_n X rfl rfl ?_
    refine g_iconst X rfl (v := nI 0) (by decide) ?_
    refine g_rV X rfl lcX8_assetPart lmX8_229 lsX8_assetPart (cr_X8_assetPart l D cy B od hm (q := 0) (q2 := 0) (by omega) (by decide) rfl) (ci := 8) hM rfl rfl rfl (Nat.le_of_ble_eq_true rfl) ⟨⟨by decide, by decide⟩, rfl, rfl⟩ ⟨Nat.le_of_ble_eq_true rfl, Nat.le_of_ble_eq_true rfl⟩ ?_
    refine g_i2l X rfl ?_
    refine g_iload_n X rfl rfl ?_
    refine g_i2l X rfl ?_
    refine g_lmul X rfl ?_
    refine g_aload_n X rfl rfl ?_
    refine g_iload_n X rfl rfl ?_
    refine g_iconst X rfl (v := nI 2) (by decide) ?_
    refine g_rV X rfl lcX8_assetPart lmX8_229 lsX8_assetPart (cr_X8_assetPart l D cy B od hm (q := 2) (q2 := 2) (by omega) (by decide) rfl) (ci := 8) hM rfl rfl rfl (Nat.le_of_ble_eq_true rfl) ⟨⟨by decide, by decide⟩, rfl, rfl⟩ ⟨Nat.le_of_ble_eq_true rfl, Nat.le_of_ble_eq_true rfl⟩ ?_
    refine g_i2l X rfl ?_
    refine g_ldiv X rfl (by rw [g3, nIl0 (by omega)]; omega) ?_
    refine g_lstore X rfl (by decide) ?_
    refine g_lload X rfl rfl ?_
    refine g_aload_n X rfl rfl ?_
    refine g_iload_n X rfl rfl ?_
    refine g_iconst X rfl (v := nI 0) (by decide) ?_
    refine g_rV X rfl lcX8_assetPart lmX8_229 lsX8_assetPart (cr_X8_assetPart l D cy B od hm (q := 0) (q2 := 0) (by omega) (by decide) rfl) (ci := 8) hM rfl rfl rfl (Nat.le_of_ble_eq_true rfl) ⟨⟨by decide, by decide⟩, rfl, rfl⟩ ⟨Nat.le_of_ble_eq_true rfl, Nat.le_of_ble_eq_true rfl⟩ ?_
    rw [g3]
    refine g_i2l X rfl ?_
    refine g_m_min_l X rfl lmX8_90 (Nat.le_of_ble_eq_true rfl) ⟨by decide, by decide⟩ ⟨Nat.le_of_ble_eq_true rfl, Nat.le_of_ble_eq_true rfl⟩ ?_
    refine g_l2i X rfl ?_
    refine g_iret X rfl rfl (by first | rfl | exact bI_nar _ | decide) (Nat.le_refl _) (Nat.le_refl _) ⟨?_, rfl, rfl⟩
    rw [a3, life_N a2 (by omega) g1 g2]
  · exact absurd (show (0 : Int32) < nI _ from by rw [← nI_0]; exact nI_lt (by omega) (by omega)) h1
set_option maxRecDepth 100000 in
set_option maxHeartbeats 400000 in
theorem cr_X8_writtenTo (l : Launch) (D : va_G) (cy : Nat → ClassId) (B : Nat) (od : Nat → Option Nat) {A : AH} {f : MF} {r : Nat → Int32} {Z : SV} {S : StV} (hm : MdR cy A f r Z S) (hg : Rng Z S) {k mo : Nat} (hk : k < S.2.2.1.1) (hm9 : mo ≤ 11) (hs : ¬ S.2.2.1.2 3 k = nI 1) : CR l D cy B od yX8_writtenTo cX8_writtenTo 3 (some .int) rmX8_writtenTo [.ref 231, .int (nI k), .int (nI mo)] A (.int (aWU S.2.2.1 k (nI mo))) := by
  intro z
  refine CT.of (by decide) tX8_writtenTo okX8_writtenTo (Nat.le_of_ble_eq_true rfl) (q0 := tX8_writtenTo[0]) rfl rfl ?_
  intro p e s m args below meth c X _
  obtain ⟨hM, hn, hc, hw, hwb, hz⟩ := id hm
  obtain ⟨c0, ⟨c1, c2, c3, c4, c5⟩, cb, ⟨c16, cr⟩, ⟨c35, ce⟩, ⟨c456, ca⟩, c517, cp⟩ := id hc
  obtain ⟨w1, w2, w3, w4, w5⟩ := id hw
  obtain ⟨p9, d9, l9, s9, o9, hN⟩ := asset_N hg hk
  obtain ⟨a1, a2, b2, g1, g2, s1, so1, a3, b3, g3, s2, e9⟩ := id hN
  refine g_iload_n X rfl rfl ?_
  refine g_aload_n X rfl rfl ?_
  refine g_iload_n X rfl rfl ?_
  refine g_rV X rfl lcX8_boughtIn lmX8_269 lsX8_boughtIn (cr_X8_boughtIn l D cy B od hm hg hk) (ci := 8) hM rfl rfl rfl (Nat.le_of_ble_eq_true rfl) ⟨⟨by decide, by decide⟩, rfl, rfl⟩ ⟨Nat.le_of_ble_eq_true rfl, Nat.le_of_ble_eq_true rfl⟩ ?_
  rw [hN.bo]
  first | refine g_ic_geN X rfl (by omega) (by omega) (fun h1 => ?_) (fun h1 => ?_) | refine g_icmp_ge X rfl (fun h1 => ?_) (fun h1 => ?_)
  · refine g_aload_n X rfl rfl ?_
    refine g_iload_n X rfl rfl ?_
    refine g_rV X rfl lcX8_sortOf lmX8_272 lsX8_sortOf (cr_X8_sortOf l D cy B od hm hg hk) (ci := 8) hM rfl rfl rfl (Nat.le_of_ble_eq_true rfl) ⟨⟨by decide, by decide⟩, rfl, rfl⟩ ⟨Nat.le_of_ble_eq_true rfl, Nat.le_of_ble_eq_true rfl⟩ ?_
    rw [s2]
    refine g_if_eq X rfl (fun h2 => ?_) (fun h2 => ?_)
    · rw [nI_eq0 (by omega)] at h2
      refine g_aload_n X rfl rfl ?_
      refine g_iload_n X rfl rfl ?_
      refine g_iconst X rfl (v := nI 0) (by decide) ?_
      refine g_rV X rfl lcX8_assetPart lmX8_229 lsX8_assetPart (cr_X8_assetPart l D cy B od hm (q := 0) (q2 := 0) (by omega) (by decide) rfl) (ci := 8) hM rfl rfl rfl (Nat.le_of_ble_eq_true rfl) ⟨⟨by decide, by decide⟩, rfl, rfl⟩ ⟨Nat.le_of_ble_eq_true rfl, Nat.le_of_ble_eq_true rfl⟩ ?_
      refine g_iret X rfl rfl (by first | rfl | exact bI_nar _ | decide) (Nat.le_refl _) (Nat.le_refl _) ⟨?_, rfl, rfl⟩
      have hs1 : s9 ≠ 1 := fun q => hs (by rw [s2, q])
      rw [hN.wu hm9]
      unfold wN
      repeat' split
      all_goals first | rfl | (rw [a3]; done) | (exfalso; omega)
    · rw [nI_eq0 (by omega)] at h2
      refine g_iload_n X rfl rfl ?_
      refine g_aload_n X rfl rfl ?_
      refine g_iload_n X rfl rfl ?_
      refine g_rV X rfl lcX8_soldIn lmX8_275 lsX8_soldIn (cr_X8_soldIn l D cy B od hm hg hk) (ci := 8) hM rfl rfl rfl (Nat.le_of_ble_eq_true rfl) ⟨⟨by decide, by decide⟩, rfl, rfl⟩ ⟨Nat.le_of_ble_eq_true rfl, Nat.le_of_ble_eq_true rfl⟩ ?_
      rw [hN.so9]
      first | refine g_ic_ltN X rfl (by omega) (by omega) (fun h3 => ?_) (fun h3 => ?_) | refine g_icmp_lt X rfl (fun h3 => ?_) (fun h3 => ?_)
      · refine g_aload_n X rfl rfl ?_
        refine g_iload_n X rfl rfl ?_
        refine g_iload_n X rfl rfl ?_
        refine g_rV X rfl lcX8_byLife lmX8_278 lsX8_byLife (cr_X8_byLife l D cy B od hm hg hk hm9 hN (by omega)) (ci := 8) hM rfl rfl rfl (Nat.le_of_ble_eq_true rfl) ⟨⟨by decide, by decide⟩, rfl, rfl⟩ ⟨Nat.le_of_ble_eq_true rfl, Nat.le_of_ble_eq_true rfl⟩ ?_
        refine g_iret X rfl rfl (by first | rfl | exact bI_nar _ | decide) (Nat.le_refl _) (Nat.le_refl _) ⟨?_, rfl, rfl⟩
        have hs1 : s9 ≠ 1 := fun q => hs (by rw [s2, q])
        rw [hN.wu hm9]
        unfold wN
        repeat' split
        all_goals first | rfl | (rw [a3]; done) | (exfalso; omega)
      · refine g_aload_n X rfl rfl ?_
        refine g_iload_n X rfl rfl ?_
        refine g_iconst X rfl (v := nI 0) (by decide) ?_
        refine g_rV X rfl lcX8_assetPart lmX8_229 lsX8_assetPart (cr_X8_assetPart l D cy B od hm (q := 0) (q2 := 0) (by omega) (by decide) rfl) (ci := 8) hM rfl rfl rfl (Nat.le_of_ble_eq_true rfl) ⟨⟨by decide, by decide⟩, rfl, rfl⟩ ⟨Nat.le_of_ble_eq_true rfl, Nat.le_of_ble_eq_true rfl⟩ ?_
        refine g_iret X rfl rfl (by first | rfl | exact bI_nar _ | decide) (Nat.le_refl _) (Nat.le_refl _) ⟨?_, rfl, rfl⟩
        have hs1 : s9 ≠ 1 := fun q => hs (by rw [s2, q])
        rw [hN.wu hm9]
        unfold wN
        repeat' split
        all_goals first | rfl | (rw [a3]; done) | (exfalso; omega)
  · refine g_iconst X rfl (v := nI 0) (by decide) ?_
    refine g_iret X rfl rfl (by first | rfl | exact bI_nar _ | decide) (Nat.le_refl _) (Nat.le_refl _) ⟨?_, rfl, rfl⟩
    have hs1 : s9 ≠ 1 := fun q => hs (by rw [s2, q])
    rw [hN.wu hm9]
    unfold wN
    repeat' split
    all_goals first | rfl | (rw [a3]; done) | (exfalso; omega)
set_option maxRecDepth 100000 in
set_option maxHeartbeats 400000 in
theorem cr_X8_writtenIn (l : Launch) (D : va_G) (cy : Nat → ClassId) (B : Nat) (od : Nat → Option Nat) {A : AH} {f : MF} {r : Nat → Int32} {Z : SV} {S : StV} (hm : MdR cy A f r Z S) (hg : Rng Z S) {k mo : Nat} (hk : k < S.2.2.1.1) (hm9 : mo ≤ 11) : CR l D cy B od yX8_writtenIn cX8_writtenIn 4 (some .int) rmX8_writtenIn [.ref 231, .int (nI k), .int (nI mo)] A (.int (aWU S.2.2.1 k (nI mo) - aWU S.2.2.1 k (nI mo - nI 1))) := by
  intro z
  refine CT.of (by decide) tX8_writtenIn okX8_writtenIn (Nat.le_of_ble_eq_true rfl) (q0 := tX8_writtenIn[0]) rfl rfl ?_
  intro p e s m args below meth c X _
  obtain ⟨hM, hn, hc, hw, hwb, hz⟩ := id hm
  obtain ⟨c0, ⟨c1, c2, c3, c4, c5⟩, cb, ⟨c16, cr⟩, ⟨c35, ce⟩, ⟨c456, ca⟩, c517, cp⟩ := id hc
  obtain ⟨w1, w2, w3, w4, w5⟩ := id hw
  obtain ⟨p9, d9, l9, s9, o9, hN⟩ := asset_N hg hk
  obtain ⟨a1, a2, b2, g1, g2, s1, so1, a3, b3, g3, s2, e9⟩ := id hN
  refine g_aload_n X rfl rfl ?_
  refine g_iload_n X rfl rfl ?_
  refine g_rV X rfl lcX8_sortOf lmX8_272 lsX8_sortOf (cr_X8_sortOf l D cy B od hm hg hk) (ci := 8) hM rfl rfl rfl (Nat.le_of_ble_eq_true rfl) ⟨⟨by decide, by decide⟩, rfl, rfl⟩ ⟨Nat.le_of_ble_eq_true rfl, Nat.le_of_ble_eq_true rfl⟩ ?_
  refine g_iconst X rfl (v := nI 1) (by decide) ?_
  refine g_icmp_ne X rfl (fun h1 => ?_) (fun h1 => ?_)
  · refine g_iload_n X rfl rfl ?_
    refine g_if_ne X rfl (fun h2 => ?_) (fun h2 => ?_)
    · rw [nI_eq0 (by omega)] at h2
      refine g_aload_n X rfl rfl ?_
      refine g_iload_n X rfl rfl ?_
      refine g_iload_n X rfl rfl ?_
      refine g_iconst X rfl (v := nI 1) (by decide) ?_
      refine g_isub X rfl ?_
      rw [pk_sub (by omega)]
      refine g_rV X rfl lcX8_writtenTo lmX8_281 lsX8_writtenTo (cr_X8_writtenTo l D cy B od hm hg hk (mo := mo - 1) (by omega) h1) (ci := 8) hM rfl rfl rfl (Nat.le_of_ble_eq_true rfl) ⟨⟨by decide, by decide⟩, rfl, rfl⟩ ⟨Nat.le_of_ble_eq_true rfl, Nat.le_of_ble_eq_true rfl⟩ ?_
      refine g_istore_n X rfl (by decide) ?_
      refine g_aload_n X rfl rfl ?_
      refine g_iload_n X rfl rfl ?_
      refine g_iload_n X rfl rfl ?_
      refine g_rV X rfl lcX8_writtenTo lmX8_281 lsX8_writtenTo (cr_X8_writtenTo l D cy B od hm hg hk hm9 h1) (ci := 8) hM rfl rfl rfl (Nat.le_of_ble_eq_true rfl) ⟨⟨by decide, by decide⟩, rfl, rfl⟩ ⟨Nat.le_of_ble_eq_true rfl, Nat.le_of_ble_eq_true rfl⟩ ?_
      refine g_iload_n X rfl rfl ?_
      refine g_isub X rfl ?_
      refine g_iret X rfl rfl (by first | rfl | exact bI_nar _ | decide) (Nat.le_refl _) (Nat.le_refl _) ⟨?_, rfl, rfl⟩
      first | (rw [aWU_1 (by assumption), aWU_1 (by assumption)]; rfl) | (rw [show mo = 0 from by assumption, hN.wm]; done) | rfl
    · rw [nI_eq0 (by omega)] at h2
      refine g_iconst X rfl (v := nI 0) (by decide) ?_
      refine g_goto X rfl ?_
      refine g_istore_n X rfl (by decide) ?_
      refine g_aload_n X rfl rfl ?_
      refine g_iload_n X rfl rfl ?_
      refine g_iload_n X rfl rfl ?_
      refine g_rV X rfl lcX8_writtenTo lmX8_281 lsX8_writtenTo (cr_X8_writtenTo l D cy B od hm hg hk hm9 h1) (ci := 8) hM rfl rfl rfl (Nat.le_of_ble_eq_true rfl) ⟨⟨by decide, by decide⟩, rfl, rfl⟩ ⟨Nat.le_of_ble_eq_true rfl, Nat.le_of_ble_eq_true rfl⟩ ?_
      refine g_iload_n X rfl rfl ?_
      refine g_isub X rfl ?_
      refine g_iret X rfl rfl (by first | rfl | exact bI_nar _ | decide) (Nat.le_refl _) (Nat.le_refl _) ⟨?_, rfl, rfl⟩
      first | (rw [aWU_1 (by assumption), aWU_1 (by assumption)]; rfl) | (rw [show mo = 0 from by assumption, hN.wm]; done) | rfl
  · refine g_iconst X rfl (v := nI 0) (by decide) ?_
    refine g_iret X rfl rfl (by first | rfl | exact bI_nar _ | decide) (Nat.le_refl _) (Nat.le_refl _) ⟨?_, rfl, rfl⟩
    first | (rw [aWU_1 (by assumption), aWU_1 (by assumption)]; rfl) | (rw [show mo = 0 from by assumption, hN.wm]; done) | rfl
set_option maxRecDepth 100000 in
set_option maxHeartbeats 400000 in
theorem cr_X8_valueOf (l : Launch) (D : va_G) (cy : Nat → ClassId) (B : Nat) (od : Nat → Option Nat) {A : AH} {f : MF} {r : Nat → Int32} {Z : SV} {S : StV} (hm : MdR cy A f r Z S) (hg : Rng Z S) {k mo : Nat} (hk : k < S.2.2.1.1) (hm9 : mo ≤ 11) : CR l D cy B od yX8_valueOf cX8_valueOf 4 (some .int) rmX8_valueOf [.ref 231, .int (nI k), .int (nI mo)] A (.int (aVal S.2.2.1 k (nI mo))) := by
  intro z
  refine CT.of (by decide) tX8_valueOf okX8_valueOf (Nat.le_of_ble_eq_true rfl) (q0 := tX8_valueOf[0]) rfl rfl ?_
  intro p e s m args below meth c X _
  obtain ⟨hM, hn, hc, hw, hwb, hz⟩ := id hm
  obtain ⟨c0, ⟨c1, c2, c3, c4, c5⟩, cb, ⟨c16, cr⟩, ⟨c35, ce⟩, ⟨c456, ca⟩, c517, cp⟩ := id hc
  obtain ⟨w1, w2, w3, w4, w5⟩ := id hw
  obtain ⟨p9, d9, l9, s9, o9, hN⟩ := asset_N hg hk
  obtain ⟨a1, a2, b2, g1, g2, s1, so1, a3, b3, g3, s2, e9⟩ := id hN
  refine g_iload_n X rfl rfl ?_
  refine g_aload_n X rfl rfl ?_
  refine g_iload_n X rfl rfl ?_
  refine g_rV X rfl lcX8_boughtIn lmX8_269 lsX8_boughtIn (cr_X8_boughtIn l D cy B od hm hg hk) (ci := 8) hM rfl rfl rfl (Nat.le_of_ble_eq_true rfl) ⟨⟨by decide, by decide⟩, rfl, rfl⟩ ⟨Nat.le_of_ble_eq_true rfl, Nat.le_of_ble_eq_true rfl⟩ ?_
  rw [hN.bo]
  first | refine g_ic_ltN X rfl (by omega) (by omega) (fun h1 => ?_) (fun h1 => ?_) | refine g_icmp_lt X rfl (fun h1 => ?_) (fun h1 => ?_)
  · refine g_iconst X rfl (v := nI 0) (by decide) ?_
    refine g_istore_n X rfl (by decide) ?_
    refine g_iload_n X rfl rfl ?_
    refine g_if_eq X rfl (fun _ => ?_) (fun h => absurd nI_0 h) 
    refine g_iconst X rfl (v := nI 0) (by decide) ?_
    refine g_iret X rfl rfl (by first | rfl | exact bI_nar _ | decide) (Nat.le_refl _) (Nat.le_refl _) ⟨?_, rfl, rfl⟩
    rw [hN.val hm9]
    repeat' split
    all_goals first | rfl | (rw [a3]; done) | (exfalso; omega)
  · refine g_iload_n X rfl rfl ?_
    refine g_aload_n X rfl rfl ?_
    refine g_iload_n X rfl rfl ?_
    refine g_rV X rfl lcX8_soldIn lmX8_275 lsX8_soldIn (cr_X8_soldIn l D cy B od hm hg hk) (ci := 8) hM rfl rfl rfl (Nat.le_of_ble_eq_true rfl) ⟨⟨by decide, by decide⟩, rfl, rfl⟩ ⟨Nat.le_of_ble_eq_true rfl, Nat.le_of_ble_eq_true rfl⟩ ?_
    rw [hN.so9]
    first | refine g_ic_geN X rfl (by omega) (by omega) (fun h2 => ?_) (fun h2 => ?_) | refine g_icmp_ge X rfl (fun h2 => ?_) (fun h2 => ?_)
    · refine g_iconst X rfl (v := nI 0) (by decide) ?_
      refine g_istore_n X rfl (by decide) ?_
      refine g_iload_n X rfl rfl ?_
      refine g_if_eq X rfl (fun _ => ?_) (fun h => absurd nI_0 h) 
      refine g_iconst X rfl (v := nI 0) (by decide) ?_
      refine g_iret X rfl rfl (by first | rfl | exact bI_nar _ | decide) (Nat.le_refl _) (Nat.le_refl _) ⟨?_, rfl, rfl⟩
      rw [hN.val hm9]
      repeat' split
      all_goals first | rfl | (rw [a3]; done) | (exfalso; omega)
    · refine g_aload_n X rfl rfl ?_
      refine g_iload_n X rfl rfl ?_
      refine g_rV X rfl lcX8_sortOf lmX8_272 lsX8_sortOf (cr_X8_sortOf l D cy B od hm hg hk) (ci := 8) hM rfl rfl rfl (Nat.le_of_ble_eq_true rfl) ⟨⟨by decide, by decide⟩, rfl, rfl⟩ ⟨Nat.le_of_ble_eq_true rfl, Nat.le_of_ble_eq_true rfl⟩ ?_
      refine g_iconst X rfl (v := nI 1) (by decide) ?_
      rw [s2]
      first | refine g_ic_eqN X rfl (by omega) (by omega) (fun h3 => ?_) (fun h3 => ?_) | refine g_icmp_eq X rfl (fun h3 => ?_) (fun h3 => ?_)
      · refine g_iconst X rfl (v := nI 0) (by decide) ?_
        refine g_istore_n X rfl (by decide) ?_
        refine g_iload_n X rfl rfl ?_
        refine g_if_eq X rfl (fun _ => ?_) (fun h => absurd nI_0 h) 
        refine g_iconst X rfl (v := nI 0) (by decide) ?_
        refine g_iret X rfl rfl (by first | rfl | exact bI_nar _ | decide) (Nat.le_refl _) (Nat.le_refl _) ⟨?_, rfl, rfl⟩
        rw [hN.val hm9]
        repeat' split
        all_goals first | rfl | (rw [a3]; done) | (exfalso; omega)
      · refine g_iconst X rfl (v := nI 1) (by decide) ?_
        refine g_goto X rfl ?_
        refine g_istore_n X rfl (by decide) ?_
        refine g_iload_n X rfl rfl ?_
        refine g_if_eq X rfl (fun h => absurd h n10) (fun _ => ?_)
        refine g_aload_n X rfl rfl ?_
        refine g_iload_n X rfl rfl ?_
        refine g_iconst X rfl (v := nI 0) (by decide) ?_
        refine g_rV X rfl lcX8_assetPart lmX8_229 lsX8_assetPart (cr_X8_assetPart l D cy B od hm (q := 0) (q2 := 0) (by omega) (by decide) rfl) (ci := 8) hM rfl rfl rfl (Nat.le_of_ble_eq_true rfl) ⟨⟨by decide, by decide⟩, rfl, rfl⟩ ⟨Nat.le_of_ble_eq_true rfl, Nat.le_of_ble_eq_true rfl⟩ ?_
        refine g_aload_n X rfl rfl ?_
        refine g_iload_n X rfl rfl ?_
        refine g_iload_n X rfl rfl ?_
        refine g_rV X rfl lcX8_writtenTo lmX8_281 lsX8_writtenTo (cr_X8_writtenTo l D cy B od hm hg hk hm9 (by rw [s2, nI_eq (by omega) (by decide)]; omega)) (ci := 8) hM rfl rfl rfl (Nat.le_of_ble_eq_true rfl) ⟨⟨by decide, by decide⟩, rfl, rfl⟩ ⟨Nat.le_of_ble_eq_true rfl, Nat.le_of_ble_eq_true rfl⟩ ?_
        refine g_isub X rfl ?_
        refine g_goto X rfl ?_
        refine g_iret X rfl rfl (by first | rfl | exact bI_nar _ | decide) (Nat.le_refl _) (Nat.le_refl _) ⟨?_, rfl, rfl⟩
        rw [hN.val hm9]
        repeat' split
        all_goals first | rfl | (rw [a3]; done) | (exfalso; omega)
set_option maxRecDepth 100000 in
set_option maxHeartbeats 400000 in
theorem lp_X8_poolTo (l : Launch) (D : va_G) (cy : Nat → ClassId) (B : Nat) (od : Nat → Option Nat) {p : Program} {e : Env} {s : State} {m : MethodId} {args : Array Value} {below : List Frame} {meth : Method} {c : Code} {A : AH} {z : Nat} {f : MF} {r : Nat → Int32} {Z : SV} {S : StV} (hm : MdR cy A f r Z S) (hg : Rng Z S) {q : Nat} (hq : q ≤ 3) (X : Cx p s m args meth c D cy B od cX8_poolTo 5 tX8_poolTo RX8 (some .int)) : ∀ (k i : Nat) (o0 : Option Value), 0 ≤ i → i ≤ S.2.2.1.1 → S.2.2.1.1 - i < k → G p l e rmX8_poolTo s m args below meth c D B od 5 tX8_poolTo (FinQ false D B od (fun v A' z' => v = some (.int (aPool S.2.2.1 (nI q))) ∧ A' = A ∧ z' = z) (fun _ _ => True) args s below 0 0) 0 0 A z 4 [some (.ref 231), some (.int (nI q)), some (.int (sumQ (fun i => S.2.2.1.2 3 i == nI 1 && decide (S.2.2.1.2 1 i / nI 90 ≤ nI q)) (fun i => S.2.2.1.2 0 i) i)), some (.int (nI i)), o0] [] := by
  obtain ⟨hM, hn, hc, hw, hwb, hz⟩ := id hm
  obtain ⟨c0, ⟨c1, c2, c3, c4, c5⟩, cb, ⟨c16, cr⟩, ⟨c35, ce⟩, ⟨c456, ca⟩, c517, cp⟩ := id hc
  obtain ⟨w1, w2, w3, w4, w5⟩ := id hw
  intro k
  induction k with
  | zero => intro i _ _ _ h; omega
  | succ k ih =>
    intro i o0 hlo hi hk
    refine g_iload_n X rfl rfl ?_
    refine g_aload_n X rfl rfl ?_
    refine g_get X rfl flX8_16 (ci := 8) rfl hM rfl ?_
    refine g_sipush X rfl (v := nI 456) (by decide) ?_
    refine g_ialdN X rfl hn (by omega) (by decide) ?_
    rw [c456]
    first | refine g_ic_geN X rfl (by omega) (by omega) (fun h1 => ?_) (fun h1 => ?_) | refine g_icmp_ge X rfl (fun h1 => ?_) (fun h1 => ?_)
    · refine g_iload_n X rfl rfl ?_
      refine g_iret X rfl rfl (by first | rfl | exact bI_nar _ | decide) (Nat.le_refl _) (Nat.le_refl _) ⟨?_, rfl, rfl⟩
      rw [aPool, show i = S.2.2.1.1 by omega]
    · refine g_aload_n X rfl rfl ?_
      refine g_iload_n X rfl rfl ?_
      refine g_rV X rfl lcX8_sortOf lmX8_272 lsX8_sortOf (cr_X8_sortOf l D cy B od hm hg (by omega)) (ci := 8) hM rfl rfl rfl (Nat.le_of_ble_eq_true rfl) ⟨⟨by decide, by decide⟩, rfl, rfl⟩ ⟨Nat.le_of_ble_eq_true rfl, Nat.le_of_ble_eq_true rfl⟩ ?_
      refine g_iconst X rfl (v := nI 1) (by decide) ?_
      refine g_icmp_ne X rfl (fun h2 => ?_) (fun h2 => ?_)
      · refine g_iconst X rfl (v := nI 0) (by decide) ?_
        refine g_istore X rfl (by decide) ?_
        refine g_iload_n X rfl rfl ?_
        refine g_iload X rfl rfl ?_
        refine g_if_eq X rfl (fun _ => ?_) (fun h => absurd nI_0 h) 
        refine g_iconst X rfl (v := nI 0) (by decide) ?_
        refine g_iadd X rfl ?_
        refine g_istore_n X rfl (by decide) ?_
        refine g_iinc1 X rfl rfl (by decide) ?_
        refine g_goto X rfl ?_
        have K9 := fun u0 => ih (i + 1) u0 (by omega) (by omega) (by omega)
        first | (rw [show sumQ (fun i => S.2.2.1.2 3 i == nI 1 && decide (S.2.2.1.2 1 i / nI 90 ≤ nI q)) (fun i => S.2.2.1.2 0 i) (i + 1) = sumQ (fun i => S.2.2.1.2 3 i == nI 1 && decide (S.2.2.1.2 1 i / nI 90 ≤ nI q)) (fun i => S.2.2.1.2 0 i) i + S.2.2.1.2 0 i by rw [sumQ, if_pos (by simp_all)]] at K9; exact K9 _) | (rw [show sumQ (fun i => S.2.2.1.2 3 i == nI 1 && decide (S.2.2.1.2 1 i / nI 90 ≤ nI q)) (fun i => S.2.2.1.2 0 i) (i + 1) = sumQ (fun i => S.2.2.1.2 3 i == nI 1 && decide (S.2.2.1.2 1 i / nI 90 ≤ nI q)) (fun i => S.2.2.1.2 0 i) i + nI 0 by rw [sumQ, if_neg (by simp_all), nI_0, Int32.add_zero]] at K9; exact K9 _)
      · refine g_aload_n X rfl rfl ?_
        refine g_iload_n X rfl rfl ?_
        refine g_iconst X rfl (v := nI 1) (by decide) ?_
        refine g_rV X rfl lcX8_assetPart lmX8_229 lsX8_assetPart (cr_X8_assetPart l D cy B od hm (q := 1) (q2 := 1) (by omega) (by decide) rfl) (ci := 8) hM rfl rfl rfl (Nat.le_of_ble_eq_true rfl) ⟨⟨by decide, by decide⟩, rfl, rfl⟩ ⟨Nat.le_of_ble_eq_true rfl, Nat.le_of_ble_eq_true rfl⟩ ?_
        refine g_bipush X rfl (v := nI 90) (by decide) ?_
        refine g_idiv X rfl (by decide) ?_
        refine g_iload_n X rfl rfl ?_
        refine g_icmp_gt X rfl (fun h3 => ?_) (fun h3 => ?_)
        · refine g_iconst X rfl (v := nI 0) (by decide) ?_
          refine g_istore X rfl (by decide) ?_
          refine g_iload_n X rfl rfl ?_
          refine g_iload X rfl rfl ?_
          refine g_if_eq X rfl (fun _ => ?_) (fun h => absurd nI_0 h) 
          refine g_iconst X rfl (v := nI 0) (by decide) ?_
          refine g_iadd X rfl ?_
          refine g_istore_n X rfl (by decide) ?_
          refine g_iinc1 X rfl rfl (by decide) ?_
          refine g_goto X rfl ?_
          have K9 := fun u0 => ih (i + 1) u0 (by omega) (by omega) (by omega)
          first | (rw [show sumQ (fun i => S.2.2.1.2 3 i == nI 1 && decide (S.2.2.1.2 1 i / nI 90 ≤ nI q)) (fun i => S.2.2.1.2 0 i) (i + 1) = sumQ (fun i => S.2.2.1.2 3 i == nI 1 && decide (S.2.2.1.2 1 i / nI 90 ≤ nI q)) (fun i => S.2.2.1.2 0 i) i + S.2.2.1.2 0 i by rw [sumQ, if_pos (by simp_all)]] at K9; exact K9 _) | (rw [show sumQ (fun i => S.2.2.1.2 3 i == nI 1 && decide (S.2.2.1.2 1 i / nI 90 ≤ nI q)) (fun i => S.2.2.1.2 0 i) (i + 1) = sumQ (fun i => S.2.2.1.2 3 i == nI 1 && decide (S.2.2.1.2 1 i / nI 90 ≤ nI q)) (fun i => S.2.2.1.2 0 i) i + nI 0 by rw [sumQ, if_neg (by simp_all), nI_0, Int32.add_zero]] at K9; exact K9 _)
        · refine g_iconst X rfl (v := nI 1) (by decide) ?_
          refine g_goto X rfl ?_
          refine g_istore X rfl (by decide) ?_
          refine g_iload_n X rfl rfl ?_
          refine g_iload X rfl rfl ?_
          refine g_if_eq X rfl (fun h => absurd h n10) (fun _ => ?_)
          refine g_aload_n X rfl rfl ?_
          refine g_iload_n X rfl rfl ?_
          refine g_iconst X rfl (v := nI 0) (by decide) ?_
          refine g_rV X rfl lcX8_assetPart lmX8_229 lsX8_assetPart (cr_X8_assetPart l D cy B od hm (q := 0) (q2 := 0) (by omega) (by decide) rfl) (ci := 8) hM rfl rfl rfl (Nat.le_of_ble_eq_true rfl) ⟨⟨by decide, by decide⟩, rfl, rfl⟩ ⟨Nat.le_of_ble_eq_true rfl, Nat.le_of_ble_eq_true rfl⟩ ?_
          refine g_goto X rfl ?_
          refine g_iadd X rfl ?_
          refine g_istore_n X rfl (by decide) ?_
          refine g_iinc1 X rfl rfl (by decide) ?_
          refine g_goto X rfl ?_
          have K9 := fun u0 => ih (i + 1) u0 (by omega) (by omega) (by omega)
          first | (rw [show sumQ (fun i => S.2.2.1.2 3 i == nI 1 && decide (S.2.2.1.2 1 i / nI 90 ≤ nI q)) (fun i => S.2.2.1.2 0 i) (i + 1) = sumQ (fun i => S.2.2.1.2 3 i == nI 1 && decide (S.2.2.1.2 1 i / nI 90 ≤ nI q)) (fun i => S.2.2.1.2 0 i) i + S.2.2.1.2 0 i by rw [sumQ, if_pos (by simp_all)]] at K9; exact K9 _) | (rw [show sumQ (fun i => S.2.2.1.2 3 i == nI 1 && decide (S.2.2.1.2 1 i / nI 90 ≤ nI q)) (fun i => S.2.2.1.2 0 i) (i + 1) = sumQ (fun i => S.2.2.1.2 3 i == nI 1 && decide (S.2.2.1.2 1 i / nI 90 ≤ nI q)) (fun i => S.2.2.1.2 0 i) i + nI 0 by rw [sumQ, if_neg (by simp_all), nI_0, Int32.add_zero]] at K9; exact K9 _)
set_option maxRecDepth 100000 in
set_option maxHeartbeats 400000 in
theorem cr_X8_poolTo (l : Launch) (D : va_G) (cy : Nat → ClassId) (B : Nat) (od : Nat → Option Nat) {A : AH} {f : MF} {r : Nat → Int32} {Z : SV} {S : StV} (hm : MdR cy A f r Z S) (hg : Rng Z S) {q : Nat} (hq : q ≤ 3) : CR l D cy B od yX8_poolTo cX8_poolTo 5 (some .int) rmX8_poolTo [.ref 231, .int (nI q)] A (.int (aPool S.2.2.1 (nI q))) := by
  intro z
  refine CT.of (by decide) tX8_poolTo okX8_poolTo (Nat.le_of_ble_eq_true rfl) (q0 := tX8_poolTo[0]) rfl rfl ?_
  intro p e s m args below meth c X _
  obtain ⟨hM, hn, hc, hw, hwb, hz⟩ := id hm
  obtain ⟨c0, ⟨c1, c2, c3, c4, c5⟩, cb, ⟨c16, cr⟩, ⟨c35, ce⟩, ⟨c456, ca⟩, c517, cp⟩ := id hc
  obtain ⟨w1, w2, w3, w4, w5⟩ := id hw
  refine g_iconst X rfl (v := nI 0) (by decide) ?_
  refine g_istore_n X rfl (by decide) ?_
  refine g_iconst X rfl (v := nI 0) (by decide) ?_
  refine g_istore_n X rfl (by decide) ?_
  exact lp_X8_poolTo l D cy B od hm hg hq X (S.2.2.1.1 + 1) 0 _ (by omega) (by omega) (by omega)
set_option maxRecDepth 100000 in
set_option maxHeartbeats 400000 in
theorem cr_X8_poolOff (l : Launch) (D : va_G) (cy : Nat → ClassId) (B : Nat) (od : Nat → Option Nat) {A : AH} {f : MF} {r : Nat → Int32} {Z : SV} {S : StV} (hm : MdR cy A f r Z S) (hg : Rng Z S) {q : Nat} (hq : q ≤ 3) : CR l D cy B od yX8_poolOff cX8_poolOff 4 (some .int) rmX8_poolOff [.ref 231, .int (nI q)] A (.int (aPW S.2.2.1 (nI q) - aPW S.2.2.1 (nI q - nI 1))) := by
  intro z
  refine CT.of (by decide) tX8_poolOff okX8_poolOff (Nat.le_of_ble_eq_true rfl) (q0 := tX8_poolOff[0]) rfl rfl ?_
  intro p e s m args below meth c X _
  obtain ⟨hM, hn, hc, hw, hwb, hz⟩ := id hm
  obtain ⟨c0, ⟨c1, c2, c3, c4, c5⟩, cb, ⟨c16, cr⟩, ⟨c35, ce⟩, ⟨c456, ca⟩, c517, cp⟩ := id hc
  obtain ⟨w1, w2, w3, w4, w5⟩ := id hw
  refine g_aload_n X rfl rfl ?_
  refine g_iload_n X rfl rfl ?_
  refine g_rV X rfl lcX8_poolTo lmX8_284 lsX8_poolTo (cr_X8_poolTo l D cy B od hm hg (by omega)) (ci := 8) hM rfl rfl rfl (Nat.le_of_ble_eq_true rfl) ⟨⟨by decide, by decide⟩, rfl, rfl⟩ ⟨Nat.le_of_ble_eq_true rfl, Nat.le_of_ble_eq_true rfl⟩ ?_
  refine g_iload_n X rfl rfl ?_
  refine g_iconst X rfl (v := nI 1) (by decide) ?_
  refine g_iadd X rfl ?_
  refine g_imul X rfl ?_
  refine g_bipush X rfl (v := nI 20) (by decide) ?_
  refine g_idiv X rfl (by decide) ?_
  refine g_istore_n X rfl (by decide) ?_
  refine g_iload_n X rfl rfl ?_
  refine g_if_ne X rfl (fun h1 => ?_) (fun h1 => ?_)
  · rw [nI_eq0 (by omega)] at h1
    refine g_aload_n X rfl rfl ?_
    refine g_iload_n X rfl rfl ?_
    refine g_iconst X rfl (v := nI 1) (by decide) ?_
    refine g_isub X rfl ?_
    rw [pk_sub (by omega)]
    refine g_rV X rfl lcX8_poolTo lmX8_284 lsX8_poolTo (cr_X8_poolTo l D cy B od hm hg (by omega)) (ci := 8) hM rfl rfl rfl (Nat.le_of_ble_eq_true rfl) ⟨⟨by decide, by decide⟩, rfl, rfl⟩ ⟨Nat.le_of_ble_eq_true rfl, Nat.le_of_ble_eq_true rfl⟩ ?_
    refine g_iload_n X rfl rfl ?_
    refine g_imul X rfl ?_
    refine g_bipush X rfl (v := nI 20) (by decide) ?_
    refine g_idiv X rfl (by decide) ?_
    refine g_istore_n X rfl (by decide) ?_
    refine g_iload_n X rfl rfl ?_
    refine g_iload_n X rfl rfl ?_
    refine g_isub X rfl ?_
    refine g_iret X rfl rfl (by first | rfl | exact bI_nar _ | decide) (Nat.le_refl _) (Nat.le_refl _) ⟨?_, rfl, rfl⟩
    first | (rw [show q = 0 from by assumption, aPW_m]; rfl) | (rw [aPW, aPW, nI_add (q - 1) 1, Nat.sub_add_cancel (by omega)])
  · rw [nI_eq0 (by omega)] at h1
    refine g_iconst X rfl (v := nI 0) (by decide) ?_
    refine g_goto X rfl ?_
    refine g_istore_n X rfl (by decide) ?_
    refine g_iload_n X rfl rfl ?_
    refine g_iload_n X rfl rfl ?_
    refine g_isub X rfl ?_
    refine g_iret X rfl rfl (by first | rfl | exact bI_nar _ | decide) (Nat.le_refl _) (Nat.le_refl _) ⟨?_, rfl, rfl⟩
    first | (rw [show q = 0 from by assumption, aPW_m]; rfl) | (rw [aPW, aPW, nI_add (q - 1) 1, Nat.sub_add_cancel (by omega)])
