/-! 44: profits, taxes, prepayments, balances of the Book -/
theorem neg_off {Z : SV} {S : StV} (hg : Rng Z S) (hw : WfS S) {q : Nat} (hq : q ≤ 3) : (-(aPW S.2.2.1 (nI q) - aPW S.2.2.1 (nI q - nI 1))).toInt64 = -(aPW S.2.2.1 (nI q) - aPW S.2.2.1 (nI q - nI 1)).toInt64 := by
  obtain ⟨⟨a, ha, e1⟩, ⟨b, hb, e2⟩⟩ := aPW_N hg hw hq
  rw [e1, e2, show -(nI a - nI b) = nI b - nI a by grind, i2l_sub (by omega) (by omega), i2l_sub (by omega) (by omega)]
  grind
theorem r_as (s m x a b c : Int64) : s + (m + x - a - b - c) = s + m + x - a - b - c := by grind
theorem r_e1 (s m x : Int64) : s + (m + 0 - x) = s + m + -x := by grind
theorem r_e2 (s m x : Int64) : s + (m + x - 0) = s + m + x := by grind
theorem r_fi (o m n : Int64) : -o + m + n = m + n - o := by grind
theorem tMax {e b : Nat} (he : e < 2 ^ 40) (hb : b < 2 ^ 40) : (if lN e - lN b < 0 then 0 else lN e - lN b) = lN (e - b) := by
  by_cases hl : b ≤ e
  · rw [lN_sub hl, if_neg]
    rw [Int64.lt_iff_toInt_lt, pk_lT (by omega)]
    show ¬ ((_ : Nat) : Int) < (0 : Int)
    omega
  · rw [if_pos, show e - b = 0 by omega]; rfl
    rw [Int64.lt_iff_toInt_lt, Int64.toInt_sub, pk_lT (by omega), pk_lT (by omega), Int.bmod_eq_of_le (by omega) (by omega)]
    show _ < (0 : Int)
    omega
/-- the rate above the k-th limit -/
def bRt (Z : SV) (k : Nat) : Int32 := if k < Z.1 then Z.2.2 1 k else Z.2.1 4
/-- taxes from above -/
def tUp (Z : SV) (am : Int64) : Nat → Int64
  | 0 => am * (bRt Z 0).toInt64
  | k + 1 => tUp Z am k + (if am - (Z.2.2 0 k).toInt64 < 0 then 0 else am - (Z.2.2 0 k).toInt64) * (bRt Z (k + 1) - bRt Z k).toInt64
theorem rt_N {Z : SV} (hgz : RngZ Z) (k : Nat) : ∃ r, r ≤ 900 ∧ bRt Z k = nI r := by
  unfold bRt
  by_cases h : k < Z.1
  · rw [if_pos h]; obtain ⟨r, -, h2, h3⟩ := (hgz.1 k h).2; exact ⟨r, h2, h3⟩
  · rw [if_neg h]; obtain ⟨r, -, h2, h3⟩ := hgz.2.2.2; exact ⟨r, h2, h3⟩
theorem tUp_eq {Z : SV} (hgz : RngZ Z) {e : Nat} (he : e < 2 ^ 40) : ∀ k, k ≤ Z.1 → tUp Z (lN e) k = (taxSt Z (lN e) k).1 + (if lN e - (taxSt Z (lN e) k).2 < 0 then 0 else lN e - (taxSt Z (lN e) k).2) * (bRt Z k).toInt64
  | 0, _ => by
    show lN e * _ = (0 : Int64) + (if lN e - lN 0 < 0 then 0 else lN e - lN 0) * _
    rw [tMax he (by decide), Nat.sub_zero]
    grind
  | k + 1, h => by
    obtain ⟨s, P, e1, e2, e3, e4, e5⟩ := taxSt_N hgz he k (by omega)
    obtain ⟨s', P', f1, f2, f3, f4, f5⟩ := taxSt_N hgz he (k + 1) h
    have hx : Z.2.2 0 k = nI P' := f4 k rfl
    have hL : P < P' := by
      rcases Nat.eq_zero_or_pos k with h0 | h0
      · have := e5 h0
        obtain ⟨x, x1, x2, x3⟩ := (hgz.1 k (by omega)).1
        rw [hx] at x3
        have := (nI_eq (by omega) (by omega)).mp x3
        omega
      · obtain ⟨a, b, c1, c2, c3, c4⟩ := hgz.2.1 (k - 1) (by omega)
        rw [show k - 1 + 1 = k by omega, hx] at c2
        have q1 := e4 (k - 1) (by omega)
        rw [c1] at q1
        have q2 := (nI_eq (by omega) (by omega)).mp q1
        have q3 := (nI_eq (by omega) (by omega)).mp c2
        omega
    have hr : Z.2.2 1 k = bRt Z k := by unfold bRt; rw [if_pos (by omega)]
    have ih := tUp_eq hgz he k (by omega)
    obtain ⟨r1, g1, g2⟩ := rt_N hgz k
    obtain ⟨r2, g3, g4⟩ := rt_N hgz (k + 1)
    have hmn : (if (Z.2.2 0 k).toInt64 < lN e then (Z.2.2 0 k).toInt64 else lN e) = lN (min e P') := by
      rw [hx, nI_l (by omega)]
      simp only [show (lN P' < lN e) = (P' < e) from propext (pk_lLT (by omega) (by omega))]
      split
      · rw [Nat.min_eq_right (by omega)]
      · rw [Nat.min_eq_left (by omega)]
    rw [tUp, ih, f1, e1]
    have hst : (taxSt Z (lN e) (k + 1)).1 = lN s + lN (min e P' - P) * (bRt Z k).toInt64 := by
      rw [taxSt, e1]
      show lN s + (if (if (Z.2.2 0 k).toInt64 < lN e then (Z.2.2 0 k).toInt64 else lN e) - lN P < 0 then 0 else (if (Z.2.2 0 k).toInt64 < lN e then (Z.2.2 0 k).toInt64 else lN e) - lN P) * (Z.2.2 1 k).toInt64 = _
      rw [hmn, tMax (by omega) (by omega), hr]
    rw [f1] at hst
    have hst2 : lN s' = lN s + lN (min e P' - P) * (bRt Z k).toInt64 := hst
    show lN s + (if lN e - lN P < 0 then 0 else lN e - lN P) * _ + (if lN e - (Z.2.2 0 k).toInt64 < 0 then 0 else lN e - (Z.2.2 0 k).toInt64) * _ = lN s' + (if lN e - lN P' < 0 then 0 else lN e - lN P') * _
    rw [hst2, hx, nI_l (by omega), tMax he (by omega), tMax he (by omega), g2, g4, i2l_sub (by omega) (by omega), nI_l (by omega), nI_l (by omega)]
    have hs : lN (e - P) = lN (min e P' - P) + lN (e - P') := by rw [lN_add]; congr 1; omega
    rw [hs]
    grind
theorem tUp_tax {Z : SV} (hgz : RngZ Z) {e : Nat} (he : e < 2 ^ 40) (h0 : ¬ lN e ≤ 0) : tUp Z (lN e) Z.1 / 1000 = sTax Z (lN e) := by
  rw [sTax, if_neg h0, tUp_eq hgz he _ (Nat.le_refl _), show bRt Z Z.1 = Z.2.1 4 from if_neg (Nat.lt_irrefl _)]
theorem AsN.so_b {S : StV} {k p d li s so : Nat} (h : AsN S.2.2.1 k p d li s so) (hs : SldOk S) (hk : k < S.2.2.1.1) : d / 30 ≤ so := by
  obtain ⟨-, -, hd, -, -, -, -, -, e1, -, -, e4⟩ := h
  rcases e4 with ⟨-, rfl⟩ | ⟨sd, h1, h2, rfl⟩
  · omega
  · rcases hs k hk with h3 | ⟨d2, sd2, h3, h4, h5, h6⟩
    · rw [h2] at h3; exact absurd h3 (nI_nm1 (by omega))
    · rw [e1] at h3; rw [h2] at h4
      have a1 := (nI_eq (by omega) (by omega)).mp h3
      have a2 := (nI_eq (by omega) (by omega)).mp h4
      omega
set_option maxRecDepth 100000 in
set_option maxHeartbeats 8000000 in
theorem cg_X8_profit (l : Launch) (D : va_G) (cy : Nat → ClassId) (B : Nat) (od : Nat → Option Nat) {A : AH} {g : Nat} {L : BL} {S : StV} {Z : SV} (hb : BkR cy A g L S Z) (hg : Rng Z S) (hw : WfS S) (hsl : SldOk S) {q9 : Nat} (hq9 : q9 ≤ 3) : CG l D cy B od yX8_profit cX8_profit 7 (some .long) rmX8_profit [.ref g, .int (nI q9)] A (fun v A' => v = some (.long (sProf S (nI q9) - sProf S (nI q9 - nI 1)))) := by
  intro z hF hz
  refine CT.of (by decide) tX8_profit okX8_profit (Nat.le_of_ble_eq_true rfl) (q0 := tX8_profit[0]) rfl rfl ?_
  intro p e s m args below meth c X hnm
  have hz9 : z + 160 ≤ 900000 := hz
  have hw1 := hw.1
  have hw3 := hw.2.2.1
  refine g_aload_n X rfl rfl ?_
  refine g_iload_n X rfl rfl ?_
  refine g_gV X rfl lcX8_poolOff lmX8_164 lsX8_poolOff (cg_X8_poolOff l D cy B od hb hg hq9) hF (by show z + 2 ≤ 900000; omega) (ci := 8) (hb.1) rfl rfl rfl (Nat.le_of_ble_eq_true rfl) ⟨by decide, by decide⟩ ⟨Nat.le_of_ble_eq_true rfl, Nat.le_of_ble_eq_true rfl⟩ (fun vp Ap zp qp hGp => ?_)
  obtain rfl := qp
  have hzp : z ≤ zp := hGp.2.1
  have hL : LsC cy A (L.1 2) (L.2.1 2) (L.2.2.1 2) S.1.1 (L.2.2.2 2) := hb.2.1 2 (by decide)
  have hn9 := hL.2.1
  have loop : ∀ (d i : Nat) (A1 : AH) (z1 : Nat) (lr : Int32) (o : Option Value), i + d = S.1.1 → Grw A z A1 z1 (3 + 2 * i) → A1 zp = some (itE i lr (L.2.1 2) (L.1 2)) → G p l e rmX8_profit s m args below meth c D B od 7 tX8_profit (FinQ false D B od (fun v A' z' => (fun v A' => v = some (.long (sProf S (nI q9) - sProf S (nI q9 - nI 1)))) v A' ∧ ∃ z1, z' = z1 + 1 ∧ Grw A z A' z1 rmX8_profit.cells) (fun _ _ => True) args s below rmX8_profit.cells rmX8_profit.slots) (3 + 2 * i) (12 + 8 * i) A1 (z1 + 1) 10 [some (.ref g), some (.int (nI q9)), some (.long ((-(aPW S.2.2.1 (nI q9) - aPW S.2.2.1 (nI q9 - nI 1))).toInt64 + mEn S q9 (i))), none, some (.ref zp), o, none] [] := by
    intro d
    induction d with
    | zero =>
      intro i Aq zq lr o  hid hGe hI 
      have e : i = S.1.1 := by omega
      subst e
      refine g_aload X rfl rfl ?_
      refine g_hasNext X rfl lmX8_52 (hL.le hGe.1).1 hI (by omega) hn9 (Nat.le_of_ble_eq_true rfl) ⟨by decide, by decide⟩ ⟨by show _ ≤ 160; omega, by show _ ≤ 928; omega⟩ ?_
      refine g_if_eqB X rfl (fun _ => ?_) (fun h => absurd (of_decide_eq_true h) (by omega))
      refine g_more (c' := 123) (s' := 492) (by omega) (by omega) ?_
      refine g_aload_n X rfl rfl ?_
      have hL3 : LsC cy A (L.1 3) (L.2.1 3) (L.2.2.1 3) S.2.2.1.1 (L.2.2.2 3) := hb.2.1 3 (by decide)
      refine g_get X rfl flX8_39 (ci := 8) rfl (hGe.1 _ _ hb.1) rfl ?_
      refine g_iter X rfl lmX8_48 (hL3.le hGe.1) hGe.2.2.2 (by have := hGe.2.2.1; omega) (Nat.le_of_ble_eq_true rfl) ⟨by decide, by decide⟩ ⟨Nat.le_of_ble_eq_true rfl, Nat.le_of_ble_eq_true rfl⟩ ?_
      have hGq : Grw A z (upA Aq zq (itE 0 (-1) (L.2.1 3) (L.1 3))) (zq + 1) 124 := (hGe.new hF).wide (by omega)
      have hzq : z ≤ zq := hGe.2.1
      have hL : LsC cy A (L.1 3) (L.2.1 3) (L.2.2.1 3) S.2.2.1.1 (L.2.2.2 3) := hb.2.1 3 (by decide)
      have hn9 := hL.2.1
      have loop3 : ∀ (d i : Nat) (A1 : AH) (z1 : Nat) (lr : Int32) (o : Option Value) (o2 : Option Value), i + d = S.2.2.1.1 → Grw A z A1 z1 (124 + 3 * i) → A1 zq = some (itE i lr (L.2.1 3) (L.1 3)) → G p l e rmX8_profit s m args below meth c D B od 7 tX8_profit (FinQ false D B od (fun v A' z' => (fun v A' => v = some (.long (sProf S (nI q9) - sProf S (nI q9 - nI 1)))) v A' ∧ ∃ z1, z' = z1 + 1 ∧ Grw A z A' z1 rmX8_profit.cells) (fun _ _ => True) args s below rmX8_profit.cells rmX8_profit.slots) (124 + 3 * i) (496 + 36 * i) A1 (z1 + 1) 57 [some (.ref g), some (.int (nI q9)), some (.long (((-(aPW S.2.2.1 (nI q9) - aPW S.2.2.1 (nI q9 - nI 1))).toInt64 + mEn S q9 S.1.1) + mAs S.2.2.1 q9 (i))), none, some (.ref zq), o, o2] [] := by
        intro d
        induction d with
        | zero =>
          intro i A1 z1 lr o o2 hid hG hI 
          have e : i = S.2.2.1.1 := by omega
          subst e
          refine g_aload X rfl rfl ?_
          refine g_hasNext X rfl lmX8_52 (hL.le hG.1).1 hI (by omega) hn9 (Nat.le_of_ble_eq_true rfl) ⟨by decide, by decide⟩ ⟨by show _ ≤ 160; omega, by show _ ≤ 928; omega⟩ ?_
          refine g_if_eqB X rfl (fun _ => ?_) (fun h => absurd (of_decide_eq_true h) (by omega))
          refine g_lload_n X rfl rfl ?_
          exact g_lret X rfl rfl (by show 124 + 3 * S.2.2.1.1 ≤ 160; omega) (by show 496 + 36 * S.2.2.1.1 ≤ 928; omega) ⟨by rw [← prof_q hg hw hq9, neg_off hg hw hq9]; show some (Value.long _) = some (Value.long _); congr 2; exact r_fi _ _ _, z1, rfl, hG.wide (by show 124 + 3 * S.2.2.1.1 ≤ 160; omega)⟩
        | succ d ih =>
          intro i A1 z1 lr o o2 hid hG hI 
          have hi : i < S.2.2.1.1 := by omega
          refine g_aload X rfl rfl ?_
          refine g_hasNext X rfl lmX8_52 (hL.le hG.1).1 hI (by omega) hn9 (Nat.le_of_ble_eq_true rfl) ⟨by decide, by decide⟩ ⟨by show _ ≤ 160; omega, by show _ ≤ 928; omega⟩ ?_
          refine g_if_eqB X rfl (fun h => absurd hi (of_decide_eq_false h)) (fun _ => ?_)
          refine g_aload X rfl rfl ?_
          refine g_next X rfl lmX8_58 (hL.le hG.1) hI hi (Nat.le_of_ble_eq_true rfl) ⟨by decide, by decide⟩ ⟨by show _ ≤ 160; omega, by show _ ≤ 928; omega⟩ ?_
          have hG2 : Grw A z (upA A1 zq (itE (i + 1) (nI i) (L.2.1 3) (L.1 3))) z1 (124 + 3 * i) := hG.up hF hzq (hG.2.2.2.lt hI)
          obtain ⟨r, hr0, hrv⟩ : ∃ r, A (L.2.2.2 3 i) = some (.inl (cy 0, 5, .inl r)) ∧ ∀ j, j < 5 → r j = S.2.2.1.2 (asC j) i := hb.2.2.2.2.2.1 i hi
          have hr := hG2.1 _ _ hr0
          refine g_castI X rfl clX8_62 hr ?_
          first | refine g_astoreS X rfl (by decide) rfl ?_ | refine g_astore X rfl (by decide) ?_
          obtain ⟨p9, d9, li, s9, so, hN⟩ := asset_N hg hi
          have hrv5 : ∀ j, j < 5 → r j = S.2.2.1.2 (asC j) i := hrv
          have hs9 : S.2.2.1.2 3 i = sSort Z (S.2.2.1.2 0 i) := (hg.2.2.1 i hi).2.2.2.1
          have hso := hN.so_b hsl hi
          have mid : ∀ (sm : Int64), sm = ((-(aPW S.2.2.1 (nI q9) - aPW S.2.2.1 (nI q9 - nI 1))).toInt64 + mEn S q9 S.1.1) + mAs S.2.2.1 q9 i + (if ¬ S.2.2.1.2 4 i = -1 ∧ S.2.2.1.2 4 i / nI 90 = nI q9 then (S.2.2.1.2 5 i).toInt64 else 0) → G p l e rmX8_profit s m args below meth c D B od 7 tX8_profit (FinQ false D B od (fun v A' z' => (fun v A' => v = some (.long (sProf S (nI q9) - sProf S (nI q9 - nI 1)))) v A' ∧ ∃ z1, z' = z1 + 1 ∧ Grw A z A' z1 rmX8_profit.cells) (fun _ _ => True) args s below rmX8_profit.cells rmX8_profit.slots) (124 + 3 * i) (496 + 36 * i) (upA A1 zq (itE (i + 1) (nI i) (L.2.1 3) (L.1 3))) (z1 + 1) 83 [some (.ref g), some (.int (nI q9)), some (.long sm), none, some (.ref zq), some (.ref (L.2.2.2 3 i)), o2] [] := by
            intro sm hsm
            refine g_iconst X rfl (v := nI 3) (by decide) ?_
            refine g_iload_n X rfl rfl ?_
            refine g_imul X rfl ?_
            rw [pk_mul]
            first | refine g_istoreS X rfl (by decide) rfl ?_ | refine g_istore X rfl (by decide) ?_
            refine g_iload X rfl rfl ?_
            refine g_iconst X rfl (v := nI 3) (by decide) ?_
            refine g_iload_n X rfl rfl ?_
            refine g_imul X rfl ?_
            rw [pk_mul]
            refine g_iconst X rfl (v := nI 3) (by decide) ?_
            refine g_iadd X rfl ?_
            rw [nI_add]
            refine g_ic_geN X rfl (by omega) (by omega) (fun h => absurd h (by omega)) (fun _ => ?_)
            · skip
              refine g_lload_n X rfl rfl ?_
              refine g_aload_n X rfl rfl ?_
              refine g_aload X rfl rfl ?_
              refine g_gV X rfl lcX8_written lmX8_156 lsX8_written (cg_X8_written l D cy B od (hb.le hG2.1) (hG2.1 _ _ hr0) hrv5 hN hs9 hso) hG2.2.2.2 (by have := hG2.2.2.1; show z1 + 1 ≤ 900000; omega) (ci := 8) (hG2.1 _ _ hb.1) rfl rfl rfl (Nat.le_of_ble_eq_true rfl) ⟨by decide, by decide⟩ ⟨by show 124 + 3 * i + 1 ≤ 160; omega, by show 496 + 36 * i + 12 ≤ 928; omega⟩ (fun w0 B0 y0 p0 hK0 => ?_)
              obtain ⟨u0, g0, rfl, hu0, hg0⟩ := p0
              have hM0 : Grw A z B0 y0 (124 + 3 * i + 1) := hG2.tr hK0
              refine g_iload X rfl rfl ?_
              refine g_ialdN X rfl hu0 (by omega) (by decide) ?_
              rw [hg0 _ (by omega), ← hN.wd (show 3 * q9 ≤ 11 by omega)]
              refine g_i2l X rfl ?_
              refine g_lsub X rfl ?_
              first | refine g_lstore_nS X rfl (by decide) rfl ?_ | refine g_lstore_n X rfl (by decide) ?_
              first | refine g_iinc1S X rfl rfl (by decide) rfl ?_ | refine g_iinc1 X rfl rfl (by decide) ?_
              refine g_goto X rfl ?_
              refine g_iload X rfl rfl ?_
              refine g_iconst X rfl (v := nI 3) (by decide) ?_
              refine g_iload_n X rfl rfl ?_
              refine g_imul X rfl ?_
              rw [pk_mul]
              refine g_iconst X rfl (v := nI 3) (by decide) ?_
              refine g_iadd X rfl ?_
              rw [nI_add]
              refine g_ic_geN X rfl (by omega) (by omega) (fun h => absurd h (by omega)) (fun _ => ?_)
              · skip
                refine g_lload_n X rfl rfl ?_
                refine g_aload_n X rfl rfl ?_
                refine g_aload X rfl rfl ?_
                refine g_gV X rfl lcX8_written lmX8_156 lsX8_written (cg_X8_written l D cy B od (hb.le hM0.1) (hM0.1 _ _ hr0) hrv5 hN hs9 hso) hM0.2.2.2 (by have := hM0.2.2.1; show y0 + 1 ≤ 900000; omega) (ci := 8) (hM0.1 _ _ hb.1) rfl rfl rfl (Nat.le_of_ble_eq_true rfl) ⟨by decide, by decide⟩ ⟨by show 124 + 3 * i + 1 + 1 ≤ 160; omega, by show 496 + 36 * i + 12 + 12 ≤ 928; omega⟩ (fun w1 B1 y1 p1 hK1 => ?_)
                obtain ⟨u1, g1, rfl, hu1, hg1⟩ := p1
                have hM1 : Grw A z B1 y1 (124 + 3 * i + 1 + 1) := hM0.tr hK1
                refine g_iload X rfl rfl ?_
                refine g_ialdN X rfl hu1 (by omega) (by decide) ?_
                rw [hg1 _ (by omega), ← hN.wd (show 3 * q9 + 1 ≤ 11 by omega)]
                refine g_i2l X rfl ?_
                refine g_lsub X rfl ?_
                first | refine g_lstore_nS X rfl (by decide) rfl ?_ | refine g_lstore_n X rfl (by decide) ?_
                first | refine g_iinc1S X rfl rfl (by decide) rfl ?_ | refine g_iinc1 X rfl rfl (by decide) ?_
                refine g_goto X rfl ?_
                refine g_iload X rfl rfl ?_
                refine g_iconst X rfl (v := nI 3) (by decide) ?_
                refine g_iload_n X rfl rfl ?_
                refine g_imul X rfl ?_
                rw [pk_mul]
                refine g_iconst X rfl (v := nI 3) (by decide) ?_
                refine g_iadd X rfl ?_
                rw [nI_add]
                refine g_ic_geN X rfl (by omega) (by omega) (fun h => absurd h (by omega)) (fun _ => ?_)
                · skip
                  refine g_lload_n X rfl rfl ?_
                  refine g_aload_n X rfl rfl ?_
                  refine g_aload X rfl rfl ?_
                  refine g_gV X rfl lcX8_written lmX8_156 lsX8_written (cg_X8_written l D cy B od (hb.le hM1.1) (hM1.1 _ _ hr0) hrv5 hN hs9 hso) hM1.2.2.2 (by have := hM1.2.2.1; show y1 + 1 ≤ 900000; omega) (ci := 8) (hM1.1 _ _ hb.1) rfl rfl rfl (Nat.le_of_ble_eq_true rfl) ⟨by decide, by decide⟩ ⟨by show 124 + 3 * i + 1 + 1 + 1 ≤ 160; omega, by show 496 + 36 * i + 12 + 12 + 12 ≤ 928; omega⟩ (fun w2 B2 y2 p2 hK2 => ?_)
                  obtain ⟨u2, g2, rfl, hu2, hg2⟩ := p2
                  have hM2 : Grw A z B2 y2 (124 + 3 * i + 1 + 1 + 1) := hM1.tr hK2
                  refine g_iload X rfl rfl ?_
                  refine g_ialdN X rfl hu2 (by omega) (by decide) ?_
                  rw [hg2 _ (by omega), ← hN.wd (show 3 * q9 + 1 + 1 ≤ 11 by omega)]
                  refine g_i2l X rfl ?_
                  refine g_lsub X rfl ?_
                  first | refine g_lstore_nS X rfl (by decide) rfl ?_ | refine g_lstore_n X rfl (by decide) ?_
                  first | refine g_iinc1S X rfl rfl (by decide) rfl ?_ | refine g_iinc1 X rfl rfl (by decide) ?_
                  refine g_goto X rfl ?_
                  refine g_iload X rfl rfl ?_
                  refine g_iconst X rfl (v := nI 3) (by decide) ?_
                  refine g_iload_n X rfl rfl ?_
                  refine g_imul X rfl ?_
                  rw [pk_mul]
                  refine g_iconst X rfl (v := nI 3) (by decide) ?_
                  refine g_iadd X rfl ?_
                  rw [nI_add]
                  refine g_ic_geN X rfl (by omega) (by omega) (fun _ => ?_) (fun h => absurd h (by omega))
                  · skip
                    refine g_goto X rfl ?_
                    refine g_more (c' := 124 + 3 * (i + 1)) (s' := 496 + 36 * (i + 1)) (by show 124 + 3 * i + 1 + 1 + 1 ≤ _; omega) (by show 496 + 36 * i + 12 + 12 + 12 ≤ _; omega) ?_
                    have K9 := ih (i + 1) B2 y2 _ (some (.ref (L.2.2.2 3 i))) (some (.int (nI (3 * q9 + 1 + 1 + 1)))) (by omega) ((hM2.wide (by show 124 + 3 * i + 1 + 1 + 1 ≤ _; omega)) : Grw A z B2 y2 (124 + 3 * (i + 1))) (((hK0.tr hK1).tr hK2).1 _ _ upA_eq)
                    rw [show ((-(aPW S.2.2.1 (nI q9) - aPW S.2.2.1 (nI q9 - nI 1))).toInt64 + mEn S q9 S.1.1) + mAs S.2.2.1 q9 (i + 1) = sm - (aWU S.2.2.1 i (nI (3 * q9)) - aWU S.2.2.1 i (nI (3 * q9) - nI 1)).toInt64 - (aWU S.2.2.1 i (nI (3 * q9 + 1)) - aWU S.2.2.1 i (nI (3 * q9 + 1) - nI 1)).toInt64 - (aWU S.2.2.1 i (nI (3 * q9 + 1 + 1)) - aWU S.2.2.1 i (nI (3 * q9 + 1 + 1) - nI 1)).toInt64 by rw [mAs_s, hsm]; exact r_as _ _ _ _ _ _] at K9
                    exact K9
          refine g_aload X rfl rfl ?_
          refine g_iconst X rfl (v := nI 3) (by decide) ?_
          refine g_ialdN X rfl hr (by decide) (by decide) ?_
          rw [show r 3 = S.2.2.1.2 4 i from hrv 3 (by decide)]
          refine g_iconst X rfl (v := (-1)) (by decide) ?_
          refine g_icmp_eq X rfl (fun h => ?_) (fun h => ?_)
          · exact mid _ (by rw [if_neg (fun q => q.1 h)]; exact (Int64.add_zero _).symm)
          · skip
            refine g_aload X rfl rfl ?_
            refine g_iconst X rfl (v := nI 3) (by decide) ?_
            refine g_ialdN X rfl hr (by decide) (by decide) ?_
            rw [show r 3 = S.2.2.1.2 4 i from hrv 3 (by decide)]
            refine g_bipush X rfl (v := nI 90) (by decide) ?_
            refine g_idiv X rfl (by decide) ?_
            refine g_iload_n X rfl rfl ?_
            refine g_icmp_ne X rfl (fun h2 => ?_) (fun h2 => ?_)
            · exact mid _ (by rw [if_neg (fun q => h2 q.2)]; exact (Int64.add_zero _).symm)
            · skip
              refine g_lload_n X rfl rfl ?_
              refine g_aload X rfl rfl ?_
              refine g_iconst X rfl (v := nI 4) (by decide) ?_
              refine g_ialdN X rfl hr (by decide) (by decide) ?_
              rw [show r 4 = S.2.2.1.2 5 i from hrv 4 (by decide)]
              refine g_i2l X rfl ?_
              refine g_ladd X rfl ?_
              first | refine g_lstore_nS X rfl (by decide) rfl ?_ | refine g_lstore_n X rfl (by decide) ?_
              exact mid _ (by rw [if_pos ⟨h, h2⟩])
      first | refine g_astoreS X rfl (by decide) rfl ?_ | refine g_astore X rfl (by decide) ?_
      have K9 := loop3 S.2.2.1.1 0 _ (zq + 1) (-1) o none (Nat.zero_add _) hGq upA_eq
      rw [show ((-(aPW S.2.2.1 (nI q9) - aPW S.2.2.1 (nI q9 - nI 1))).toInt64 + mEn S q9 S.1.1) + mAs S.2.2.1 q9 0 = ((-(aPW S.2.2.1 (nI q9) - aPW S.2.2.1 (nI q9 - nI 1))).toInt64 + mEn S q9 S.1.1) from Int64.add_zero _] at K9
      exact K9
    | succ d ih =>
      intro i A1 z1 lr o  hid hG hI 
      have hi : i < S.1.1 := by omega
      refine g_aload X rfl rfl ?_
      refine g_hasNext X rfl lmX8_52 (hL.le hG.1).1 hI (by omega) hn9 (Nat.le_of_ble_eq_true rfl) ⟨by decide, by decide⟩ ⟨by show _ ≤ 160; omega, by show _ ≤ 928; omega⟩ ?_
      refine g_if_eqB X rfl (fun h => absurd hi (of_decide_eq_false h)) (fun _ => ?_)
      refine g_aload X rfl rfl ?_
      refine g_next X rfl lmX8_58 (hL.le hG.1) hI hi (Nat.le_of_ble_eq_true rfl) ⟨by decide, by decide⟩ ⟨by show _ ≤ 160; omega, by show _ ≤ 928; omega⟩ ?_
      have hG2 : Grw A z (upA A1 zp (itE (i + 1) (nI i) (L.2.1 2) (L.1 2))) z1 (3 + 2 * i) := hG.up hF hzp (hG.2.2.2.lt hI)
      obtain ⟨r, hr0, hrv⟩ : ∃ r, A (L.2.2.2 2 i) = some (.inl (cy 0, 7, .inl r)) ∧ ∀ j, j < 7 → r j = S.1.2 j i := hb.2.2.2.2.1 i hi
      have hr := hG2.1 _ _ hr0
      refine g_castI X rfl clX8_62 hr ?_
      first | refine g_astoreS X rfl (by decide) rfl ?_ | refine g_astore X rfl (by decide) ?_
      refine g_aload_n X rfl rfl ?_
      refine g_aload X rfl rfl ?_
      refine g_rV X rfl lcX8_counts lmX8_167 lsX8_counts (cr_X8_counts l D cy B od (E := S.1) (j := i) hr (hrv 4 (by decide)) (hrv 5 (by decide))) (ci := 8) (hG2.1 _ _ hb.1) rfl rfl rfl (Nat.le_of_ble_eq_true rfl) ⟨⟨by decide, by decide⟩, rfl, rfl⟩ ⟨by show _ ≤ 160; omega, by show _ ≤ 928; omega⟩ ?_
      refine g_if_eqB X rfl (fun hc => ?_) (fun hc => ?_)
      · have hq : mEn S q9 (i + 1) = mEn S q9 i := by rw [mEn_s, if_neg (by rw [cno hc]; decide)]
        refine g_goto X rfl ?_
        have K9 := ih (i + 1) _ z1 _ (some (.ref (L.2.2.2 2 i))) (by omega) (hG2.wide (by omega) : Grw A z _ z1 (3 + 2 * (i + 1))) upA_eq
        rw [hq] at K9
        exact g_more (by omega) (by omega) K9
      · obtain ⟨pd, hpd, ep⟩ := paid_N hg hi hc
        refine g_aload X rfl rfl ?_
        refine g_iconst X rfl (v := nI 4) (by decide) ?_
        refine g_ialdN X rfl hr (by decide) (by decide) ?_
        rw [hrv 4 (by decide), ep]
        refine g_bipush X rfl (v := nI 90) (by decide) ?_
        refine g_idiv X rfl (by decide) ?_
        rw [pk_div (by omega) (by omega) (by omega)]
        refine g_iload_n X rfl rfl ?_
        refine g_ic_neN X rfl (by omega) (by omega) (fun h => ?_) (fun h => ?_)
        · have hq : mEn S q9 (i + 1) = mEn S q9 i := by rw [mEn_s, if_neg (by rw [cwin ep hpd (by omega) (by omega)]; simp; omega)]
          refine g_goto X rfl ?_
          have K9 := ih (i + 1) _ z1 _ (some (.ref (L.2.2.2 2 i))) (by omega) (hG2.wide (by omega) : Grw A z _ z1 (3 + 2 * (i + 1))) upA_eq
          rw [hq] at K9
          exact g_more (by omega) (by omega) K9
        · skip
          refine g_lload_n X rfl rfl ?_
          refine g_aload X rfl rfl ?_
          refine g_iconst X rfl (v := nI 0) (by decide) ?_
          refine g_ialdN X rfl hr (by decide) (by decide) ?_
          rw [hrv 0 (by decide)]
          refine g_if_ne X rfl (fun h0 => ?_) (fun h0 => ?_)
          · skip
            refine g_aload_n X rfl rfl ?_
            refine g_aload X rfl rfl ?_
            refine g_iconst X rfl (v := nI 0) (by decide) ?_
            refine g_ialdN X rfl hr (by decide) (by decide) ?_
            rw [hrv 0 (by decide)]
            refine g_aload X rfl rfl ?_
            refine g_iconst X rfl (v := nI 2) (by decide) ?_
            refine g_ialdN X rfl hr (by decide) (by decide) ?_
            rw [hrv 2 (by decide)]
            refine g_aload X rfl rfl ?_
            refine g_iconst X rfl (v := nI 4) (by decide) ?_
            refine g_ialdN X rfl hr (by decide) (by decide) ?_
            rw [hrv 4 (by decide), ep]
            refine g_gV X rfl lcX8_deducted lmX8_171 lsX8_deducted (cg_X8_deducted l D cy B od (hb.le hG2.1) hg hw (kd := S.1.2 0 i) (am := S.1.2 2 i) hpd) hG2.2.2.2 (by have := hG2.2.2.1; show z1 + 2 ≤ 900000; omega) (ci := 8) (hG2.1 _ _ hb.1) rfl rfl rfl (Nat.le_of_ble_eq_true rfl) ⟨by decide, by decide⟩ ⟨by show 3 + 2 * i + 2 ≤ 160; omega, by show 12 + 8 * i + 8 ≤ 928; omega⟩ (fun v3 A3 z3 q3 hG3 => ?_)
            obtain rfl := q3
            refine g_lneg X rfl ?_
            refine g_ladd X rfl ?_
            have hq : (-(aPW S.2.2.1 (nI q9) - aPW S.2.2.1 (nI q9 - nI 1))).toInt64 + mEn S q9 (i + 1) = (-(aPW S.2.2.1 (nI q9) - aPW S.2.2.1 (nI q9 - nI 1))).toInt64 + mEn S q9 i + -sDed S.2.1 (S.1.2 0 i) (S.1.2 2 i) (nI pd) := by
              rw [mEn_s, if_pos (by rw [cwin ep hpd (by omega) (by omega), hc]; simp; omega)]
              rw [if_neg h0, dOf, if_pos hc, ep]; exact r_e1 _ _ _
            first | refine g_lstore_nS X rfl (by decide) rfl ?_ | refine g_lstore_n X rfl (by decide) ?_
            refine g_goto X rfl ?_
            have K9 := ih (i + 1) A3 z3 _ (some (.ref (L.2.2.2 2 i))) (by omega) ((hG2.tr hG3).wide (by show 3 + 2 * i + 2 ≤ _; omega) : Grw A z A3 z3 (3 + 2 * (i + 1))) (hG3.1 _ _ upA_eq)
            rw [hq] at K9
            exact g_more (by show 3 + 2 * i + 2 ≤ _; omega) (by show 12 + 8 * i + 8 ≤ _; omega) K9
          · skip
            refine g_aload X rfl rfl ?_
            refine g_iconst X rfl (v := nI 2) (by decide) ?_
            refine g_ialdN X rfl hr (by decide) (by decide) ?_
            rw [hrv 2 (by decide)]
            refine g_i2l X rfl ?_
            refine g_goto X rfl ?_
            refine g_ladd X rfl ?_
            have hq : (-(aPW S.2.2.1 (nI q9) - aPW S.2.2.1 (nI q9 - nI 1))).toInt64 + mEn S q9 (i + 1) = (-(aPW S.2.2.1 (nI q9) - aPW S.2.2.1 (nI q9 - nI 1))).toInt64 + mEn S q9 i + (S.1.2 2 i).toInt64 := by
              rw [mEn_s, if_pos (by rw [cwin ep hpd (by omega) (by omega), hc]; simp; omega)]
              rw [if_pos h0, dOf, if_pos hc, sDed, h0, if_neg (by decide), if_pos (Or.inl (by decide))]; exact r_e2 _ _ _
            first | refine g_lstore_nS X rfl (by decide) rfl ?_ | refine g_lstore_n X rfl (by decide) ?_
            refine g_goto X rfl ?_
            have K9 := ih (i + 1) _ z1 _ (some (.ref (L.2.2.2 2 i))) (by omega) (hG2.wide (by omega) : Grw A z _ z1 (3 + 2 * (i + 1))) upA_eq
            rw [hq] at K9
            exact g_more (by omega) (by omega) K9
  refine g_ineg X rfl ?_
  refine g_i2l X rfl ?_
  first | refine g_lstore_nS X rfl (by decide) rfl ?_ | refine g_lstore_n X rfl (by decide) ?_
  refine g_aload_n X rfl rfl ?_
  refine g_get X rfl flX8_36 (ci := 8) rfl (hGp.1 _ _ hb.1) rfl ?_
  refine g_iter X rfl lmX8_48 (hL.le hGp.1) hGp.2.2.2 (by have : zp ≤ z + 2 := hGp.2.2.1; omega) (Nat.le_of_ble_eq_true rfl) ⟨by decide, by decide⟩ ⟨Nat.le_of_ble_eq_true rfl, Nat.le_of_ble_eq_true rfl⟩ ?_
  first | refine g_astoreS X rfl (by decide) rfl ?_ | refine g_astore X rfl (by decide) ?_
  have K9 := loop S.1.1 0 _ (zp + 1) (-1) none (Nat.zero_add _) ((hGp.new hF).wide (by decide)) upA_eq
  rw [show (-(aPW S.2.2.1 (nI q9) - aPW S.2.2.1 (nI q9 - nI 1))).toInt64 + mEn S q9 0 = (-(aPW S.2.2.1 (nI q9) - aPW S.2.2.1 (nI q9 - nI 1))).toInt64 from Int64.add_zero _] at K9
  exact K9
