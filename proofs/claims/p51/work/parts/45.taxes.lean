/-! 45: profits up to a quarter, taxes, prepayments, balances of the Book -/
/-- the room of the profits up to a quarter: one call more for each -/
abbrev rPT (k : Nat) : Room := { frames := 6 + k, cells := 160 * k, slots := 928 * k, locals := 135 + 30 * k }
theorem sPT (a b : Int64) : a + (b - a) = b := by grind
set_option maxRecDepth 100000 in
set_option maxHeartbeats 400000 in
theorem cg_X8_profitTo (l : Launch) (D : va_G) (cy : Nat → ClassId) (B : Nat) (od : Nat → Option Nat) {A : AH} {g : Nat} {L : BL} {S : StV} {Z : SV} (hb : BkR cy A g L S Z) (hg : Rng Z S) (hw : WfS S) (hsl : SldOk S) : ∀ (k : Nat), k ≤ 4 → CG l D cy B od yX8_profitTo cX8_profitTo 2 (some .long) (rPT k) [.ref g, .int (nI k - nI 1)] A (fun v A' => v = some (.long (sProf S (nI k - nI 1)))) := by
  intro k
  induction k with
  | zero =>
    intro _ z hF hz
    refine CT.of (by decide) tX8_profitTo okX8_profitTo (Nat.le_of_ble_eq_true rfl) (q0 := tX8_profitTo[0]) rfl rfl ?_
    intro p e s m args below meth c X hnm
    refine g_iload_n X rfl rfl ?_
    refine g_if_ge X rfl (fun h => absurd h (by decide)) (fun _ => ?_)
    · skip
      refine g_lconst X rfl (v := 0) (by decide) ?_
      refine g_goto X rfl ?_
      exact g_lret X rfl rfl (Nat.le_refl _) (Nat.le_refl _) ⟨by rw [sProf_m hg], z, rfl, Grw.rf hF⟩
  | succ k ih =>
    intro hk
    rw [show nI (k + 1) - nI 1 = nI k from nI_pred k]
    intro z hF hz
    have hz9 : z + 160 * (k + 1) ≤ 900000 := hz
    refine CT.of (by decide) tX8_profitTo okX8_profitTo (Nat.le_of_ble_eq_true rfl) (q0 := tX8_profitTo[0]) rfl rfl ?_
    intro p e s m args below meth c X hnm
    refine g_iload_n X rfl rfl ?_
    refine g_if_ge X rfl (fun _ => ?_) (fun h => absurd (nI_pos' (by omega)) h)
    · skip
      refine g_aload_n X rfl rfl ?_
      refine g_iload_n X rfl rfl ?_
      refine g_iconst X rfl (v := nI 1) (by decide) ?_
      refine g_isub X rfl ?_
      refine g_gV X rfl lcX8_profitTo lmX8_175 lsX8_profitTo (ih (by omega)) hF (by show z + 160 * k ≤ 900000; omega) (ci := 8) hb.1 rfl rfl rfl (Nat.le_of_ble_eq_true rfl) ⟨by show 6 + k + 1 ≤ 6 + (k + 1); omega, by show 8 + (2 + 11) + (135 + 30 * k) ≤ 135 + 30 * (k + 1); omega⟩ ⟨by show 0 + 160 * k ≤ 160 * (k + 1); omega, by show 0 + 928 * k ≤ 928 * (k + 1); omega⟩ (fun v1 A1 z1 q1 hG1 => ?_)
      obtain rfl := q1
      refine g_aload_n X rfl rfl ?_
      refine g_iload_n X rfl rfl ?_
      refine g_gV X rfl lcX8_profit lmX8_178 lsX8_profit (cg_X8_profit l D cy B od (hb.le hG1.1) hg hw hsl (by omega)) hG1.2.2.2 (by have a1 : z1 ≤ z + 160 * k := hG1.2.2.1; show z1 + 160 ≤ 900000; omega) (ci := 8) (hb.le hG1.1).1 rfl rfl rfl (Nat.le_of_ble_eq_true rfl) ⟨by show 5 + 1 ≤ 6 + (k + 1); omega, by show 8 + (7 + 11) + 109 ≤ 135 + 30 * (k + 1); omega⟩ ⟨by show 0 + 160 * k + 160 ≤ 160 * (k + 1); omega, by show 0 + 928 * k + 928 ≤ 928 * (k + 1); omega⟩ (fun v2 A2 z2 q2 hG2 => ?_)
      obtain rfl := q2
      refine g_ladd X rfl ?_
      rw [sPT]
      exact g_lret X rfl rfl (by show 0 + 160 * k + 160 ≤ 160 * (k + 1); omega) (by show 0 + 928 * k + 928 ≤ 928 * (k + 1); omega) ⟨rfl, z2, rfl, (hG1.tr hG2).wide (by show 160 * k + 160 ≤ 160 * (k + 1); omega)⟩
theorem nI_1b (a : Nat) : nI a + nI 1 = nI (a + 1) := nI_add a 1
set_option maxRecDepth 100000 in
set_option maxHeartbeats 400000 in
theorem cr_X8_tax (l : Launch) (D : va_G) (cy : Nat → ClassId) (B : Nat) (od : Nat → Option Nat) {A : AH} {g : Nat} {L : BL} {S : StV} {Z : SV} (hb : BkR cy A g L S Z) (hgz : RngZ Z) {e9 : Nat} (he : e9 < 2 ^ 40) : CR l D cy B od yX8_tax cX8_tax 8 (some .long) rmX8_tax [.ref g, .long (lN e9)] A (.long (sTax Z (lN e9))) := by
  intro z
  refine CT.of (by decide) tX8_tax okX8_tax (Nat.le_of_ble_eq_true rfl) (q0 := tX8_tax[0]) rfl rfl ?_
  intro p e s m args below meth c X hnm
  have hL : LsC cy A (L.1 0) (L.2.1 0) (L.2.2.1 0) Z.1 (L.2.2.2 0) := hb.2.1 0 (by decide)
  have hn9 := hL.2.1
  refine g_lload_n X rfl rfl ?_
  refine g_lconst X rfl (v := 0) (by decide) ?_
  refine g_l_gt X rfl rfl (fun h => ?_) (fun h => ?_)
  · have h0 : ¬ lN e9 ≤ 0 := fun q => by rw [Int64.lt_iff_toInt_lt] at h; rw [Int64.le_iff_toInt_le] at q; omega
    have loop : ∀ (d k : Nat) (o : Option Value), k + d = Z.1 → G p l e rmX8_tax s m args below meth c D B od 8 tX8_tax (FinQ false D B od (fun v A' z' => v = some (.long (sTax Z (lN e9))) ∧ A' = A ∧ z' = z) (fun _ _ => True) args s below rmX8_tax.cells rmX8_tax.slots) 0 0 A z 28 [some (.ref g), some (.long (lN e9)), none, some (.int (bRt Z k)), some (.long (tUp Z (lN e9) k)), none, some (.int (nI k)), o] [] := by
      intro d
      induction d with
      | zero =>
        intro k o hk
        have e : k = Z.1 := by omega
        subst e
        refine g_iload X rfl rfl ?_
        refine g_aload_n X rfl rfl ?_
        refine g_get X rfl flX8_29 (ci := 8) rfl (hb.1) rfl ?_
        refine g_rV X rfl lcJx4a65c_size_8abf5 lmX8_188 lsJx4a65c_size_8abf5 (cr_size l D cy B od hL) (ci := 9) (hL.1) rfl rfl rfl (Nat.le_of_ble_eq_true rfl) ⟨⟨by decide, by decide⟩, rfl, rfl⟩ ⟨Nat.le_of_ble_eq_true rfl, Nat.le_of_ble_eq_true rfl⟩ ?_
        refine g_ic_geN X rfl (by omega) (by omega) (fun _ => ?_) (fun h => absurd h (by omega))
        · skip
          refine g_lload X rfl rfl ?_
          refine g_ldc2 X rfl kcX8_191 ?_
          refine g_ldiv X rfl (by decide) ?_
          exact g_lret X rfl rfl (Nat.le_of_ble_eq_true rfl) (Nat.le_of_ble_eq_true rfl) ⟨by rw [tUp_tax hgz he h0], rfl, rfl⟩
      | succ d ih =>
        intro k o hk
        have hi : k < Z.1 := by omega
        refine g_iload X rfl rfl ?_
        refine g_aload_n X rfl rfl ?_
        refine g_get X rfl flX8_29 (ci := 8) rfl (hb.1) rfl ?_
        refine g_rV X rfl lcJx4a65c_size_8abf5 lmX8_188 lsJx4a65c_size_8abf5 (cr_size l D cy B od hL) (ci := 9) (hL.1) rfl rfl rfl (Nat.le_of_ble_eq_true rfl) ⟨⟨by decide, by decide⟩, rfl, rfl⟩ ⟨Nat.le_of_ble_eq_true rfl, Nat.le_of_ble_eq_true rfl⟩ ?_
        refine g_ic_geN X rfl (by omega) (by omega) (fun h => absurd h (by omega)) (fun _ => ?_)
        · skip
          refine g_iload X rfl rfl ?_
          refine g_iconst X rfl (v := nI 1) (by decide) ?_
          refine g_iadd X rfl ?_
          rw [nI_1b k]
          refine g_aload_n X rfl rfl ?_
          refine g_get X rfl flX8_29 (ci := 8) rfl (hb.1) rfl ?_
          refine g_rV X rfl lcJx4a65c_size_8abf5 lmX8_188 lsJx4a65c_size_8abf5 (cr_size l D cy B od hL) (ci := 9) (hL.1) rfl rfl rfl (Nat.le_of_ble_eq_true rfl) ⟨⟨by decide, by decide⟩, rfl, rfl⟩ ⟨Nat.le_of_ble_eq_true rfl, Nat.le_of_ble_eq_true rfl⟩ ?_
          refine g_ic_geN X rfl (by omega) (by omega) (fun h2 => ?_) (fun h2 => ?_)
          · have hr9 : Z.2.1 4 = bRt Z (k + 1) := (if_neg (by omega)).symm
            refine g_aload_n X rfl rfl ?_
            refine g_get X rfl flX8_23 (ci := 8) rfl (hb.1) rfl ?_
            rw [hr9]
            first | refine g_istoreS X rfl (by decide) rfl ?_ | refine g_istore X rfl (by decide) ?_
            refine g_lload X rfl rfl ?_
            refine g_lconst X rfl (v := 0) (by decide) ?_
            refine g_lload_n X rfl rfl ?_
            refine g_aload_n X rfl rfl ?_
            refine g_get X rfl flX8_29 (ci := 8) rfl (hb.1) rfl ?_
            refine g_iload X rfl rfl ?_
            refine g_rV X rfl lcJx4a65c_get_915e3 lmX8_184 lsJx4a65c_get_915e3 (cr_get l D cy B od hL (j := k) hi) (ci := 9) (hL.1) rfl rfl rfl (Nat.le_of_ble_eq_true rfl) ⟨⟨by decide, by decide⟩, rfl, rfl⟩ ⟨Nat.le_of_ble_eq_true rfl, Nat.le_of_ble_eq_true rfl⟩ ?_
            obtain ⟨q, hq, hqv⟩ : ∃ r, A (L.2.2.2 0 (k)) = some (.inl (cy 0, 2, .inl r)) ∧ ∀ i, i < 2 → r i = Z.2.2 i (k) := hb.2.2.1 _ hi
            refine g_castI X rfl clX8_62 hq ?_
            refine g_iconst X rfl (v := nI 0) (by decide) ?_
            refine g_ialdN X rfl hq (by decide) (by decide) ?_
            rw [hqv 0 (by decide)]
            refine g_i2l X rfl ?_
            refine g_lsub X rfl ?_
            refine g_m_max_l X rfl lmX8_135 (Nat.le_of_ble_eq_true rfl) ⟨by decide, by decide⟩ ⟨Nat.le_of_ble_eq_true rfl, Nat.le_of_ble_eq_true rfl⟩ ?_
            refine g_iload X rfl rfl ?_
            refine g_iload_n X rfl rfl ?_
            refine g_isub X rfl ?_
            refine g_i2l X rfl ?_
            refine g_lmul X rfl ?_
            refine g_ladd X rfl ?_
            first | refine g_lstoreS X rfl (by decide) rfl ?_ | refine g_lstore X rfl (by decide) ?_
            refine g_iload X rfl rfl ?_
            first | refine g_istore_nS X rfl (by decide) rfl ?_ | refine g_istore_n X rfl (by decide) ?_
            first | refine g_iinc1S X rfl rfl (by decide) rfl ?_ | refine g_iinc1 X rfl rfl (by decide) ?_
            refine g_goto X rfl ?_
            exact ih (k + 1) _ (by omega)
          · have hr9 : Z.2.2 1 (k + 1) = bRt Z (k + 1) := (if_pos h2).symm
            refine g_aload_n X rfl rfl ?_
            refine g_get X rfl flX8_29 (ci := 8) rfl (hb.1) rfl ?_
            refine g_iload X rfl rfl ?_
            refine g_iconst X rfl (v := nI 1) (by decide) ?_
            refine g_iadd X rfl ?_
            rw [nI_1b k]
            refine g_rV X rfl lcJx4a65c_get_915e3 lmX8_184 lsJx4a65c_get_915e3 (cr_get l D cy B od hL (j := k + 1) h2) (ci := 9) (hL.1) rfl rfl rfl (Nat.le_of_ble_eq_true rfl) ⟨⟨by decide, by decide⟩, rfl, rfl⟩ ⟨Nat.le_of_ble_eq_true rfl, Nat.le_of_ble_eq_true rfl⟩ ?_
            obtain ⟨r, hr, hrv⟩ : ∃ r, A (L.2.2.2 0 (k + 1)) = some (.inl (cy 0, 2, .inl r)) ∧ ∀ i, i < 2 → r i = Z.2.2 i (k + 1) := hb.2.2.1 _ h2
            refine g_castI X rfl clX8_62 hr ?_
            refine g_iconst X rfl (v := nI 1) (by decide) ?_
            refine g_ialdN X rfl hr (by decide) (by decide) ?_
            rw [hrv 1 (by decide)]
            refine g_goto X rfl ?_
            rw [hr9]
            first | refine g_istoreS X rfl (by decide) rfl ?_ | refine g_istore X rfl (by decide) ?_
            refine g_lload X rfl rfl ?_
            refine g_lconst X rfl (v := 0) (by decide) ?_
            refine g_lload_n X rfl rfl ?_
            refine g_aload_n X rfl rfl ?_
            refine g_get X rfl flX8_29 (ci := 8) rfl (hb.1) rfl ?_
            refine g_iload X rfl rfl ?_
            refine g_rV X rfl lcJx4a65c_get_915e3 lmX8_184 lsJx4a65c_get_915e3 (cr_get l D cy B od hL (j := k) hi) (ci := 9) (hL.1) rfl rfl rfl (Nat.le_of_ble_eq_true rfl) ⟨⟨by decide, by decide⟩, rfl, rfl⟩ ⟨Nat.le_of_ble_eq_true rfl, Nat.le_of_ble_eq_true rfl⟩ ?_
            obtain ⟨q, hq, hqv⟩ : ∃ r, A (L.2.2.2 0 (k)) = some (.inl (cy 0, 2, .inl r)) ∧ ∀ i, i < 2 → r i = Z.2.2 i (k) := hb.2.2.1 _ hi
            refine g_castI X rfl clX8_62 hq ?_
            refine g_iconst X rfl (v := nI 0) (by decide) ?_
            refine g_ialdN X rfl hq (by decide) (by decide) ?_
            rw [hqv 0 (by decide)]
            refine g_i2l X rfl ?_
            refine g_lsub X rfl ?_
            refine g_m_max_l X rfl lmX8_135 (Nat.le_of_ble_eq_true rfl) ⟨by decide, by decide⟩ ⟨Nat.le_of_ble_eq_true rfl, Nat.le_of_ble_eq_true rfl⟩ ?_
            refine g_iload X rfl rfl ?_
            refine g_iload_n X rfl rfl ?_
            refine g_isub X rfl ?_
            refine g_i2l X rfl ?_
            refine g_lmul X rfl ?_
            refine g_ladd X rfl ?_
            first | refine g_lstoreS X rfl (by decide) rfl ?_ | refine g_lstore X rfl (by decide) ?_
            refine g_iload X rfl rfl ?_
            first | refine g_istore_nS X rfl (by decide) rfl ?_ | refine g_istore_n X rfl (by decide) ?_
            first | refine g_iinc1S X rfl rfl (by decide) rfl ?_ | refine g_iinc1 X rfl rfl (by decide) ?_
            refine g_goto X rfl ?_
            exact ih (k + 1) _ (by omega)
    refine g_aload_n X rfl rfl ?_
    refine g_get X rfl flX8_29 (ci := 8) rfl (hb.1) rfl ?_
    refine g_rV X rfl lcJx4a65c_isEmpty_aae02 lmX8_181 lsJx4a65c_isEmpty_aae02 (cr_isEmpty l D cy B od hL) (ci := 9) (hL.1) rfl rfl rfl (Nat.le_of_ble_eq_true rfl) ⟨⟨by decide, by decide⟩, rfl, rfl⟩ ⟨Nat.le_of_ble_eq_true rfl, Nat.le_of_ble_eq_true rfl⟩ ?_
    refine g_if_eqB X rfl (fun h => ?_) (fun h => ?_)
    · have h1 : 0 < Z.1 := by have := of_decide_eq_false h; omega
      have hr9 : Z.2.2 1 0 = bRt Z 0 := (if_pos h1).symm
      refine g_aload_n X rfl rfl ?_
      refine g_get X rfl flX8_29 (ci := 8) rfl (hb.1) rfl ?_
      refine g_iconst X rfl (v := nI 0) (by decide) ?_
      refine g_rV X rfl lcJx4a65c_get_915e3 lmX8_184 lsJx4a65c_get_915e3 (cr_get l D cy B od hL (j := 0) h1) (ci := 9) (hL.1) rfl rfl rfl (Nat.le_of_ble_eq_true rfl) ⟨⟨by decide, by decide⟩, rfl, rfl⟩ ⟨Nat.le_of_ble_eq_true rfl, Nat.le_of_ble_eq_true rfl⟩ ?_
      obtain ⟨r, hr, hrv⟩ : ∃ r, A (L.2.2.2 0 (0)) = some (.inl (cy 0, 2, .inl r)) ∧ ∀ i, i < 2 → r i = Z.2.2 i (0) := hb.2.2.1 _ h1
      refine g_castI X rfl clX8_62 hr ?_
      refine g_iconst X rfl (v := nI 1) (by decide) ?_
      refine g_ialdN X rfl hr (by decide) (by decide) ?_
      rw [hrv 1 (by decide)]
      rw [hr9]
      refine g_istore_n X rfl (by decide) ?_
      refine g_lload_n X rfl rfl ?_
      refine g_iload_n X rfl rfl ?_
      refine g_i2l X rfl ?_
      refine g_lmul X rfl ?_
      first | refine g_lstoreS X rfl (by decide) rfl ?_ | refine g_lstore X rfl (by decide) ?_
      refine g_iconst X rfl (v := nI 0) (by decide) ?_
      first | refine g_istoreS X rfl (by decide) rfl ?_ | refine g_istore X rfl (by decide) ?_
      exact loop Z.1 0 none (Nat.zero_add _)
    · have h1 : ¬ 0 < Z.1 := by have := of_decide_eq_true h; omega
      have hr9 : Z.2.1 4 = bRt Z 0 := (if_neg h1).symm
      refine g_aload_n X rfl rfl ?_
      refine g_get X rfl flX8_23 (ci := 8) rfl (hb.1) rfl ?_
      refine g_goto X rfl ?_
      rw [hr9]
      refine g_istore_n X rfl (by decide) ?_
      refine g_lload_n X rfl rfl ?_
      refine g_iload_n X rfl rfl ?_
      refine g_i2l X rfl ?_
      refine g_lmul X rfl ?_
      first | refine g_lstoreS X rfl (by decide) rfl ?_ | refine g_lstore X rfl (by decide) ?_
      refine g_iconst X rfl (v := nI 0) (by decide) ?_
      first | refine g_istoreS X rfl (by decide) rfl ?_ | refine g_istore X rfl (by decide) ?_
      exact loop Z.1 0 none (Nat.zero_add _)
  · have h0 : lN e9 ≤ 0 := by rw [Int64.lt_iff_toInt_lt] at h; rw [Int64.le_iff_toInt_le]; omega
    refine g_lconst X rfl (v := 0) (by decide) ?_
    exact g_lret X rfl rfl (Nat.le_of_ble_eq_true rfl) (Nat.le_of_ble_eq_true rfl) ⟨by rw [sTax, if_pos h0], rfl, rfl⟩
/-- what a book asks for a quarter -/
def bkPre (Z : SV) (S : StV) (q : Nat) (bf : Int64) : Int32 := (if sTgt Z (nI q) (sProf S (nI q)) - bf < 0 then 0 else sTgt Z (nI q) (sProf S (nI q)) - bf).toInt32
theorem sTax_0 (Z : SV) : sTax Z (lN 0) = 0 := if_pos (by decide)
theorem mx0 {a c : Nat} (ha : a ≤ 660000000) (hc : c ≤ 700000000) : (if 0 < lN a - lN c then lN a - lN c else 0) = lN (a - c) := by
  have e : (lN a - lN c).toInt = (a : Int) - c := by
    rw [Int64.toInt_sub, pk_lT (by omega), pk_lT (by omega), Int.bmod_eq_of_le (by omega) (by omega)]
  by_cases h : c < a
  · rw [if_pos, lN_sub (by omega)]
    rw [Int64.lt_iff_toInt_lt, e]; show (0 : Int) < _; omega
  · rw [if_neg, show a - c = 0 by omega]; rfl
    rw [Int64.lt_iff_toInt_lt, e]; show ¬ (0 : Int) < _; omega
theorem bk_est {a c q : Nat} (ha : a ≤ 660000000) (hq : q ≤ 3) : lN (a - c) * 4 / (nI (q + 1)).toInt64 = lN ((a - c) * 4 / (q + 1)) := by
  have h := est_N (a := a - c) (c := 0) (q := q) (Nat.zero_le _) hq (by omega)
  rw [Nat.sub_zero, show lN (a - c) - lN 0 = lN (a - c) by rw [lN_sub (Nat.zero_le _), Nat.sub_zero], nI_add] at h
  exact h
theorem bk_tgt {Z : SV} {S : StV} (hg : Rng Z S) (hw : WfS S) {q : Nat} (hq : q ≤ 3) : ∃ e, e < 2 ^ 40 ∧ (if 0 < sProf S (nI q) then sProf S (nI q) else 0) * 4 / (nI (q + 1)).toInt64 = lN e ∧ sTax Z (lN e) * (nI (q + 1)).toInt64 / 4 = sTgt Z (nI q) (sProf S (nI q)) := by
  obtain ⟨a, c, ha, hc, e⟩ := sProf_N hg hw hq
  refine ⟨(a - c) * 4 / (q + 1), ?_, ?_, ?_⟩
  · have : (a - c) * 4 / (q + 1) ≤ (a - c) * 4 := Nat.div_le_self _ _
    omega
  · rw [e, mx0 ha hc, bk_est ha hq]
  · rw [sTgt, e, nI_add]
    by_cases h : a < c
    · rw [if_pos (Or.inl (by rw [pf_pos ha hc]; exact h)), show a - c = 0 by omega, Nat.zero_mul, Nat.zero_div, sTax_0]
      rcases (show q = 0 ∨ q = 1 ∨ q = 2 ∨ q = 3 by omega) with rfl | rfl | rfl | rfl <;> decide
    · rw [if_neg (by intro h2; rcases h2 with h2 | h2; (rw [pf_pos ha hc] at h2; exact h h2); exact nI_pos (by omega) h2)]
      have h3 := est_N (a := a) (c := c) (q := q) (by omega) hq ha
      rw [nI_add] at h3
      rw [h3]
theorem mx0b (x : Int64) : (if x < 0 then 0 else x) = if 0 < x then x else 0 := by
  by_cases h1 : x < 0
  · by_cases h2 : 0 < x
    · rw [Int64.lt_iff_toInt_lt] at h1 h2; omega
    · rw [if_pos h1, if_neg h2]
  · by_cases h2 : 0 < x
    · rw [if_neg h1, if_pos h2]
    · rw [if_neg h1, if_neg h2]
      rw [Int64.lt_iff_toInt_lt] at h1 h2
      exact Int64.toInt_inj.mp (by omega)
set_option maxRecDepth 100000 in
set_option maxHeartbeats 400000 in
theorem cg_X8_prepayment (l : Launch) (D : va_G) (cy : Nat → ClassId) (B : Nat) (od : Nat → Option Nat) {A : AH} {g : Nat} {L : BL} {S : StV} {Z : SV} (hb : BkR cy A g L S Z) (hg : Rng Z S) (hgz : RngZ Z) (hw : WfS S) (hsl : SldOk S) {q9 : Nat} (hq9 : q9 ≤ 3) {bf : Int64} : CG l D cy B od yX8_prepayment cX8_prepayment 6 (some .int) rmX8_prepayment [.ref g, .int (nI q9), .long bf] A (fun v A' => v = some (.int (bkPre Z S q9 bf))) := by
  intro z hF hz
  refine CT.of (by decide) tX8_prepayment okX8_prepayment (Nat.le_of_ble_eq_true rfl) (q0 := tX8_prepayment[0]) rfl rfl ?_
  intro p e s m args below meth c X hnm
  obtain ⟨e9, he, he2, he3⟩ := bk_tgt hg hw hq9
  have PT := cg_X8_profitTo l D cy B od hb hg hw hsl (q9 + 1) (by omega)
  rw [show nI (q9 + 1) - nI 1 = nI q9 from nI_pred q9] at PT
  refine g_lconst X rfl (v := 0) (by decide) ?_
  refine g_aload_n X rfl rfl ?_
  refine g_iload_n X rfl rfl ?_
  refine g_gV X rfl lcX8_profitTo lmX8_175 lsX8_profitTo (PT) hF (by have : z + 640 ≤ 900000 := hz; show z + 160 * (q9 + 1) ≤ 900000; omega) (ci := 8) hb.1 rfl rfl rfl (Nat.le_of_ble_eq_true rfl) ⟨by show 6 + (q9 + 1) + 1 ≤ 11; omega, by show 8 + (2 + 11) + (135 + 30 * (q9 + 1)) ≤ 276; omega⟩ ⟨by show 0 + 160 * (q9 + 1) ≤ 640; omega, by show 0 + 928 * (q9 + 1) ≤ 3712; omega⟩ (fun v1 A1 z1 q1 hG1 => ?_)
  obtain rfl := q1
  refine g_m_max_l X rfl lmX8_135 (Nat.le_of_ble_eq_true rfl) ⟨by decide, by decide⟩ ⟨by show 0 + 160 * (q9 + 1) ≤ 640; omega, by show 0 + 928 * (q9 + 1) ≤ 3712; omega⟩ ?_
  rw [mx0b]
  first | refine g_lstoreS X rfl (by decide) rfl ?_ | refine g_lstore X rfl (by decide) ?_
  refine g_lconst X rfl (v := 0) (by decide) ?_
  refine g_aload_n X rfl rfl ?_
  refine g_lload X rfl rfl ?_
  refine g_ldc2 X rfl kcX8_193 ?_
  refine g_lmul X rfl ?_
  refine g_iload_n X rfl rfl ?_
  refine g_iconst X rfl (v := nI 1) (by decide) ?_
  refine g_iadd X rfl ?_
  rw [nI_1b]
  refine g_i2l X rfl ?_
  refine g_ldiv X rfl (by rw [nIl0 (by omega)]; omega) ?_
  rw [he2]
  refine g_rV X rfl lcX8_tax lmX8_195 lsX8_tax (cr_X8_tax l D cy B od (hb.le hG1.1) hgz he) (ci := 8) (hb.le hG1.1).1 rfl rfl rfl (Nat.le_of_ble_eq_true rfl) ⟨⟨by decide, by decide⟩, rfl, rfl⟩ ⟨by show 0 + 160 * (q9 + 1) ≤ 640; omega, by show 0 + 928 * (q9 + 1) ≤ 3712; omega⟩ ?_
  refine g_iload_n X rfl rfl ?_
  refine g_iconst X rfl (v := nI 1) (by decide) ?_
  refine g_iadd X rfl ?_
  rw [nI_1b]
  refine g_i2l X rfl ?_
  refine g_lmul X rfl ?_
  refine g_ldc2 X rfl kcX8_193 ?_
  refine g_ldiv X rfl (by decide) ?_
  rw [he3]
  refine g_lload_n X rfl rfl ?_
  refine g_lsub X rfl ?_
  refine g_m_max_l X rfl lmX8_135 (Nat.le_of_ble_eq_true rfl) ⟨by decide, by decide⟩ ⟨by show 0 + 160 * (q9 + 1) ≤ 640; omega, by show 0 + 928 * (q9 + 1) ≤ 3712; omega⟩ ?_
  refine g_l2i X rfl ?_
  exact g_iret X rfl rfl (by rfl) (by show 0 + 160 * (q9 + 1) ≤ 640; omega) (by show 0 + 928 * (q9 + 1) ≤ 3712; omega) ⟨rfl, z1, rfl, hG1.wide (by show 160 * (q9 + 1) ≤ 640; omega)⟩
set_option maxRecDepth 100000 in
set_option maxHeartbeats 400000 in
theorem cg_X8_sumPrepaid (l : Launch) (D : va_G) (cy : Nat → ClassId) (B : Nat) (od : Nat → Option Nat) {A : AH} {g : Nat} {L : BL} {S : StV} {Z : SV} (hb : BkR cy A g L S Z) : CG l D cy B od yX8_sumPrepaid cX8_sumPrepaid 5 (some .long) rmX8_sumPrepaid [.ref g] A (fun v A' => v = some (.long (sPre S))) := by
  intro z hF hz
  refine CT.of (by decide) tX8_sumPrepaid okX8_sumPrepaid (Nat.le_of_ble_eq_true rfl) (q0 := tX8_sumPrepaid[0]) rfl rfl ?_
  intro p e s m args below meth c X hnm
  have hL : LsC cy A (L.1 4) (L.2.1 4) (L.2.2.1 4) S.2.2.2.2.1 (L.2.2.2 4) := hb.2.1 4 (by decide)
  have hn9 := hL.2.1
  have loop : ∀ (d i : Nat) (A1 : AH) (z1 : Nat) (lr : Int32) (o : Option Value), i + d = S.2.2.2.2.1 → Grw A z A1 z1 (1) → A1 z = some (itE i lr (L.2.1 4) (L.1 4)) → G p l e rmX8_sumPrepaid s m args below meth c D B od 5 tX8_sumPrepaid (FinQ false D B od (fun v A' z' => (fun v A' => v = some (.long (sPre S))) v A' ∧ ∃ z1, z' = z1 + 1 ∧ Grw A z A' z1 rmX8_sumPrepaid.cells) (fun _ _ => True) args s below rmX8_sumPrepaid.cells rmX8_sumPrepaid.slots) (1) (4) A1 (z1 + 1) 6 [some (.ref g), some (.long (sumL 0 (fun i => (S.2.2.2.1 i).toInt64) i)), none, some (.ref z), o] [] := by
    intro d
    induction d with
    | zero =>
      intro i A1 z1 lr o  hid hG hI 
      have e : i = S.2.2.2.2.1 := by omega
      subst e
      refine g_aload_n X rfl rfl ?_
      refine g_hasNext X rfl lmX8_52 (hL.le hG.1).1 hI (by omega) hn9 (Nat.le_of_ble_eq_true rfl) ⟨by decide, by decide⟩ ⟨Nat.le_of_ble_eq_true rfl, Nat.le_of_ble_eq_true rfl⟩ ?_
      refine g_if_eqB X rfl (fun _ => ?_) (fun h => absurd (of_decide_eq_true h) (by omega))
      refine g_lload_n X rfl rfl ?_
      exact g_lret X rfl rfl (Nat.le_of_ble_eq_true rfl) (Nat.le_of_ble_eq_true rfl) ⟨rfl, z1, rfl, hG⟩
    | succ d ih =>
      intro i A1 z1 lr o  hid hG hI 
      have hi : i < S.2.2.2.2.1 := by omega
      refine g_aload_n X rfl rfl ?_
      refine g_hasNext X rfl lmX8_52 (hL.le hG.1).1 hI (by omega) hn9 (Nat.le_of_ble_eq_true rfl) ⟨by decide, by decide⟩ ⟨Nat.le_of_ble_eq_true rfl, Nat.le_of_ble_eq_true rfl⟩ ?_
      refine g_if_eqB X rfl (fun h => absurd hi (of_decide_eq_false h)) (fun _ => ?_)
      refine g_aload_n X rfl rfl ?_
      refine g_next X rfl lmX8_58 (hL.le hG.1) hI hi (Nat.le_of_ble_eq_true rfl) ⟨by decide, by decide⟩ ⟨Nat.le_of_ble_eq_true rfl, Nat.le_of_ble_eq_true rfl⟩ ?_
      have hG2 : Grw A z (upA A1 z (itE (i + 1) (nI i) (L.2.1 4) (L.1 4))) z1 (1) := hG.up hF (Nat.le_refl _) (hG.2.2.2.lt hI)
      have hr := (hb.2.2.2.2.2.2 i hi).le hG2.1
      refine g_castN X rfl clX8_71 hr ?_
      refine g_unbox X rfl lmX8_73 hr (Nat.le_of_ble_eq_true rfl) ⟨by decide, by decide⟩ ⟨Nat.le_of_ble_eq_true rfl, Nat.le_of_ble_eq_true rfl⟩ ?_
      first | refine g_istoreS X rfl (by decide) rfl ?_ | refine g_istore X rfl (by decide) ?_
      refine g_lload_n X rfl rfl ?_
      refine g_iload X rfl rfl ?_
      refine g_i2l X rfl ?_
      refine g_ladd X rfl ?_
      first | refine g_lstore_nS X rfl (by decide) rfl ?_ | refine g_lstore_n X rfl (by decide) ?_
      refine g_goto X rfl ?_
      exact ih (i + 1) _ z1 _ _ (by omega) hG2 upA_eq
  refine g_lconst X rfl (v := 0) (by decide) ?_
  first | refine g_lstore_nS X rfl (by decide) rfl ?_ | refine g_lstore_n X rfl (by decide) ?_
  refine g_aload_n X rfl rfl ?_
  refine g_get X rfl flX8_42 (ci := 8) rfl (hb.1) rfl ?_
  refine g_iter X rfl lmX8_48 hL hF (by have : z + 1 ≤ 900000 := hz; omega) (Nat.le_of_ble_eq_true rfl) ⟨by decide, by decide⟩ ⟨Nat.le_of_ble_eq_true rfl, Nat.le_of_ble_eq_true rfl⟩ ?_
  first | refine g_astore_nS X rfl (by decide) rfl ?_ | refine g_astore_n X rfl (by decide) ?_
  exact loop S.2.2.2.2.1 0 _ (z + 1) _ _ (Nat.zero_add _) ((Grw.rf hF).new hF) upA_eq
