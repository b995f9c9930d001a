/-! 39: the reference: balances, months -/
theorem MdR.thr {cy : Nat → ClassId} {A : AH} {f : MF} {r : Nat → Int32} {Z : SV} {S : StV} (h : MdR cy A f r Z S) (t : Int32) : MdR cy (upA A 231 (moE (t, f.2))) (t, f.2) r Z S := ⟨upA_eq, (upA_ne (by decide)).trans h.2.1, h.2.2⟩
theorem MdR.up {cy : Nat → ClassId} {A : AH} {f : MF} {r : Nat → Int32} {Z : SV} {S : StV} {k : Nat} {x : va_E} (h : MdR cy A f r Z S) (h1 : k ≠ 231) (h2 : k ≠ 234) : MdR cy (upA A k x) f r Z S := ⟨(upA_ne (fun q => h1 q.symm)).trans h.1, (upA_ne (fun q => h2 q.symm)).trans h.2.1, h.2.2⟩
theorem cIn_d {E : EV} {d n : Nat} : (eCntIn E (nI 0) (nI d) n = true) ↔ (eCnt E n = true ∧ dIn (E.2 4 n) d = true) := by
  unfold eCntIn dIn
  rw [nI_0]
  simp only [Bool.and_eq_true]
  exact and_assoc
def mAU (As : RV) (d : Nat) : Nat → Int64
  | 0 => 0
  | n + 1 => mAU As d n - (if As.2 1 n ≤ nI d then (As.2 0 n).toInt64 else 0) + (if ¬ As.2 4 n = -1 ∧ As.2 4 n ≤ nI d then (As.2 5 n).toInt64 else 0)
def mPU (pp : Nat → Int32) (d : Nat) : Nat → Int64
  | 0 => 0
  | n + 1 => mPU pp d n + (if nI (90 * n + 90 - 1) ≤ nI d then (pp n).toInt64 else 0)
theorem dIn_N {x d : Nat} (hx : x ≤ 400) (hd : d ≤ 400) : (dIn (nI x) d = true) = (nI x ≤ nI d) := by
  unfold dIn
  rw [Bool.and_eq_true, decide_eq_true_eq, decide_eq_true_eq]
  exact propext ⟨fun q => q.2, fun q => ⟨nI_pos' (by omega), q⟩⟩
theorem neg_l {n : Nat} (h : n < 2 ^ 30) : (-nI n).toInt64 = -(nI n).toInt64 := by
  rw [show -nI n = nI 0 - nI n by rw [nI_0]; grind, i2l_sub (by decide) h, nI_l (by omega), show lN 0 = 0 from rfl]
  grind
theorem mAU_eq {Z : SV} {S : StV} (hg : Rng Z S) {d : Nat} (hd : d ≤ 359) : ∀ n, n ≤ S.2.2.1.1 → mAU S.2.2.1 d n = cA S.2.2.1 d n
  | 0, _ => rfl
  | n + 1, h => by
    have ih := mAU_eq hg hd n (by omega)
    obtain ⟨pr, dy, li, s, so, hN⟩ := asset_N hg (k := n) (by omega)
    obtain ⟨a1, a2, b2, c1, c2, s1, so1, a3, b3, c3, s2, e⟩ := id hN
    rw [mAU, cA, cA1, cA2, ih, a3, b3, neg_l (by omega)]
    simp only [dIn_N (x := dy) (d := d) (by omega) (by omega)]
    rcases e with ⟨e1, -⟩ | ⟨sd, f1, f2, -⟩
    · rw [e1]
      simp only [not_true_eq_false, false_and, if_false]
      split <;> grind
    · rw [f2]
      simp only [dIn_N (x := sd) (d := d) (by omega) (by omega), nI_nm1 (n := sd) (by omega), not_false_eq_true, true_and]
      split <;> split <;> grind
theorem cQ_eq {Z : SV} {S : StV} (hg : Rng Z S) (hw : WfS S) {d : Nat} (hd : d ≤ 359) : ∀ n, n ≤ S.2.2.2.2.1 → cQ S.2.2.2.1 d n = 0 - mPU S.2.2.2.1 d n
  | 0, _ => by show (0 : Int64) = 0 - 0; decide
  | n + 1, h => by
    have ih := cQ_eq hg hw hd n (by omega)
    have h4 : S.2.2.2.2.1 ≤ 4 := hw.2.2.2.1
    obtain ⟨x, -, x2, x3⟩ := hg.2.2.2 n (by omega)
    rw [mPU, cQ, ih, x3, neg_l (by omega), show (nI n + nI 1) * nI 90 - nI 1 = nI (90 * n + 90 - 1) by rw [nI_add, pk_mul, pk_sub (by omega), show (n + 1) * 90 - 1 = 90 * n + 90 - 1 by omega]]
    simp only [dIn_N (x := 90 * n + 90 - 1) (d := d) (by omega) (by omega)]
    split <;> grind
theorem bal_M {Z : SV} {S : StV} (hg : Rng Z S) (hw : WfS S) {d : Nat} (hd : d ≤ 359) : S.2.2.2.2.2.toInt64 + cE S.1 d S.1.1 + mAU S.2.2.1 d S.2.2.1.1 - mPU S.2.2.2.1 d S.2.2.2.2.1 = balC S d := by
  unfold balC
  rw [mAU_eq hg hd _ (Nat.le_refl _), cQ_eq hg hw hd _ (Nat.le_refl _)]
  grind
set_option maxRecDepth 100000 in
set_option maxHeartbeats 400000 in
theorem lp_X8_entriesUpTo (l : Launch) (D : va_G) (cy : Nat → ClassId) (B : Nat) (od : Nat → Option Nat) {p : Program} {e : Env} {s : State} {m : MethodId} {args : Array Value} {below : List Frame} {meth : Method} {c : Code} {A : AH} {z : Nat} {f : MF} {r : Nat → Int32} {Z : SV} {S : StV} (hm : MdR cy A f r Z S) (hg : Rng Z S) {d : Nat} (hd : d ≤ 359) (X : Cx p s m args meth c D cy B od cX8_entriesUpTo 5 tX8_entriesUpTo RX8 (some .long)) : ∀ (k i : Nat), 0 ≤ i → i ≤ S.1.1 → S.1.1 - i < k → G p l e rmX8_entriesUpTo s m args below meth c D B od 5 tX8_entriesUpTo (FinQ false D B od (fun v A' z' => v = some (.long (cE S.1 d S.1.1)) ∧ A' = A ∧ z' = z) (fun _ _ => True) args s below 0 0) 0 0 A z 4 [some (.ref 231), some (.int (nI d)), some (.long (cE S.1 d i)), none, some (.int (nI i))] [] := by
  obtain ⟨hM, hn, hc, hw, hwb, hz⟩ := id hm
  obtain ⟨c0, ⟨c1, c2, c3, c4, c5⟩, cb, ⟨c16, cr⟩, ⟨c35, ce⟩, ⟨c456, ca⟩, c517, cp⟩ := id hc
  obtain ⟨w1, w2, w3, w4, w5⟩ := id hw
  intro k
  induction k with
  | zero => intro i _ _ h; omega
  | succ k ih =>
    intro i hlo hi hk
    refine g_iload X rfl rfl ?_
    refine g_aload_n X rfl rfl ?_
    refine g_get X rfl flX8_16 (ci := 8) rfl hM rfl ?_
    refine g_bipush X rfl (v := nI 35) (by decide) ?_
    refine g_ialdN X rfl hn (by omega) (by decide) ?_
    rw [c35]
    first | refine g_ic_geN X rfl (by omega) (by omega) (fun h1 => ?_) (fun h1 => ?_) | refine g_icmp_ge X rfl (fun h1 => ?_) (fun h1 => ?_)
    · refine g_lload_n X rfl rfl ?_
      refine g_lret X rfl rfl (Nat.le_refl _) (Nat.le_refl _) ⟨?_, rfl, rfl⟩
      rw [show i = S.1.1 by omega]
    · refine g_aload_n X rfl rfl ?_
      refine g_iload X rfl rfl ?_
      refine g_iconst X rfl (v := nI 0) (by decide) ?_
      refine g_iload_n X rfl rfl ?_
      refine g_rV X rfl lcX8_countsIn lmX8_287 lsX8_countsIn (cr_X8_countsIn l D cy B od hm (by omega)) (ci := 8) hM rfl rfl rfl (Nat.le_of_ble_eq_true rfl) ⟨⟨by decide, by decide⟩, rfl, rfl⟩ ⟨Nat.le_of_ble_eq_true rfl, Nat.le_of_ble_eq_true rfl⟩ ?_
      first | refine g_if_eqB X rfl (fun h2 => ?_) (fun h2 => ?_) | refine g_if_eq X rfl (fun h2 => ?_) (fun h2 => ?_)
      · refine g_iinc1 X rfl rfl (by decide) ?_
        refine g_goto X rfl ?_
        have K9 := ih (i + 1) (by omega) (by omega) (by omega)
        first | (rw [cE, if_neg (fun z => by have := cIn_d.mpr z; simp_all)] at K9; exact K9) | (rw [cE, if_pos (cIn_d.mp (by assumption)), if_pos (by assumption)] at K9; exact K9) | (rw [cE, if_pos (cIn_d.mp (by assumption)), if_neg (by assumption)] at K9; exact K9)
      · refine g_lload_n X rfl rfl ?_
        refine g_aload_n X rfl rfl ?_
        refine g_iload X rfl rfl ?_
        refine g_iconst X rfl (v := nI 0) (by decide) ?_
        refine g_rV X rfl lcX8_entryPart lmX8_184 lsX8_entryPart (cr_X8_entryPart l D cy B od hm (by omega) (by omega)) (ci := 8) hM rfl rfl rfl (Nat.le_of_ble_eq_true rfl) ⟨⟨by decide, by decide⟩, rfl, rfl⟩ ⟨Nat.le_of_ble_eq_true rfl, Nat.le_of_ble_eq_true rfl⟩ ?_
        refine g_if_ne X rfl (fun h3 => ?_) (fun h3 => ?_)
        · refine g_aload_n X rfl rfl ?_
          refine g_iload X rfl rfl ?_
          refine g_iconst X rfl (v := nI 2) (by decide) ?_
          refine g_rV X rfl lcX8_entryPart lmX8_184 lsX8_entryPart (cr_X8_entryPart l D cy B od hm (by omega) (by omega)) (ci := 8) hM rfl rfl rfl (Nat.le_of_ble_eq_true rfl) ⟨⟨by decide, by decide⟩, rfl, rfl⟩ ⟨Nat.le_of_ble_eq_true rfl, Nat.le_of_ble_eq_true rfl⟩ ?_
          refine g_ineg X rfl ?_
          refine g_i2l X rfl ?_
          refine g_ladd X rfl ?_
          refine g_lstore_n X rfl (by decide) ?_
          refine g_iinc1 X rfl rfl (by decide) ?_
          refine g_goto X rfl ?_
          have K9 := ih (i + 1) (by omega) (by omega) (by omega)
          first | (rw [cE, if_neg (fun z => by have := cIn_d.mpr z; simp_all)] at K9; exact K9) | (rw [cE, if_pos (cIn_d.mp (by assumption)), if_pos (by assumption)] at K9; exact K9) | (rw [cE, if_pos (cIn_d.mp (by assumption)), if_neg (by assumption)] at K9; exact K9)
        · refine g_aload_n X rfl rfl ?_
          refine g_iload X rfl rfl ?_
          refine g_iconst X rfl (v := nI 2) (by decide) ?_
          refine g_rV X rfl lcX8_entryPart lmX8_184 lsX8_entryPart (cr_X8_entryPart l D cy B od hm (by omega) (by omega)) (ci := 8) hM rfl rfl rfl (Nat.le_of_ble_eq_true rfl) ⟨⟨by decide, by decide⟩, rfl, rfl⟩ ⟨Nat.le_of_ble_eq_true rfl, Nat.le_of_ble_eq_true rfl⟩ ?_
          refine g_i2l X rfl ?_
          refine g_goto X rfl ?_
          refine g_ladd X rfl ?_
          refine g_lstore_n X rfl (by decide) ?_
          refine g_iinc1 X rfl rfl (by decide) ?_
          refine g_goto X rfl ?_
          have K9 := ih (i + 1) (by omega) (by omega) (by omega)
          first | (rw [cE, if_neg (fun z => by have := cIn_d.mpr z; simp_all)] at K9; exact K9) | (rw [cE, if_pos (cIn_d.mp (by assumption)), if_pos (by assumption)] at K9; exact K9) | (rw [cE, if_pos (cIn_d.mp (by assumption)), if_neg (by assumption)] at K9; exact K9)
set_option maxRecDepth 100000 in
set_option maxHeartbeats 400000 in
theorem cr_X8_entriesUpTo (l : Launch) (D : va_G) (cy : Nat → ClassId) (B : Nat) (od : Nat → Option Nat) {A : AH} {f : MF} {r : Nat → Int32} {Z : SV} {S : StV} (hm : MdR cy A f r Z S) (hg : Rng Z S) {d : Nat} (hd : d ≤ 359) : CR l D cy B od yX8_entriesUpTo cX8_entriesUpTo 5 (some .long) rmX8_entriesUpTo [.ref 231, .int (nI d)] A (.long (cE S.1 d S.1.1)) := by
  intro z
  refine CT.of (by decide) tX8_entriesUpTo okX8_entriesUpTo (Nat.le_of_ble_eq_true rfl) (q0 := tX8_entriesUpTo[0]) rfl rfl ?_
  intro p e s m args below meth c X _
  obtain ⟨hM, hn, hc, hw, hwb, hz⟩ := id hm
  obtain ⟨c0, ⟨c1, c2, c3, c4, c5⟩, cb, ⟨c16, cr⟩, ⟨c35, ce⟩, ⟨c456, ca⟩, c517, cp⟩ := id hc
  obtain ⟨w1, w2, w3, w4, w5⟩ := id hw
  refine g_lconst X rfl (v := 0) (by decide) ?_
  refine g_lstore_n X rfl (by decide) ?_
  refine g_iconst X rfl (v := nI 0) (by decide) ?_
  refine g_istore X rfl (by decide) ?_
  exact lp_X8_entriesUpTo l D cy B od hm hg hd X (S.1.1 + 1) 0 (by omega) (by omega) (by omega)
set_option maxRecDepth 100000 in
set_option maxHeartbeats 400000 in
theorem lp_X8_assetsUpTo (l : Launch) (D : va_G) (cy : Nat → ClassId) (B : Nat) (od : Nat → Option Nat) {p : Program} {e : Env} {s : State} {m : MethodId} {args : Array Value} {below : List Frame} {meth : Method} {c : Code} {A : AH} {z : Nat} {f : MF} {r : Nat → Int32} {Z : SV} {S : StV} (hm : MdR cy A f r Z S) (hg : Rng Z S) {d : Nat} (hd : d ≤ 359) (X : Cx p s m args meth c D cy B od cX8_assetsUpTo 5 tX8_assetsUpTo RX8 (some .long)) : ∀ (k i : Nat), 0 ≤ i → i ≤ S.2.2.1.1 → S.2.2.1.1 - i < k → G p l e rmX8_assetsUpTo s m args below meth c D B od 5 tX8_assetsUpTo (FinQ false D B od (fun v A' z' => v = some (.long (mAU S.2.2.1 d S.2.2.1.1)) ∧ A' = A ∧ z' = z) (fun _ _ => True) args s below 0 0) 0 0 A z 4 [some (.ref 231), some (.int (nI d)), some (.long (mAU S.2.2.1 d i)), none, some (.int (nI i))] [] := by
  obtain ⟨hM, hn, hc, hw, hwb, hz⟩ := id hm
  obtain ⟨c0, ⟨c1, c2, c3, c4, c5⟩, cb, ⟨c16, cr⟩, ⟨c35, ce⟩, ⟨c456, ca⟩, c517, cp⟩ := id hc
  obtain ⟨w1, w2, w3, w4, w5⟩ := id hw
  intro k
  induction k with
  | zero => intro i _ _ h; omega
  | succ k ih =>
    intro i hlo hi hk
    refine g_iload X rfl rfl ?_
    refine g_aload_n X rfl rfl ?_
    refine g_get X rfl flX8_16 (ci := 8) rfl hM rfl ?_
    refine g_sipush X rfl (v := nI 456) (by decide) ?_
    refine g_ialdN X rfl hn (by omega) (by decide) ?_
    rw [c456]
    first | refine g_ic_geN X rfl (by omega) (by omega) (fun h1 => ?_) (fun h1 => ?_) | refine g_icmp_ge X rfl (fun h1 => ?_) (fun h1 => ?_)
    · refine g_lload_n X rfl rfl ?_
      refine g_lret X rfl rfl (Nat.le_refl _) (Nat.le_refl _) ⟨?_, rfl, rfl⟩
      rw [show i = S.2.2.1.1 by omega]
    · refine g_lload_n X rfl rfl ?_
      refine g_aload_n X rfl rfl ?_
      refine g_iload X rfl rfl ?_
      refine g_iconst X rfl (v := nI 1) (by decide) ?_
      refine g_rV X rfl lcX8_assetPart lmX8_229 lsX8_assetPart (cr_X8_assetPart l D cy B od hm (q := 1) (q2 := 1) (by omega) (by decide) rfl) (ci := 8) hM rfl rfl rfl (Nat.le_of_ble_eq_true rfl) ⟨⟨by decide, by decide⟩, rfl, rfl⟩ ⟨Nat.le_of_ble_eq_true rfl, Nat.le_of_ble_eq_true rfl⟩ ?_
      refine g_iload_n X rfl rfl ?_
      refine g_icmp_gt X rfl (fun h2 => ?_) (fun h2 => ?_)
      · refine g_lconst X rfl (v := 0) (by decide) ?_
        refine g_lsub X rfl ?_
        refine g_lstore_n X rfl (by decide) ?_
        refine g_lload_n X rfl rfl ?_
        refine g_aload_n X rfl rfl ?_
        refine g_iload X rfl rfl ?_
        refine g_rV X rfl lcX8_isSold lmX8_235 lsX8_isSold (cr_X8_isSold l D cy B od hm (by omega)) (ci := 8) hM rfl rfl rfl (Nat.le_of_ble_eq_true rfl) ⟨⟨by decide, by decide⟩, rfl, rfl⟩ ⟨Nat.le_of_ble_eq_true rfl, Nat.le_of_ble_eq_true rfl⟩ ?_
        first | refine g_if_eqB X rfl (fun h3 => ?_) (fun h3 => ?_) | refine g_if_eq X rfl (fun h3 => ?_) (fun h3 => ?_)
        · refine g_lconst X rfl (v := 0) (by decide) ?_
          refine g_ladd X rfl ?_
          refine g_lstore_n X rfl (by decide) ?_
          refine g_iinc1 X rfl rfl (by decide) ?_
          refine g_goto X rfl ?_
          have K9 := ih (i + 1) (by omega) (by omega) (by omega)
          rw [mAU] at K9
          first | (rw [if_pos (by simp_all [Int32.not_lt]), if_pos (by simp_all [Int32.not_lt])] at K9; exact K9) | (rw [if_pos (by simp_all [Int32.not_lt]), if_neg (by simp_all [← Int32.not_le])] at K9; exact K9) | (rw [if_neg (by simp_all [Int32.not_le]), if_pos (by simp_all [Int32.not_lt])] at K9; exact K9) | (rw [if_neg (by simp_all [Int32.not_le]), if_neg (by simp_all [← Int32.not_le])] at K9; exact K9)
        · refine g_aload_n X rfl rfl ?_
          refine g_iload X rfl rfl ?_
          refine g_iconst X rfl (v := nI 3) (by decide) ?_
          refine g_rV X rfl lcX8_assetPart lmX8_229 lsX8_assetPart (cr_X8_assetPart l D cy B od hm (q := 3) (q2 := 4) (by omega) (by decide) rfl) (ci := 8) hM rfl rfl rfl (Nat.le_of_ble_eq_true rfl) ⟨⟨by decide, by decide⟩, rfl, rfl⟩ ⟨Nat.le_of_ble_eq_true rfl, Nat.le_of_ble_eq_true rfl⟩ ?_
          refine g_iload_n X rfl rfl ?_
          refine g_icmp_gt X rfl (fun h4 => ?_) (fun h4 => ?_)
          · refine g_lconst X rfl (v := 0) (by decide) ?_
            refine g_ladd X rfl ?_
            refine g_lstore_n X rfl (by decide) ?_
            refine g_iinc1 X rfl rfl (by decide) ?_
            refine g_goto X rfl ?_
            have K9 := ih (i + 1) (by omega) (by omega) (by omega)
            rw [mAU] at K9
            first | (rw [if_pos (by simp_all [Int32.not_lt]), if_pos (by simp_all [Int32.not_lt])] at K9; exact K9) | (rw [if_pos (by simp_all [Int32.not_lt]), if_neg (by simp_all [← Int32.not_le])] at K9; exact K9) | (rw [if_neg (by simp_all [Int32.not_le]), if_pos (by simp_all [Int32.not_lt])] at K9; exact K9) | (rw [if_neg (by simp_all [Int32.not_le]), if_neg (by simp_all [← Int32.not_le])] at K9; exact K9)
          · refine g_aload_n X rfl rfl ?_
            refine g_iload X rfl rfl ?_
            refine g_iconst X rfl (v := nI 4) (by decide) ?_
            refine g_rV X rfl lcX8_assetPart lmX8_229 lsX8_assetPart (cr_X8_assetPart l D cy B od hm (q := 4) (q2 := 5) (by omega) (by decide) rfl) (ci := 8) hM rfl rfl rfl (Nat.le_of_ble_eq_true rfl) ⟨⟨by decide, by decide⟩, rfl, rfl⟩ ⟨Nat.le_of_ble_eq_true rfl, Nat.le_of_ble_eq_true rfl⟩ ?_
            refine g_i2l X rfl ?_
            refine g_goto X rfl ?_
            refine g_ladd X rfl ?_
            refine g_lstore_n X rfl (by decide) ?_
            refine g_iinc1 X rfl rfl (by decide) ?_
            refine g_goto X rfl ?_
            have K9 := ih (i + 1) (by omega) (by omega) (by omega)
            rw [mAU] at K9
            first | (rw [if_pos (by simp_all [Int32.not_lt]), if_pos (by simp_all [Int32.not_lt])] at K9; exact K9) | (rw [if_pos (by simp_all [Int32.not_lt]), if_neg (by simp_all [← Int32.not_le])] at K9; exact K9) | (rw [if_neg (by simp_all [Int32.not_le]), if_pos (by simp_all [Int32.not_lt])] at K9; exact K9) | (rw [if_neg (by simp_all [Int32.not_le]), if_neg (by simp_all [← Int32.not_le])] at K9; exact K9)
      · refine g_aload_n X rfl rfl ?_
        refine g_iload X rfl rfl ?_
        refine g_iconst X rfl (v := nI 0) (by decide) ?_
        refine g_rV X rfl lcX8_assetPart lmX8_229 lsX8_assetPart (cr_X8_assetPart l D cy B od hm (q := 0) (q2 := 0) (by omega) (by decide) rfl) (ci := 8) hM rfl rfl rfl (Nat.le_of_ble_eq_true rfl) ⟨⟨by decide, by decide⟩, rfl, rfl⟩ ⟨Nat.le_of_ble_eq_true rfl, Nat.le_of_ble_eq_true rfl⟩ ?_
        refine g_i2l X rfl ?_
        refine g_goto X rfl ?_
        refine g_lsub X rfl ?_
        refine g_lstore_n X rfl (by decide) ?_
        refine g_lload_n X rfl rfl ?_
        refine g_aload_n X rfl rfl ?_
        refine g_iload X rfl rfl ?_
        refine g_rV X rfl lcX8_isSold lmX8_235 lsX8_isSold (cr_X8_isSold l D cy B od hm (by omega)) (ci := 8) hM rfl rfl rfl (Nat.le_of_ble_eq_true rfl) ⟨⟨by decide, by decide⟩, rfl, rfl⟩ ⟨Nat.le_of_ble_eq_true rfl, Nat.le_of_ble_eq_true rfl⟩ ?_
        first | refine g_if_eqB X rfl (fun h5 => ?_) (fun h5 => ?_) | refine g_if_eq X rfl (fun h5 => ?_) (fun h5 => ?_)
        · refine g_lconst X rfl (v := 0) (by decide) ?_
          refine g_ladd X rfl ?_
          refine g_lstore_n X rfl (by decide) ?_
          refine g_iinc1 X rfl rfl (by decide) ?_
          refine g_goto X rfl ?_
          have K9 := ih (i + 1) (by omega) (by omega) (by omega)
          rw [mAU] at K9
          first | (rw [if_pos (by simp_all [Int32.not_lt]), if_pos (by simp_all [Int32.not_lt])] at K9; exact K9) | (rw [if_pos (by simp_all [Int32.not_lt]), if_neg (by simp_all [← Int32.not_le])] at K9; exact K9) | (rw [if_neg (by simp_all [Int32.not_le]), if_pos (by simp_all [Int32.not_lt])] at K9; exact K9) | (rw [if_neg (by simp_all [Int32.not_le]), if_neg (by simp_all [← Int32.not_le])] at K9; exact K9)
        · refine g_aload_n X rfl rfl ?_
          refine g_iload X rfl rfl ?_
          refine g_iconst X rfl (v := nI 3) (by decide) ?_
          refine g_rV X rfl lcX8_assetPart lmX8_229 lsX8_assetPart (cr_X8_assetPart l D cy B od hm (q := 3) (q2 := 4) (by omega) (by decide) rfl) (ci := 8) hM rfl rfl rfl (Nat.le_of_ble_eq_true rfl) ⟨⟨by decide, by decide⟩, rfl, rfl⟩ ⟨Nat.le_of_ble_eq_true rfl, Nat.le_of_ble_eq_true rfl⟩ ?_
          refine g_iload_n X rfl rfl ?_
          refine g_icmp_gt X rfl (fun h6 => ?_) (fun h6 => ?_)
          · refine g_lconst X rfl (v := 0) (by decide) ?_
            refine g_ladd X rfl ?_
            refine g_lstore_n X rfl (by decide) ?_
            refine g_iinc1 X rfl rfl (by decide) ?_
            refine g_goto X rfl ?_
            have K9 := ih (i + 1) (by omega) (by omega) (by omega)
            rw [mAU] at K9
            first | (rw [if_pos (by simp_all [Int32.not_lt]), if_pos (by simp_all [Int32.not_lt])] at K9; exact K9) | (rw [if_pos (by simp_all [Int32.not_lt]), if_neg (by simp_all [← Int32.not_le])] at K9; exact K9) | (rw [if_neg (by simp_all [Int32.not_le]), if_pos (by simp_all [Int32.not_lt])] at K9; exact K9) | (rw [if_neg (by simp_all [Int32.not_le]), if_neg (by simp_all [← Int32.not_le])] at K9; exact K9)
          · refine g_aload_n X rfl rfl ?_
            refine g_iload X rfl rfl ?_
            refine g_iconst X rfl (v := nI 4) (by decide) ?_
            refine g_rV X rfl lcX8_assetPart lmX8_229 lsX8_assetPart (cr_X8_assetPart l D cy B od hm (q := 4) (q2 := 5) (by omega) (by decide) rfl) (ci := 8) hM rfl rfl rfl (Nat.le_of_ble_eq_true rfl) ⟨⟨by decide, by decide⟩, rfl, rfl⟩ ⟨Nat.le_of_ble_eq_true rfl, Nat.le_of_ble_eq_true rfl⟩ ?_
            refine g_i2l X rfl ?_
            refine g_goto X rfl ?_
            refine g_ladd X rfl ?_
            refine g_lstore_n X rfl (by decide) ?_
            refine g_iinc1 X rfl rfl (by decide) ?_
            refine g_goto X rfl ?_
            have K9 := ih (i + 1) (by omega) (by omega) (by omega)
            rw [mAU] at K9
            first | (rw [if_pos (by simp_all [Int32.not_lt]), if_pos (by simp_all [Int32.not_lt])] at K9; exact K9) | (rw [if_pos (by simp_all [Int32.not_lt]), if_neg (by simp_all [← Int32.not_le])] at K9; exact K9) | (rw [if_neg (by simp_all [Int32.not_le]), if_pos (by simp_all [Int32.not_lt])] at K9; exact K9) | (rw [if_neg (by simp_all [Int32.not_le]), if_neg (by simp_all [← Int32.not_le])] at K9; exact K9)
set_option maxRecDepth 100000 in
set_option maxHeartbeats 400000 in
theorem cr_X8_assetsUpTo (l : Launch) (D : va_G) (cy : Nat → ClassId) (B : Nat) (od : Nat → Option Nat) {A : AH} {f : MF} {r : Nat → Int32} {Z : SV} {S : StV} (hm : MdR cy A f r Z S) (hg : Rng Z S) {d : Nat} (hd : d ≤ 359) : CR l D cy B od yX8_assetsUpTo cX8_assetsUpTo 5 (some .long) rmX8_assetsUpTo [.ref 231, .int (nI d)] A (.long (mAU S.2.2.1 d S.2.2.1.1)) := by
  intro z
  refine CT.of (by decide) tX8_assetsUpTo okX8_assetsUpTo (Nat.le_of_ble_eq_true rfl) (q0 := tX8_assetsUpTo[0]) rfl rfl ?_
  intro p e s m args below meth c X _
  obtain ⟨hM, hn, hc, hw, hwb, hz⟩ := id hm
  obtain ⟨c0, ⟨c1, c2, c3, c4, c5⟩, cb, ⟨c16, cr⟩, ⟨c35, ce⟩, ⟨c456, ca⟩, c517, cp⟩ := id hc
  obtain ⟨w1, w2, w3, w4, w5⟩ := id hw
  refine g_lconst X rfl (v := 0) (by decide) ?_
  refine g_lstore_n X rfl (by decide) ?_
  refine g_iconst X rfl (v := nI 0) (by decide) ?_
  refine g_istore X rfl (by decide) ?_
  exact lp_X8_assetsUpTo l D cy B od hm hg hd X (S.2.2.1.1 + 1) 0 (by omega) (by omega) (by omega)
set_option maxRecDepth 100000 in
set_option maxHeartbeats 400000 in
theorem lp_X8_prepaidUpTo (l : Launch) (D : va_G) (cy : Nat → ClassId) (B : Nat) (od : Nat → Option Nat) {p : Program} {e : Env} {s : State} {m : MethodId} {args : Array Value} {below : List Frame} {meth : Method} {c : Code} {A : AH} {z : Nat} {f : MF} {r : Nat → Int32} {Z : SV} {S : StV} (hm : MdR cy A f r Z S) (hg : Rng Z S) {d : Nat} (hd : d ≤ 359) (X : Cx p s m args meth c D cy B od cX8_prepaidUpTo 5 tX8_prepaidUpTo RX8 (some .long)) : ∀ (k i : Nat), 0 ≤ i → i ≤ S.2.2.2.2.1 → S.2.2.2.2.1 - i < k → G p l e rmX8_prepaidUpTo s m args below meth c D B od 5 tX8_prepaidUpTo (FinQ false D B od (fun v A' z' => v = some (.long (mPU S.2.2.2.1 d S.2.2.2.2.1)) ∧ A' = A ∧ z' = z) (fun _ _ => True) args s below 0 0) 0 0 A z 4 [some (.ref 231), some (.int (nI d)), some (.long (mPU S.2.2.2.1 d i)), none, some (.int (nI i))] [] := by
  obtain ⟨hM, hn, hc, hw, hwb, hz⟩ := id hm
  obtain ⟨c0, ⟨c1, c2, c3, c4, c5⟩, cb, ⟨c16, cr⟩, ⟨c35, ce⟩, ⟨c456, ca⟩, c517, cp⟩ := id hc
  obtain ⟨w1, w2, w3, w4, w5⟩ := id hw
  intro k
  induction k with
  | zero => intro i _ _ h; omega
  | succ k ih =>
    intro i hlo hi hk
    refine g_iload X rfl rfl ?_
    refine g_aload_n X rfl rfl ?_
    refine g_get X rfl flX8_16 (ci := 8) rfl hM rfl ?_
    refine g_sipush X rfl (v := nI 517) (by decide) ?_
    refine g_ialdN X rfl hn (by omega) (by decide) ?_
    rw [c517]
    first | refine g_ic_geN X rfl (by omega) (by omega) (fun h1 => ?_) (fun h1 => ?_) | refine g_icmp_ge X rfl (fun h1 => ?_) (fun h1 => ?_)
    · refine g_lload_n X rfl rfl ?_
      refine g_lret X rfl rfl (Nat.le_refl _) (Nat.le_refl _) ⟨?_, rfl, rfl⟩
      rw [show i = S.2.2.2.2.1 by omega]
    · refine g_lload_n X rfl rfl ?_
      refine g_bipush X rfl (v := nI 90) (by decide) ?_
      refine g_iload X rfl rfl ?_
      refine g_imul X rfl ?_
      refine g_bipush X rfl (v := nI 90) (by decide) ?_
      refine g_iadd X rfl ?_
      refine g_iconst X rfl (v := nI 1) (by decide) ?_
      refine g_isub X rfl ?_
      rw [pk_mul, nI_add, pk_sub (by omega)]
      refine g_iload_n X rfl rfl ?_
      refine g_icmp_gt X rfl (fun h2 => ?_) (fun h2 => ?_)
      · refine g_lconst X rfl (v := 0) (by decide) ?_
        refine g_ladd X rfl ?_
        refine g_lstore_n X rfl (by decide) ?_
        refine g_iinc1 X rfl rfl (by decide) ?_
        refine g_goto X rfl ?_
        have K9 := ih (i + 1) (by omega) (by omega) (by omega)
        rw [mPU] at K9
        first | (rw [if_pos (Int32.not_lt.mp (by assumption))] at K9; exact K9) | (rw [if_neg (Int32.not_le.mpr (by assumption))] at K9; exact K9)
      · refine g_aload_n X rfl rfl ?_
        refine g_get X rfl flX8_16 (ci := 8) rfl hM rfl ?_
        refine g_sipush X rfl (v := nI 518) (by decide) ?_
        refine g_iload X rfl rfl ?_
        refine g_iadd X rfl ?_
        rw [nI_add]
        refine g_ialdN X rfl hn (by omega) (by decide) ?_
        rw [cp i (by omega)]
        refine g_i2l X rfl ?_
        refine g_goto X rfl ?_
        refine g_ladd X rfl ?_
        refine g_lstore_n X rfl (by decide) ?_
        refine g_iinc1 X rfl rfl (by decide) ?_
        refine g_goto X rfl ?_
        have K9 := ih (i + 1) (by omega) (by omega) (by omega)
        rw [mPU] at K9
        first | (rw [if_pos (Int32.not_lt.mp (by assumption))] at K9; exact K9) | (rw [if_neg (Int32.not_le.mpr (by assumption))] at K9; exact K9)
set_option maxRecDepth 100000 in
set_option maxHeartbeats 400000 in
theorem cr_X8_prepaidUpTo (l : Launch) (D : va_G) (cy : Nat → ClassId) (B : Nat) (od : Nat → Option Nat) {A : AH} {f : MF} {r : Nat → Int32} {Z : SV} {S : StV} (hm : MdR cy A f r Z S) (hg : Rng Z S) {d : Nat} (hd : d ≤ 359) : CR l D cy B od yX8_prepaidUpTo cX8_prepaidUpTo 5 (some .long) rmX8_prepaidUpTo [.ref 231, .int (nI d)] A (.long (mPU S.2.2.2.1 d S.2.2.2.2.1)) := by
  intro z
  refine CT.of (by decide) tX8_prepaidUpTo okX8_prepaidUpTo (Nat.le_of_ble_eq_true rfl) (q0 := tX8_prepaidUpTo[0]) rfl rfl ?_
  intro p e s m args below meth c X _
  obtain ⟨hM, hn, hc, hw, hwb, hz⟩ := id hm
  obtain ⟨c0, ⟨c1, c2, c3, c4, c5⟩, cb, ⟨c16, cr⟩, ⟨c35, ce⟩, ⟨c456, ca⟩, c517, cp⟩ := id hc
  obtain ⟨w1, w2, w3, w4, w5⟩ := id hw
  refine g_lconst X rfl (v := 0) (by decide) ?_
  refine g_lstore_n X rfl (by decide) ?_
  refine g_iconst X rfl (v := nI 0) (by decide) ?_
  refine g_istore X rfl (by decide) ?_
  exact lp_X8_prepaidUpTo l D cy B od hm hg hd X (S.2.2.2.2.1 + 1) 0 (by omega) (by omega) (by omega)
set_option maxRecDepth 100000 in
set_option maxHeartbeats 400000 in
theorem cr_X8_balanceAt (l : Launch) (D : va_G) (cy : Nat → ClassId) (B : Nat) (od : Nat → Option Nat) {A : AH} {f : MF} {r : Nat → Int32} {Z : SV} {S : StV} (hm : MdR cy A f r Z S) (hg : Rng Z S) {d : Nat} (hd : d ≤ 359) : CR l D cy B od yX8_balanceAt cX8_balanceAt 2 (some .long) rmX8_balanceAt [.ref 231, .int (nI d)] A (.long (balC S d)) := by
  intro z
  refine CT.of (by decide) tX8_balanceAt okX8_balanceAt (Nat.le_of_ble_eq_true rfl) (q0 := tX8_balanceAt[0]) rfl rfl ?_
  intro p e s m args below meth c X _
  obtain ⟨hM, hn, hc, hw, hwb, hz⟩ := id hm
  obtain ⟨c0, ⟨c1, c2, c3, c4, c5⟩, cb, ⟨c16, cr⟩, ⟨c35, ce⟩, ⟨c456, ca⟩, c517, cp⟩ := id hc
  obtain ⟨w1, w2, w3, w4, w5⟩ := id hw
  refine g_aload_n X rfl rfl ?_
  refine g_get X rfl flX8_16 (ci := 8) rfl hM rfl ?_
  refine g_iconst X rfl (v := nI 0) (by decide) ?_
  refine g_ialdN X rfl hn (by omega) (by decide) ?_
  rw [c0]
  refine g_i2l X rfl ?_
  refine g_aload_n X rfl rfl ?_
  refine g_iload_n X rfl rfl ?_
  refine g_rV X rfl lcX8_entriesUpTo lmX8_381 lsX8_entriesUpTo (cr_X8_entriesUpTo l D cy B od hm hg hd) (ci := 8) hM rfl rfl rfl (Nat.le_of_ble_eq_true rfl) ⟨⟨by decide, by decide⟩, rfl, rfl⟩ ⟨Nat.le_of_ble_eq_true rfl, Nat.le_of_ble_eq_true rfl⟩ ?_
  refine g_ladd X rfl ?_
  refine g_aload_n X rfl rfl ?_
  refine g_iload_n X rfl rfl ?_
  refine g_rV X rfl lcX8_assetsUpTo lmX8_384 lsX8_assetsUpTo (cr_X8_assetsUpTo l D cy B od hm hg hd) (ci := 8) hM rfl rfl rfl (Nat.le_of_ble_eq_true rfl) ⟨⟨by decide, by decide⟩, rfl, rfl⟩ ⟨Nat.le_of_ble_eq_true rfl, Nat.le_of_ble_eq_true rfl⟩ ?_
  refine g_ladd X rfl ?_
  refine g_aload_n X rfl rfl ?_
  refine g_iload_n X rfl rfl ?_
  refine g_rV X rfl lcX8_prepaidUpTo lmX8_387 lsX8_prepaidUpTo (cr_X8_prepaidUpTo l D cy B od hm hg hd) (ci := 8) hM rfl rfl rfl (Nat.le_of_ble_eq_true rfl) ⟨⟨by decide, by decide⟩, rfl, rfl⟩ ⟨Nat.le_of_ble_eq_true rfl, Nat.le_of_ble_eq_true rfl⟩ ?_
  refine g_lsub X rfl ?_
  refine g_lret X rfl rfl (Nat.le_refl _) (Nat.le_refl _) ⟨?_, rfl, rfl⟩
  rw [bal_M hg hw hd]
theorem sold_w {Z : SV} {S : StV} (hg : Rng Z S) {m k : Nat} (hm : m ≤ 11) (hk : k < S.2.2.1.1) : (S.2.2.1.2 4 k != -1 && (decide (nI m * nI 30 ≤ S.2.2.1.2 4 k) && decide (S.2.2.1.2 4 k ≤ nI m * nI 30 + nI 30 - nI 1))) = true ↔ (¬ S.2.2.1.2 4 k = -1 ∧ (if S.2.2.1.2 4 k = -1 then nI 12 else S.2.2.1.2 4 k / nI 30) = nI m) := by
  obtain ⟨pr, dy, li, s, so, hN⟩ := asset_N hg hk
  rw [(win m).2, (win m).1]
  rcases hN.2.2.2.2.2.2.2.2.2.2.2 with ⟨e1, -⟩ | ⟨sd, f1, f2, -⟩
  · rw [e1]; simp
  · rw [f2, if_neg (nI_nm1 (by omega)), pk_div (by omega) (by decide) (by decide), Bool.and_eq_true, Bool.and_eq_true, decide_eq_true_eq, decide_eq_true_eq, bne_iff_ne, nI_leI (by omega) (by omega), nI_leI (by omega) (by omega), nI_eq (by omega) (by omega)]
    constructor
    · rintro ⟨q1, q2, q3⟩; exact ⟨q1, by omega⟩
    · rintro ⟨q1, q2⟩; exact ⟨q1, by omega, by omega⟩
set_option maxRecDepth 100000 in
set_option maxHeartbeats 400000 in
theorem lp_X8_takenIn2 (l : Launch) (D : va_G) (cy : Nat → ClassId) (B : Nat) (od : Nat → Option Nat) {p : Program} {e : Env} {s : State} {m : MethodId} {args : Array Value} {below : List Frame} {meth : Method} {c : Code} {A : AH} {z : Nat} {f : MF} {r : Nat → Int32} {Z : SV} {S : StV} (hm : MdR cy A f r Z S) (hg : Rng Z S) {mo : Nat} (hmo : mo ≤ 11) (X : Cx p s m args meth c D cy B od cX8_takenIn 7 tX8_takenIn RX8 (some .long)) : ∀ (k i : Nat), 0 ≤ i → i ≤ S.2.2.1.1 → S.2.2.1.1 - i < k → G p l e rmX8_takenIn s m args below meth c D B od 7 tX8_takenIn (FinQ false D B od (fun v A' z' => z' = z ∧ (fun v A' => v = some (.long (sRecIn S (nI mo))) ∧ A' = A) v A') (fun _ _ => True) args s below rmX8_takenIn.cells rmX8_takenIn.slots) 0 0 A z 45 [some (.ref 231), some (.int (nI mo)), some (.int (nI (30 * mo))), some (.int (nI (30 * mo + 30 - 1))), some (.long (eSum S.1 (nI 0) (nI mo * nI 30) (nI mo * nI 30 + nI 30 - nI 1) + sumN (fun i => S.2.2.1.2 4 i != -1 && (decide (nI mo * nI 30 ≤ S.2.2.1.2 4 i) && decide (S.2.2.1.2 4 i ≤ nI mo * nI 30 + nI 30 - nI 1))) (fun i => (S.2.2.1.2 5 i).toInt64) i)), none, some (.int (nI i))] [] := by
  intro k
  induction k with
  | zero => intro i _ _ h; omega
  | succ k ih =>
    intro i  hlo hi hk
    obtain ⟨hM, hn, hc, hw, hwb, hz⟩ := id hm
    obtain ⟨c0, ⟨c1, c2, c3, c4, c5⟩, cb, ⟨c16, cr⟩, ⟨c35, ce⟩, ⟨c456, ca⟩, c517, cp⟩ := id hc
    obtain ⟨w1, w2, w3, w4, w5⟩ := id hw
    refine g_iload X rfl rfl ?_
    refine g_aload_n X rfl rfl ?_
    refine g_get X rfl flX8_16 (ci := 8) rfl (by (repeat (first | exact hM | exact upA_eq | refine (upA_ne (by omega)).trans ?_))) rfl ?_
    refine g_sipush X rfl (v := nI 456) (by decide) ?_
    refine g_ialdN X rfl hn (by omega) (by decide) ?_
    rw [c456]
    first | refine g_ic_geN X rfl (by omega) (by omega) (fun h1 => ?_) (fun h1 => ?_) | refine g_icmp_ge X rfl (fun h1 => ?_) (fun h1 => ?_)
    · refine g_lload X rfl rfl ?_
      refine g_lret X rfl rfl (Nat.le_of_ble_eq_true rfl) (Nat.le_of_ble_eq_true rfl) ⟨rfl, ?_⟩
      rw [show i = S.2.2.1.1 by omega]; exact ⟨rfl, rfl⟩
    · refine g_lload X rfl rfl ?_
      refine g_aload_n X rfl rfl ?_
      refine g_iload X rfl rfl ?_
      refine g_rV X rfl lcX8_isSold lmX8_235 lsX8_isSold (cr_X8_isSold l D cy B od hm (by omega)) (ci := 8) (by (repeat (first | exact hM | exact upA_eq | refine (upA_ne (by omega)).trans ?_))) rfl rfl rfl (Nat.le_of_ble_eq_true rfl) ⟨⟨by decide, by decide⟩, rfl, rfl⟩ ⟨Nat.le_of_ble_eq_true rfl, Nat.le_of_ble_eq_true rfl⟩ ?_
      first | refine g_if_eqB X rfl (fun h2 => ?_) (fun h2 => ?_) | refine g_if_eq X rfl (fun h2 => ?_) (fun h2 => ?_)
      · refine g_lconst X rfl (v := 0) (by decide) ?_
        refine g_ladd X rfl ?_
        refine g_lstore X rfl (by decide) ?_
        refine g_iinc1 X rfl rfl (by decide) ?_
        refine g_goto X rfl ?_
        have K9 := ih (i + 1) (by omega) (by omega) (by omega)
        first | (rw [show sumN (fun i => S.2.2.1.2 4 i != -1 && (decide (nI mo * nI 30 ≤ S.2.2.1.2 4 i) && decide (S.2.2.1.2 4 i ≤ nI mo * nI 30 + nI 30 - nI 1))) (fun i => (S.2.2.1.2 5 i).toInt64) (i + 1) = sumN (fun i => S.2.2.1.2 4 i != -1 && (decide (nI mo * nI 30 ≤ S.2.2.1.2 4 i) && decide (S.2.2.1.2 4 i ≤ nI mo * nI 30 + nI 30 - nI 1))) (fun i => (S.2.2.1.2 5 i).toInt64) i + (S.2.2.1.2 5 i).toInt64 by rw [sumN, if_pos ((sold_w hg hmo (by omega)).mpr ⟨by simp_all, by assumption⟩)], ← Int64.add_assoc] at K9; exact K9) | (rw [show sumN (fun i => S.2.2.1.2 4 i != -1 && (decide (nI mo * nI 30 ≤ S.2.2.1.2 4 i) && decide (S.2.2.1.2 4 i ≤ nI mo * nI 30 + nI 30 - nI 1))) (fun i => (S.2.2.1.2 5 i).toInt64) (i + 1) = sumN (fun i => S.2.2.1.2 4 i != -1 && (decide (nI mo * nI 30 ≤ S.2.2.1.2 4 i) && decide (S.2.2.1.2 4 i ≤ nI mo * nI 30 + nI 30 - nI 1))) (fun i => (S.2.2.1.2 5 i).toInt64) i by rw [sumN, if_neg (fun z => absurd ((sold_w hg hmo (by omega)).mp z).2 (by assumption))], ← Int64.add_zero (_ + _)] at K9; exact K9) | (rw [show sumN (fun i => S.2.2.1.2 4 i != -1 && (decide (nI mo * nI 30 ≤ S.2.2.1.2 4 i) && decide (S.2.2.1.2 4 i ≤ nI mo * nI 30 + nI 30 - nI 1))) (fun i => (S.2.2.1.2 5 i).toInt64) (i + 1) = sumN (fun i => S.2.2.1.2 4 i != -1 && (decide (nI mo * nI 30 ≤ S.2.2.1.2 4 i) && decide (S.2.2.1.2 4 i ≤ nI mo * nI 30 + nI 30 - nI 1))) (fun i => (S.2.2.1.2 5 i).toInt64) i by rw [sumN, if_neg (fun z => absurd ((sold_w hg hmo (by omega)).mp z).1 (by simp_all))], ← Int64.add_zero (_ + _)] at K9; exact K9)
      · refine g_aload_n X rfl rfl ?_
        refine g_iload X rfl rfl ?_
        refine g_rV X rfl lcX8_soldIn lmX8_275 lsX8_soldIn (cr_X8_soldIn l D cy B od hm hg (by omega)) (ci := 8) (by (repeat (first | exact hM | exact upA_eq | refine (upA_ne (by omega)).trans ?_))) rfl rfl rfl (Nat.le_of_ble_eq_true rfl) ⟨⟨by decide, by decide⟩, rfl, rfl⟩ ⟨Nat.le_of_ble_eq_true rfl, Nat.le_of_ble_eq_true rfl⟩ ?_
        refine g_iload_n X rfl rfl ?_
        refine g_icmp_ne X rfl (fun h3 => ?_) (fun h3 => ?_)
        · refine g_lconst X rfl (v := 0) (by decide) ?_
          refine g_ladd X rfl ?_
          refine g_lstore X rfl (by decide) ?_
          refine g_iinc1 X rfl rfl (by decide) ?_
          refine g_goto X rfl ?_
          have K9 := ih (i + 1) (by omega) (by omega) (by omega)
          first | (rw [show sumN (fun i => S.2.2.1.2 4 i != -1 && (decide (nI mo * nI 30 ≤ S.2.2.1.2 4 i) && decide (S.2.2.1.2 4 i ≤ nI mo * nI 30 + nI 30 - nI 1))) (fun i => (S.2.2.1.2 5 i).toInt64) (i + 1) = sumN (fun i => S.2.2.1.2 4 i != -1 && (decide (nI mo * nI 30 ≤ S.2.2.1.2 4 i) && decide (S.2.2.1.2 4 i ≤ nI mo * nI 30 + nI 30 - nI 1))) (fun i => (S.2.2.1.2 5 i).toInt64) i + (S.2.2.1.2 5 i).toInt64 by rw [sumN, if_pos ((sold_w hg hmo (by omega)).mpr ⟨by simp_all, by assumption⟩)], ← Int64.add_assoc] at K9; exact K9) | (rw [show sumN (fun i => S.2.2.1.2 4 i != -1 && (decide (nI mo * nI 30 ≤ S.2.2.1.2 4 i) && decide (S.2.2.1.2 4 i ≤ nI mo * nI 30 + nI 30 - nI 1))) (fun i => (S.2.2.1.2 5 i).toInt64) (i + 1) = sumN (fun i => S.2.2.1.2 4 i != -1 && (decide (nI mo * nI 30 ≤ S.2.2.1.2 4 i) && decide (S.2.2.1.2 4 i ≤ nI mo * nI 30 + nI 30 - nI 1))) (fun i => (S.2.2.1.2 5 i).toInt64) i by rw [sumN, if_neg (fun z => absurd ((sold_w hg hmo (by omega)).mp z).2 (by assumption))], ← Int64.add_zero (_ + _)] at K9; exact K9) | (rw [show sumN (fun i => S.2.2.1.2 4 i != -1 && (decide (nI mo * nI 30 ≤ S.2.2.1.2 4 i) && decide (S.2.2.1.2 4 i ≤ nI mo * nI 30 + nI 30 - nI 1))) (fun i => (S.2.2.1.2 5 i).toInt64) (i + 1) = sumN (fun i => S.2.2.1.2 4 i != -1 && (decide (nI mo * nI 30 ≤ S.2.2.1.2 4 i) && decide (S.2.2.1.2 4 i ≤ nI mo * nI 30 + nI 30 - nI 1))) (fun i => (S.2.2.1.2 5 i).toInt64) i by rw [sumN, if_neg (fun z => absurd ((sold_w hg hmo (by omega)).mp z).1 (by simp_all))], ← Int64.add_zero (_ + _)] at K9; exact K9)
        · refine g_aload_n X rfl rfl ?_
          refine g_iload X rfl rfl ?_
          refine g_iconst X rfl (v := nI 4) (by decide) ?_
          refine g_rV X rfl lcX8_assetPart lmX8_229 lsX8_assetPart (cr_X8_assetPart l D cy B od hm (q := 4) (q2 := 5) (by omega) (by decide) rfl) (ci := 8) (by (repeat (first | exact hM | exact upA_eq | refine (upA_ne (by omega)).trans ?_))) rfl rfl rfl (Nat.le_of_ble_eq_true rfl) ⟨⟨by decide, by decide⟩, rfl, rfl⟩ ⟨Nat.le_of_ble_eq_true rfl, Nat.le_of_ble_eq_true rfl⟩ ?_
          refine g_i2l X rfl ?_
          refine g_goto X rfl ?_
          refine g_ladd X rfl ?_
          refine g_lstore X rfl (by decide) ?_
          refine g_iinc1 X rfl rfl (by decide) ?_
          refine g_goto X rfl ?_
          have K9 := ih (i + 1) (by omega) (by omega) (by omega)
          first | (rw [show sumN (fun i => S.2.2.1.2 4 i != -1 && (decide (nI mo * nI 30 ≤ S.2.2.1.2 4 i) && decide (S.2.2.1.2 4 i ≤ nI mo * nI 30 + nI 30 - nI 1))) (fun i => (S.2.2.1.2 5 i).toInt64) (i + 1) = sumN (fun i => S.2.2.1.2 4 i != -1 && (decide (nI mo * nI 30 ≤ S.2.2.1.2 4 i) && decide (S.2.2.1.2 4 i ≤ nI mo * nI 30 + nI 30 - nI 1))) (fun i => (S.2.2.1.2 5 i).toInt64) i + (S.2.2.1.2 5 i).toInt64 by rw [sumN, if_pos ((sold_w hg hmo (by omega)).mpr ⟨by simp_all, by assumption⟩)], ← Int64.add_assoc] at K9; exact K9) | (rw [show sumN (fun i => S.2.2.1.2 4 i != -1 && (decide (nI mo * nI 30 ≤ S.2.2.1.2 4 i) && decide (S.2.2.1.2 4 i ≤ nI mo * nI 30 + nI 30 - nI 1))) (fun i => (S.2.2.1.2 5 i).toInt64) (i + 1) = sumN (fun i => S.2.2.1.2 4 i != -1 && (decide (nI mo * nI 30 ≤ S.2.2.1.2 4 i) && decide (S.2.2.1.2 4 i ≤ nI mo * nI 30 + nI 30 - nI 1))) (fun i => (S.2.2.1.2 5 i).toInt64) i by rw [sumN, if_neg (fun z => absurd ((sold_w hg hmo (by omega)).mp z).2 (by assumption))], ← Int64.add_zero (_ + _)] at K9; exact K9) | (rw [show sumN (fun i => S.2.2.1.2 4 i != -1 && (decide (nI mo * nI 30 ≤ S.2.2.1.2 4 i) && decide (S.2.2.1.2 4 i ≤ nI mo * nI 30 + nI 30 - nI 1))) (fun i => (S.2.2.1.2 5 i).toInt64) (i + 1) = sumN (fun i => S.2.2.1.2 4 i != -1 && (decide (nI mo * nI 30 ≤ S.2.2.1.2 4 i) && decide (S.2.2.1.2 4 i ≤ nI mo * nI 30 + nI 30 - nI 1))) (fun i => (S.2.2.1.2 5 i).toInt64) i by rw [sumN, if_neg (fun z => absurd ((sold_w hg hmo (by omega)).mp z).1 (by simp_all))], ← Int64.add_zero (_ + _)] at K9; exact K9)
set_option maxRecDepth 100000 in
set_option maxHeartbeats 400000 in
theorem lp_X8_takenIn1 (l : Launch) (D : va_G) (cy : Nat → ClassId) (B : Nat) (od : Nat → Option Nat) {p : Program} {e : Env} {s : State} {m : MethodId} {args : Array Value} {below : List Frame} {meth : Method} {c : Code} {A : AH} {z : Nat} {f : MF} {r : Nat → Int32} {Z : SV} {S : StV} (hm : MdR cy A f r Z S) (hg : Rng Z S) {mo : Nat} (hmo : mo ≤ 11) (X : Cx p s m args meth c D cy B od cX8_takenIn 7 tX8_takenIn RX8 (some .long)) : ∀ (k i : Nat), 0 ≤ i → i ≤ S.1.1 → S.1.1 - i < k → G p l e rmX8_takenIn s m args below meth c D B od 7 tX8_takenIn (FinQ false D B od (fun v A' z' => z' = z ∧ (fun v A' => v = some (.long (sRecIn S (nI mo))) ∧ A' = A) v A') (fun _ _ => True) args s below rmX8_takenIn.cells rmX8_takenIn.slots) 0 0 A z 14 [some (.ref 231), some (.int (nI mo)), some (.int (nI (30 * mo))), some (.int (nI (30 * mo + 30 - 1))), some (.long (sumN (fun i => S.1.2 0 i == nI 0 && eCntIn S.1 (nI mo * nI 30) (nI mo * nI 30 + nI 30 - nI 1) i) (fun i => (S.1.2 2 i).toInt64) i)), none, some (.int (nI i))] [] := by
  intro k
  induction k with
  | zero => intro i _ _ h; omega
  | succ k ih =>
    intro i  hlo hi hk
    obtain ⟨hM, hn, hc, hw, hwb, hz⟩ := id hm
    obtain ⟨c0, ⟨c1, c2, c3, c4, c5⟩, cb, ⟨c16, cr⟩, ⟨c35, ce⟩, ⟨c456, ca⟩, c517, cp⟩ := id hc
    obtain ⟨w1, w2, w3, w4, w5⟩ := id hw
    refine g_iload X rfl rfl ?_
    refine g_aload_n X rfl rfl ?_
    refine g_get X rfl flX8_16 (ci := 8) rfl (by (repeat (first | exact hM | exact upA_eq | refine (upA_ne (by omega)).trans ?_))) rfl ?_
    refine g_bipush X rfl (v := nI 35) (by decide) ?_
    refine g_ialdN X rfl hn (by omega) (by decide) ?_
    rw [c35]
    first | refine g_ic_geN X rfl (by omega) (by omega) (fun h1 => ?_) (fun h1 => ?_) | refine g_icmp_ge X rfl (fun h1 => ?_) (fun h1 => ?_)
    · refine g_iconst X rfl (v := nI 0) (by decide) ?_
      refine g_istore X rfl (by decide) ?_
      rw [show sumN (fun i => S.1.2 0 i == nI 0 && eCntIn S.1 (nI mo * nI 30) (nI mo * nI 30 + nI 30 - nI 1) i) (fun i => (S.1.2 2 i).toInt64) i = eSum S.1 (nI 0) (nI mo * nI 30) (nI mo * nI 30 + nI 30 - nI 1) + sumN (fun i => S.2.2.1.2 4 i != -1 && (decide (nI mo * nI 30 ≤ S.2.2.1.2 4 i) && decide (S.2.2.1.2 4 i ≤ nI mo * nI 30 + nI 30 - nI 1))) (fun i => (S.2.2.1.2 5 i).toInt64) 0 by rw [show i = S.1.1 by omega]; exact (Int64.add_zero _).symm]
      exact lp_X8_takenIn2 l D cy B od hm hg hmo X (S.2.2.1.1 + 1) 0 (by omega) (by omega) (by omega)
    · refine g_lload X rfl rfl ?_
      refine g_aload_n X rfl rfl ?_
      refine g_iload X rfl rfl ?_
      refine g_iconst X rfl (v := nI 0) (by decide) ?_
      refine g_rV X rfl lcX8_entryPart lmX8_184 lsX8_entryPart (cr_X8_entryPart l D cy B od hm (by omega) (by omega)) (ci := 8) (by (repeat (first | exact hM | exact upA_eq | refine (upA_ne (by omega)).trans ?_))) rfl rfl rfl (Nat.le_of_ble_eq_true rfl) ⟨⟨by decide, by decide⟩, rfl, rfl⟩ ⟨Nat.le_of_ble_eq_true rfl, Nat.le_of_ble_eq_true rfl⟩ ?_
      refine g_if_ne X rfl (fun h2 => ?_) (fun h2 => ?_)
      · refine g_lconst X rfl (v := 0) (by decide) ?_
        refine g_ladd X rfl ?_
        refine g_lstore X rfl (by decide) ?_
        refine g_iinc1 X rfl rfl (by decide) ?_
        refine g_goto X rfl ?_
        have K9 := ih (i + 1) (by omega) (by omega) (by omega)
        first | (rw [show sumN (fun i => S.1.2 0 i == nI 0 && eCntIn S.1 (nI mo * nI 30) (nI mo * nI 30 + nI 30 - nI 1) i) (fun i => (S.1.2 2 i).toInt64) (i + 1) = sumN (fun i => S.1.2 0 i == nI 0 && eCntIn S.1 (nI mo * nI 30) (nI mo * nI 30 + nI 30 - nI 1) i) (fun i => (S.1.2 2 i).toInt64) i + (S.1.2 2 i).toInt64 by rw [sumN, if_pos (by rw [(win mo).2, (win mo).1]; simp_all [nI_0])]] at K9; exact K9) | (rw [show sumN (fun i => S.1.2 0 i == nI 0 && eCntIn S.1 (nI mo * nI 30) (nI mo * nI 30 + nI 30 - nI 1) i) (fun i => (S.1.2 2 i).toInt64) (i + 1) = sumN (fun i => S.1.2 0 i == nI 0 && eCntIn S.1 (nI mo * nI 30) (nI mo * nI 30 + nI 30 - nI 1) i) (fun i => (S.1.2 2 i).toInt64) i + 0 by rw [sumN, if_neg (by rw [(win mo).2, (win mo).1]; simp_all [nI_0]), Int64.add_zero]] at K9; exact K9)
      · refine g_aload_n X rfl rfl ?_
        refine g_iload X rfl rfl ?_
        refine g_iload_n X rfl rfl ?_
        refine g_iload_n X rfl rfl ?_
        refine g_rV X rfl lcX8_countsIn lmX8_287 lsX8_countsIn (cr_X8_countsIn l D cy B od hm (by omega)) (ci := 8) (by (repeat (first | exact hM | exact upA_eq | refine (upA_ne (by omega)).trans ?_))) rfl rfl rfl (Nat.le_of_ble_eq_true rfl) ⟨⟨by decide, by decide⟩, rfl, rfl⟩ ⟨Nat.le_of_ble_eq_true rfl, Nat.le_of_ble_eq_true rfl⟩ ?_
        first | refine g_if_eqB X rfl (fun h3 => ?_) (fun h3 => ?_) | refine g_if_eq X rfl (fun h3 => ?_) (fun h3 => ?_)
        · refine g_lconst X rfl (v := 0) (by decide) ?_
          refine g_ladd X rfl ?_
          refine g_lstore X rfl (by decide) ?_
          refine g_iinc1 X rfl rfl (by decide) ?_
          refine g_goto X rfl ?_
          have K9 := ih (i + 1) (by omega) (by omega) (by omega)
          first | (rw [show sumN (fun i => S.1.2 0 i == nI 0 && eCntIn S.1 (nI mo * nI 30) (nI mo * nI 30 + nI 30 - nI 1) i) (fun i => (S.1.2 2 i).toInt64) (i + 1) = sumN (fun i => S.1.2 0 i == nI 0 && eCntIn S.1 (nI mo * nI 30) (nI mo * nI 30 + nI 30 - nI 1) i) (fun i => (S.1.2 2 i).toInt64) i + (S.1.2 2 i).toInt64 by rw [sumN, if_pos (by rw [(win mo).2, (win mo).1]; simp_all [nI_0])]] at K9; exact K9) | (rw [show sumN (fun i => S.1.2 0 i == nI 0 && eCntIn S.1 (nI mo * nI 30) (nI mo * nI 30 + nI 30 - nI 1) i) (fun i => (S.1.2 2 i).toInt64) (i + 1) = sumN (fun i => S.1.2 0 i == nI 0 && eCntIn S.1 (nI mo * nI 30) (nI mo * nI 30 + nI 30 - nI 1) i) (fun i => (S.1.2 2 i).toInt64) i + 0 by rw [sumN, if_neg (by rw [(win mo).2, (win mo).1]; simp_all [nI_0]), Int64.add_zero]] at K9; exact K9)
        · refine g_aload_n X rfl rfl ?_
          refine g_iload X rfl rfl ?_
          refine g_iconst X rfl (v := nI 2) (by decide) ?_
          refine g_rV X rfl lcX8_entryPart lmX8_184 lsX8_entryPart (cr_X8_entryPart l D cy B od hm (by omega) (by omega)) (ci := 8) (by (repeat (first | exact hM | exact upA_eq | refine (upA_ne (by omega)).trans ?_))) rfl rfl rfl (Nat.le_of_ble_eq_true rfl) ⟨⟨by decide, by decide⟩, rfl, rfl⟩ ⟨Nat.le_of_ble_eq_true rfl, Nat.le_of_ble_eq_true rfl⟩ ?_
          refine g_i2l X rfl ?_
          refine g_goto X rfl ?_
          refine g_ladd X rfl ?_
          refine g_lstore X rfl (by decide) ?_
          refine g_iinc1 X rfl rfl (by decide) ?_
          refine g_goto X rfl ?_
          have K9 := ih (i + 1) (by omega) (by omega) (by omega)
          first | (rw [show sumN (fun i => S.1.2 0 i == nI 0 && eCntIn S.1 (nI mo * nI 30) (nI mo * nI 30 + nI 30 - nI 1) i) (fun i => (S.1.2 2 i).toInt64) (i + 1) = sumN (fun i => S.1.2 0 i == nI 0 && eCntIn S.1 (nI mo * nI 30) (nI mo * nI 30 + nI 30 - nI 1) i) (fun i => (S.1.2 2 i).toInt64) i + (S.1.2 2 i).toInt64 by rw [sumN, if_pos (by rw [(win mo).2, (win mo).1]; simp_all [nI_0])]] at K9; exact K9) | (rw [show sumN (fun i => S.1.2 0 i == nI 0 && eCntIn S.1 (nI mo * nI 30) (nI mo * nI 30 + nI 30 - nI 1) i) (fun i => (S.1.2 2 i).toInt64) (i + 1) = sumN (fun i => S.1.2 0 i == nI 0 && eCntIn S.1 (nI mo * nI 30) (nI mo * nI 30 + nI 30 - nI 1) i) (fun i => (S.1.2 2 i).toInt64) i + 0 by rw [sumN, if_neg (by rw [(win mo).2, (win mo).1]; simp_all [nI_0]), Int64.add_zero]] at K9; exact K9)
set_option maxRecDepth 100000 in
set_option maxHeartbeats 400000 in
theorem cm_X8_takenIn (l : Launch) (D : va_G) (cy : Nat → ClassId) (B : Nat) (od : Nat → Option Nat) {A : AH} {f : MF} {r : Nat → Int32} {Z : SV} {S : StV} (hm : MdR cy A f r Z S) (hg : Rng Z S) {mo : Nat} (hmo : mo ≤ 11) : CM l D cy B od yX8_takenIn cX8_takenIn 7 (some .long) rmX8_takenIn [.ref 231, .int (nI mo)] A (fun v A' => v = some (.long (sRecIn S (nI mo))) ∧ A' = A) := by
  intro z
  refine CT.of (by decide) tX8_takenIn okX8_takenIn (Nat.le_of_ble_eq_true rfl) (q0 := tX8_takenIn[0]) rfl rfl ?_
  intro p e s m args below meth c X _
  obtain ⟨hM, hn, hc, hw, hwb, hz⟩ := id hm
  obtain ⟨c0, ⟨c1, c2, c3, c4, c5⟩, cb, ⟨c16, cr⟩, ⟨c35, ce⟩, ⟨c456, ca⟩, c517, cp⟩ := id hc
  obtain ⟨w1, w2, w3, w4, w5⟩ := id hw
  refine g_bipush X rfl (v := nI 30) (by decide) ?_
  refine g_iload_n X rfl rfl ?_
  refine g_imul X rfl ?_
  rw [pk_mul]
  refine g_istore_n X rfl (by decide) ?_
  refine g_iload_n X rfl rfl ?_
  refine g_bipush X rfl (v := nI 30) (by decide) ?_
  refine g_iadd X rfl ?_
  refine g_iconst X rfl (v := nI 1) (by decide) ?_
  refine g_isub X rfl ?_
  rw [nI_add, pk_sub (by omega)]
  refine g_istore_n X rfl (by decide) ?_
  refine g_lconst X rfl (v := 0) (by decide) ?_
  refine g_lstore X rfl (by decide) ?_
  refine g_iconst X rfl (v := nI 0) (by decide) ?_
  refine g_istore X rfl (by decide) ?_
  exact lp_X8_takenIn1 l D cy B od hm hg hmo X (S.1.1 + 1) 0 (by omega) (by omega) (by omega)
theorem ml1 {n : Nat} (h : n < 2 ^ 30) : (nI 1).toInt64 * (nI n).toInt64 = (nI n).toInt64 ∧ (-1 : Int32).toInt64 * (nI n).toInt64 = (-nI n).toInt64 := by
  refine ⟨by rw [show (nI 1).toInt64 = 1 by decide, Int64.one_mul], ?_⟩
  rw [neg_l h, show (-1 : Int32).toInt64 = -1 by decide]
  grind
theorem bM_N {f : Nat → Int64} {j : Nat} {am : Int32} (hj : j < 360) : bMove f (nI j) am = vp_updL f j (f j + am.toInt64) := by
  rw [bMove, if_pos ⟨nI_pos' (by omega), nI_lt hj (by decide)⟩, nI_clamp (by omega)]
set_option maxRecDepth 100000 in
set_option maxHeartbeats 400000 in
theorem lp_X8_layEntries (l : Launch) (D : va_G) (cy : Nat → ClassId) (B : Nat) (od : Nat → Option Nat) {p : Program} {e : Env} {s : State} {m : MethodId} {args : Array Value} {below : List Frame} {meth : Method} {c : Code} {A : AH} {z : Nat} {f : MF} {r : Nat → Int32} {Z : SV} {S : StV} (hm : MdR cy A f r Z S) (hg : Rng Z S) {f0 : Nat → Int64} {Qf : Option Value → AH → Prop} (hQ : Qf none (upA A 237 (bX cy (bE S.1 f0 S.1.1)))) (X : Cx p s m args meth c D cy B od cX8_layEntries 3 tX8_layEntries RX8 none) : ∀ (k i : Nat) (o0 : Option Value), 0 ≤ i → i ≤ S.1.1 → S.1.1 - i < k → G p l e rmX8_layEntries s m args below meth c D B od 3 tX8_layEntries (FinQ false D B od (fun v A' z' => z' = z ∧ (Qf) v A') (fun _ _ => True) args s below rmX8_layEntries.cells rmX8_layEntries.slots) 0 0 (upA A 237 (bX cy (bE S.1 f0 i))) z 2 [some (.ref 231), some (.int (nI i)), o0] [] := by
  intro k
  induction k with
  | zero => intro i _ _ _ h; omega
  | succ k ih =>
    intro i o0 hlo hi hk
    have hm := hm.up (k := 237) (x := bX cy (bE S.1 f0 i)) (by decide) (by decide)
    obtain ⟨hM, hn, hc, hw, hwb, hz⟩ := id hm
    obtain ⟨c0, ⟨c1, c2, c3, c4, c5⟩, cb, ⟨c16, cr⟩, ⟨c35, ce⟩, ⟨c456, ca⟩, c517, cp⟩ := id hc
    obtain ⟨w1, w2, w3, w4, w5⟩ := id hw
    have hbr : upA A 237 (bX cy (bE S.1 f0 i)) 237 = some (bX cy (bE S.1 f0 i)) := upA_eq
    refine g_iload_n X rfl rfl ?_
    refine g_aload_n X rfl rfl ?_
    refine g_get X rfl flX8_16 (ci := 8) rfl (by (repeat (first | exact hM | exact upA_eq | refine (upA_ne (by omega)).trans ?_))) rfl ?_
    refine g_bipush X rfl (v := nI 35) (by decide) ?_
    refine g_ialdN X rfl hn (by omega) (by decide) ?_
    rw [c35]
    first | refine g_ic_geN X rfl (by omega) (by omega) (fun h1 => ?_) (fun h1 => ?_) | refine g_icmp_ge X rfl (fun h1 => ?_) (fun h1 => ?_)
    · refine g_vret X rfl rfl (Nat.le_of_ble_eq_true rfl) (Nat.le_of_ble_eq_true rfl) ⟨rfl, ?_⟩
      rw [show i = S.1.1 by omega]; exact hQ
    · refine g_aload_n X rfl rfl ?_
      refine g_iload_n X rfl rfl ?_
      refine g_rV X rfl lcX8_counts lmX8_190 lsX8_counts (cr_X8_counts l D cy B od hm (by omega)) (ci := 8) (by (repeat (first | exact hM | exact upA_eq | refine (upA_ne (by omega)).trans ?_))) rfl rfl rfl (Nat.le_of_ble_eq_true rfl) ⟨⟨by decide, by decide⟩, rfl, rfl⟩ ⟨Nat.le_of_ble_eq_true rfl, Nat.le_of_ble_eq_true rfl⟩ ?_
      first | refine g_if_neB X rfl (fun h2 => ?_) (fun h2 => ?_) | refine g_if_ne X rfl (fun h2 => ?_) (fun h2 => ?_)
      · refine g_aload_n X rfl rfl ?_
        refine g_iload_n X rfl rfl ?_
        refine g_iconst X rfl (v := nI 0) (by decide) ?_
        refine g_rV X rfl lcX8_entryPart lmX8_184 lsX8_entryPart (cr_X8_entryPart l D cy B od hm (by omega) (by omega)) (ci := 8) (by (repeat (first | exact hM | exact upA_eq | refine (upA_ne (by omega)).trans ?_))) rfl rfl rfl (Nat.le_of_ble_eq_true rfl) ⟨⟨by decide, by decide⟩, rfl, rfl⟩ ⟨Nat.le_of_ble_eq_true rfl, Nat.le_of_ble_eq_true rfl⟩ ?_
        refine g_if_ne X rfl (fun h3 => ?_) (fun h3 => ?_)
        · refine g_iconst X rfl (v := (-1)) (by decide) ?_
          refine g_istore_n X rfl (by decide) ?_
          refine g_aload_n X rfl rfl ?_
          refine g_get X rfl flX8_25 (ci := 8) rfl (by (repeat (first | exact hM | exact upA_eq | refine (upA_ne (by omega)).trans ?_))) rfl ?_
          refine g_aload_n X rfl rfl ?_
          refine g_iload_n X rfl rfl ?_
          refine g_iconst X rfl (v := nI 4) (by decide) ?_
          refine g_rV X rfl lcX8_entryPart lmX8_184 lsX8_entryPart (cr_X8_entryPart l D cy B od hm (by omega) (by omega)) (ci := 8) (by (repeat (first | exact hM | exact upA_eq | refine (upA_ne (by omega)).trans ?_))) rfl rfl rfl (Nat.le_of_ble_eq_true rfl) ⟨⟨by decide, by decide⟩, rfl, rfl⟩ ⟨Nat.le_of_ble_eq_true rfl, Nat.le_of_ble_eq_true rfl⟩ ?_
          obtain ⟨pd, hpd9, hpd⟩ := paid_N hg (by omega) (by assumption)
          obtain ⟨am9, -, am2, am3⟩ := (hg.1 i (by omega)).2.2.1
          rw [hpd]
          refine g_dup2 X rfl rfl rfl ?_
          refine g_laldN X rfl (by (repeat (first | exact hbr | exact upA_eq | refine (upA_ne (by omega)).trans ?_))) (by omega) (by decide) ?_
          refine g_iload_n X rfl rfl ?_
          refine g_i2l X rfl ?_
          refine g_aload_n X rfl rfl ?_
          refine g_iload_n X rfl rfl ?_
          refine g_iconst X rfl (v := nI 2) (by decide) ?_
          refine g_rV X rfl lcX8_entryPart lmX8_184 lsX8_entryPart (cr_X8_entryPart l D cy B od hm (by omega) (by omega)) (ci := 8) (by (repeat (first | exact hM | exact upA_eq | refine (upA_ne (by omega)).trans ?_))) rfl rfl rfl (Nat.le_of_ble_eq_true rfl) ⟨⟨by decide, by decide⟩, rfl, rfl⟩ ⟨Nat.le_of_ble_eq_true rfl, Nat.le_of_ble_eq_true rfl⟩ ?_
          rw [am3]
          refine g_i2l X rfl ?_
          refine g_lmul X rfl ?_
          first | rw [(ml1 (by omega)).1, ← am3] | rw [(ml1 (by omega)).2, ← am3]
          refine g_ladd X rfl ?_
          refine g_lastN X rfl hbr (by omega) (by decide) ?_
          rw [upA_up]
          refine g_iinc1 X rfl rfl (by decide) ?_
          refine g_goto X rfl ?_
          have K9 := fun u0 => ih (i + 1) u0 (by omega) (by omega) (by omega)
          first | (rw [bE, if_neg (by simp_all)] at K9; exact K9 _) | (rw [bE, if_pos (by assumption), hpd, bM_N (by omega), if_pos (by assumption)] at K9; exact K9 _) | (rw [bE, if_pos (by assumption), hpd, bM_N (by omega), if_neg (by assumption)] at K9; exact K9 _)
        · refine g_iconst X rfl (v := nI 1) (by decide) ?_
          refine g_goto X rfl ?_
          refine g_istore_n X rfl (by decide) ?_
          refine g_aload_n X rfl rfl ?_
          refine g_get X rfl flX8_25 (ci := 8) rfl (by (repeat (first | exact hM | exact upA_eq | refine (upA_ne (by omega)).trans ?_))) rfl ?_
          refine g_aload_n X rfl rfl ?_
          refine g_iload_n X rfl rfl ?_
          refine g_iconst X rfl (v := nI 4) (by decide) ?_
          refine g_rV X rfl lcX8_entryPart lmX8_184 lsX8_entryPart (cr_X8_entryPart l D cy B od hm (by omega) (by omega)) (ci := 8) (by (repeat (first | exact hM | exact upA_eq | refine (upA_ne (by omega)).trans ?_))) rfl rfl rfl (Nat.le_of_ble_eq_true rfl) ⟨⟨by decide, by decide⟩, rfl, rfl⟩ ⟨Nat.le_of_ble_eq_true rfl, Nat.le_of_ble_eq_true rfl⟩ ?_
          obtain ⟨pd, hpd9, hpd⟩ := paid_N hg (by omega) (by assumption)
          obtain ⟨am9, -, am2, am3⟩ := (hg.1 i (by omega)).2.2.1
          rw [hpd]
          refine g_dup2 X rfl rfl rfl ?_
          refine g_laldN X rfl (by (repeat (first | exact hbr | exact upA_eq | refine (upA_ne (by omega)).trans ?_))) (by omega) (by decide) ?_
          refine g_iload_n X rfl rfl ?_
          refine g_i2l X rfl ?_
          refine g_aload_n X rfl rfl ?_
          refine g_iload_n X rfl rfl ?_
          refine g_iconst X rfl (v := nI 2) (by decide) ?_
          refine g_rV X rfl lcX8_entryPart lmX8_184 lsX8_entryPart (cr_X8_entryPart l D cy B od hm (by omega) (by omega)) (ci := 8) (by (repeat (first | exact hM | exact upA_eq | refine (upA_ne (by omega)).trans ?_))) rfl rfl rfl (Nat.le_of_ble_eq_true rfl) ⟨⟨by decide, by decide⟩, rfl, rfl⟩ ⟨Nat.le_of_ble_eq_true rfl, Nat.le_of_ble_eq_true rfl⟩ ?_
          rw [am3]
          refine g_i2l X rfl ?_
          refine g_lmul X rfl ?_
          first | rw [(ml1 (by omega)).1, ← am3] | rw [(ml1 (by omega)).2, ← am3]
          refine g_ladd X rfl ?_
          refine g_lastN X rfl hbr (by omega) (by decide) ?_
          rw [upA_up]
          refine g_iinc1 X rfl rfl (by decide) ?_
          refine g_goto X rfl ?_
          have K9 := fun u0 => ih (i + 1) u0 (by omega) (by omega) (by omega)
          first | (rw [bE, if_neg (by simp_all)] at K9; exact K9 _) | (rw [bE, if_pos (by assumption), hpd, bM_N (by omega), if_pos (by assumption)] at K9; exact K9 _) | (rw [bE, if_pos (by assumption), hpd, bM_N (by omega), if_neg (by assumption)] at K9; exact K9 _)
      · refine g_goto X rfl ?_
        refine g_iinc1 X rfl rfl (by decide) ?_
        refine g_goto X rfl ?_
        have K9 := fun u0 => ih (i + 1) u0 (by omega) (by omega) (by omega)
        first | (rw [bE, if_neg (by simp_all)] at K9; exact K9 _) | (rw [bE, if_pos (by assumption), hpd, bM_N (by omega), if_pos (by assumption)] at K9; exact K9 _) | (rw [bE, if_pos (by assumption), hpd, bM_N (by omega), if_neg (by assumption)] at K9; exact K9 _)
set_option maxRecDepth 100000 in
set_option maxHeartbeats 400000 in
theorem lp_X8_layAssets (l : Launch) (D : va_G) (cy : Nat → ClassId) (B : Nat) (od : Nat → Option Nat) {p : Program} {e : Env} {s : State} {m : MethodId} {args : Array Value} {below : List Frame} {meth : Method} {c : Code} {A : AH} {z : Nat} {f : MF} {r : Nat → Int32} {Z : SV} {S : StV} (hm : MdR cy A f r Z S) (hg : Rng Z S) {f0 : Nat → Int64} {Qf : Option Value → AH → Prop} (hQ : Qf none (upA A 237 (bX cy (bA S.2.2.1 f0 S.2.2.1.1)))) (X : Cx p s m args meth c D cy B od cX8_layAssets 2 tX8_layAssets RX8 none) : ∀ (k i : Nat), 0 ≤ i → i ≤ S.2.2.1.1 → S.2.2.1.1 - i < k → G p l e rmX8_layAssets s m args below meth c D B od 2 tX8_layAssets (FinQ false D B od (fun v A' z' => z' = z ∧ (Qf) v A') (fun _ _ => True) args s below rmX8_layAssets.cells rmX8_layAssets.slots) 0 0 (upA A 237 (bX cy (bA S.2.2.1 f0 i))) z 2 [some (.ref 231), some (.int (nI i))] [] := by
  intro k
  induction k with
  | zero => intro i _ _ h; omega
  | succ k ih =>
    intro i  hlo hi hk
    have hm := hm.up (k := 237) (x := bX cy (bA S.2.2.1 f0 i)) (by decide) (by decide)
    obtain ⟨hM, hn, hc, hw, hwb, hz⟩ := id hm
    obtain ⟨c0, ⟨c1, c2, c3, c4, c5⟩, cb, ⟨c16, cr⟩, ⟨c35, ce⟩, ⟨c456, ca⟩, c517, cp⟩ := id hc
    obtain ⟨w1, w2, w3, w4, w5⟩ := id hw
    have hbr : upA A 237 (bX cy (bA S.2.2.1 f0 i)) 237 = some (bX cy (bA S.2.2.1 f0 i)) := upA_eq
    refine g_iload_n X rfl rfl ?_
    refine g_aload_n X rfl rfl ?_
    refine g_get X rfl flX8_16 (ci := 8) rfl (by (repeat (first | exact hM | exact upA_eq | refine (upA_ne (by omega)).trans ?_))) rfl ?_
    refine g_sipush X rfl (v := nI 456) (by decide) ?_
    refine g_ialdN X rfl hn (by omega) (by decide) ?_
    rw [c456]
    first | refine g_ic_geN X rfl (by omega) (by omega) (fun h1 => ?_) (fun h1 => ?_) | refine g_icmp_ge X rfl (fun h1 => ?_) (fun h1 => ?_)
    · refine g_vret X rfl rfl (Nat.le_of_ble_eq_true rfl) (Nat.le_of_ble_eq_true rfl) ⟨rfl, ?_⟩
      rw [show i = S.2.2.1.1 by omega]; exact hQ
    · refine g_aload_n X rfl rfl ?_
      refine g_get X rfl flX8_25 (ci := 8) rfl (by (repeat (first | exact hM | exact upA_eq | refine (upA_ne (by omega)).trans ?_))) rfl ?_
      refine g_aload_n X rfl rfl ?_
      refine g_iload_n X rfl rfl ?_
      refine g_iconst X rfl (v := nI 1) (by decide) ?_
      refine g_rV X rfl lcX8_assetPart lmX8_229 lsX8_assetPart (cr_X8_assetPart l D cy B od hm (q := 1) (q2 := 1) (by omega) (by decide) rfl) (ci := 8) (by (repeat (first | exact hM | exact upA_eq | refine (upA_ne (by omega)).trans ?_))) rfl rfl rfl (Nat.le_of_ble_eq_true rfl) ⟨⟨by decide, by decide⟩, rfl, rfl⟩ ⟨Nat.le_of_ble_eq_true rfl, Nat.le_of_ble_eq_true rfl⟩ ?_
      obtain ⟨p9, d9, l9, s9, o9, hN⟩ := asset_N hg (k := i) (by omega)
      obtain ⟨a1, a2, b2, g1, g2, s1, so1, a3, b3, g3, s2, e9⟩ := id hN
      rw [b3]
      refine g_dup2 X rfl rfl rfl ?_
      refine g_laldN X rfl (by (repeat (first | exact hbr | exact upA_eq | refine (upA_ne (by omega)).trans ?_))) (by omega) (by decide) ?_
      refine g_aload_n X rfl rfl ?_
      refine g_iload_n X rfl rfl ?_
      refine g_iconst X rfl (v := nI 0) (by decide) ?_
      refine g_rV X rfl lcX8_assetPart lmX8_229 lsX8_assetPart (cr_X8_assetPart l D cy B od hm (q := 0) (q2 := 0) (by omega) (by decide) rfl) (ci := 8) (by (repeat (first | exact hM | exact upA_eq | refine (upA_ne (by omega)).trans ?_))) rfl rfl rfl (Nat.le_of_ble_eq_true rfl) ⟨⟨by decide, by decide⟩, rfl, rfl⟩ ⟨Nat.le_of_ble_eq_true rfl, Nat.le_of_ble_eq_true rfl⟩ ?_
      refine g_i2l X rfl ?_
      refine g_lsub X rfl ?_
      refine g_lastN X rfl hbr (by omega) (by decide) ?_
      rw [upA_up]
      have hm := hm.up (k := 237) (x := bX cy (vp_updL (bA S.2.2.1 f0 i) d9 (bA S.2.2.1 f0 i d9 - (S.2.2.1.2 0 i).toInt64))) (by decide) (by decide)
      rw [upA_up] at hm
      have hM := hm.1
      have hbr : upA A 237 (bX cy (vp_updL (bA S.2.2.1 f0 i) d9 (bA S.2.2.1 f0 i d9 - (S.2.2.1.2 0 i).toInt64))) 237 = some (bX cy (vp_updL (bA S.2.2.1 f0 i) d9 (bA S.2.2.1 f0 i d9 - (S.2.2.1.2 0 i).toInt64))) := upA_eq
      refine g_aload_n X rfl rfl ?_
      refine g_iload_n X rfl rfl ?_
      refine g_rV X rfl lcX8_isSold lmX8_235 lsX8_isSold (cr_X8_isSold l D cy B od hm (by omega)) (ci := 8) (by (repeat (first | exact hM | exact upA_eq | refine (upA_ne (by omega)).trans ?_))) rfl rfl rfl (Nat.le_of_ble_eq_true rfl) ⟨⟨by decide, by decide⟩, rfl, rfl⟩ ⟨Nat.le_of_ble_eq_true rfl, Nat.le_of_ble_eq_true rfl⟩ ?_
      first | refine g_if_eqB X rfl (fun h2 => ?_) (fun h2 => ?_) | refine g_if_eq X rfl (fun h2 => ?_) (fun h2 => ?_)
      · refine g_iinc1 X rfl rfl (by decide) ?_
        refine g_goto X rfl ?_
        have K9 := ih (i + 1) (by omega) (by omega) (by omega)
        first | (rw [bA, if_pos (by simp_all), bA1, b3, bM_N (by omega), a3, neg_l (by omega), ← Int64.sub_eq_add_neg, ← a3] at K9; exact K9) | (rw [bA, if_neg (by simp_all), hsd, bA1, b3, bM_N (by omega), bM_N (by omega), a3, neg_l (by omega), ← Int64.sub_eq_add_neg, ← a3] at K9; exact K9)
      · refine g_aload_n X rfl rfl ?_
        refine g_get X rfl flX8_25 (ci := 8) rfl (by (repeat (first | exact hM | exact upA_eq | refine (upA_ne (by omega)).trans ?_))) rfl ?_
        refine g_aload_n X rfl rfl ?_
        refine g_iload_n X rfl rfl ?_
        refine g_iconst X rfl (v := nI 3) (by decide) ?_
        refine g_rV X rfl lcX8_assetPart lmX8_229 lsX8_assetPart (cr_X8_assetPart l D cy B od hm (q := 3) (q2 := 4) (by omega) (by decide) rfl) (ci := 8) (by (repeat (first | exact hM | exact upA_eq | refine (upA_ne (by omega)).trans ?_))) rfl rfl rfl (Nat.le_of_ble_eq_true rfl) ⟨⟨by decide, by decide⟩, rfl, rfl⟩ ⟨Nat.le_of_ble_eq_true rfl, Nat.le_of_ble_eq_true rfl⟩ ?_
        obtain ⟨sd, hsd9, hsd⟩ : ∃ sd, sd ≤ 359 ∧ S.2.2.1.2 4 i = nI sd := by
          rcases e9 with ⟨e1, -⟩ | ⟨sd, q1, q2, -⟩
          · simp_all
          · exact ⟨sd, q1, q2⟩
        rw [hsd]
        refine g_dup2 X rfl rfl rfl ?_
        refine g_laldN X rfl (by (repeat (first | exact hbr | exact upA_eq | refine (upA_ne (by omega)).trans ?_))) (by omega) (by decide) ?_
        refine g_aload_n X rfl rfl ?_
        refine g_iload_n X rfl rfl ?_
        refine g_iconst X rfl (v := nI 4) (by decide) ?_
        refine g_rV X rfl lcX8_assetPart lmX8_229 lsX8_assetPart (cr_X8_assetPart l D cy B od hm (q := 4) (q2 := 5) (by omega) (by decide) rfl) (ci := 8) (by (repeat (first | exact hM | exact upA_eq | refine (upA_ne (by omega)).trans ?_))) rfl rfl rfl (Nat.le_of_ble_eq_true rfl) ⟨⟨by decide, by decide⟩, rfl, rfl⟩ ⟨Nat.le_of_ble_eq_true rfl, Nat.le_of_ble_eq_true rfl⟩ ?_
        refine g_i2l X rfl ?_
        refine g_ladd X rfl ?_
        refine g_lastN X rfl hbr (by omega) (by decide) ?_
        rw [upA_up]
        refine g_iinc1 X rfl rfl (by decide) ?_
        refine g_goto X rfl ?_
        have K9 := ih (i + 1) (by omega) (by omega) (by omega)
        first | (rw [bA, if_pos (by simp_all), bA1, b3, bM_N (by omega), a3, neg_l (by omega), ← Int64.sub_eq_add_neg, ← a3] at K9; exact K9) | (rw [bA, if_neg (by simp_all), hsd, bA1, b3, bM_N (by omega), bM_N (by omega), a3, neg_l (by omega), ← Int64.sub_eq_add_neg, ← a3] at K9; exact K9)
