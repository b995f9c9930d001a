/-! 41: the reference: sums, searches, days -/
set_option maxRecDepth 100000 in
set_option maxHeartbeats 400000 in
theorem lp_X8_total (l : Launch) (D : va_G) (cy : Nat → ClassId) (B : Nat) (od : Nat → Option Nat) {p : Program} {e : Env} {s : State} {m : MethodId} {args : Array Value} {below : List Frame} {meth : Method} {c : Code} {A : AH} {z : Nat} {f : MF} {r : Nat → Int32} {Z : SV} {S : StV} (hm : MdR cy A f r Z S) (hg : Rng Z S) (hgz : RngZ Z) {kd f9 t9 : Int32} {Qf : Option Value → AH → Prop} (hQ : Qf (some (.long (eSum S.1 kd f9 t9))) A) (X : Cx p s m args meth c D cy B od cX8_total 7 tX8_total RX8 (some .long)) : ∀ (k i : Nat), 0 ≤ i → i ≤ S.1.1 → S.1.1 - i < k → G p l e rmX8_total s m args below meth c D B od 7 tX8_total (FinQ false D B od (fun v A' z' => z' = z ∧ (Qf) v A') (fun _ _ => True) args s below rmX8_total.cells rmX8_total.slots) 0 0 A z 29 [some (.ref 231), some (.int kd), some (.int f9), some (.int t9), some (.long (sumN (fun i => S.1.2 0 i == kd && eCntIn S.1 f9 t9 i) (fun i => (S.1.2 2 i).toInt64) i)), none, some (.int (nI i))] [] := by
  intro k
  induction k with
  | zero => intro i _ _ h; omega
  | succ k ih =>
    intro i  hlo hi hk
    obtain ⟨hM, hn, hc, hw, hwb, hz⟩ := id hm
    obtain ⟨c0, ⟨c1, c2, c3, c4, c5⟩, cb, ⟨c16, cr⟩, ⟨c35, ce⟩, ⟨c456, ca⟩, c517, cp⟩ := id hc
    obtain ⟨w1, w2, w3, w4, w5⟩ := id hw
    refine g_iload X rfl rfl ?_
    refine g_aload_n X rfl rfl ?_
    refine g_get X rfl flX8_16 (ci := 8) rfl (by (repeat (first | exact hM | exact upA_eq | refine (upA_ne (by omega)).trans ?_))) rfl ?_
    refine g_bipush X rfl (v := nI 35) (by decide) ?_
    refine g_ialdN X rfl hn (by omega) (by decide) ?_
    rw [c35]
    first | refine g_ic_geN X rfl (by omega) (by omega) (fun h1 => ?_) (fun h1 => ?_) | refine g_icmp_ge X rfl (fun h1 => ?_) (fun h1 => ?_)
    · refine g_lload X rfl rfl ?_
      refine g_lret X rfl rfl (Nat.le_of_ble_eq_true rfl) (Nat.le_of_ble_eq_true rfl) ⟨rfl, ?_⟩
      rw [show i = S.1.1 by omega]; exact hQ
    · refine g_lload X rfl rfl ?_
      refine g_aload_n X rfl rfl ?_
      refine g_iload X rfl rfl ?_
      refine g_iconst X rfl (v := nI 0) (by decide) ?_
      refine g_rV X rfl lcX8_entryPart lmX8_184 lsX8_entryPart (cr_X8_entryPart l D cy B od hm (by omega) (by omega)) (ci := 8) (by (repeat (first | exact hM | exact upA_eq | refine (upA_ne (by omega)).trans ?_))) rfl rfl rfl (Nat.le_of_ble_eq_true rfl) ⟨⟨by decide, by decide⟩, rfl, rfl⟩ ⟨Nat.le_of_ble_eq_true rfl, Nat.le_of_ble_eq_true rfl⟩ ?_
      refine g_iload_n X rfl rfl ?_
      refine g_icmp_ne X rfl (fun h2 => ?_) (fun h2 => ?_)
      · refine g_lconst X rfl (v := 0) (by decide) ?_
        refine g_ladd X rfl ?_
        refine g_lstore X rfl (by decide) ?_
        refine g_iinc1 X rfl rfl (by decide) ?_
        refine g_goto X rfl ?_
        have K9 := ih (i + 1) (by omega) (by omega) (by omega)
        first | (rw [show sumN (fun i => S.1.2 0 i == kd && eCntIn S.1 f9 t9 i) (fun i => (S.1.2 2 i).toInt64) (i + 1) = sumN (fun i => S.1.2 0 i == kd && eCntIn S.1 f9 t9 i) (fun i => (S.1.2 2 i).toInt64) i + (S.1.2 2 i).toInt64 by rw [sumN, if_pos (by simp_all)]] at K9; exact K9) | (rw [show sumN (fun i => S.1.2 0 i == kd && eCntIn S.1 f9 t9 i) (fun i => (S.1.2 2 i).toInt64) (i + 1) = sumN (fun i => S.1.2 0 i == kd && eCntIn S.1 f9 t9 i) (fun i => (S.1.2 2 i).toInt64) i + 0 by rw [sumN, if_neg (by simp_all), Int64.add_zero]] at K9; exact K9)
      · refine g_aload_n X rfl rfl ?_
        refine g_iload X rfl rfl ?_
        refine g_iload_n X rfl rfl ?_
        refine g_iload_n X rfl rfl ?_
        refine g_rV X rfl lcX8_countsIn lmX8_287 lsX8_countsIn (cr_X8_countsIn l D cy B od hm (by omega)) (ci := 8) (by (repeat (first | exact hM | exact upA_eq | refine (upA_ne (by omega)).trans ?_))) rfl rfl rfl (Nat.le_of_ble_eq_true rfl) ⟨⟨by decide, by decide⟩, rfl, rfl⟩ ⟨Nat.le_of_ble_eq_true rfl, Nat.le_of_ble_eq_true rfl⟩ ?_
        first | refine g_if_eqB X rfl (fun h3 => ?_) (fun h3 => ?_) | refine g_if_eq X rfl (fun h3 => ?_) (fun h3 => ?_)
        · refine g_lconst X rfl (v := 0) (by decide) ?_
          refine g_ladd X rfl ?_
          refine g_lstore X rfl (by decide) ?_
          refine g_iinc1 X rfl rfl (by decide) ?_
          refine g_goto X rfl ?_
          have K9 := ih (i + 1) (by omega) (by omega) (by omega)
          first | (rw [show sumN (fun i => S.1.2 0 i == kd && eCntIn S.1 f9 t9 i) (fun i => (S.1.2 2 i).toInt64) (i + 1) = sumN (fun i => S.1.2 0 i == kd && eCntIn S.1 f9 t9 i) (fun i => (S.1.2 2 i).toInt64) i + (S.1.2 2 i).toInt64 by rw [sumN, if_pos (by simp_all)]] at K9; exact K9) | (rw [show sumN (fun i => S.1.2 0 i == kd && eCntIn S.1 f9 t9 i) (fun i => (S.1.2 2 i).toInt64) (i + 1) = sumN (fun i => S.1.2 0 i == kd && eCntIn S.1 f9 t9 i) (fun i => (S.1.2 2 i).toInt64) i + 0 by rw [sumN, if_neg (by simp_all), Int64.add_zero]] at K9; exact K9)
        · refine g_aload_n X rfl rfl ?_
          refine g_iload X rfl rfl ?_
          refine g_iconst X rfl (v := nI 2) (by decide) ?_
          refine g_rV X rfl lcX8_entryPart lmX8_184 lsX8_entryPart (cr_X8_entryPart l D cy B od hm (by omega) (by omega)) (ci := 8) (by (repeat (first | exact hM | exact upA_eq | refine (upA_ne (by omega)).trans ?_))) rfl rfl rfl (Nat.le_of_ble_eq_true rfl) ⟨⟨by decide, by decide⟩, rfl, rfl⟩ ⟨Nat.le_of_ble_eq_true rfl, Nat.le_of_ble_eq_true rfl⟩ ?_
          refine g_i2l X rfl ?_
          refine g_goto X rfl ?_
          refine g_ladd X rfl ?_
          refine g_lstore X rfl (by decide) ?_
          refine g_iinc1 X rfl rfl (by decide) ?_
          refine g_goto X rfl ?_
          have K9 := ih (i + 1) (by omega) (by omega) (by omega)
          first | (rw [show sumN (fun i => S.1.2 0 i == kd && eCntIn S.1 f9 t9 i) (fun i => (S.1.2 2 i).toInt64) (i + 1) = sumN (fun i => S.1.2 0 i == kd && eCntIn S.1 f9 t9 i) (fun i => (S.1.2 2 i).toInt64) i + (S.1.2 2 i).toInt64 by rw [sumN, if_pos (by simp_all)]] at K9; exact K9) | (rw [show sumN (fun i => S.1.2 0 i == kd && eCntIn S.1 f9 t9 i) (fun i => (S.1.2 2 i).toInt64) (i + 1) = sumN (fun i => S.1.2 0 i == kd && eCntIn S.1 f9 t9 i) (fun i => (S.1.2 2 i).toInt64) i + 0 by rw [sumN, if_neg (by simp_all), Int64.add_zero]] at K9; exact K9)
set_option maxRecDepth 100000 in
set_option maxHeartbeats 400000 in
theorem cm_X8_total (l : Launch) (D : va_G) (cy : Nat → ClassId) (B : Nat) (od : Nat → Option Nat) {A : AH} {f : MF} {r : Nat → Int32} {Z : SV} {S : StV} (hm : MdR cy A f r Z S) (hg : Rng Z S) (hgz : RngZ Z) {kd f9 t9 : Int32} : CM l D cy B od yX8_total cX8_total 7 (some .long) rmX8_total [.ref 231, .int kd, .int f9, .int t9] A (fun v A' => v = some (mV (.long 0) (ocTotal (V9 Z S) kd f9 t9)) ∧ A' = upA A 231 (moE (nI (cX [eIAE] (ocTotal (V9 Z S) kd f9 t9)), f.2))) := by
  intro z
  refine CT.of (by decide) tX8_total okX8_total (Nat.le_of_ble_eq_true rfl) (q0 := tX8_total[0]) rfl rfl ?_
  intro p e s m args below meth c X _
  have hM := hm.1
  refine g_aload_n X rfl rfl ?_
  refine g_iconst X rfl (v := nI 0) (by decide) ?_
  refine g_put X rfl flX8_41 rfl (ci := 8) rfl (by (repeat (first | exact hM | exact upA_eq | refine (upA_ne (by omega)).trans ?_))) (Nat.le_of_ble_eq_true rfl) (by first | rfl | exact bI_nar _) (by first | rfl | decide) ?_
  refine G.cast (A2 := upA A 231 (moE (nI 0, f.2))) rfl ?_
  obtain ⟨A1, hA1⟩ : ∃ A1, A1 = upA A 231 (moE (nI 0, f.2)) := ⟨_, rfl⟩
  refine G.cast (A2 := A1) hA1.symm ?_
  have hm := hm.thr (nI 0)
  rw [← hA1] at hm
  obtain ⟨hM, hn, hc, hw, hwb, hz⟩ := id hm
  obtain ⟨c0, ⟨c1, c2, c3, c4, c5⟩, cb, ⟨c16, cr⟩, ⟨c35, ce⟩, ⟨c456, ca⟩, c517, cp⟩ := id hc
  obtain ⟨w1, w2, w3, w4, w5⟩ := id hw
  refine g_aload_n X rfl rfl ?_
  refine g_iload_n X rfl rfl ?_
  refine g_rS X rfl lcX8_isKind lmX8_196 stX8_isKind (cr_X8_isKind l D cy B od) rfl rfl (Nat.le_of_ble_eq_true rfl) ⟨⟨by decide, by decide⟩, rfl, rfl⟩ ⟨Nat.le_of_ble_eq_true rfl, Nat.le_of_ble_eq_true rfl⟩ ?_
  first | refine g_if_eqB X rfl (fun h1 => ?_) (fun h1 => ?_) | refine g_if_eq X rfl (fun h1 => ?_) (fun h1 => ?_)
  · refine g_iconst X rfl (v := nI 0) (by decide) ?_
    refine g_iconst X rfl (v := nI 1) (by decide) ?_
    refine g_mV X rfl lcX8_fails lmX8_52 lsX8_fails (cm_X8_fails0 l D cy B od (by (repeat (first | exact hM | exact upA_eq | refine (upA_ne (by omega)).trans ?_)))) (ci := 8) (by (repeat (first | exact hM | exact upA_eq | refine (upA_ne (by omega)).trans ?_))) rfl rfl rfl (Nat.le_of_ble_eq_true rfl) ⟨⟨by decide, by decide⟩, rfl, rfl⟩ ⟨Nat.le_of_ble_eq_true rfl, Nat.le_of_ble_eq_true rfl⟩ (fun v2 A2 q2 => ?_)
    obtain ⟨rfl, rfl⟩ := q2
    refine g_if_eq X rfl (fun h => absurd h n10) (fun _ => ?_)
    refine g_lconst X rfl (v := 0) (by decide) ?_
    refine g_lret X rfl rfl (Nat.le_of_ble_eq_true rfl) (Nat.le_of_ble_eq_true rfl) ⟨rfl, ?_⟩
    exact mRx (E := eIAE) (by first | (simp_all [ocTotal, nI_eq, vS, vZ, V9]; done) | (simp_all [ocTotal, nI_eq, vS, vZ, V9, nI_0, n10]; done) | (simp_all [ocTotal, nI_eq, vS, vZ, V9, nI_0, n10, ← Int32.not_le]; done) | (simp_all [ocTotal, nI_eq, vS, vZ, V9, ← Int64.not_le]; done) | (simp_all [ocTotal, nI_eq, vS, vZ, V9, nI_0, n10, ← Int64.not_le, ← Int32.not_le]; done)) (by decide) hA1
  · refine g_iload_n X rfl rfl ?_
    refine g_rS X rfl lcX8_isDay lmX8_204 stX8_isDay (cr_X8_isDay l D cy B od) rfl rfl (Nat.le_of_ble_eq_true rfl) ⟨⟨by decide, by decide⟩, rfl, rfl⟩ ⟨Nat.le_of_ble_eq_true rfl, Nat.le_of_ble_eq_true rfl⟩ ?_
    first | refine g_if_eqB X rfl (fun h3 => ?_) (fun h3 => ?_) | refine g_if_eq X rfl (fun h3 => ?_) (fun h3 => ?_)
    · refine g_iconst X rfl (v := nI 0) (by decide) ?_
      refine g_iconst X rfl (v := nI 1) (by decide) ?_
      refine g_mV X rfl lcX8_fails lmX8_52 lsX8_fails (cm_X8_fails0 l D cy B od (by (repeat (first | exact hM | exact upA_eq | refine (upA_ne (by omega)).trans ?_)))) (ci := 8) (by (repeat (first | exact hM | exact upA_eq | refine (upA_ne (by omega)).trans ?_))) rfl rfl rfl (Nat.le_of_ble_eq_true rfl) ⟨⟨by decide, by decide⟩, rfl, rfl⟩ ⟨Nat.le_of_ble_eq_true rfl, Nat.le_of_ble_eq_true rfl⟩ (fun v4 A4 q4 => ?_)
      obtain ⟨rfl, rfl⟩ := q4
      refine g_if_eq X rfl (fun h => absurd h n10) (fun _ => ?_)
      refine g_lconst X rfl (v := 0) (by decide) ?_
      refine g_lret X rfl rfl (Nat.le_of_ble_eq_true rfl) (Nat.le_of_ble_eq_true rfl) ⟨rfl, ?_⟩
      exact mRx (E := eIAE) (by first | (simp_all [ocTotal, nI_eq, vS, vZ, V9]; done) | (simp_all [ocTotal, nI_eq, vS, vZ, V9, nI_0, n10]; done) | (simp_all [ocTotal, nI_eq, vS, vZ, V9, nI_0, n10, ← Int32.not_le]; done) | (simp_all [ocTotal, nI_eq, vS, vZ, V9, ← Int64.not_le]; done) | (simp_all [ocTotal, nI_eq, vS, vZ, V9, nI_0, n10, ← Int64.not_le, ← Int32.not_le]; done)) (by decide) hA1
    · refine g_iload_n X rfl rfl ?_
      refine g_i2l X rfl ?_
      refine g_iload_n X rfl rfl ?_
      refine g_i2l X rfl ?_
      refine g_ldc2 X rfl kcX8_174 ?_
      refine g_rS X rfl lcX8_in lmX8_56 stX8_in (cr_X8_in l D cy B od) rfl rfl (Nat.le_of_ble_eq_true rfl) ⟨⟨by decide, by decide⟩, rfl, rfl⟩ ⟨Nat.le_of_ble_eq_true rfl, Nat.le_of_ble_eq_true rfl⟩ ?_
      rw [in64 (lo := f9) (hi := nI 359) rfl (by decide)]
      first | refine g_if_eqB X rfl (fun h5 => ?_) (fun h5 => ?_) | refine g_if_eq X rfl (fun h5 => ?_) (fun h5 => ?_)
      · refine g_iconst X rfl (v := nI 0) (by decide) ?_
        refine g_iconst X rfl (v := nI 1) (by decide) ?_
        refine g_mV X rfl lcX8_fails lmX8_52 lsX8_fails (cm_X8_fails0 l D cy B od (by (repeat (first | exact hM | exact upA_eq | refine (upA_ne (by omega)).trans ?_)))) (ci := 8) (by (repeat (first | exact hM | exact upA_eq | refine (upA_ne (by omega)).trans ?_))) rfl rfl rfl (Nat.le_of_ble_eq_true rfl) ⟨⟨by decide, by decide⟩, rfl, rfl⟩ ⟨Nat.le_of_ble_eq_true rfl, Nat.le_of_ble_eq_true rfl⟩ (fun v6 A6 q6 => ?_)
        obtain ⟨rfl, rfl⟩ := q6
        refine g_if_eq X rfl (fun h => absurd h n10) (fun _ => ?_)
        refine g_lconst X rfl (v := 0) (by decide) ?_
        refine g_lret X rfl rfl (Nat.le_of_ble_eq_true rfl) (Nat.le_of_ble_eq_true rfl) ⟨rfl, ?_⟩
        exact mRx (E := eIAE) (by first | (simp_all [ocTotal, nI_eq, vS, vZ, V9]; done) | (simp_all [ocTotal, nI_eq, vS, vZ, V9, nI_0, n10]; done) | (simp_all [ocTotal, nI_eq, vS, vZ, V9, nI_0, n10, ← Int32.not_le]; done) | (simp_all [ocTotal, nI_eq, vS, vZ, V9, ← Int64.not_le]; done) | (simp_all [ocTotal, nI_eq, vS, vZ, V9, nI_0, n10, ← Int64.not_le, ← Int32.not_le]; done)) (by decide) hA1
      · refine g_iconst X rfl (v := nI 1) (by decide) ?_
        refine g_goto X rfl ?_
        refine g_iconst X rfl (v := nI 1) (by decide) ?_
        refine g_mV X rfl lcX8_fails lmX8_52 lsX8_fails (cm_X8_fails1 l D cy B od (by (repeat (first | exact hM | exact upA_eq | refine (upA_ne (by omega)).trans ?_)))) (ci := 8) (by (repeat (first | exact hM | exact upA_eq | refine (upA_ne (by omega)).trans ?_))) rfl rfl rfl (Nat.le_of_ble_eq_true rfl) ⟨⟨by decide, by decide⟩, rfl, rfl⟩ ⟨Nat.le_of_ble_eq_true rfl, Nat.le_of_ble_eq_true rfl⟩ (fun v7 A7 q7 => ?_)
        obtain ⟨rfl, rfl⟩ := q7
        refine g_if_eq X rfl (fun _ => ?_) (fun h => absurd nI_0 h) 
        refine g_lconst X rfl (v := 0) (by decide) ?_
        refine g_lstore X rfl (by decide) ?_
        refine g_iconst X rfl (v := nI 0) (by decide) ?_
        refine g_istore X rfl (by decide) ?_
        exact lp_X8_total l D cy B od hm hg hgz  (Qf := fun v A' => v = some (mV (.long 0) (ocTotal (V9 Z S) kd f9 t9)) ∧ A' = upA A 231 (moE (nI (cX [eIAE] (ocTotal (V9 Z S) kd f9 t9)), f.2))) (mR0 (by first | (simp_all [ocTotal, nI_eq, vS, vZ, V9]; done) | (simp_all [ocTotal, nI_eq, vS, vZ, V9, nI_0, n10]; done) | (simp_all [ocTotal, nI_eq, vS, vZ, V9, nI_0, n10, ← Int32.not_le]; done) | (simp_all [ocTotal, nI_eq, vS, vZ, V9, ← Int64.not_le]; done) | (simp_all [ocTotal, nI_eq, vS, vZ, V9, nI_0, n10, ← Int64.not_le, ← Int32.not_le]; done)) hA1) X ((S.1.1) + 1) 0 (by omega) (by omega) (by omega)
set_option maxRecDepth 100000 in
set_option maxHeartbeats 400000 in
theorem lp_X8_open (l : Launch) (D : va_G) (cy : Nat → ClassId) (B : Nat) (od : Nat → Option Nat) {p : Program} {e : Env} {s : State} {m : MethodId} {args : Array Value} {below : List Frame} {meth : Method} {c : Code} {A : AH} {z : Nat} {f : MF} {r : Nat → Int32} {Z : SV} {S : StV} (hm : MdR cy A f r Z S) (hg : Rng Z S) (hgz : RngZ Z) {kd : Int32} {Qf : Option Value → AH → Prop} (hQ : Qf (some (.long (sumN (fun i => S.1.2 0 i == kd && eOpen S.1 i) (fun i => (S.1.2 2 i).toInt64) S.1.1))) A) (X : Cx p s m args meth c D cy B od cX8_open 5 tX8_open RX8 (some .long)) : ∀ (k i : Nat), 0 ≤ i → i ≤ S.1.1 → S.1.1 - i < k → G p l e rmX8_open s m args below meth c D B od 5 tX8_open (FinQ false D B od (fun v A' z' => z' = z ∧ (Qf) v A') (fun _ _ => True) args s below rmX8_open.cells rmX8_open.slots) 0 0 A z 15 [some (.ref 231), some (.int kd), some (.long (sumN (fun i => S.1.2 0 i == kd && eOpen S.1 i) (fun i => (S.1.2 2 i).toInt64) i)), none, some (.int (nI i))] [] := by
  intro k
  induction k with
  | zero => intro i _ _ h; omega
  | succ k ih =>
    intro i  hlo hi hk
    obtain ⟨hM, hn, hc, hw, hwb, hz⟩ := id hm
    obtain ⟨c0, ⟨c1, c2, c3, c4, c5⟩, cb, ⟨c16, cr⟩, ⟨c35, ce⟩, ⟨c456, ca⟩, c517, cp⟩ := id hc
    obtain ⟨w1, w2, w3, w4, w5⟩ := id hw
    refine g_iload X rfl rfl ?_
    refine g_aload_n X rfl rfl ?_
    refine g_get X rfl flX8_16 (ci := 8) rfl (by (repeat (first | exact hM | exact upA_eq | refine (upA_ne (by omega)).trans ?_))) rfl ?_
    refine g_bipush X rfl (v := nI 35) (by decide) ?_
    refine g_ialdN X rfl hn (by omega) (by decide) ?_
    rw [c35]
    first | refine g_ic_geN X rfl (by omega) (by omega) (fun h1 => ?_) (fun h1 => ?_) | refine g_icmp_ge X rfl (fun h1 => ?_) (fun h1 => ?_)
    · refine g_lload_n X rfl rfl ?_
      refine g_lret X rfl rfl (Nat.le_of_ble_eq_true rfl) (Nat.le_of_ble_eq_true rfl) ⟨rfl, ?_⟩
      rw [show i = S.1.1 by omega]; exact hQ
    · refine g_lload_n X rfl rfl ?_
      refine g_aload_n X rfl rfl ?_
      refine g_iload X rfl rfl ?_
      refine g_rV X rfl lcX8_isOpen lmX8_341 lsX8_isOpen (cr_X8_isOpen l D cy B od hm (by omega)) (ci := 8) (by (repeat (first | exact hM | exact upA_eq | refine (upA_ne (by omega)).trans ?_))) rfl rfl rfl (Nat.le_of_ble_eq_true rfl) ⟨⟨by decide, by decide⟩, rfl, rfl⟩ ⟨Nat.le_of_ble_eq_true rfl, Nat.le_of_ble_eq_true rfl⟩ ?_
      first | refine g_if_eqB X rfl (fun h2 => ?_) (fun h2 => ?_) | refine g_if_eq X rfl (fun h2 => ?_) (fun h2 => ?_)
      · refine g_lconst X rfl (v := 0) (by decide) ?_
        refine g_ladd X rfl ?_
        refine g_lstore_n X rfl (by decide) ?_
        refine g_iinc1 X rfl rfl (by decide) ?_
        refine g_goto X rfl ?_
        have K9 := ih (i + 1) (by omega) (by omega) (by omega)
        first | (rw [show sumN (fun i => S.1.2 0 i == kd && eOpen S.1 i) (fun i => (S.1.2 2 i).toInt64) (i + 1) = sumN (fun i => S.1.2 0 i == kd && eOpen S.1 i) (fun i => (S.1.2 2 i).toInt64) i + (S.1.2 2 i).toInt64 by rw [sumN, if_pos (by simp_all)]] at K9; exact K9) | (rw [show sumN (fun i => S.1.2 0 i == kd && eOpen S.1 i) (fun i => (S.1.2 2 i).toInt64) (i + 1) = sumN (fun i => S.1.2 0 i == kd && eOpen S.1 i) (fun i => (S.1.2 2 i).toInt64) i + 0 by rw [sumN, if_neg (by simp_all), Int64.add_zero]] at K9; exact K9)
      · refine g_aload_n X rfl rfl ?_
        refine g_iload X rfl rfl ?_
        refine g_iconst X rfl (v := nI 0) (by decide) ?_
        refine g_rV X rfl lcX8_entryPart lmX8_184 lsX8_entryPart (cr_X8_entryPart l D cy B od hm (by omega) (by omega)) (ci := 8) (by (repeat (first | exact hM | exact upA_eq | refine (upA_ne (by omega)).trans ?_))) rfl rfl rfl (Nat.le_of_ble_eq_true rfl) ⟨⟨by decide, by decide⟩, rfl, rfl⟩ ⟨Nat.le_of_ble_eq_true rfl, Nat.le_of_ble_eq_true rfl⟩ ?_
        refine g_iload_n X rfl rfl ?_
        refine g_icmp_ne X rfl (fun h3 => ?_) (fun h3 => ?_)
        · refine g_lconst X rfl (v := 0) (by decide) ?_
          refine g_ladd X rfl ?_
          refine g_lstore_n X rfl (by decide) ?_
          refine g_iinc1 X rfl rfl (by decide) ?_
          refine g_goto X rfl ?_
          have K9 := ih (i + 1) (by omega) (by omega) (by omega)
          first | (rw [show sumN (fun i => S.1.2 0 i == kd && eOpen S.1 i) (fun i => (S.1.2 2 i).toInt64) (i + 1) = sumN (fun i => S.1.2 0 i == kd && eOpen S.1 i) (fun i => (S.1.2 2 i).toInt64) i + (S.1.2 2 i).toInt64 by rw [sumN, if_pos (by simp_all)]] at K9; exact K9) | (rw [show sumN (fun i => S.1.2 0 i == kd && eOpen S.1 i) (fun i => (S.1.2 2 i).toInt64) (i + 1) = sumN (fun i => S.1.2 0 i == kd && eOpen S.1 i) (fun i => (S.1.2 2 i).toInt64) i + 0 by rw [sumN, if_neg (by simp_all), Int64.add_zero]] at K9; exact K9)
        · refine g_aload_n X rfl rfl ?_
          refine g_iload X rfl rfl ?_
          refine g_iconst X rfl (v := nI 2) (by decide) ?_
          refine g_rV X rfl lcX8_entryPart lmX8_184 lsX8_entryPart (cr_X8_entryPart l D cy B od hm (by omega) (by omega)) (ci := 8) (by (repeat (first | exact hM | exact upA_eq | refine (upA_ne (by omega)).trans ?_))) rfl rfl rfl (Nat.le_of_ble_eq_true rfl) ⟨⟨by decide, by decide⟩, rfl, rfl⟩ ⟨Nat.le_of_ble_eq_true rfl, Nat.le_of_ble_eq_true rfl⟩ ?_
          refine g_i2l X rfl ?_
          refine g_goto X rfl ?_
          refine g_ladd X rfl ?_
          refine g_lstore_n X rfl (by decide) ?_
          refine g_iinc1 X rfl rfl (by decide) ?_
          refine g_goto X rfl ?_
          have K9 := ih (i + 1) (by omega) (by omega) (by omega)
          first | (rw [show sumN (fun i => S.1.2 0 i == kd && eOpen S.1 i) (fun i => (S.1.2 2 i).toInt64) (i + 1) = sumN (fun i => S.1.2 0 i == kd && eOpen S.1 i) (fun i => (S.1.2 2 i).toInt64) i + (S.1.2 2 i).toInt64 by rw [sumN, if_pos (by simp_all)]] at K9; exact K9) | (rw [show sumN (fun i => S.1.2 0 i == kd && eOpen S.1 i) (fun i => (S.1.2 2 i).toInt64) (i + 1) = sumN (fun i => S.1.2 0 i == kd && eOpen S.1 i) (fun i => (S.1.2 2 i).toInt64) i + 0 by rw [sumN, if_neg (by simp_all), Int64.add_zero]] at K9; exact K9)
set_option maxRecDepth 100000 in
set_option maxHeartbeats 400000 in
theorem cm_X8_open (l : Launch) (D : va_G) (cy : Nat → ClassId) (B : Nat) (od : Nat → Option Nat) {A : AH} {f : MF} {r : Nat → Int32} {Z : SV} {S : StV} (hm : MdR cy A f r Z S) (hg : Rng Z S) (hgz : RngZ Z) {kd : Int32} : CM l D cy B od yX8_open cX8_open 5 (some .long) rmX8_open [.ref 231, .int kd] A (fun v A' => v = some (mV (.long 0) (ocOpen (V9 Z S) kd)) ∧ A' = upA A 231 (moE (nI (cX [eIAE] (ocOpen (V9 Z S) kd)), f.2))) := by
  intro z
  refine CT.of (by decide) tX8_open okX8_open (Nat.le_of_ble_eq_true rfl) (q0 := tX8_open[0]) rfl rfl ?_
  intro p e s m args below meth c X _
  have hM := hm.1
  refine g_aload_n X rfl rfl ?_
  refine g_iconst X rfl (v := nI 0) (by decide) ?_
  refine g_put X rfl flX8_41 rfl (ci := 8) rfl (by (repeat (first | exact hM | exact upA_eq | refine (upA_ne (by omega)).trans ?_))) (Nat.le_of_ble_eq_true rfl) (by first | rfl | exact bI_nar _) (by first | rfl | decide) ?_
  refine G.cast (A2 := upA A 231 (moE (nI 0, f.2))) rfl ?_
  obtain ⟨A1, hA1⟩ : ∃ A1, A1 = upA A 231 (moE (nI 0, f.2)) := ⟨_, rfl⟩
  refine G.cast (A2 := A1) hA1.symm ?_
  have hm := hm.thr (nI 0)
  rw [← hA1] at hm
  obtain ⟨hM, hn, hc, hw, hwb, hz⟩ := id hm
  obtain ⟨c0, ⟨c1, c2, c3, c4, c5⟩, cb, ⟨c16, cr⟩, ⟨c35, ce⟩, ⟨c456, ca⟩, c517, cp⟩ := id hc
  obtain ⟨w1, w2, w3, w4, w5⟩ := id hw
  refine g_aload_n X rfl rfl ?_
  refine g_iload_n X rfl rfl ?_
  refine g_rS X rfl lcX8_isKind lmX8_196 stX8_isKind (cr_X8_isKind l D cy B od) rfl rfl (Nat.le_of_ble_eq_true rfl) ⟨⟨by decide, by decide⟩, rfl, rfl⟩ ⟨Nat.le_of_ble_eq_true rfl, Nat.le_of_ble_eq_true rfl⟩ ?_
  refine g_iconst X rfl (v := nI 1) (by decide) ?_
  refine g_mV X rfl lcX8_fails lmX8_52 lsX8_fails (cm_X8_failsB l D cy B od (by (repeat (first | exact hM | exact upA_eq | refine (upA_ne (by omega)).trans ?_)))) (ci := 8) (by (repeat (first | exact hM | exact upA_eq | refine (upA_ne (by omega)).trans ?_))) rfl rfl rfl (Nat.le_of_ble_eq_true rfl) ⟨⟨by decide, by decide⟩, rfl, rfl⟩ ⟨Nat.le_of_ble_eq_true rfl, Nat.le_of_ble_eq_true rfl⟩ (fun v1 A1 q1 => ?_)
  rcases q1 with ⟨h1, rfl, rfl⟩ | ⟨h1, rfl, rfl⟩
  · refine g_if_eq X rfl (fun _ => ?_) (fun h => absurd nI_0 h) 
    refine g_lconst X rfl (v := 0) (by decide) ?_
    refine g_lstore_n X rfl (by decide) ?_
    refine g_iconst X rfl (v := nI 0) (by decide) ?_
    refine g_istore X rfl (by decide) ?_
    exact lp_X8_open l D cy B od hm hg hgz  (Qf := fun v A' => v = some (mV (.long 0) (ocOpen (V9 Z S) kd)) ∧ A' = upA A 231 (moE (nI (cX [eIAE] (ocOpen (V9 Z S) kd)), f.2))) (mR0 (by first | (simp_all [ocOpen, nI_eq, vS, vZ, V9]; done) | (simp_all [ocOpen, nI_eq, vS, vZ, V9, nI_0, n10]; done) | (simp_all [ocOpen, nI_eq, vS, vZ, V9, nI_0, n10, ← Int32.not_le]; done) | (simp_all [ocOpen, nI_eq, vS, vZ, V9, ← Int64.not_le]; done) | (simp_all [ocOpen, nI_eq, vS, vZ, V9, nI_0, n10, ← Int64.not_le, ← Int32.not_le]; done)) hA1) X ((S.1.1) + 1) 0 (by omega) (by omega) (by omega)
  · refine g_if_eq X rfl (fun h => absurd h n10) (fun _ => ?_)
    refine g_lconst X rfl (v := 0) (by decide) ?_
    refine g_lret X rfl rfl (Nat.le_of_ble_eq_true rfl) (Nat.le_of_ble_eq_true rfl) ⟨rfl, ?_⟩
    exact mRx (E := eIAE) (by first | (simp_all [ocOpen, nI_eq, vS, vZ, V9]; done) | (simp_all [ocOpen, nI_eq, vS, vZ, V9, nI_0, n10]; done) | (simp_all [ocOpen, nI_eq, vS, vZ, V9, nI_0, n10, ← Int32.not_le]; done) | (simp_all [ocOpen, nI_eq, vS, vZ, V9, ← Int64.not_le]; done) | (simp_all [ocOpen, nI_eq, vS, vZ, V9, nI_0, n10, ← Int64.not_le, ← Int32.not_le]; done)) (by decide) hA1
def mBC (S : StV) (ca b9 : Int32) : Nat → Int64
  | 0 => 0
  | n + 1 => if S.1.2 1 n = ca ∧ eCnt S.1 n = true then (if b9 = 0 then mBC S ca b9 n + dOf S n else mBC S ca b9 n + (if S.1.2 0 n = 0 then (S.1.2 2 n).toInt64 else 0)) else mBC S ca b9 n
theorem dOf_l {Z : SV} {S : StV} (hg : Rng Z S) (hw : WfS S) {k : Nat} (hk : k < S.1.1) : (sDedP S k).toInt64 = dOf S k := by
  rw [← dOf_i]
  unfold dOf
  split
  · rename_i hc
    obtain ⟨pd, h1, h2⟩ := paid_N hg hk hc
    obtain ⟨n, -, h3, h4⟩ := (hg.1 k hk).2.2.1
    obtain ⟨x, e1, e2⟩ := sDed_N hg hw (kd := S.1.2 0 k) h3 h1
    rw [h4, h2, e2, lN_i, nI_l (by omega)]
  · decide
theorem mBC_0 {Z : SV} {S : StV} (hg : Rng Z S) (hw : WfS S) {ca b9 : Int32} (hb : b9 = 0) : ∀ n, n ≤ S.1.1 → mBC S ca b9 n = sumN (fun i => S.1.2 1 i == ca) (fun i => (sDedP S i).toInt64) n
  | 0, _ => rfl
  | n + 1, h => by
    have ih := mBC_0 hg hw (ca := ca) hb n (by omega)
    rw [mBC, sumN, ih, dOf_l hg hw (by omega)]
    by_cases h1 : S.1.2 1 n = ca
    · by_cases h2 : eCnt S.1 n = true
      · rw [if_pos ⟨h1, h2⟩, if_pos hb, if_pos (by simpa using h1)]
      · rw [if_neg (fun q => h2 q.2), if_pos (by simpa using h1), dOf, if_neg h2, Int64.add_zero]
    · rw [if_neg (fun q => h1 q.1), if_neg (by simpa using h1)]
theorem mBC_1 {S : StV} {ca b9 : Int32} (hb : ¬ b9 = 0) : ∀ n, mBC S ca b9 n = sumN (fun i => S.1.2 0 i == 0 && S.1.2 1 i == ca && eCnt S.1 i) (fun i => (S.1.2 2 i).toInt64) n
  | 0 => rfl
  | n + 1 => by
    have ih := mBC_1 (S := S) (ca := ca) hb n
    rw [mBC, sumN, ih, if_neg hb]
    by_cases h1 : S.1.2 1 n = ca <;> by_cases h2 : eCnt S.1 n = true <;> by_cases h3 : S.1.2 0 n = 0 <;> simp [h1, h2, h3]
theorem mBC_oc {Z : SV} {S : StV} (hg : Rng Z S) (hw : WfS S) {ca b9 : Int32} (h : within9 ca (nI 0) (nI 9) = true) : ocByCat (V9 Z S) ca b9 = .inr (.long (mBC S ca b9 S.1.1)) := by
  unfold ocByCat
  rw [if_pos h]
  split
  · rename_i hb; rw [mBC_0 hg hw hb _ (Nat.le_refl _)]; rfl
  · rename_i hb; rw [mBC_1 hb]
set_option maxRecDepth 100000 in
set_option maxHeartbeats 400000 in
theorem lp_X8_byCategory (l : Launch) (D : va_G) (cy : Nat → ClassId) (B : Nat) (od : Nat → Option Nat) {p : Program} {e : Env} {s : State} {m : MethodId} {args : Array Value} {below : List Frame} {meth : Method} {c : Code} {A : AH} {z : Nat} {f : MF} {r : Nat → Int32} {Z : SV} {S : StV} (hm : MdR cy A f r Z S) (hg : Rng Z S) (hgz : RngZ Z) {cg b9 : Int32} {Qf : Option Value → AH → Prop} (hQ : Qf (some (.long (mBC S cg b9 S.1.1))) A) (X : Cx p s m args meth c D cy B od cX8_byCategory 6 tX8_byCategory RX8 (some .long)) : ∀ (k i : Nat), 0 ≤ i → i ≤ S.1.1 → S.1.1 - i < k → G p l e rmX8_byCategory s m args below meth c D B od 6 tX8_byCategory (FinQ false D B od (fun v A' z' => z' = z ∧ (Qf) v A') (fun _ _ => True) args s below rmX8_byCategory.cells rmX8_byCategory.slots) 0 0 A z 18 [some (.ref 231), some (.int cg), some (.int b9), some (.long (mBC S cg b9 i)), none, some (.int (nI i))] [] := by
  intro k
  induction k with
  | zero => intro i _ _ h; omega
  | succ k ih =>
    intro i  hlo hi hk
    obtain ⟨hM, hn, hc, hw, hwb, hz⟩ := id hm
    obtain ⟨c0, ⟨c1, c2, c3, c4, c5⟩, cb, ⟨c16, cr⟩, ⟨c35, ce⟩, ⟨c456, ca⟩, c517, cp⟩ := id hc
    obtain ⟨w1, w2, w3, w4, w5⟩ := id hw
    refine g_iload X rfl rfl ?_
    refine g_aload_n X rfl rfl ?_
    refine g_get X rfl flX8_16 (ci := 8) rfl (by (repeat (first | exact hM | exact upA_eq | refine (upA_ne (by omega)).trans ?_))) rfl ?_
    refine g_bipush X rfl (v := nI 35) (by decide) ?_
    refine g_ialdN X rfl hn (by omega) (by decide) ?_
    rw [c35]
    first | refine g_ic_geN X rfl (by omega) (by omega) (fun h1 => ?_) (fun h1 => ?_) | refine g_icmp_ge X rfl (fun h1 => ?_) (fun h1 => ?_)
    · refine g_lload_n X rfl rfl ?_
      refine g_lret X rfl rfl (Nat.le_of_ble_eq_true rfl) (Nat.le_of_ble_eq_true rfl) ⟨rfl, ?_⟩
      rw [show i = S.1.1 by omega]; exact hQ
    · refine g_aload_n X rfl rfl ?_
      refine g_iload X rfl rfl ?_
      refine g_iconst X rfl (v := nI 1) (by decide) ?_
      refine g_rV X rfl lcX8_entryPart lmX8_184 lsX8_entryPart (cr_X8_entryPart l D cy B od hm (by omega) (by omega)) (ci := 8) (by (repeat (first | exact hM | exact upA_eq | refine (upA_ne (by omega)).trans ?_))) rfl rfl rfl (Nat.le_of_ble_eq_true rfl) ⟨⟨by decide, by decide⟩, rfl, rfl⟩ ⟨Nat.le_of_ble_eq_true rfl, Nat.le_of_ble_eq_true rfl⟩ ?_
      refine g_iload_n X rfl rfl ?_
      refine g_icmp_ne X rfl (fun h2 => ?_) (fun h2 => ?_)
      · refine g_iinc1 X rfl rfl (by decide) ?_
        refine g_goto X rfl ?_
        have K9 := ih (i + 1) (by omega) (by omega) (by omega)
        rw [mBC] at K9
        first | (rw [if_neg (by simp_all)] at K9; exact K9) | (rw [if_pos ⟨by assumption, by assumption⟩, if_pos (by assumption)] at K9; exact K9) | (rw [if_pos ⟨by assumption, by assumption⟩, if_neg (by assumption), if_pos (by assumption)] at K9; exact K9) | (rw [if_pos ⟨by assumption, by assumption⟩, if_neg (by assumption), if_neg (by assumption)] at K9; exact K9)
      · refine g_aload_n X rfl rfl ?_
        refine g_iload X rfl rfl ?_
        refine g_rV X rfl lcX8_counts lmX8_190 lsX8_counts (cr_X8_counts l D cy B od hm (by omega)) (ci := 8) (by (repeat (first | exact hM | exact upA_eq | refine (upA_ne (by omega)).trans ?_))) rfl rfl rfl (Nat.le_of_ble_eq_true rfl) ⟨⟨by decide, by decide⟩, rfl, rfl⟩ ⟨Nat.le_of_ble_eq_true rfl, Nat.le_of_ble_eq_true rfl⟩ ?_
        first | refine g_if_neB X rfl (fun h3 => ?_) (fun h3 => ?_) | refine g_if_ne X rfl (fun h3 => ?_) (fun h3 => ?_)
        · refine g_iload_n X rfl rfl ?_
          refine g_if_eq X rfl (fun h4 => ?_) (fun h4 => ?_)
          · refine g_lload_n X rfl rfl ?_
            refine g_aload_n X rfl rfl ?_
            refine g_iload X rfl rfl ?_
            refine g_rV X rfl lcX8_deductedOf lmX8_291 lsX8_deductedOf (cr_X8_deductedOf l D cy B od hm hg (by omega)) (ci := 8) (by (repeat (first | exact hM | exact upA_eq | refine (upA_ne (by omega)).trans ?_))) rfl rfl rfl (Nat.le_of_ble_eq_true rfl) ⟨⟨by decide, by decide⟩, rfl, rfl⟩ ⟨Nat.le_of_ble_eq_true rfl, Nat.le_of_ble_eq_true rfl⟩ ?_
            refine g_ladd X rfl ?_
            refine g_lstore_n X rfl (by decide) ?_
            refine g_iinc1 X rfl rfl (by decide) ?_
            refine g_goto X rfl ?_
            have K9 := ih (i + 1) (by omega) (by omega) (by omega)
            rw [mBC] at K9
            first | (rw [if_neg (by simp_all)] at K9; exact K9) | (rw [if_pos ⟨by assumption, by assumption⟩, if_pos (by assumption)] at K9; exact K9) | (rw [if_pos ⟨by assumption, by assumption⟩, if_neg (by assumption), if_pos (by assumption)] at K9; exact K9) | (rw [if_pos ⟨by assumption, by assumption⟩, if_neg (by assumption), if_neg (by assumption)] at K9; exact K9)
          · refine g_lload_n X rfl rfl ?_
            refine g_aload_n X rfl rfl ?_
            refine g_iload X rfl rfl ?_
            refine g_iconst X rfl (v := nI 0) (by decide) ?_
            refine g_rV X rfl lcX8_entryPart lmX8_184 lsX8_entryPart (cr_X8_entryPart l D cy B od hm (by omega) (by omega)) (ci := 8) (by (repeat (first | exact hM | exact upA_eq | refine (upA_ne (by omega)).trans ?_))) rfl rfl rfl (Nat.le_of_ble_eq_true rfl) ⟨⟨by decide, by decide⟩, rfl, rfl⟩ ⟨Nat.le_of_ble_eq_true rfl, Nat.le_of_ble_eq_true rfl⟩ ?_
            refine g_if_ne X rfl (fun h5 => ?_) (fun h5 => ?_)
            · refine g_lconst X rfl (v := 0) (by decide) ?_
              refine g_ladd X rfl ?_
              refine g_lstore_n X rfl (by decide) ?_
              refine g_goto X rfl ?_
              refine g_iinc1 X rfl rfl (by decide) ?_
              refine g_goto X rfl ?_
              have K9 := ih (i + 1) (by omega) (by omega) (by omega)
              rw [mBC] at K9
              first | (rw [if_neg (by simp_all)] at K9; exact K9) | (rw [if_pos ⟨by assumption, by assumption⟩, if_pos (by assumption)] at K9; exact K9) | (rw [if_pos ⟨by assumption, by assumption⟩, if_neg (by assumption), if_pos (by assumption)] at K9; exact K9) | (rw [if_pos ⟨by assumption, by assumption⟩, if_neg (by assumption), if_neg (by assumption)] at K9; exact K9)
            · refine g_aload_n X rfl rfl ?_
              refine g_iload X rfl rfl ?_
              refine g_iconst X rfl (v := nI 2) (by decide) ?_
              refine g_rV X rfl lcX8_entryPart lmX8_184 lsX8_entryPart (cr_X8_entryPart l D cy B od hm (by omega) (by omega)) (ci := 8) (by (repeat (first | exact hM | exact upA_eq | refine (upA_ne (by omega)).trans ?_))) rfl rfl rfl (Nat.le_of_ble_eq_true rfl) ⟨⟨by decide, by decide⟩, rfl, rfl⟩ ⟨Nat.le_of_ble_eq_true rfl, Nat.le_of_ble_eq_true rfl⟩ ?_
              refine g_i2l X rfl ?_
              refine g_goto X rfl ?_
              refine g_ladd X rfl ?_
              refine g_lstore_n X rfl (by decide) ?_
              refine g_goto X rfl ?_
              refine g_iinc1 X rfl rfl (by decide) ?_
              refine g_goto X rfl ?_
              have K9 := ih (i + 1) (by omega) (by omega) (by omega)
              rw [mBC] at K9
              first | (rw [if_neg (by simp_all)] at K9; exact K9) | (rw [if_pos ⟨by assumption, by assumption⟩, if_pos (by assumption)] at K9; exact K9) | (rw [if_pos ⟨by assumption, by assumption⟩, if_neg (by assumption), if_pos (by assumption)] at K9; exact K9) | (rw [if_pos ⟨by assumption, by assumption⟩, if_neg (by assumption), if_neg (by assumption)] at K9; exact K9)
        · refine g_goto X rfl ?_
          refine g_iinc1 X rfl rfl (by decide) ?_
          refine g_goto X rfl ?_
          have K9 := ih (i + 1) (by omega) (by omega) (by omega)
          rw [mBC] at K9
          first | (rw [if_neg (by simp_all)] at K9; exact K9) | (rw [if_pos ⟨by assumption, by assumption⟩, if_pos (by assumption)] at K9; exact K9) | (rw [if_pos ⟨by assumption, by assumption⟩, if_neg (by assumption), if_pos (by assumption)] at K9; exact K9) | (rw [if_pos ⟨by assumption, by assumption⟩, if_neg (by assumption), if_neg (by assumption)] at K9; exact K9)
set_option maxRecDepth 100000 in
set_option maxHeartbeats 400000 in
theorem cm_X8_byCategory (l : Launch) (D : va_G) (cy : Nat → ClassId) (B : Nat) (od : Nat → Option Nat) {A : AH} {f : MF} {r : Nat → Int32} {Z : SV} {S : StV} (hm : MdR cy A f r Z S) (hg : Rng Z S) (hgz : RngZ Z) {cg b9 : Int32} : CM l D cy B od yX8_byCategory cX8_byCategory 6 (some .long) rmX8_byCategory [.ref 231, .int cg, .int b9] A (fun v A' => v = some (mV (.long 0) (ocByCat (V9 Z S) cg b9)) ∧ A' = upA A 231 (moE (nI (cX [eIAE] (ocByCat (V9 Z S) cg b9)), f.2))) := by
  intro z
  refine CT.of (by decide) tX8_byCategory okX8_byCategory (Nat.le_of_ble_eq_true rfl) (q0 := tX8_byCategory[0]) rfl rfl ?_
  intro p e s m args below meth c X _
  have hM := hm.1
  refine g_aload_n X rfl rfl ?_
  refine g_iconst X rfl (v := nI 0) (by decide) ?_
  refine g_put X rfl flX8_41 rfl (ci := 8) rfl (by (repeat (first | exact hM | exact upA_eq | refine (upA_ne (by omega)).trans ?_))) (Nat.le_of_ble_eq_true rfl) (by first | rfl | exact bI_nar _) (by first | rfl | decide) ?_
  refine G.cast (A2 := upA A 231 (moE (nI 0, f.2))) rfl ?_
  obtain ⟨A1, hA1⟩ : ∃ A1, A1 = upA A 231 (moE (nI 0, f.2)) := ⟨_, rfl⟩
  refine G.cast (A2 := A1) hA1.symm ?_
  have hm := hm.thr (nI 0)
  rw [← hA1] at hm
  obtain ⟨hM, hn, hc, hw, hwb, hz⟩ := id hm
  obtain ⟨c0, ⟨c1, c2, c3, c4, c5⟩, cb, ⟨c16, cr⟩, ⟨c35, ce⟩, ⟨c456, ca⟩, c517, cp⟩ := id hc
  obtain ⟨w1, w2, w3, w4, w5⟩ := id hw
  refine g_aload_n X rfl rfl ?_
  refine g_iload_n X rfl rfl ?_
  refine g_i2l X rfl ?_
  refine g_lconst X rfl (v := 0) (by decide) ?_
  refine g_ldc2 X rfl kcX8_199 ?_
  refine g_rS X rfl lcX8_in lmX8_56 stX8_in (cr_X8_in l D cy B od) rfl rfl (Nat.le_of_ble_eq_true rfl) ⟨⟨by decide, by decide⟩, rfl, rfl⟩ ⟨Nat.le_of_ble_eq_true rfl, Nat.le_of_ble_eq_true rfl⟩ ?_
  rw [in64 (lo := nI 0) (hi := nI 9) (by decide) (by decide)]
  refine g_iconst X rfl (v := nI 1) (by decide) ?_
  refine g_mV X rfl lcX8_fails lmX8_52 lsX8_fails (cm_X8_failsB l D cy B od (by (repeat (first | exact hM | exact upA_eq | refine (upA_ne (by omega)).trans ?_)))) (ci := 8) (by (repeat (first | exact hM | exact upA_eq | refine (upA_ne (by omega)).trans ?_))) rfl rfl rfl (Nat.le_of_ble_eq_true rfl) ⟨⟨by decide, by decide⟩, rfl, rfl⟩ ⟨Nat.le_of_ble_eq_true rfl, Nat.le_of_ble_eq_true rfl⟩ (fun v1 A1 q1 => ?_)
  rcases q1 with ⟨h1, rfl, rfl⟩ | ⟨h1, rfl, rfl⟩
  · refine g_if_eq X rfl (fun _ => ?_) (fun h => absurd nI_0 h) 
    refine g_lconst X rfl (v := 0) (by decide) ?_
    refine g_lstore_n X rfl (by decide) ?_
    refine g_iconst X rfl (v := nI 0) (by decide) ?_
    refine g_istore X rfl (by decide) ?_
    exact lp_X8_byCategory l D cy B od hm hg hgz  (Qf := fun v A' => v = some (mV (.long 0) (ocByCat (V9 Z S) cg b9)) ∧ A' = upA A 231 (moE (nI (cX [eIAE] (ocByCat (V9 Z S) cg b9)), f.2))) (mR0 (by first | exact mBC_oc hg hw (by assumption)) hA1) X ((S.1.1) + 1) 0 (by omega) (by omega) (by omega)
  · refine g_if_eq X rfl (fun h => absurd h n10) (fun _ => ?_)
    refine g_lconst X rfl (v := 0) (by decide) ?_
    refine g_lret X rfl rfl (Nat.le_of_ble_eq_true rfl) (Nat.le_of_ble_eq_true rfl) ⟨rfl, ?_⟩
    exact mRx (E := eIAE) (by first | (simp_all [ocByCat, nI_eq, vS, vZ, V9]; done) | (simp_all [ocByCat, nI_eq, vS, vZ, V9, nI_0, n10]; done) | (simp_all [ocByCat, nI_eq, vS, vZ, V9, nI_0, n10, ← Int32.not_le]; done) | (simp_all [ocByCat, nI_eq, vS, vZ, V9, ← Int64.not_le]; done) | (simp_all [ocByCat, nI_eq, vS, vZ, V9, nI_0, n10, ← Int64.not_le, ← Int32.not_le]; done)) (by decide) hA1
theorem rateN_0 {Z : SV} {am : Int32} {i : Nat} (h : rateN Z am (Z.1 - i) i = sRate Z am) (hi : ¬ i < Z.1) : Z.2.1 4 = sRate Z am := by rw [← h, show Z.1 - i = 0 by omega]; rfl
theorem rateN_1 {Z : SV} {am : Int32} {i : Nat} (h : rateN Z am (Z.1 - i) i = sRate Z am) (hi : i < Z.1) (hl : ¬ Z.2.2 0 i < am) : Z.2.2 1 i = sRate Z am := by rw [← h, show Z.1 - i = (Z.1 - (i + 1)) + 1 by omega, rateN, if_neg hl]
theorem rateN_2 {Z : SV} {am : Int32} {i : Nat} (h : rateN Z am (Z.1 - i) i = sRate Z am) (hi : i < Z.1) (hl : Z.2.2 0 i < am) : rateN Z am (Z.1 - (i + 1)) (i + 1) = sRate Z am := by rw [← h, show Z.1 - i = (Z.1 - (i + 1)) + 1 by omega, rateN, if_pos hl]
set_option maxRecDepth 100000 in
set_option maxHeartbeats 400000 in
theorem lp_X8_rate (l : Launch) (D : va_G) (cy : Nat → ClassId) (B : Nat) (od : Nat → Option Nat) {p : Program} {e : Env} {s : State} {m : MethodId} {args : Array Value} {below : List Frame} {meth : Method} {c : Code} {A : AH} {z : Nat} {f : MF} {r : Nat → Int32} {Z : SV} {S : StV} (hm : MdR cy A f r Z S) (hg : Rng Z S) (hgz : RngZ Z) {am : Int32} {Qf : Option Value → AH → Prop} (hQ : Qf (some (.int (sRate Z am))) A) (X : Cx p s m args meth c D cy B od cX8_rate 3 tX8_rate RX8 (some .int)) : ∀ (k i : Nat) (_ : rateN Z am (Z.1 - i) i = sRate Z am), 0 ≤ i → i ≤ Z.1 → Z.1 - i < k → G p l e rmX8_rate s m args below meth c D B od 3 tX8_rate (FinQ false D B od (fun v A' z' => z' = z ∧ (Qf) v A') (fun _ _ => True) args s below rmX8_rate.cells rmX8_rate.slots) 0 0 A z 5 [some (.ref 231), some (.int am), some (.int (nI i))] [] := by
  intro k
  induction k with
  | zero => intro i _ _ _ h; omega
  | succ k ih =>
    intro i o0 hlo hi hk
    obtain ⟨hM, hn, hc, hw, hwb, hz⟩ := id hm
    obtain ⟨c0, ⟨c1, c2, c3, c4, c5⟩, cb, ⟨c16, cr⟩, ⟨c35, ce⟩, ⟨c456, ca⟩, c517, cp⟩ := id hc
    obtain ⟨w1, w2, w3, w4, w5⟩ := id hw
    refine g_iload_n X rfl rfl ?_
    refine g_aload_n X rfl rfl ?_
    refine g_get X rfl flX8_16 (ci := 8) rfl (by (repeat (first | exact hM | exact upA_eq | refine (upA_ne (by omega)).trans ?_))) rfl ?_
    refine g_iconst X rfl (v := nI 5) (by decide) ?_
    refine g_ialdN X rfl hn (by omega) (by decide) ?_
    rw [c5]
    first | refine g_ic_geN X rfl (by omega) (by omega) (fun h1 => ?_) (fun h1 => ?_) | refine g_icmp_ge X rfl (fun h1 => ?_) (fun h1 => ?_)
    · refine g_aload_n X rfl rfl ?_
      refine g_iload_n X rfl rfl ?_
      refine g_rV X rfl lcX8_rateOf lmX8_319 lsX8_rateOf (cr_X8_rateOf l D cy B od hm hg (by omega)) (ci := 8) (by (repeat (first | exact hM | exact upA_eq | refine (upA_ne (by omega)).trans ?_))) rfl rfl rfl (Nat.le_of_ble_eq_true rfl) ⟨⟨by decide, by decide⟩, rfl, rfl⟩ ⟨Nat.le_of_ble_eq_true rfl, Nat.le_of_ble_eq_true rfl⟩ ?_
      refine g_iret X rfl rfl (by first | rfl | exact bI_nar _ | decide) (Nat.le_of_ble_eq_true rfl) (Nat.le_of_ble_eq_true rfl) ⟨rfl, ?_⟩
      first | (rw [if_neg (show ¬ i < Z.1 by omega), rateN_0 o0 (by omega)]; exact hQ) | (rw [if_pos (show i < Z.1 by omega), rateN_1 o0 (by omega) (Int32.not_lt.mpr (by assumption))]; exact hQ)
    · refine g_aload_n X rfl rfl ?_
      refine g_iload_n X rfl rfl ?_
      refine g_rV X rfl lcX8_limitOf lmX8_312 lsX8_limitOf (cr_X8_limitOf l D cy B od hm hg (by omega)) (ci := 8) (by (repeat (first | exact hM | exact upA_eq | refine (upA_ne (by omega)).trans ?_))) rfl rfl rfl (Nat.le_of_ble_eq_true rfl) ⟨⟨by decide, by decide⟩, rfl, rfl⟩ ⟨Nat.le_of_ble_eq_true rfl, Nat.le_of_ble_eq_true rfl⟩ ?_
      refine g_iload_n X rfl rfl ?_
      refine g_icmp_ge X rfl (fun h2 => ?_) (fun h2 => ?_)
      · refine g_aload_n X rfl rfl ?_
        refine g_iload_n X rfl rfl ?_
        refine g_rV X rfl lcX8_rateOf lmX8_319 lsX8_rateOf (cr_X8_rateOf l D cy B od hm hg (by omega)) (ci := 8) (by (repeat (first | exact hM | exact upA_eq | refine (upA_ne (by omega)).trans ?_))) rfl rfl rfl (Nat.le_of_ble_eq_true rfl) ⟨⟨by decide, by decide⟩, rfl, rfl⟩ ⟨Nat.le_of_ble_eq_true rfl, Nat.le_of_ble_eq_true rfl⟩ ?_
        refine g_iret X rfl rfl (by first | rfl | exact bI_nar _ | decide) (Nat.le_of_ble_eq_true rfl) (Nat.le_of_ble_eq_true rfl) ⟨rfl, ?_⟩
        first | (rw [if_neg (show ¬ i < Z.1 by omega), rateN_0 o0 (by omega)]; exact hQ) | (rw [if_pos (show i < Z.1 by omega), rateN_1 o0 (by omega) (Int32.not_lt.mpr (by assumption))]; exact hQ)
      · refine g_iinc1 X rfl rfl (by decide) ?_
        refine g_goto X rfl ?_
        exact ih (i + 1) (rateN_2 o0 (by omega) (Int32.not_le.mp (by assumption))) (by omega) (by omega) (by omega)
set_option maxRecDepth 100000 in
set_option maxHeartbeats 400000 in
theorem cm_X8_rate (l : Launch) (D : va_G) (cy : Nat → ClassId) (B : Nat) (od : Nat → Option Nat) {A : AH} {f : MF} {r : Nat → Int32} {Z : SV} {S : StV} (hm : MdR cy A f r Z S) (hg : Rng Z S) (hgz : RngZ Z) {am : Int32} : CM l D cy B od yX8_rate cX8_rate 3 (some .int) rmX8_rate [.ref 231, .int am] A (fun v A' => v = some (mV (.int (nI 0)) (.inr (.int (sRate Z am)) : OC)) ∧ A' = upA A 231 (moE (nI (cX [] (.inr (.int (sRate Z am)) : OC)), f.2))) := by
  intro z
  refine CT.of (by decide) tX8_rate okX8_rate (Nat.le_of_ble_eq_true rfl) (q0 := tX8_rate[0]) rfl rfl ?_
  intro p e s m args below meth c X _
  have hM := hm.1
  refine g_aload_n X rfl rfl ?_
  refine g_iconst X rfl (v := nI 0) (by decide) ?_
  refine g_put X rfl flX8_41 rfl (ci := 8) rfl (by (repeat (first | exact hM | exact upA_eq | refine (upA_ne (by omega)).trans ?_))) (Nat.le_of_ble_eq_true rfl) (by first | rfl | exact bI_nar _) (by first | rfl | decide) ?_
  refine G.cast (A2 := upA A 231 (moE (nI 0, f.2))) rfl ?_
  obtain ⟨A1, hA1⟩ : ∃ A1, A1 = upA A 231 (moE (nI 0, f.2)) := ⟨_, rfl⟩
  refine G.cast (A2 := A1) hA1.symm ?_
  have hm := hm.thr (nI 0)
  rw [← hA1] at hm
  obtain ⟨hM, hn, hc, hw, hwb, hz⟩ := id hm
  obtain ⟨c0, ⟨c1, c2, c3, c4, c5⟩, cb, ⟨c16, cr⟩, ⟨c35, ce⟩, ⟨c456, ca⟩, c517, cp⟩ := id hc
  obtain ⟨w1, w2, w3, w4, w5⟩ := id hw
  refine g_iconst X rfl (v := nI 0) (by decide) ?_
  refine g_istore_n X rfl (by decide) ?_
  exact lp_X8_rate l D cy B od hm hg hgz  (Qf := fun v A' => v = some (mV (.int (nI 0)) (.inr (.int (sRate Z am)) : OC)) ∧ A' = upA A 231 (moE (nI (cX [] (.inr (.int (sRate Z am)) : OC)), f.2))) (mR0 (by first | (simp_all [V9, nI_eq, vS, vZ, V9]; done) | (simp_all [V9, nI_eq, vS, vZ, V9, nI_0, n10]; done) | (simp_all [V9, nI_eq, vS, vZ, V9, nI_0, n10, ← Int32.not_le]; done) | (simp_all [V9, nI_eq, vS, vZ, V9, ← Int64.not_le]; done) | (simp_all [V9, nI_eq, vS, vZ, V9, nI_0, n10, ← Int64.not_le, ← Int32.not_le]; done)) hA1) X ((Z.1) + 1) 0 (by rfl) (by omega) (by omega) (by omega)
set_option maxRecDepth 100000 in
set_option maxHeartbeats 400000 in
theorem lp_X8_interest (l : Launch) (D : va_G) (cy : Nat → ClassId) (B : Nat) (od : Nat → Option Nat) {p : Program} {e : Env} {s : State} {m : MethodId} {args : Array Value} {below : List Frame} {meth : Method} {c : Code} {A : AH} {z : Nat} {f : MF} {r : Nat → Int32} {Z : SV} {S : StV} (hm : MdR cy A f r Z S) (hg : Rng Z S) (hgz : RngZ Z)  {Qf : Option Value → AH → Prop} (hQ : Qf (some (.long (sInt (V9 Z S)))) A) (X : Cx p s m args meth c D cy B od cX8_interest 6 tX8_interest RX8 (some .long)) : ∀ (k i : Nat) (o0 : Option Value), 0 ≤ i → i ≤ S.2.2.2.2.1 → S.2.2.2.2.1 - i < k → G p l e rmX8_interest s m args below meth c D B od 6 tX8_interest (FinQ false D B od (fun v A' z' => z' = z ∧ (Qf) v A') (fun _ _ => True) args s below rmX8_interest.cells rmX8_interest.slots) 0 0 A z 7 [some (.ref 231), some (.long (sumN (fun q => decide (0 < (ppNow (V9 Z S) q - S.2.2.2.1 q).toInt64)) (fun q => (ppNow (V9 Z S) q - S.2.2.2.1 q).toInt64 * (Z.2.1 3).toInt64 * (nI 4 - nI q).toInt64 / 1000) i)), none, some (.int (nI i)), o0, none] [] := by
  intro k
  induction k with
  | zero => intro i _ _ _ h; omega
  | succ k ih =>
    intro i o0 hlo hi hk
    obtain ⟨hM, hn, hc, hw, hwb, hz⟩ := id hm
    obtain ⟨c0, ⟨c1, c2, c3, c4, c5⟩, cb, ⟨c16, cr⟩, ⟨c35, ce⟩, ⟨c456, ca⟩, c517, cp⟩ := id hc
    obtain ⟨w1, w2, w3, w4, w5⟩ := id hw
    refine g_iload_n X rfl rfl ?_
    refine g_aload_n X rfl rfl ?_
    refine g_get X rfl flX8_16 (ci := 8) rfl (by (repeat (first | exact hM | exact upA_eq | refine (upA_ne (by omega)).trans ?_))) rfl ?_
    refine g_sipush X rfl (v := nI 517) (by decide) ?_
    refine g_ialdN X rfl hn (by omega) (by decide) ?_
    rw [c517]
    first | refine g_ic_geN X rfl (by omega) (by omega) (fun h1 => ?_) (fun h1 => ?_) | refine g_icmp_ge X rfl (fun h1 => ?_) (fun h1 => ?_)
    · refine g_lload_n X rfl rfl ?_
      refine g_lret X rfl rfl (Nat.le_of_ble_eq_true rfl) (Nat.le_of_ble_eq_true rfl) ⟨rfl, ?_⟩
      rw [show i = S.2.2.2.2.1 by omega]; exact hQ
    · refine g_aload_n X rfl rfl ?_
      refine g_iload_n X rfl rfl ?_
      refine g_rV X rfl lcX8_correctionOf lmX8_369 lsX8_correctionOf (cr_X8_correctionOf l D cy B od hm hg hgz (by omega)) (ci := 8) (by (repeat (first | exact hM | exact upA_eq | refine (upA_ne (by omega)).trans ?_))) rfl rfl rfl (Nat.le_of_ble_eq_true rfl) ⟨⟨by decide, by decide⟩, rfl, rfl⟩ ⟨Nat.le_of_ble_eq_true rfl, Nat.le_of_ble_eq_true rfl⟩ ?_
      refine g_i2l X rfl ?_
      refine g_lstore X rfl (by decide) ?_
      refine g_lload_n X rfl rfl ?_
      refine g_lload X rfl rfl ?_
      refine g_lconst X rfl (v := 0) (by decide) ?_
      refine g_l_le X rfl rfl (fun h2 => ?_) (fun h2 => ?_)
      · refine g_lconst X rfl (v := 0) (by decide) ?_
        refine g_ladd X rfl ?_
        refine g_lstore_n X rfl (by decide) ?_
        refine g_iinc1 X rfl rfl (by decide) ?_
        refine g_goto X rfl ?_
        have K9 := ih (i + 1) (some (.long (ppNow (V9 Z S) i - S.2.2.2.1 i).toInt64)) (by omega) (by omega) (by omega)
        first | (rw [show sumN (fun q => decide (0 < (ppNow (V9 Z S) q - S.2.2.2.1 q).toInt64)) (fun q => (ppNow (V9 Z S) q - S.2.2.2.1 q).toInt64 * (Z.2.1 3).toInt64 * (nI 4 - nI q).toInt64 / 1000) (i + 1) = sumN (fun q => decide (0 < (ppNow (V9 Z S) q - S.2.2.2.1 q).toInt64)) (fun q => (ppNow (V9 Z S) q - S.2.2.2.1 q).toInt64 * (Z.2.1 3).toInt64 * (nI 4 - nI q).toInt64 / 1000) i + (ppNow (V9 Z S) i - S.2.2.2.1 i).toInt64 * (Z.2.1 3).toInt64 * (nI 4 - nI i).toInt64 / 1000 by rw [sumN, if_pos (decide_eq_true (Int64.not_le.mp h2))]] at K9; exact K9) | (rw [show sumN (fun q => decide (0 < (ppNow (V9 Z S) q - S.2.2.2.1 q).toInt64)) (fun q => (ppNow (V9 Z S) q - S.2.2.2.1 q).toInt64 * (Z.2.1 3).toInt64 * (nI 4 - nI q).toInt64 / 1000) (i + 1) = sumN (fun q => decide (0 < (ppNow (V9 Z S) q - S.2.2.2.1 q).toInt64)) (fun q => (ppNow (V9 Z S) q - S.2.2.2.1 q).toInt64 * (Z.2.1 3).toInt64 * (nI 4 - nI q).toInt64 / 1000) i + 0 by rw [sumN, if_neg (by rw [decide_eq_true_eq]; exact Int64.not_lt.mpr h2), Int64.add_zero]] at K9; exact K9)
      · refine g_lload X rfl rfl ?_
        refine g_aload_n X rfl rfl ?_
        refine g_get X rfl flX8_16 (ci := 8) rfl (by (repeat (first | exact hM | exact upA_eq | refine (upA_ne (by omega)).trans ?_))) rfl ?_
        refine g_iconst X rfl (v := nI 3) (by decide) ?_
        refine g_ialdN X rfl hn (by omega) (by decide) ?_
        rw [c3]
        refine g_i2l X rfl ?_
        refine g_lmul X rfl ?_
        refine g_iconst X rfl (v := nI 4) (by decide) ?_
        refine g_iload_n X rfl rfl ?_
        refine g_isub X rfl ?_
        refine g_i2l X rfl ?_
        refine g_lmul X rfl ?_
        refine g_ldc2 X rfl kcX8_322 ?_
        refine g_ldiv X rfl (by decide) ?_
        refine g_goto X rfl ?_
        refine g_ladd X rfl ?_
        refine g_lstore_n X rfl (by decide) ?_
        refine g_iinc1 X rfl rfl (by decide) ?_
        refine g_goto X rfl ?_
        have K9 := ih (i + 1) (some (.long (ppNow (V9 Z S) i - S.2.2.2.1 i).toInt64)) (by omega) (by omega) (by omega)
        first | (rw [show sumN (fun q => decide (0 < (ppNow (V9 Z S) q - S.2.2.2.1 q).toInt64)) (fun q => (ppNow (V9 Z S) q - S.2.2.2.1 q).toInt64 * (Z.2.1 3).toInt64 * (nI 4 - nI q).toInt64 / 1000) (i + 1) = sumN (fun q => decide (0 < (ppNow (V9 Z S) q - S.2.2.2.1 q).toInt64)) (fun q => (ppNow (V9 Z S) q - S.2.2.2.1 q).toInt64 * (Z.2.1 3).toInt64 * (nI 4 - nI q).toInt64 / 1000) i + (ppNow (V9 Z S) i - S.2.2.2.1 i).toInt64 * (Z.2.1 3).toInt64 * (nI 4 - nI i).toInt64 / 1000 by rw [sumN, if_pos (decide_eq_true (Int64.not_le.mp h2))]] at K9; exact K9) | (rw [show sumN (fun q => decide (0 < (ppNow (V9 Z S) q - S.2.2.2.1 q).toInt64)) (fun q => (ppNow (V9 Z S) q - S.2.2.2.1 q).toInt64 * (Z.2.1 3).toInt64 * (nI 4 - nI q).toInt64 / 1000) (i + 1) = sumN (fun q => decide (0 < (ppNow (V9 Z S) q - S.2.2.2.1 q).toInt64)) (fun q => (ppNow (V9 Z S) q - S.2.2.2.1 q).toInt64 * (Z.2.1 3).toInt64 * (nI 4 - nI q).toInt64 / 1000) i + 0 by rw [sumN, if_neg (by rw [decide_eq_true_eq]; exact Int64.not_lt.mpr h2), Int64.add_zero]] at K9; exact K9)
set_option maxRecDepth 100000 in
set_option maxHeartbeats 400000 in
theorem cm_X8_interest (l : Launch) (D : va_G) (cy : Nat → ClassId) (B : Nat) (od : Nat → Option Nat) {A : AH} {f : MF} {r : Nat → Int32} {Z : SV} {S : StV} (hm : MdR cy A f r Z S) (hg : Rng Z S) (hgz : RngZ Z)  : CM l D cy B od yX8_interest cX8_interest 6 (some .long) rmX8_interest [.ref 231] A (fun v A' => v = some (mV (.long 0) (.inr (.long (sInt (V9 Z S))) : OC)) ∧ A' = upA A 231 (moE (nI (cX [] (.inr (.long (sInt (V9 Z S))) : OC)), f.2))) := by
  intro z
  refine CT.of (by decide) tX8_interest okX8_interest (Nat.le_of_ble_eq_true rfl) (q0 := tX8_interest[0]) rfl rfl ?_
  intro p e s m args below meth c X _
  have hM := hm.1
  refine g_aload_n X rfl rfl ?_
  refine g_iconst X rfl (v := nI 0) (by decide) ?_
  refine g_put X rfl flX8_41 rfl (ci := 8) rfl (by (repeat (first | exact hM | exact upA_eq | refine (upA_ne (by omega)).trans ?_))) (Nat.le_of_ble_eq_true rfl) (by first | rfl | exact bI_nar _) (by first | rfl | decide) ?_
  refine G.cast (A2 := upA A 231 (moE (nI 0, f.2))) rfl ?_
  obtain ⟨A1, hA1⟩ : ∃ A1, A1 = upA A 231 (moE (nI 0, f.2)) := ⟨_, rfl⟩
  refine G.cast (A2 := A1) hA1.symm ?_
  have hm := hm.thr (nI 0)
  rw [← hA1] at hm
  obtain ⟨hM, hn, hc, hw, hwb, hz⟩ := id hm
  obtain ⟨c0, ⟨c1, c2, c3, c4, c5⟩, cb, ⟨c16, cr⟩, ⟨c35, ce⟩, ⟨c456, ca⟩, c517, cp⟩ := id hc
  obtain ⟨w1, w2, w3, w4, w5⟩ := id hw
  refine g_lconst X rfl (v := 0) (by decide) ?_
  refine g_lstore_n X rfl (by decide) ?_
  refine g_iconst X rfl (v := nI 0) (by decide) ?_
  refine g_istore_n X rfl (by decide) ?_
  exact lp_X8_interest l D cy B od hm hg hgz  (Qf := fun v A' => v = some (mV (.long 0) (.inr (.long (sInt (V9 Z S))) : OC)) ∧ A' = upA A 231 (moE (nI (cX [] (.inr (.long (sInt (V9 Z S))) : OC)), f.2))) (mR0 (by first | (simp_all [V9, nI_eq, vS, vZ, V9]; done) | (simp_all [V9, nI_eq, vS, vZ, V9, nI_0, n10]; done) | (simp_all [V9, nI_eq, vS, vZ, V9, nI_0, n10, ← Int32.not_le]; done) | (simp_all [V9, nI_eq, vS, vZ, V9, ← Int64.not_le]; done) | (simp_all [V9, nI_eq, vS, vZ, V9, nI_0, n10, ← Int64.not_le, ← Int32.not_le]; done)) hA1) X ((S.2.2.2.2.1) + 1) 0 _ (by omega) (by omega) (by omega)
theorem bm_2 {V : LV} : ∀ n, (bmSt V n).2 = sRecIn (vS V) (nI (bmSt V n).1)
  | 0 => rfl
  | n + 1 => by
    rw [bmSt]
    split
    · rfl
    · exact bm_2 n
theorem bm_le {V : LV} : ∀ n, (bmSt V n).1 ≤ n
  | 0 => Nat.le_refl _
  | n + 1 => by
    have := bm_le (V := V) n
    rw [bmSt]
    split
    · exact Nat.le_refl _
    · omega
set_option maxRecDepth 100000 in
set_option maxHeartbeats 400000 in
theorem lp_X8_bestMonth (l : Launch) (D : va_G) (cy : Nat → ClassId) (B : Nat) (od : Nat → Option Nat) {p : Program} {e : Env} {s : State} {m : MethodId} {args : Array Value} {below : List Frame} {meth : Method} {c : Code} {A : AH} {z : Nat} {f : MF} {r : Nat → Int32} {Z : SV} {S : StV} (hm : MdR cy A f r Z S) (hg : Rng Z S) (hgz : RngZ Z)  {Qf : Option Value → AH → Prop} (hQ : Qf (some (.int (nI (bmSt (V9 Z S) 11).1))) A) (X : Cx p s m args meth c D cy B od cX8_bestMonth 3 tX8_bestMonth RX8 (some .int)) : ∀ (k i : Nat), 0 ≤ i → i ≤ 11 → 11 - i < k → G p l e rmX8_bestMonth s m args below meth c D B od 3 tX8_bestMonth (FinQ false D B od (fun v A' z' => z' = z ∧ (Qf) v A') (fun _ _ => True) args s below rmX8_bestMonth.cells rmX8_bestMonth.slots) 0 0 A z 7 [some (.ref 231), some (.int (nI (bmSt (V9 Z S) i).1)), some (.int (nI (i + 1)))] [] := by
  intro k
  induction k with
  | zero => intro i _ _ h; omega
  | succ k ih =>
    intro i  hlo hi hk
    obtain ⟨hM, hn, hc, hw, hwb, hz⟩ := id hm
    obtain ⟨c0, ⟨c1, c2, c3, c4, c5⟩, cb, ⟨c16, cr⟩, ⟨c35, ce⟩, ⟨c456, ca⟩, c517, cp⟩ := id hc
    obtain ⟨w1, w2, w3, w4, w5⟩ := id hw
    have b1 := bm_le (V := V9 Z S) i
    refine g_iload_n X rfl rfl ?_
    refine g_bipush X rfl (v := nI 12) (by decide) ?_
    first | refine g_ic_geN X rfl (by omega) (by omega) (fun h1 => ?_) (fun h1 => ?_) | refine g_icmp_ge X rfl (fun h1 => ?_) (fun h1 => ?_)
    · refine g_iload_n X rfl rfl ?_
      refine g_iret X rfl rfl (by first | rfl | exact bI_nar _ | decide) (Nat.le_of_ble_eq_true rfl) (Nat.le_of_ble_eq_true rfl) ⟨rfl, ?_⟩
      have e11 : i = 11 := by omega
      subst e11
      exact hQ
    · refine g_aload_n X rfl rfl ?_
      refine g_iload_n X rfl rfl ?_
      refine g_mV X rfl lcX8_takenIn lmX8_402 lsX8_takenIn (cm_X8_takenIn l D cy B od hm hg (by omega)) (ci := 8) (by (repeat (first | exact hM | exact upA_eq | refine (upA_ne (by omega)).trans ?_))) rfl rfl rfl (Nat.le_of_ble_eq_true rfl) ⟨⟨by decide, by decide⟩, rfl, rfl⟩ ⟨Nat.le_of_ble_eq_true rfl, Nat.le_of_ble_eq_true rfl⟩ (fun v2 A2 q2 => ?_)
      obtain ⟨rfl, rfl⟩ := q2
      refine g_aload_n X rfl rfl ?_
      refine g_iload_n X rfl rfl ?_
      refine g_mV X rfl lcX8_takenIn lmX8_402 lsX8_takenIn (cm_X8_takenIn l D cy B od hm hg (by omega)) (ci := 8) (by (repeat (first | exact hM | exact upA_eq | refine (upA_ne (by omega)).trans ?_))) rfl rfl rfl (Nat.le_of_ble_eq_true rfl) ⟨⟨by decide, by decide⟩, rfl, rfl⟩ ⟨Nat.le_of_ble_eq_true rfl, Nat.le_of_ble_eq_true rfl⟩ (fun v3 A3 q3 => ?_)
      obtain ⟨rfl, rfl⟩ := q3
      refine g_l_le X rfl rfl (fun h4 => ?_) (fun h4 => ?_)
      · refine g_iload_n X rfl rfl ?_
        refine g_istore_n X rfl (by decide) ?_
        refine g_iinc1 X rfl rfl (by decide) ?_
        refine g_goto X rfl ?_
        have K9 := ih (i + 1) (by omega) (by omega) (by omega)
        have b2 := bm_2 (V := V9 Z S) i
        first | (rw [show bmSt (V9 Z S) (i + 1) = (i + 1, sRecIn S (nI (i + 1))) by rw [bmSt, if_pos (by rw [b2]; exact Int64.not_le.mp (by assumption))]] at K9; exact K9) | (rw [show bmSt (V9 Z S) (i + 1) = bmSt (V9 Z S) i by rw [bmSt, if_neg (by rw [b2]; exact Int64.not_lt.mpr (by assumption))]] at K9; exact K9)
      · refine g_iload_n X rfl rfl ?_
        refine g_goto X rfl ?_
        refine g_istore_n X rfl (by decide) ?_
        refine g_iinc1 X rfl rfl (by decide) ?_
        refine g_goto X rfl ?_
        have K9 := ih (i + 1) (by omega) (by omega) (by omega)
        have b2 := bm_2 (V := V9 Z S) i
        first | (rw [show bmSt (V9 Z S) (i + 1) = (i + 1, sRecIn S (nI (i + 1))) by rw [bmSt, if_pos (by rw [b2]; exact Int64.not_le.mp (by assumption))]] at K9; exact K9) | (rw [show bmSt (V9 Z S) (i + 1) = bmSt (V9 Z S) i by rw [bmSt, if_neg (by rw [b2]; exact Int64.not_lt.mpr (by assumption))]] at K9; exact K9)
set_option maxRecDepth 100000 in
set_option maxHeartbeats 400000 in
theorem cm_X8_bestMonth (l : Launch) (D : va_G) (cy : Nat → ClassId) (B : Nat) (od : Nat → Option Nat) {A : AH} {f : MF} {r : Nat → Int32} {Z : SV} {S : StV} (hm : MdR cy A f r Z S) (hg : Rng Z S) (hgz : RngZ Z)  : CM l D cy B od yX8_bestMonth cX8_bestMonth 3 (some .int) rmX8_bestMonth [.ref 231] A (fun v A' => v = some (mV (.int (nI 0)) (.inr (.int (nI (bmSt (V9 Z S) 11).1)) : OC)) ∧ A' = upA A 231 (moE (nI (cX [] (.inr (.int (nI (bmSt (V9 Z S) 11).1)) : OC)), f.2))) := by
  intro z
  refine CT.of (by decide) tX8_bestMonth okX8_bestMonth (Nat.le_of_ble_eq_true rfl) (q0 := tX8_bestMonth[0]) rfl rfl ?_
  intro p e s m args below meth c X _
  have hM := hm.1
  refine g_aload_n X rfl rfl ?_
  refine g_iconst X rfl (v := nI 0) (by decide) ?_
  refine g_put X rfl flX8_41 rfl (ci := 8) rfl (by (repeat (first | exact hM | exact upA_eq | refine (upA_ne (by omega)).trans ?_))) (Nat.le_of_ble_eq_true rfl) (by first | rfl | exact bI_nar _) (by first | rfl | decide) ?_
  refine G.cast (A2 := upA A 231 (moE (nI 0, f.2))) rfl ?_
  obtain ⟨A1, hA1⟩ : ∃ A1, A1 = upA A 231 (moE (nI 0, f.2)) := ⟨_, rfl⟩
  refine G.cast (A2 := A1) hA1.symm ?_
  have hm := hm.thr (nI 0)
  rw [← hA1] at hm
  obtain ⟨hM, hn, hc, hw, hwb, hz⟩ := id hm
  obtain ⟨c0, ⟨c1, c2, c3, c4, c5⟩, cb, ⟨c16, cr⟩, ⟨c35, ce⟩, ⟨c456, ca⟩, c517, cp⟩ := id hc
  obtain ⟨w1, w2, w3, w4, w5⟩ := id hw
  refine g_iconst X rfl (v := nI 0) (by decide) ?_
  refine g_istore_n X rfl (by decide) ?_
  refine g_iconst X rfl (v := nI 1) (by decide) ?_
  refine g_istore_n X rfl (by decide) ?_
  exact lp_X8_bestMonth l D cy B od hm hg hgz  (Qf := fun v A' => v = some (mV (.int (nI 0)) (.inr (.int (nI (bmSt (V9 Z S) 11).1)) : OC)) ∧ A' = upA A 231 (moE (nI (cX [] (.inr (.int (nI (bmSt (V9 Z S) 11).1)) : OC)), f.2))) (mR0 (by first | (simp_all [V9, nI_eq, vS, vZ, V9]; done) | (simp_all [V9, nI_eq, vS, vZ, V9, nI_0, n10]; done) | (simp_all [V9, nI_eq, vS, vZ, V9, nI_0, n10, ← Int32.not_le]; done) | (simp_all [V9, nI_eq, vS, vZ, V9, ← Int64.not_le]; done) | (simp_all [V9, nI_eq, vS, vZ, V9, nI_0, n10, ← Int64.not_le, ← Int32.not_le]; done)) hA1) X ((11) + 1) 0 (by omega) (by omega) (by omega)

set_option maxRecDepth 100000 in
set_option maxHeartbeats 400000 in
theorem lp_X8_oldestOpen (l : Launch) (D : va_G) (cy : Nat → ClassId) (B : Nat) (od : Nat → Option Nat) {p : Program} {e : Env} {s : State} {m : MethodId} {args : Array Value} {below : List Frame} {meth : Method} {c : Code} {A : AH} {z : Nat} {f : MF} {r : Nat → Int32} {Z : SV} {S : StV} (hm : MdR cy A f r Z S) (hg : Rng Z S) (hgz : RngZ Z) {Qf : Option Value → AH → Prop} (hQ : ∀ j, oldN S.1 S.1.1 = some j → Qf (some (.int (nI j))) A) (hX : oldN S.1 S.1.1 = none → Qf (some (.int (nI 0))) (upA A 231 (moE (nI 1, f.2)))) (X : Cx p s m args meth c D cy B od cX8_oldestOpen 3 tX8_oldestOpen RX8 (some .int)) : ∀ (k i : Nat), 0 ≤ i → i ≤ S.1.1 → S.1.1 - i < k → G p l e rmX8_oldestOpen s m args below meth c D B od 3 tX8_oldestOpen (FinQ false D B od (fun v A' z' => z' = z ∧ (Qf) v A') (fun _ _ => True) args s below rmX8_oldestOpen.cells rmX8_oldestOpen.slots) 0 0 A z 7 [some (.ref 231), some (.int (oI (oldN S.1 i))), some (.int (nI i))] [] := by
  intro k
  induction k with
  | zero => intro i _ _ h; omega
  | succ k ih =>
    intro i  hlo hi hk
    obtain ⟨hM, hn, hc, hw, hwb, hz⟩ := id hm
    obtain ⟨c0, ⟨c1, c2, c3, c4, c5⟩, cb, ⟨c16, cr⟩, ⟨c35, ce⟩, ⟨c456, ca⟩, c517, cp⟩ := id hc
    obtain ⟨w1, w2, w3, w4, w5⟩ := id hw
    refine g_iload_n X rfl rfl ?_
    refine g_aload_n X rfl rfl ?_
    refine g_get X rfl flX8_16 (ci := 8) rfl (by (repeat (first | exact hM | exact upA_eq | refine (upA_ne (by omega)).trans ?_))) rfl ?_
    refine g_bipush X rfl (v := nI 35) (by decide) ?_
    refine g_ialdN X rfl hn (by omega) (by decide) ?_
    rw [c35]
    first | refine g_ic_geN X rfl (by omega) (by omega) (fun h1 => ?_) (fun h1 => ?_) | refine g_icmp_ge X rfl (fun h1 => ?_) (fun h1 => ?_)
    · rcases ho : oldN S.1 i with _ | j9
      · refine g_aload_n X rfl rfl ?_
        refine g_iload_n X rfl rfl ?_
        refine g_iconst X rfl (v := (-1)) (by decide) ?_
        refine g_icmp_eq X rfl (fun h2 => ?_) (fun h2 => ?_)
        · refine g_iconst X rfl (v := nI 0) (by decide) ?_
          refine g_iconst X rfl (v := nI 1) (by decide) ?_
          refine g_mV X rfl lcX8_fails lmX8_52 lsX8_fails (cm_X8_fails0 l D cy B od (by (repeat (first | exact hM | exact upA_eq | refine (upA_ne (by omega)).trans ?_)))) (ci := 8) (by (repeat (first | exact hM | exact upA_eq | refine (upA_ne (by omega)).trans ?_))) rfl rfl rfl (Nat.le_of_ble_eq_true rfl) ⟨⟨by decide, by decide⟩, rfl, rfl⟩ ⟨Nat.le_of_ble_eq_true rfl, Nat.le_of_ble_eq_true rfl⟩ (fun v3 A3 q3 => ?_)
          obtain ⟨rfl, rfl⟩ := q3
          refine g_if_eq X rfl (fun h => absurd h n10) (fun _ => ?_)
          refine g_iconst X rfl (v := nI 0) (by decide) ?_
          refine g_goto X rfl ?_
          refine g_iret X rfl rfl (by first | rfl | exact bI_nar _ | decide) (Nat.le_of_ble_eq_true rfl) (Nat.le_of_ble_eq_true rfl) ⟨rfl, ?_⟩
          first | exact hX (by rw [← ho, show i = S.1.1 by omega]) | exact hQ j9 (by rw [← ho, show i = S.1.1 by omega])
        · exact absurd rfl h2
      · have hj9 := oldN_lt S.1 i j9 ho
        refine g_aload_n X rfl rfl ?_
        refine g_iload_n X rfl rfl ?_
        refine g_iconst X rfl (v := (-1)) (by decide) ?_
        refine g_icmp_eq X rfl (fun h4 => ?_) (fun h4 => ?_)
        · exact absurd h4 (nI_nm1 (n := j9) (by omega))
        · refine g_iconst X rfl (v := nI 1) (by decide) ?_
          refine g_goto X rfl ?_
          refine g_iconst X rfl (v := nI 1) (by decide) ?_
          refine g_mV X rfl lcX8_fails lmX8_52 lsX8_fails (cm_X8_fails1 l D cy B od (by (repeat (first | exact hM | exact upA_eq | refine (upA_ne (by omega)).trans ?_)))) (ci := 8) (by (repeat (first | exact hM | exact upA_eq | refine (upA_ne (by omega)).trans ?_))) rfl rfl rfl (Nat.le_of_ble_eq_true rfl) ⟨⟨by decide, by decide⟩, rfl, rfl⟩ ⟨Nat.le_of_ble_eq_true rfl, Nat.le_of_ble_eq_true rfl⟩ (fun v5 A5 q5 => ?_)
          obtain ⟨rfl, rfl⟩ := q5
          refine g_if_eq X rfl (fun _ => ?_) (fun h => absurd nI_0 h) 
          refine g_iload_n X rfl rfl ?_
          refine g_iret X rfl rfl (by first | rfl | exact bI_nar _ | decide) (Nat.le_of_ble_eq_true rfl) (Nat.le_of_ble_eq_true rfl) ⟨rfl, ?_⟩
          first | exact hX (by rw [← ho, show i = S.1.1 by omega]) | exact hQ j9 (by rw [← ho, show i = S.1.1 by omega])
    · refine g_aload_n X rfl rfl ?_
      refine g_iload_n X rfl rfl ?_
      refine g_rV X rfl lcX8_isOpen lmX8_341 lsX8_isOpen (cr_X8_isOpen l D cy B od hm (by omega)) (ci := 8) (by (repeat (first | exact hM | exact upA_eq | refine (upA_ne (by omega)).trans ?_))) rfl rfl rfl (Nat.le_of_ble_eq_true rfl) ⟨⟨by decide, by decide⟩, rfl, rfl⟩ ⟨Nat.le_of_ble_eq_true rfl, Nat.le_of_ble_eq_true rfl⟩ ?_
      first | refine g_if_eqB X rfl (fun h6 => ?_) (fun h6 => ?_) | refine g_if_eq X rfl (fun h6 => ?_) (fun h6 => ?_)
      · refine g_iinc1 X rfl rfl (by decide) ?_
        refine g_goto X rfl ?_
        have K9 := ih (i + 1) (by omega) (by omega) (by omega)
        first | (rw [old_s2 (by assumption) ho] at K9; exact K9) | (rw [old_s3 (by assumption) ho (Int32.not_le.mp (by assumption))] at K9; exact K9) | (rw [old_s4 (by assumption) ho (Int32.not_lt.mpr (by assumption))] at K9; exact K9) | (rw [old_s1 (by assumption)] at K9; exact K9)
      · rcases ho : oldN S.1 i with _ | j9
        · refine g_iload_n X rfl rfl ?_
          refine g_iconst X rfl (v := (-1)) (by decide) ?_
          refine g_icmp_eq X rfl (fun h7 => ?_) (fun h7 => ?_)
          · refine g_iload_n X rfl rfl ?_
            refine g_istore_n X rfl (by decide) ?_
            refine g_iinc1 X rfl rfl (by decide) ?_
            refine g_goto X rfl ?_
            have K9 := ih (i + 1) (by omega) (by omega) (by omega)
            first | (rw [old_s2 (by assumption) ho] at K9; exact K9) | (rw [old_s3 (by assumption) ho (Int32.not_le.mp (by assumption))] at K9; exact K9) | (rw [old_s4 (by assumption) ho (Int32.not_lt.mpr (by assumption))] at K9; exact K9) | (rw [old_s1 (by assumption)] at K9; exact K9)
          · exact absurd rfl h7
        · have hj9 := oldN_lt S.1 i j9 ho
          refine g_iload_n X rfl rfl ?_
          refine g_iconst X rfl (v := (-1)) (by decide) ?_
          refine g_icmp_eq X rfl (fun h8 => ?_) (fun h8 => ?_)
          · exact absurd h8 (nI_nm1 (n := j9) (by omega))
          · refine g_aload_n X rfl rfl ?_
            refine g_iload_n X rfl rfl ?_
            refine g_iconst X rfl (v := nI 3) (by decide) ?_
            refine g_rV X rfl lcX8_entryPart lmX8_184 lsX8_entryPart (cr_X8_entryPart l D cy B od hm (by omega) (by omega)) (ci := 8) (by (repeat (first | exact hM | exact upA_eq | refine (upA_ne (by omega)).trans ?_))) rfl rfl rfl (Nat.le_of_ble_eq_true rfl) ⟨⟨by decide, by decide⟩, rfl, rfl⟩ ⟨Nat.le_of_ble_eq_true rfl, Nat.le_of_ble_eq_true rfl⟩ ?_
            refine g_aload_n X rfl rfl ?_
            refine g_iload_n X rfl rfl ?_
            refine g_iconst X rfl (v := nI 3) (by decide) ?_
            refine g_rV X rfl lcX8_entryPart lmX8_184 lsX8_entryPart (cr_X8_entryPart l D cy B od hm (by omega) (by omega)) (ci := 8) (by (repeat (first | exact hM | exact upA_eq | refine (upA_ne (by omega)).trans ?_))) rfl rfl rfl (Nat.le_of_ble_eq_true rfl) ⟨⟨by decide, by decide⟩, rfl, rfl⟩ ⟨Nat.le_of_ble_eq_true rfl, Nat.le_of_ble_eq_true rfl⟩ ?_
            refine g_icmp_ge X rfl (fun h9 => ?_) (fun h9 => ?_)
            · refine g_iinc1 X rfl rfl (by decide) ?_
              refine g_goto X rfl ?_
              have K9 := ih (i + 1) (by omega) (by omega) (by omega)
              first | (rw [old_s2 (by assumption) ho] at K9; exact K9) | (rw [old_s3 (by assumption) ho (Int32.not_le.mp (by assumption))] at K9; exact K9) | (rw [old_s4 (by assumption) ho (Int32.not_lt.mpr (by assumption))] at K9; exact K9) | (rw [old_s1 (by assumption)] at K9; exact K9)
            · refine g_iload_n X rfl rfl ?_
              refine g_istore_n X rfl (by decide) ?_
              refine g_iinc1 X rfl rfl (by decide) ?_
              refine g_goto X rfl ?_
              have K9 := ih (i + 1) (by omega) (by omega) (by omega)
              first | (rw [old_s2 (by assumption) ho] at K9; exact K9) | (rw [old_s3 (by assumption) ho (Int32.not_le.mp (by assumption))] at K9; exact K9) | (rw [old_s4 (by assumption) ho (Int32.not_lt.mpr (by assumption))] at K9; exact K9) | (rw [old_s1 (by assumption)] at K9; exact K9)
theorem ocOld_s {Z : SV} {S : StV} {j : Nat} (h : oldN S.1 S.1.1 = some j) (hw : WfS S) : ocOld (V9 Z S) = .inr (.int (nI j)) := by
  have := oldN_lt _ _ _ h
  have : S.1.1 ≤ 60 := hw.1
  unfold ocOld
  show (if oI (oldN S.1 S.1.1) = -1 then _ else _) = _
  rw [h]
  exact if_neg (nI_nm1 (n := j) (by omega))
theorem ocOld_n {Z : SV} {S : StV} (h : oldN S.1 S.1.1 = none) : ocOld (V9 Z S) = .inl eNSE := by
  unfold ocOld
  show (if oI (oldN S.1 S.1.1) = -1 then _ else _) = _
  rw [h]
  rfl
set_option maxRecDepth 100000 in
set_option maxHeartbeats 400000 in
theorem cm_X8_oldestOpen (l : Launch) (D : va_G) (cy : Nat → ClassId) (B : Nat) (od : Nat → Option Nat) {A : AH} {f : MF} {r : Nat → Int32} {Z : SV} {S : StV} (hm : MdR cy A f r Z S) (hg : Rng Z S) (hgz : RngZ Z)  : CM l D cy B od yX8_oldestOpen cX8_oldestOpen 3 (some .int) rmX8_oldestOpen [.ref 231] A (fun v A' => v = some (mV (.int (nI 0)) (ocOld (V9 Z S))) ∧ A' = upA A 231 (moE (nI (cX [eNSE] (ocOld (V9 Z S))), f.2))) := by
  intro z
  refine CT.of (by decide) tX8_oldestOpen okX8_oldestOpen (Nat.le_of_ble_eq_true rfl) (q0 := tX8_oldestOpen[0]) rfl rfl ?_
  intro p e s m args below meth c X _
  have hM := hm.1
  refine g_aload_n X rfl rfl ?_
  refine g_iconst X rfl (v := nI 0) (by decide) ?_
  refine g_put X rfl flX8_41 rfl (ci := 8) rfl (by (repeat (first | exact hM | exact upA_eq | refine (upA_ne (by omega)).trans ?_))) (Nat.le_of_ble_eq_true rfl) (by first | rfl | exact bI_nar _) (by first | rfl | decide) ?_
  refine G.cast (A2 := upA A 231 (moE (nI 0, f.2))) rfl ?_
  obtain ⟨A1, hA1⟩ : ∃ A1, A1 = upA A 231 (moE (nI 0, f.2)) := ⟨_, rfl⟩
  refine G.cast (A2 := A1) hA1.symm ?_
  have hm := hm.thr (nI 0)
  rw [← hA1] at hm
  obtain ⟨hM, hn, hc, hw, hwb, hz⟩ := id hm
  obtain ⟨c0, ⟨c1, c2, c3, c4, c5⟩, cb, ⟨c16, cr⟩, ⟨c35, ce⟩, ⟨c456, ca⟩, c517, cp⟩ := id hc
  obtain ⟨w1, w2, w3, w4, w5⟩ := id hw
  refine g_iconst X rfl (v := (-1)) (by decide) ?_
  refine g_istore_n X rfl (by decide) ?_
  refine g_iconst X rfl (v := nI 0) (by decide) ?_
  refine g_istore_n X rfl (by decide) ?_
  exact lp_X8_oldestOpen l D cy B od hm hg hgz (Qf := fun v A' => v = some (mV (.int (nI 0)) (ocOld (V9 Z S))) ∧ A' = upA A 231 (moE (nI (cX [eNSE] (ocOld (V9 Z S))), f.2))) (fun j hj => mR0 (ocOld_s hj hw) hA1) (fun hj => mRx (ocOld_n hj) (by decide) hA1) X (S.1.1 + 1) 0 (by omega) (by omega) (by omega)
