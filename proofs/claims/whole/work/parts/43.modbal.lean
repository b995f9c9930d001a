/-! 43: the reference: days laid -/
set_option maxRecDepth 100000 in
set_option maxHeartbeats 400000 in
theorem cm_X8_layEntries (l : Launch) (D : va_G) (cy : Nat → ClassId) (B : Nat) (od : Nat → Option Nat) {A : AH} {f : MF} {r : Nat → Int32} {Z : SV} {S : StV} (hm : MdR cy A f r Z S) (hg : Rng Z S) {f0 : Nat → Int64} (hbr : A 237 = some (bX cy f0)) : CM l D cy B od yX8_layEntries cX8_layEntries 3 none rmX8_layEntries [.ref 231] A (fun v A' => v = none ∧ A' = upA A 237 (bX cy (bE S.1 f0 S.1.1))) := by
  intro z
  refine CT.of (by decide) tX8_layEntries okX8_layEntries (Nat.le_of_ble_eq_true rfl) (q0 := tX8_layEntries[0]) rfl rfl ?_
  intro p e s m args below meth c X _
  obtain ⟨hM, hn, hc, hw, hwb, hz⟩ := id hm
  obtain ⟨c0, ⟨c1, c2, c3, c4, c5⟩, cb, ⟨c16, cr⟩, ⟨c35, ce⟩, ⟨c456, ca⟩, c517, cp⟩ := id hc
  obtain ⟨w1, w2, w3, w4, w5⟩ := id hw
  refine g_iconst X rfl (v := nI 0) (by decide) ?_
  refine g_istore_n X rfl (by decide) ?_
  refine G.cast (A2 := upA A 237 (bX cy (bE S.1 f0 0))) (upA_same hbr).symm ?_
  exact lp_X8_layEntries l D cy B od hm hg (Qf := fun v A' => v = none ∧ A' = upA A 237 (bX cy (bE S.1 f0 S.1.1))) ⟨rfl, rfl⟩ X (S.1.1 + 1) 0 _ (by omega) (by omega) (by omega)
set_option maxRecDepth 100000 in
set_option maxHeartbeats 400000 in
theorem cm_X8_layAssets (l : Launch) (D : va_G) (cy : Nat → ClassId) (B : Nat) (od : Nat → Option Nat) {A : AH} {f : MF} {r : Nat → Int32} {Z : SV} {S : StV} (hm : MdR cy A f r Z S) (hg : Rng Z S) {f0 : Nat → Int64} (hbr : A 237 = some (bX cy f0)) : CM l D cy B od yX8_layAssets cX8_layAssets 2 none rmX8_layAssets [.ref 231] A (fun v A' => v = none ∧ A' = upA A 237 (bX cy (bA S.2.2.1 f0 S.2.2.1.1))) := by
  intro z
  refine CT.of (by decide) tX8_layAssets okX8_layAssets (Nat.le_of_ble_eq_true rfl) (q0 := tX8_layAssets[0]) rfl rfl ?_
  intro p e s m args below meth c X _
  obtain ⟨hM, hn, hc, hw, hwb, hz⟩ := id hm
  obtain ⟨c0, ⟨c1, c2, c3, c4, c5⟩, cb, ⟨c16, cr⟩, ⟨c35, ce⟩, ⟨c456, ca⟩, c517, cp⟩ := id hc
  obtain ⟨w1, w2, w3, w4, w5⟩ := id hw
  refine g_iconst X rfl (v := nI 0) (by decide) ?_
  refine g_istore_n X rfl (by decide) ?_
  refine G.cast (A2 := upA A 237 (bX cy (bA S.2.2.1 f0 0))) (upA_same hbr).symm ?_
  exact lp_X8_layAssets l D cy B od hm hg (Qf := fun v A' => v = none ∧ A' = upA A 237 (bX cy (bA S.2.2.1 f0 S.2.2.1.1))) ⟨rfl, rfl⟩ X (S.2.2.1.1 + 1) 0 (by omega) (by omega) (by omega)
set_option maxRecDepth 100000 in
set_option maxHeartbeats 400000 in
theorem lp_X8_layDays2 (l : Launch) (D : va_G) (cy : Nat → ClassId) (B : Nat) (od : Nat → Option Nat) {p : Program} {e : Env} {s : State} {m : MethodId} {args : Array Value} {below : List Frame} {meth : Method} {c : Code} {A : AH} {z : Nat} {f : MF} {r : Nat → Int32} {Z : SV} {S : StV} (hm : MdR cy A f r Z S) (hg : Rng Z S) {f0 : Nat → Int64} {f1 : Nat → Int64} {Qf : Option Value → AH → Prop} (hQ : Qf none (upA A 237 (bX cy (bQ S.2.2.2.1 f1 S.2.2.2.2.1)))) (X : Cx p s m args meth c D cy B od cX8_layDays 2 tX8_layDays RX8 none) : ∀ (k i : Nat), 0 ≤ i → i ≤ S.2.2.2.2.1 → S.2.2.2.2.1 - i < k → G p l e rmX8_layDays s m args below meth c D B od 2 tX8_layDays (FinQ false D B od (fun v A' z' => z' = z ∧ (Qf) v A') (fun _ _ => True) args s below rmX8_layDays.cells rmX8_layDays.slots) 0 0 (upA A 237 (bX cy (bQ S.2.2.2.1 f1 i))) z 18 [some (.ref 231), some (.int (nI i))] [] := by
  intro k
  induction k with
  | zero => intro i _ _ h; omega
  | succ k ih =>
    intro i  hlo hi hk
    have hm := hm.up (k := 237) (x := bX cy (bQ S.2.2.2.1 f1 i)) (by decide) (by decide)
    obtain ⟨hM, hn, hc, hw, hwb, hz⟩ := id hm
    obtain ⟨c0, ⟨c1, c2, c3, c4, c5⟩, cb, ⟨c16, cr⟩, ⟨c35, ce⟩, ⟨c456, ca⟩, c517, cp⟩ := id hc
    obtain ⟨w1, w2, w3, w4, w5⟩ := id hw
    have hbr : upA A 237 (bX cy (bQ S.2.2.2.1 f1 i)) 237 = some (bX cy (bQ S.2.2.2.1 f1 i)) := upA_eq
    refine g_iload_n X rfl rfl ?_
    refine g_aload_n X rfl rfl ?_
    refine g_get X rfl flX8_16 (ci := 8) rfl (by (repeat (first | exact hM | exact upA_eq | refine (upA_ne (by omega)).trans ?_))) rfl ?_
    refine g_sipush X rfl (v := nI 517) (by decide) ?_
    refine g_ialdN X rfl hn (by omega) (by decide) ?_
    rw [c517]
    first | refine g_ic_geN X rfl (by omega) (by omega) (fun h1 => ?_) (fun h1 => ?_) | refine g_icmp_ge X rfl (fun h1 => ?_) (fun h1 => ?_)
    · refine g_vret X rfl rfl (Nat.le_of_ble_eq_true rfl) (Nat.le_of_ble_eq_true rfl) ⟨rfl, ?_⟩
      rw [show i = S.2.2.2.2.1 by omega]; exact hQ
    · obtain ⟨x9, -, x2, x3⟩ := hg.2.2.2 i (by omega)
      refine g_aload_n X rfl rfl ?_
      refine g_get X rfl flX8_25 (ci := 8) rfl (by (repeat (first | exact hM | exact upA_eq | refine (upA_ne (by omega)).trans ?_))) rfl ?_
      refine g_bipush X rfl (v := nI 90) (by decide) ?_
      refine g_iload_n X rfl rfl ?_
      refine g_imul X rfl ?_
      refine g_bipush X rfl (v := nI 90) (by decide) ?_
      refine g_iadd X rfl ?_
      refine g_iconst X rfl (v := nI 1) (by decide) ?_
      refine g_isub X rfl ?_
      rw [pk_mul, nI_add, pk_sub (by omega)]
      refine g_dup2 X rfl rfl rfl ?_
      refine g_laldN X rfl (by (repeat (first | exact hbr | exact upA_eq | refine (upA_ne (by omega)).trans ?_))) (by omega) (by decide) ?_
      refine g_aload_n X rfl rfl ?_
      refine g_get X rfl flX8_16 (ci := 8) rfl (by (repeat (first | exact hM | exact upA_eq | refine (upA_ne (by omega)).trans ?_))) rfl ?_
      refine g_sipush X rfl (v := nI 518) (by decide) ?_
      refine g_iload_n X rfl rfl ?_
      refine g_iadd X rfl ?_
      rw [nI_add]
      refine g_ialdN X rfl hn (by omega) (by decide) ?_
      rw [cp i (by omega)]
      refine g_i2l X rfl ?_
      refine g_lsub X rfl ?_
      refine g_lastN X rfl hbr (by omega) (by decide) ?_
      rw [upA_up]
      refine g_iinc1 X rfl rfl (by decide) ?_
      refine g_goto X rfl ?_
      have K9 := ih (i + 1) (by omega) (by omega) (by omega)
      rw [bQ, show (nI i + nI 1) * nI 90 - nI 1 = nI (90 * i + 90 - 1) by rw [nI_add, pk_mul, pk_sub (by omega), show (i + 1) * 90 - 1 = 90 * i + 90 - 1 by omega], bM_N (by omega), x3, neg_l (by omega), ← Int64.sub_eq_add_neg, ← x3] at K9
      exact K9
set_option maxRecDepth 100000 in
set_option maxHeartbeats 400000 in
theorem lp_X8_layDays (l : Launch) (D : va_G) (cy : Nat → ClassId) (B : Nat) (od : Nat → Option Nat) {p : Program} {e : Env} {s : State} {m : MethodId} {args : Array Value} {below : List Frame} {meth : Method} {c : Code} {A : AH} {z : Nat} {f : MF} {r : Nat → Int32} {Z : SV} {S : StV} (hm : MdR cy A f r Z S) (hg : Rng Z S) {f0 : Nat → Int64}  (X : Cx p s m args meth c D cy B od cX8_layDays 2 tX8_layDays RX8 none) : ∀ (k i : Nat), 0 ≤ i → i ≤ 360 → 360 - i < k → G p l e rmX8_layDays s m args below meth c D B od 2 tX8_layDays (FinQ false D B od (fun v A' z' => z' = z ∧ (fun v A' => v = none ∧ A' = upA A 237 (bX cy (bQ S.2.2.2.1 (bA S.2.2.1 (bE S.1 (bZ f0 360) S.1.1) S.2.2.1.1) S.2.2.2.2.1))) v A') (fun _ _ => True) args s below rmX8_layDays.cells rmX8_layDays.slots) 0 0 (upA A 237 (bX cy (bZ f0 i))) z 2 [some (.ref 231), some (.int (nI i))] [] := by
  intro k
  induction k with
  | zero => intro i _ _ h; omega
  | succ k ih =>
    intro i  hlo hi hk
    have hm8 := hm
    have hm := hm.up (k := 237) (x := bX cy (bZ f0 i)) (by decide) (by decide)
    obtain ⟨hM, hn, hc, hw, hwb, hz⟩ := id hm
    obtain ⟨c0, ⟨c1, c2, c3, c4, c5⟩, cb, ⟨c16, cr⟩, ⟨c35, ce⟩, ⟨c456, ca⟩, c517, cp⟩ := id hc
    obtain ⟨w1, w2, w3, w4, w5⟩ := id hw
    have hbr : upA A 237 (bX cy (bZ f0 i)) 237 = some (bX cy (bZ f0 i)) := upA_eq
    refine g_iload_n X rfl rfl ?_
    refine g_sipush X rfl (v := nI 360) (by decide) ?_
    first | refine g_ic_geN X rfl (by omega) (by omega) (fun h1 => ?_) (fun h1 => ?_) | refine g_icmp_ge X rfl (fun h1 => ?_) (fun h1 => ?_)
    · refine g_aload_n X rfl rfl ?_
      refine g_mV X rfl lcX8_layEntries lmX8_393 lsX8_layEntries (cm_X8_layEntries l D cy B od hm hg hbr) (ci := 8) (by (repeat (first | exact hM | exact upA_eq | refine (upA_ne (by omega)).trans ?_))) rfl rfl rfl (Nat.le_of_ble_eq_true rfl) ⟨⟨by decide, by decide⟩, rfl, rfl⟩ ⟨Nat.le_of_ble_eq_true rfl, Nat.le_of_ble_eq_true rfl⟩ (fun v2 A2 q2 => ?_)
      obtain ⟨rfl, rfl⟩ := q2
      rw [upA_up]
      have hm9 := hm8.up (k := 237) (x := bX cy (bE S.1 (bZ f0 i) S.1.1)) (by decide) (by decide)
      have hM := hm9.1
      have hbr9 : upA A 237 (bX cy (bE S.1 (bZ f0 i) S.1.1)) 237 = some (bX cy (bE S.1 (bZ f0 i) S.1.1)) := upA_eq
      refine g_aload_n X rfl rfl ?_
      refine g_mV X rfl lcX8_layAssets lmX8_396 lsX8_layAssets (cm_X8_layAssets l D cy B od hm9 hg hbr9) (ci := 8) (by (repeat (first | exact hM | exact upA_eq | refine (upA_ne (by omega)).trans ?_))) rfl rfl rfl (Nat.le_of_ble_eq_true rfl) ⟨⟨by decide, by decide⟩, rfl, rfl⟩ ⟨Nat.le_of_ble_eq_true rfl, Nat.le_of_ble_eq_true rfl⟩ (fun v3 A3 q3 => ?_)
      obtain ⟨rfl, rfl⟩ := q3
      rw [upA_up]
      refine g_iconst X rfl (v := nI 0) (by decide) ?_
      refine g_istore_n X rfl (by decide) ?_
      have hi360 : i = 360 := by omega
      subst hi360
      exact lp_X8_layDays2 l D cy B od hm8 hg (f0 := f0) (f1 := bA S.2.2.1 (bE S.1 (bZ f0 360) S.1.1) S.2.2.1.1) (Qf := fun v A' => v = none ∧ A' = upA A 237 (bX cy (bQ S.2.2.2.1 (bA S.2.2.1 (bE S.1 (bZ f0 360) S.1.1) S.2.2.1.1) S.2.2.2.2.1))) ⟨rfl, rfl⟩ X (S.2.2.2.2.1 + 1) 0 (by omega) (by omega) (by omega)
    · refine g_aload_n X rfl rfl ?_
      refine g_get X rfl flX8_25 (ci := 8) rfl (by (repeat (first | exact hM | exact upA_eq | refine (upA_ne (by omega)).trans ?_))) rfl ?_
      refine g_iload_n X rfl rfl ?_
      refine g_lconst X rfl (v := 0) (by decide) ?_
      refine g_lastN X rfl hbr (by omega) (by decide) ?_
      rw [upA_up]
      refine g_iinc1 X rfl rfl (by decide) ?_
      refine g_goto X rfl ?_
      exact ih (i + 1) (by omega) (by omega) (by omega)
set_option maxRecDepth 100000 in
set_option maxHeartbeats 400000 in
theorem cm_X8_layDays (l : Launch) (D : va_G) (cy : Nat → ClassId) (B : Nat) (od : Nat → Option Nat) {A : AH} {f : MF} {r : Nat → Int32} {Z : SV} {S : StV} (hm : MdR cy A f r Z S) (hg : Rng Z S) {f0 : Nat → Int64} (hbr : A 237 = some (bX cy f0)) : CM l D cy B od yX8_layDays cX8_layDays 2 none rmX8_layDays [.ref 231] A (fun v A' => v = none ∧ A' = upA A 237 (bX cy (bQ S.2.2.2.1 (bA S.2.2.1 (bE S.1 (bZ f0 360) S.1.1) S.2.2.1.1) S.2.2.2.2.1))) := by
  intro z
  refine CT.of (by decide) tX8_layDays okX8_layDays (Nat.le_of_ble_eq_true rfl) (q0 := tX8_layDays[0]) rfl rfl ?_
  intro p e s m args below meth c X _
  obtain ⟨hM, hn, hc, hw, hwb, hz⟩ := id hm
  obtain ⟨c0, ⟨c1, c2, c3, c4, c5⟩, cb, ⟨c16, cr⟩, ⟨c35, ce⟩, ⟨c456, ca⟩, c517, cp⟩ := id hc
  obtain ⟨w1, w2, w3, w4, w5⟩ := id hw
  refine g_iconst X rfl (v := nI 0) (by decide) ?_
  refine g_istore_n X rfl (by decide) ?_
  refine G.cast (A2 := upA A 237 (bX cy (bZ f0 0))) (upA_same hbr).symm ?_
  exact lp_X8_layDays l D cy B od hm hg (f0 := f0) X 361 0 (by omega) (by omega) (by omega)
/-- the balance as it is summed up day by day -/
def mDay (h : Nat → Int64) (s : Int64) : Nat → Int64
  | 0 => s
  | n + 1 => mDay h s n + h n
theorem mDay_pre (h : Nat → Int64) (s : Int64) : ∀ n, mDay h s (n + 1) = s + preS h n
  | 0 => rfl
  | n + 1 => by
    rw [mDay, mDay_pre h s n, preS]
    grind
theorem mDay_bal {S : StV} {f0 : Nat → Int64} {d : Nat} (hd : d < 360) : mDay (bQ S.2.2.2.1 (bA S.2.2.1 (bE S.1 (bZ f0 360) S.1.1) S.2.2.1.1) S.2.2.2.2.1) S.2.2.2.2.2.toInt64 (d + 1) = balC S d := by
  rw [mDay_pre, preS_bQ _ _ hd, preS_bA _ _ hd, preS_bE _ _ hd, preS_0 d (fun j hj => bZ_0 f0 360 j (by omega))]
  unfold balC
  grind
/-- the lowest day and its balance, days below n -/
def mLow (h : Nat → Int64) : Nat → Nat × Int64
  | 0 => (0, 0)
  | n + 1 => (lowN h n, h (lowN h n))
theorem mLow_0 {h : Nat → Int64} : mLow h 1 = (0, h 0) := rfl
theorem mLow_1 {h : Nat → Int64} {n : Nat} (hn : n ≠ 0) (hl : h n < (mLow h n).2) : mLow h (n + 1) = (n, h n) := by
  obtain ⟨k, rfl⟩ : ∃ k, n = k + 1 := ⟨n - 1, by omega⟩
  have e : lowN h (k + 1) = k + 1 := by rw [lowN, if_pos (show h (k + 1) < h (lowN h k) from hl)]
  show (lowN h (k + 1), h (lowN h (k + 1))) = _
  rw [e]
theorem mLow_2 {h : Nat → Int64} {n : Nat} (hn : n ≠ 0) (hl : ¬ h n < (mLow h n).2) : mLow h (n + 1) = mLow h n := by
  obtain ⟨k, rfl⟩ : ∃ k, n = k + 1 := ⟨n - 1, by omega⟩
  have e : lowN h (k + 1) = lowN h k := by rw [lowN, if_neg (show ¬ h (k + 1) < h (lowN h k) from hl)]
  show (lowN h (k + 1), h (lowN h (k + 1))) = (lowN h k, h (lowN h k))
  rw [e]
set_option maxRecDepth 100000 in
set_option maxHeartbeats 400000 in
theorem lp_X8_lowestDay (l : Launch) (D : va_G) (cy : Nat → ClassId) (B : Nat) (od : Nat → Option Nat) {p : Program} {e : Env} {s : State} {m : MethodId} {args : Array Value} {below : List Frame} {meth : Method} {c : Code} {A : AH} {z : Nat} {f : MF} {r : Nat → Int32} {Z : SV} {S : StV} (hm : MdR cy A f r Z S) {f0 : Nat → Int64} (hbr : A 237 = some (bX cy (bQ S.2.2.2.1 (bA S.2.2.1 (bE S.1 (bZ f0 360) S.1.1) S.2.2.1.1) S.2.2.2.2.1))) {Qf : Option Value → AH → Prop} (hQ : Qf (some (.int (nI (lowN (balC S) 359)))) A) (X : Cx p s m args meth c D cy B od cX8_lowestDay 7 tX8_lowestDay RX8 (some .int)) : ∀ (k i : Nat), 0 ≤ i → i ≤ 360 → 360 - i < k → G p l e rmX8_lowestDay s m args below meth c D B od 7 tX8_lowestDay (FinQ false D B od (fun v A' z' => z' = z ∧ (Qf) v A') (fun _ _ => True) args s below rmX8_lowestDay.cells rmX8_lowestDay.slots) 0 0 A z 17 [some (.ref 231), some (.int (nI (mLow (balC S) i).1)), some (.long (mLow (balC S) i).2), none, some (.long (mDay (bQ S.2.2.2.1 (bA S.2.2.1 (bE S.1 (bZ f0 360) S.1.1) S.2.2.1.1) S.2.2.2.2.1) S.2.2.2.2.2.toInt64 i)), none, some (.int (nI i))] [] := by
  intro k
  induction k with
  | zero => intro i _ _ h; omega
  | succ k ih =>
    intro i  hlo hi hk
    obtain ⟨hM, hn, hc, hw, hwb, hz⟩ := id hm
    obtain ⟨c0, ⟨c1, c2, c3, c4, c5⟩, cb, ⟨c16, cr⟩, ⟨c35, ce⟩, ⟨c456, ca⟩, c517, cp⟩ := id hc
    obtain ⟨w1, w2, w3, w4, w5⟩ := id hw
    refine g_iload X rfl rfl ?_
    refine g_sipush X rfl (v := nI 360) (by decide) ?_
    first | refine g_ic_geN X rfl (by omega) (by omega) (fun h1 => ?_) (fun h1 => ?_) | refine g_icmp_ge X rfl (fun h1 => ?_) (fun h1 => ?_)
    · refine g_iload_n X rfl rfl ?_
      refine g_iret X rfl rfl (by first | rfl | exact bI_nar _ | decide) (Nat.le_of_ble_eq_true rfl) (Nat.le_of_ble_eq_true rfl) ⟨rfl, ?_⟩
      rw [show i = 360 by omega]; exact hQ
    · refine g_lload X rfl rfl ?_
      refine g_aload_n X rfl rfl ?_
      refine g_get X rfl flX8_25 (ci := 8) rfl (by (repeat (first | exact hM | exact upA_eq | refine (upA_ne (by omega)).trans ?_))) rfl ?_
      refine g_iload X rfl rfl ?_
      refine g_laldN X rfl (by (repeat (first | exact hbr | exact upA_eq | refine (upA_ne (by omega)).trans ?_))) (by omega) (by decide) ?_
      refine g_ladd X rfl ?_
      refine g_lstore X rfl (by decide) ?_
      refine g_iload X rfl rfl ?_
      refine g_if_eq X rfl (fun h2 => ?_) (fun h2 => ?_)
      · rw [nI_eq0 (by omega)] at h2
        refine g_iload X rfl rfl ?_
        refine g_istore_n X rfl (by decide) ?_
        refine g_lload X rfl rfl ?_
        refine g_lstore_n X rfl (by decide) ?_
        refine g_iinc1 X rfl rfl (by decide) ?_
        refine g_goto X rfl ?_
        have K9 := ih (i + 1) (by omega) (by omega) (by omega)
        rw [show mDay (bQ S.2.2.2.1 (bA S.2.2.1 (bE S.1 (bZ f0 360) S.1.1) S.2.2.1.1) S.2.2.2.2.1) S.2.2.2.2.2.toInt64 i + (bQ S.2.2.2.1 (bA S.2.2.1 (bE S.1 (bZ f0 360) S.1.1) S.2.2.1.1) S.2.2.2.2.1) i = balC S i from mDay_bal (f0 := f0) (by omega)] at *
        rw [show mDay (bQ S.2.2.2.1 (bA S.2.2.1 (bE S.1 (bZ f0 360) S.1.1) S.2.2.1.1) S.2.2.2.2.1) S.2.2.2.2.2.toInt64 (i + 1) = balC S i from mDay_bal (by omega)] at K9
        first | (have hi0 : i = 0 := (by assumption); subst hi0; exact K9) | (rw [mLow_1 (by assumption) (Int64.not_le.mp (by assumption))] at K9; exact K9) | (rw [mLow_2 (by assumption) (Int64.not_lt.mpr (by assumption))] at K9; exact K9)
      · rw [nI_eq0 (by omega)] at h2
        refine g_lload X rfl rfl ?_
        refine g_lload_n X rfl rfl ?_
        refine g_l_ge X rfl rfl (fun h3 => ?_) (fun h3 => ?_)
        · refine g_iinc1 X rfl rfl (by decide) ?_
          refine g_goto X rfl ?_
          have K9 := ih (i + 1) (by omega) (by omega) (by omega)
          rw [show mDay (bQ S.2.2.2.1 (bA S.2.2.1 (bE S.1 (bZ f0 360) S.1.1) S.2.2.1.1) S.2.2.2.2.1) S.2.2.2.2.2.toInt64 i + (bQ S.2.2.2.1 (bA S.2.2.1 (bE S.1 (bZ f0 360) S.1.1) S.2.2.1.1) S.2.2.2.2.1) i = balC S i from mDay_bal (f0 := f0) (by omega)] at *
          rw [show mDay (bQ S.2.2.2.1 (bA S.2.2.1 (bE S.1 (bZ f0 360) S.1.1) S.2.2.1.1) S.2.2.2.2.1) S.2.2.2.2.2.toInt64 (i + 1) = balC S i from mDay_bal (by omega)] at K9
          first | (have hi0 : i = 0 := (by assumption); subst hi0; exact K9) | (rw [mLow_1 (by assumption) (Int64.not_le.mp (by assumption))] at K9; exact K9) | (rw [mLow_2 (by assumption) (Int64.not_lt.mpr (by assumption))] at K9; exact K9)
        · refine g_iload X rfl rfl ?_
          refine g_istore_n X rfl (by decide) ?_
          refine g_lload X rfl rfl ?_
          refine g_lstore_n X rfl (by decide) ?_
          refine g_iinc1 X rfl rfl (by decide) ?_
          refine g_goto X rfl ?_
          have K9 := ih (i + 1) (by omega) (by omega) (by omega)
          rw [show mDay (bQ S.2.2.2.1 (bA S.2.2.1 (bE S.1 (bZ f0 360) S.1.1) S.2.2.1.1) S.2.2.2.2.1) S.2.2.2.2.2.toInt64 i + (bQ S.2.2.2.1 (bA S.2.2.1 (bE S.1 (bZ f0 360) S.1.1) S.2.2.1.1) S.2.2.2.2.1) i = balC S i from mDay_bal (f0 := f0) (by omega)] at *
          rw [show mDay (bQ S.2.2.2.1 (bA S.2.2.1 (bE S.1 (bZ f0 360) S.1.1) S.2.2.1.1) S.2.2.2.2.1) S.2.2.2.2.2.toInt64 (i + 1) = balC S i from mDay_bal (by omega)] at K9
          first | (have hi0 : i = 0 := (by assumption); subst hi0; exact K9) | (rw [mLow_1 (by assumption) (Int64.not_le.mp (by assumption))] at K9; exact K9) | (rw [mLow_2 (by assumption) (Int64.not_lt.mpr (by assumption))] at K9; exact K9)
set_option maxRecDepth 100000 in
set_option maxHeartbeats 400000 in
theorem lp_X8_daysBelow (l : Launch) (D : va_G) (cy : Nat → ClassId) (B : Nat) (od : Nat → Option Nat) {p : Program} {e : Env} {s : State} {m : MethodId} {args : Array Value} {below : List Frame} {meth : Method} {c : Code} {A : AH} {z : Nat} {f : MF} {r : Nat → Int32} {Z : SV} {S : StV} (hm : MdR cy A f r Z S) {ba : Int32} {f0 : Nat → Int64} (hbr : A 237 = some (bX cy (bQ S.2.2.2.1 (bA S.2.2.1 (bE S.1 (bZ f0 360) S.1.1) S.2.2.1.1) S.2.2.2.2.1))) {Qf : Option Value → AH → Prop} (hQ : Qf (some (.int (nI (cntN (fun d => decide (balC S d < ba.toInt64)) 360)))) A) (X : Cx p s m args meth c D cy B od cX8_daysBelow 6 tX8_daysBelow RX8 (some .int)) : ∀ (k i : Nat), 0 ≤ i → i ≤ 360 → 360 - i < k → G p l e rmX8_daysBelow s m args below meth c D B od 6 tX8_daysBelow (FinQ false D B od (fun v A' z' => z' = z ∧ (Qf) v A') (fun _ _ => True) args s below rmX8_daysBelow.cells rmX8_daysBelow.slots) 0 0 A z 15 [some (.ref 231), some (.int ba), some (.int (nI (cntN (fun d => decide (balC S d < ba.toInt64)) i))), some (.long (mDay (bQ S.2.2.2.1 (bA S.2.2.1 (bE S.1 (bZ f0 360) S.1.1) S.2.2.1.1) S.2.2.2.2.1) S.2.2.2.2.2.toInt64 i)), none, some (.int (nI i))] [] := by
  intro k
  induction k with
  | zero => intro i _ _ h; omega
  | succ k ih =>
    intro i  hlo hi hk
    obtain ⟨hM, hn, hc, hw, hwb, hz⟩ := id hm
    obtain ⟨c0, ⟨c1, c2, c3, c4, c5⟩, cb, ⟨c16, cr⟩, ⟨c35, ce⟩, ⟨c456, ca⟩, c517, cp⟩ := id hc
    obtain ⟨w1, w2, w3, w4, w5⟩ := id hw
    refine g_iload X rfl rfl ?_
    refine g_sipush X rfl (v := nI 360) (by decide) ?_
    first | refine g_ic_geN X rfl (by omega) (by omega) (fun h1 => ?_) (fun h1 => ?_) | refine g_icmp_ge X rfl (fun h1 => ?_) (fun h1 => ?_)
    · refine g_iload_n X rfl rfl ?_
      refine g_iret X rfl rfl (by first | rfl | exact bI_nar _ | decide) (Nat.le_of_ble_eq_true rfl) (Nat.le_of_ble_eq_true rfl) ⟨rfl, ?_⟩
      rw [show i = 360 by omega]; exact hQ
    · refine g_lload_n X rfl rfl ?_
      refine g_aload_n X rfl rfl ?_
      refine g_get X rfl flX8_25 (ci := 8) rfl (by (repeat (first | exact hM | exact upA_eq | refine (upA_ne (by omega)).trans ?_))) rfl ?_
      refine g_iload X rfl rfl ?_
      refine g_laldN X rfl (by (repeat (first | exact hbr | exact upA_eq | refine (upA_ne (by omega)).trans ?_))) (by omega) (by decide) ?_
      refine g_ladd X rfl ?_
      refine g_lstore_n X rfl (by decide) ?_
      refine g_iload_n X rfl rfl ?_
      refine g_lload_n X rfl rfl ?_
      refine g_iload_n X rfl rfl ?_
      refine g_i2l X rfl ?_
      refine g_l_ge X rfl rfl (fun h2 => ?_) (fun h2 => ?_)
      · refine g_iconst X rfl (v := nI 0) (by decide) ?_
        refine g_iadd X rfl ?_
        refine g_istore_n X rfl (by decide) ?_
        refine g_iinc1 X rfl rfl (by decide) ?_
        refine g_goto X rfl ?_
        have K9 := ih (i + 1) (by omega) (by omega) (by omega)
        rw [show mDay (bQ S.2.2.2.1 (bA S.2.2.1 (bE S.1 (bZ f0 360) S.1.1) S.2.2.1.1) S.2.2.2.2.1) S.2.2.2.2.2.toInt64 i + (bQ S.2.2.2.1 (bA S.2.2.1 (bE S.1 (bZ f0 360) S.1.1) S.2.2.1.1) S.2.2.2.2.1) i = balC S i from mDay_bal (f0 := f0) (by omega)] at *
        rw [show mDay (bQ S.2.2.2.1 (bA S.2.2.1 (bE S.1 (bZ f0 360) S.1.1) S.2.2.1.1) S.2.2.2.2.1) S.2.2.2.2.2.toInt64 (i + 1) = balC S i from mDay_bal (by omega)] at K9
        first | (rw [show nI (cntN (fun d => decide (balC S d < ba.toInt64)) (i + 1)) = nI (cntN (fun d => decide (balC S d < ba.toInt64)) i) + nI 1 by rw [cntN, if_pos (decide_eq_true (Int64.not_le.mp (by assumption))), nI_add]] at K9; exact K9) | (rw [show nI (cntN (fun d => decide (balC S d < ba.toInt64)) (i + 1)) = nI (cntN (fun d => decide (balC S d < ba.toInt64)) i) + nI 0 by rw [cntN, if_neg (by rw [decide_eq_true_eq]; exact Int64.not_lt.mpr (by assumption)), nI_0, Int32.add_zero]] at K9; exact K9)
      · refine g_iconst X rfl (v := nI 1) (by decide) ?_
        refine g_goto X rfl ?_
        refine g_iadd X rfl ?_
        refine g_istore_n X rfl (by decide) ?_
        refine g_iinc1 X rfl rfl (by decide) ?_
        refine g_goto X rfl ?_
        have K9 := ih (i + 1) (by omega) (by omega) (by omega)
        rw [show mDay (bQ S.2.2.2.1 (bA S.2.2.1 (bE S.1 (bZ f0 360) S.1.1) S.2.2.1.1) S.2.2.2.2.1) S.2.2.2.2.2.toInt64 i + (bQ S.2.2.2.1 (bA S.2.2.1 (bE S.1 (bZ f0 360) S.1.1) S.2.2.1.1) S.2.2.2.2.1) i = balC S i from mDay_bal (f0 := f0) (by omega)] at *
        rw [show mDay (bQ S.2.2.2.1 (bA S.2.2.1 (bE S.1 (bZ f0 360) S.1.1) S.2.2.1.1) S.2.2.2.2.1) S.2.2.2.2.2.toInt64 (i + 1) = balC S i from mDay_bal (by omega)] at K9
        first | (rw [show nI (cntN (fun d => decide (balC S d < ba.toInt64)) (i + 1)) = nI (cntN (fun d => decide (balC S d < ba.toInt64)) i) + nI 1 by rw [cntN, if_pos (decide_eq_true (Int64.not_le.mp (by assumption))), nI_add]] at K9; exact K9) | (rw [show nI (cntN (fun d => decide (balC S d < ba.toInt64)) (i + 1)) = nI (cntN (fun d => decide (balC S d < ba.toInt64)) i) + nI 0 by rw [cntN, if_neg (by rw [decide_eq_true_eq]; exact Int64.not_lt.mpr (by assumption)), nI_0, Int32.add_zero]] at K9; exact K9)
set_option maxRecDepth 100000 in
set_option maxHeartbeats 400000 in
theorem cm_X8_lowestDay (l : Launch) (D : va_G) (cy : Nat → ClassId) (B : Nat) (od : Nat → Option Nat) {A : AH} {f : MF} {r : Nat → Int32} {Z : SV} {S : StV} (hm : MdR cy A f r Z S) (hg : Rng Z S) (hgz : RngZ Z) {f0 : Nat → Int64} (hbr0 : A 237 = some (bX cy f0)) : CM l D cy B od yX8_lowestDay cX8_lowestDay 7 (some .int) rmX8_lowestDay [.ref 231] A (fun v A' => v = some (.int (nI (lowN (balC S) 359))) ∧ ∃ g, A' = upA (upA A 231 (moE (nI 0, f.2))) 237 (bX cy g)) := by
  intro z
  refine CT.of (by decide) tX8_lowestDay okX8_lowestDay (Nat.le_of_ble_eq_true rfl) (q0 := tX8_lowestDay[0]) rfl rfl ?_
  intro p e s m args below meth c X _
  have hM := hm.1
  refine g_aload_n X rfl rfl ?_
  refine g_iconst X rfl (v := nI 0) (by decide) ?_
  refine g_put X rfl flX8_41 rfl (ci := 8) rfl (by (repeat (first | exact hM | exact upA_eq | refine (upA_ne (by omega)).trans ?_))) (Nat.le_of_ble_eq_true rfl) (by first | rfl | exact bI_nar _) (by first | rfl | decide) ?_
  refine G.cast (A2 := upA A 231 (moE (nI 0, f.2))) rfl ?_
  obtain ⟨A1, hA1⟩ : ∃ A1, A1 = upA A 231 (moE (nI 0, f.2)) := ⟨_, rfl⟩
  refine G.cast (A2 := A1) hA1.symm ?_
  have hm := hm.thr (nI 0)
  rw [← hA1] at hm
  obtain ⟨hM, hn, hc, hw, hwb, hz⟩ := id hm
  obtain ⟨c0, ⟨c1, c2, c3, c4, c5⟩, cb, ⟨c16, cr⟩, ⟨c35, ce⟩, ⟨c456, ca⟩, c517, cp⟩ := id hc
  obtain ⟨w1, w2, w3, w4, w5⟩ := id hw
  have hbr : A1 237 = some (bX cy f0) := by rw [hA1]; exact (upA_ne (by decide)).trans hbr0
  refine g_aload_n X rfl rfl ?_
  refine g_mV X rfl lcX8_layDays lmX8_399 lsX8_layDays (cm_X8_layDays l D cy B od hm hg hbr) (ci := 8) (by (repeat (first | exact hM | exact upA_eq | refine (upA_ne (by omega)).trans ?_))) rfl rfl rfl (Nat.le_of_ble_eq_true rfl) ⟨⟨by decide, by decide⟩, rfl, rfl⟩ ⟨Nat.le_of_ble_eq_true rfl, Nat.le_of_ble_eq_true rfl⟩ (fun v1 A1 q1 => ?_)
  obtain ⟨rfl, rfl⟩ := q1
  have hm := hm.up (k := 237) (x := bX cy (bQ S.2.2.2.1 (bA S.2.2.1 (bE S.1 (bZ f0 360) S.1.1) S.2.2.1.1) S.2.2.2.2.1)) (by decide) (by decide)
  obtain ⟨hM, hn, hc, hw, hwb, hz⟩ := id hm
  obtain ⟨c0, ⟨c1, c2, c3, c4, c5⟩, cb, ⟨c16, cr⟩, ⟨c35, ce⟩, ⟨c456, ca⟩, c517, cp⟩ := id hc
  obtain ⟨w1, w2, w3, w4, w5⟩ := id hw
  refine g_iconst X rfl (v := nI 0) (by decide) ?_
  refine g_istore_n X rfl (by decide) ?_
  refine g_lconst X rfl (v := 0) (by decide) ?_
  refine g_lstore_n X rfl (by decide) ?_
  refine g_aload_n X rfl rfl ?_
  refine g_get X rfl flX8_16 (ci := 8) rfl (by (repeat (first | exact hM | exact upA_eq | refine (upA_ne (by omega)).trans ?_))) rfl ?_
  refine g_iconst X rfl (v := nI 0) (by decide) ?_
  refine g_ialdN X rfl hn (by omega) (by decide) ?_
  rw [c0]
  refine g_i2l X rfl ?_
  refine g_lstore X rfl (by decide) ?_
  refine g_iconst X rfl (v := nI 0) (by decide) ?_
  refine g_istore X rfl (by decide) ?_
  exact lp_X8_lowestDay l D cy B od hm (f0 := f0) upA_eq (Qf := fun v A' => v = some (.int (nI (lowN (balC S) 359))) ∧ ∃ g, A' = upA (upA A 231 (moE (nI 0, f.2))) 237 (bX cy g)) ⟨rfl, _, by rw [hA1]⟩ X 361 0 (by omega) (by omega) (by omega)
set_option maxRecDepth 100000 in
set_option maxHeartbeats 400000 in
theorem cm_X8_daysBelow (l : Launch) (D : va_G) (cy : Nat → ClassId) (B : Nat) (od : Nat → Option Nat) {A : AH} {f : MF} {r : Nat → Int32} {Z : SV} {S : StV} (hm : MdR cy A f r Z S) (hg : Rng Z S) (hgz : RngZ Z) {ba : Int32} {f0 : Nat → Int64} (hbr0 : A 237 = some (bX cy f0)) : CM l D cy B od yX8_daysBelow cX8_daysBelow 6 (some .int) rmX8_daysBelow [.ref 231, .int ba] A (fun v A' => v = some (.int (nI (cntN (fun d => decide (balC S d < ba.toInt64)) 360))) ∧ ∃ g, A' = upA (upA A 231 (moE (nI 0, f.2))) 237 (bX cy g)) := by
  intro z
  refine CT.of (by decide) tX8_daysBelow okX8_daysBelow (Nat.le_of_ble_eq_true rfl) (q0 := tX8_daysBelow[0]) rfl rfl ?_
  intro p e s m args below meth c X _
  have hM := hm.1
  refine g_aload_n X rfl rfl ?_
  refine g_iconst X rfl (v := nI 0) (by decide) ?_
  refine g_put X rfl flX8_41 rfl (ci := 8) rfl (by (repeat (first | exact hM | exact upA_eq | refine (upA_ne (by omega)).trans ?_))) (Nat.le_of_ble_eq_true rfl) (by first | rfl | exact bI_nar _) (by first | rfl | decide) ?_
  refine G.cast (A2 := upA A 231 (moE (nI 0, f.2))) rfl ?_
  obtain ⟨A1, hA1⟩ : ∃ A1, A1 = upA A 231 (moE (nI 0, f.2)) := ⟨_, rfl⟩
  refine G.cast (A2 := A1) hA1.symm ?_
  have hm := hm.thr (nI 0)
  rw [← hA1] at hm
  obtain ⟨hM, hn, hc, hw, hwb, hz⟩ := id hm
  obtain ⟨c0, ⟨c1, c2, c3, c4, c5⟩, cb, ⟨c16, cr⟩, ⟨c35, ce⟩, ⟨c456, ca⟩, c517, cp⟩ := id hc
  obtain ⟨w1, w2, w3, w4, w5⟩ := id hw
  have hbr : A1 237 = some (bX cy f0) := by rw [hA1]; exact (upA_ne (by decide)).trans hbr0
  refine g_aload_n X rfl rfl ?_
  refine g_mV X rfl lcX8_layDays lmX8_399 lsX8_layDays (cm_X8_layDays l D cy B od hm hg hbr) (ci := 8) (by (repeat (first | exact hM | exact upA_eq | refine (upA_ne (by omega)).trans ?_))) rfl rfl rfl (Nat.le_of_ble_eq_true rfl) ⟨⟨by decide, by decide⟩, rfl, rfl⟩ ⟨Nat.le_of_ble_eq_true rfl, Nat.le_of_ble_eq_true rfl⟩ (fun v1 A1 q1 => ?_)
  obtain ⟨rfl, rfl⟩ := q1
  have hm := hm.up (k := 237) (x := bX cy (bQ S.2.2.2.1 (bA S.2.2.1 (bE S.1 (bZ f0 360) S.1.1) S.2.2.1.1) S.2.2.2.2.1)) (by decide) (by decide)
  obtain ⟨hM, hn, hc, hw, hwb, hz⟩ := id hm
  obtain ⟨c0, ⟨c1, c2, c3, c4, c5⟩, cb, ⟨c16, cr⟩, ⟨c35, ce⟩, ⟨c456, ca⟩, c517, cp⟩ := id hc
  obtain ⟨w1, w2, w3, w4, w5⟩ := id hw
  refine g_iconst X rfl (v := nI 0) (by decide) ?_
  refine g_istore_n X rfl (by decide) ?_
  refine g_aload_n X rfl rfl ?_
  refine g_get X rfl flX8_16 (ci := 8) rfl (by (repeat (first | exact hM | exact upA_eq | refine (upA_ne (by omega)).trans ?_))) rfl ?_
  refine g_iconst X rfl (v := nI 0) (by decide) ?_
  refine g_ialdN X rfl hn (by omega) (by decide) ?_
  rw [c0]
  refine g_i2l X rfl ?_
  refine g_lstore_n X rfl (by decide) ?_
  refine g_iconst X rfl (v := nI 0) (by decide) ?_
  refine g_istore X rfl (by decide) ?_
  exact lp_X8_daysBelow l D cy B od hm (f0 := f0) upA_eq (Qf := fun v A' => v = some (.int (nI (cntN (fun d => decide (balC S d < ba.toInt64)) 360))) ∧ ∃ g, A' = upA (upA A 231 (moE (nI 0, f.2))) 237 (bX cy g)) ⟨rfl, _, by rw [hA1]⟩ X 361 0 (by omega) (by omega) (by omega)
