/-! 33: the reference: its row, and what is read of it -/
/-- the reference's fields: thrown; length, at, from, kind, wrong, number; entries, told, isSaved -/
abbrev MF : Type := Int32 × (Nat × Int32 × Int32 × Int32 × Int32 × Int64) × Nat × Int32 × Int32
abbrev moE (f : MF) : va_E := .inr (8, [.int f.1, .ref 232, .int (nI f.2.1.1), .int f.2.1.2.1, .int f.2.1.2.2.1, .int f.2.1.2.2.2.1, .int f.2.1.2.2.2.2.1, .long f.2.1.2.2.2.2.2, .ref 233, .ref 234, .ref 235, .ref 236, .int (nI f.2.2.1), .int f.2.2.2.1, .int f.2.2.2.2, .ref 237])
/-- the row r says what the setup Z and the state S say -/
def CplR (Z : SV) (S : StV) (r : Nat → Int32) : Prop := r 0 = S.2.2.2.2.2 ∧ (r 1 = Z.2.1 1 ∧ r 2 = Z.2.1 2 ∧ r 3 = Z.2.1 3 ∧ r 4 = Z.2.1 4 ∧ r 5 = nI Z.1) ∧ (∀ k, k < Z.1 → r (6 + 2 * k) = Z.2.2 0 k ∧ r (7 + 2 * k) = Z.2.2 1 k) ∧ (r 16 = nI S.2.1.1 ∧ ∀ k, k < S.2.1.1 → ∀ q, q < 3 → r (17 + 3 * k + q) = S.2.1.2 q k) ∧ (r 35 = nI S.1.1 ∧ ∀ k, k < S.1.1 → ∀ q, q < 7 → r (36 + 7 * k + q) = S.1.2 q k) ∧ (r 456 = nI S.2.2.1.1 ∧ ∀ k, k < S.2.2.1.1 → ∀ q, q < 5 → r (457 + 5 * k + q) = S.2.2.1.2 (if q < 3 then q else q + 1) k) ∧ r 517 = nI S.2.2.2.2.1 ∧ ∀ q, q < S.2.2.2.2.1 → r (518 + q) = S.2.2.2.1 q
def MdR (cy : Nat → ClassId) (A : AH) (f : MF) (r : Nat → Int32) (Z : SV) (S : StV) : Prop := A 231 = some (moE f) ∧ A 234 = some (.inl (cy 0, 522, .inl r)) ∧ CplR Z S r ∧ WfS S ∧ WfB S ∧ Z.1 ≤ 5
theorem in64 {x lo hi : Int32} {a b : Int64} (ha : a = lo.toInt64) (hb : b = hi.toInt64) : (decide (a ≤ x.toInt64) && decide (x.toInt64 ≤ b)) = within9 x lo hi := by
  subst ha; subst hb
  unfold within9
  rw [decide_eq_decide.mpr Int32.toInt64_le, decide_eq_decide.mpr Int32.toInt64_le]
theorem inIx {x : Int32} {n : Nat} (hn : n < 1000) : (decide ((0 : Int64) ≤ x.toInt64) && decide (x.toInt64 ≤ (nI n - nI 1).toInt64)) = (decide (0 ≤ x) && decide (x < nI n)) := by
  have h1 : ∀ a b : Int32, decide (a.toInt64 ≤ b.toInt64) = decide (a ≤ b) := fun a b => decide_eq_decide.mpr Int32.toInt64_le
  rw [show (0 : Int64) = (0 : Int32).toInt64 by decide, h1, h1]
  congr 1
  rw [decide_eq_decide]
  rcases Nat.eq_zero_or_pos n with h | h
  · subst h
    rw [show nI 0 - nI 1 = -1 by decide, Int32.le_iff_toInt_le, Int32.lt_iff_toInt_lt, show (-1 : Int32).toInt = -1 by decide, show (nI 0).toInt = 0 by decide]
    omega
  · rw [pk_sub h, Int32.le_iff_toInt_le, Int32.lt_iff_toInt_lt, nI_toInt (by omega), nI_toInt (by omega)]
    omega
section CORE33
variable {p : Program} {l : Launch} {e : Env} {R : Room} {s : State} {m : MethodId} {args : Array Value} {below : List Frame} {meth : Method} {c : Code}
variable {D : va_G} {cy : Nat → ClassId} {B : Nat} {od : Nat → Option Nat} {cc : ByteArray} {nL : Nat} {tab : List PT} {own : String} {ret : Option FieldType}
variable {F : State → Prop} {cells slots : Nat} {A : AH} {z i pc len nx tg : Nat} {lv : List (Option Value)} {st : List Value}
end CORE33
set_option maxRecDepth 100000 in
set_option maxHeartbeats 400000 in
theorem cr_X8_in (l : Launch) (D : va_G) (cy : Nat → ClassId) (B : Nat) (od : Nat → Option Nat) {A : AH} {v lo hi : Int64} : CR l D cy B od yX8_in cX8_in 6 (some .boolean) rmX8_in [.long v, .long lo, .long hi] A (.int (bI (decide (lo ≤ v) && decide (v ≤ hi)))) := by
  intro z
  refine CT.of (by decide) tX8_in okX8_in (Nat.le_of_ble_eq_true rfl) (q0 := tX8_in[0]) rfl rfl ?_
  intro p e s m args below meth c X _
  refine g_lload_n X rfl rfl ?_
  refine g_lload_n X rfl rfl ?_
  refine g_l_lt X rfl rfl (fun h1 => ?_) (fun h1 => ?_)
  · refine g_iconst X rfl (v := nI 0) (by decide) ?_
    refine g_iret X rfl rfl (by first | rfl | exact bI_nar _ | decide) (Nat.le_refl _) (Nat.le_refl _) ⟨?_, rfl, rfl⟩
    first | exact bR1 (by rw [Bool.and_eq_true, decide_eq_true_eq, decide_eq_true_eq]; exact ⟨by first | assumption | exact Int64.not_lt.mp (by assumption), by first | assumption | exact Int64.not_lt.mp (by assumption)⟩) | exact bR0 (by rw [← Bool.not_eq_true, Bool.and_eq_true, decide_eq_true_eq, decide_eq_true_eq]; first | exact fun q => absurd q.1 (by first | assumption | exact Int64.not_le.mpr (by assumption)) | exact fun q => absurd q.2 (by first | assumption | exact Int64.not_le.mpr (by assumption)))
  · refine g_lload_n X rfl rfl ?_
    refine g_lload X rfl rfl ?_
    refine g_l_gt X rfl rfl (fun h2 => ?_) (fun h2 => ?_)
    · refine g_iconst X rfl (v := nI 0) (by decide) ?_
      refine g_iret X rfl rfl (by first | rfl | exact bI_nar _ | decide) (Nat.le_refl _) (Nat.le_refl _) ⟨?_, rfl, rfl⟩
      first | exact bR1 (by rw [Bool.and_eq_true, decide_eq_true_eq, decide_eq_true_eq]; exact ⟨by first | assumption | exact Int64.not_lt.mp (by assumption), by first | assumption | exact Int64.not_lt.mp (by assumption)⟩) | exact bR0 (by rw [← Bool.not_eq_true, Bool.and_eq_true, decide_eq_true_eq, decide_eq_true_eq]; first | exact fun q => absurd q.1 (by first | assumption | exact Int64.not_le.mpr (by assumption)) | exact fun q => absurd q.2 (by first | assumption | exact Int64.not_le.mpr (by assumption)))
    · refine g_iconst X rfl (v := nI 1) (by decide) ?_
      refine g_goto X rfl ?_
      refine g_iret X rfl rfl (by first | rfl | exact bI_nar _ | decide) (Nat.le_refl _) (Nat.le_refl _) ⟨?_, rfl, rfl⟩
      first | exact bR1 (by rw [Bool.and_eq_true, decide_eq_true_eq, decide_eq_true_eq]; exact ⟨by first | assumption | exact Int64.not_lt.mp (by assumption), by first | assumption | exact Int64.not_lt.mp (by assumption)⟩) | exact bR0 (by rw [← Bool.not_eq_true, Bool.and_eq_true, decide_eq_true_eq, decide_eq_true_eq]; first | exact fun q => absurd q.1 (by first | assumption | exact Int64.not_le.mpr (by assumption)) | exact fun q => absurd q.2 (by first | assumption | exact Int64.not_le.mpr (by assumption)))
set_option maxRecDepth 100000 in
set_option maxHeartbeats 400000 in
theorem cr_X8_isDay (l : Launch) (D : va_G) (cy : Nat → ClassId) (B : Nat) (od : Nat → Option Nat) {A : AH} {x : Int32} : CR l D cy B od yX8_isDay cX8_isDay 1 (some .boolean) rmX8_isDay [.int x] A (.int (bI (within9 x (nI 0) (nI 359)))) := by
  intro z
  refine CT.of (by decide) tX8_isDay okX8_isDay (Nat.le_of_ble_eq_true rfl) (q0 := tX8_isDay[0]) rfl rfl ?_
  intro p e s m args below meth c X _
  refine g_iload_n X rfl rfl ?_
  refine g_i2l X rfl ?_
  refine g_lconst X rfl (v := 0) (by decide) ?_
  refine g_ldc2 X rfl kcX8_174 ?_
  refine g_rS X rfl lcX8_in lmX8_56 stX8_in (cr_X8_in l D cy B od) rfl rfl (Nat.le_of_ble_eq_true rfl) ⟨⟨by decide, by decide⟩, rfl, rfl⟩ ⟨Nat.le_of_ble_eq_true rfl, Nat.le_of_ble_eq_true rfl⟩ ?_
  refine g_iret X rfl rfl (by first | rfl | exact bI_nar _ | decide) (Nat.le_refl _) (Nat.le_refl _) ⟨?_, rfl, rfl⟩
  rw [in64 (lo := nI 0) (hi := nI 359) (by decide) (by decide)]
set_option maxRecDepth 100000 in
set_option maxHeartbeats 400000 in
theorem cr_X8_isDayOrNone (l : Launch) (D : va_G) (cy : Nat → ClassId) (B : Nat) (od : Nat → Option Nat) {A : AH} {x : Int32} : CR l D cy B od yX8_isDayOrNone cX8_isDayOrNone 1 (some .boolean) rmX8_isDayOrNone [.int x] A (.int (bI (within9 x (-1) (nI 359)))) := by
  intro z
  refine CT.of (by decide) tX8_isDayOrNone okX8_isDayOrNone (Nat.le_of_ble_eq_true rfl) (q0 := tX8_isDayOrNone[0]) rfl rfl ?_
  intro p e s m args below meth c X _
  refine g_iload_n X rfl rfl ?_
  refine g_i2l X rfl ?_
  refine g_ldc2 X rfl kcX8_176 ?_
  refine g_ldc2 X rfl kcX8_174 ?_
  refine g_rS X rfl lcX8_in lmX8_56 stX8_in (cr_X8_in l D cy B od) rfl rfl (Nat.le_of_ble_eq_true rfl) ⟨⟨by decide, by decide⟩, rfl, rfl⟩ ⟨Nat.le_of_ble_eq_true rfl, Nat.le_of_ble_eq_true rfl⟩ ?_
  refine g_iret X rfl rfl (by first | rfl | exact bI_nar _ | decide) (Nat.le_refl _) (Nat.le_refl _) ⟨?_, rfl, rfl⟩
  rw [in64 (lo := -1) (hi := nI 359) (by decide) (by decide)]
set_option maxRecDepth 100000 in
set_option maxHeartbeats 400000 in
theorem cr_X8_isMonth (l : Launch) (D : va_G) (cy : Nat → ClassId) (B : Nat) (od : Nat → Option Nat) {A : AH} {x : Int32} : CR l D cy B od yX8_isMonth cX8_isMonth 1 (some .boolean) rmX8_isMonth [.int x] A (.int (bI (within9 x (nI 0) (nI 11)))) := by
  intro z
  refine CT.of (by decide) tX8_isMonth okX8_isMonth (Nat.le_of_ble_eq_true rfl) (q0 := tX8_isMonth[0]) rfl rfl ?_
  intro p e s m args below meth c X _
  refine g_iload_n X rfl rfl ?_
  refine g_i2l X rfl ?_
  refine g_lconst X rfl (v := 0) (by decide) ?_
  refine g_ldc2 X rfl kcX8_178 ?_
  refine g_rS X rfl lcX8_in lmX8_56 stX8_in (cr_X8_in l D cy B od) rfl rfl (Nat.le_of_ble_eq_true rfl) ⟨⟨by decide, by decide⟩, rfl, rfl⟩ ⟨Nat.le_of_ble_eq_true rfl, Nat.le_of_ble_eq_true rfl⟩ ?_
  refine g_iret X rfl rfl (by first | rfl | exact bI_nar _ | decide) (Nat.le_refl _) (Nat.le_refl _) ⟨?_, rfl, rfl⟩
  rw [in64 (lo := nI 0) (hi := nI 11) (by decide) (by decide)]
set_option maxRecDepth 100000 in
set_option maxHeartbeats 400000 in
theorem cr_X8_isQuarter (l : Launch) (D : va_G) (cy : Nat → ClassId) (B : Nat) (od : Nat → Option Nat) {A : AH} {x : Int32} : CR l D cy B od yX8_isQuarter cX8_isQuarter 1 (some .boolean) rmX8_isQuarter [.int x] A (.int (bI (within9 x (nI 0) (nI 3)))) := by
  intro z
  refine CT.of (by decide) tX8_isQuarter okX8_isQuarter (Nat.le_of_ble_eq_true rfl) (q0 := tX8_isQuarter[0]) rfl rfl ?_
  intro p e s m args below meth c X _
  refine g_iload_n X rfl rfl ?_
  refine g_i2l X rfl ?_
  refine g_lconst X rfl (v := 0) (by decide) ?_
  refine g_ldc2 X rfl kcX8_180 ?_
  refine g_rS X rfl lcX8_in lmX8_56 stX8_in (cr_X8_in l D cy B od) rfl rfl (Nat.le_of_ble_eq_true rfl) ⟨⟨by decide, by decide⟩, rfl, rfl⟩ ⟨Nat.le_of_ble_eq_true rfl, Nat.le_of_ble_eq_true rfl⟩ ?_
  refine g_iret X rfl rfl (by first | rfl | exact bI_nar _ | decide) (Nat.le_refl _) (Nat.le_refl _) ⟨?_, rfl, rfl⟩
  rw [in64 (lo := nI 0) (hi := nI 3) (by decide) (by decide)]
set_option maxRecDepth 100000 in
set_option maxHeartbeats 400000 in
theorem cr_X8_isKind (l : Launch) (D : va_G) (cy : Nat → ClassId) (B : Nat) (od : Nat → Option Nat) {A : AH} {x : Int32} : CR l D cy B od yX8_isKind cX8_isKind 1 (some .boolean) rmX8_isKind [.int x] A (.int (bI (within9 x (nI 0) (nI 3)))) := by
  intro z
  refine CT.of (by decide) tX8_isKind okX8_isKind (Nat.le_of_ble_eq_true rfl) (q0 := tX8_isKind[0]) rfl rfl ?_
  intro p e s m args below meth c X _
  refine g_iload_n X rfl rfl ?_
  refine g_i2l X rfl ?_
  refine g_lconst X rfl (v := 0) (by decide) ?_
  refine g_ldc2 X rfl kcX8_180 ?_
  refine g_rS X rfl lcX8_in lmX8_56 stX8_in (cr_X8_in l D cy B od) rfl rfl (Nat.le_of_ble_eq_true rfl) ⟨⟨by decide, by decide⟩, rfl, rfl⟩ ⟨Nat.le_of_ble_eq_true rfl, Nat.le_of_ble_eq_true rfl⟩ ?_
  refine g_iret X rfl rfl (by first | rfl | exact bI_nar _ | decide) (Nat.le_refl _) (Nat.le_refl _) ⟨?_, rfl, rfl⟩
  rw [in64 (lo := nI 0) (hi := nI 3) (by decide) (by decide)]
set_option maxRecDepth 100000 in
set_option maxHeartbeats 400000 in
theorem cr_X8_isAmount (l : Launch) (D : va_G) (cy : Nat → ClassId) (B : Nat) (od : Nat → Option Nat) {A : AH} {x : Int32} : CR l D cy B od yX8_isAmount cX8_isAmount 1 (some .boolean) rmX8_isAmount [.int x] A (.int (bI (within9 x (nI 1) (nI 10000000)))) := by
  intro z
  refine CT.of (by decide) tX8_isAmount okX8_isAmount (Nat.le_of_ble_eq_true rfl) (q0 := tX8_isAmount[0]) rfl rfl ?_
  intro p e s m args below meth c X _
  refine g_iload_n X rfl rfl ?_
  refine g_i2l X rfl ?_
  refine g_lconst X rfl (v := 1) (by decide) ?_
  refine g_ldc2 X rfl kcX8_182 ?_
  refine g_rS X rfl lcX8_in lmX8_56 stX8_in (cr_X8_in l D cy B od) rfl rfl (Nat.le_of_ble_eq_true rfl) ⟨⟨by decide, by decide⟩, rfl, rfl⟩ ⟨Nat.le_of_ble_eq_true rfl, Nat.le_of_ble_eq_true rfl⟩ ?_
  refine g_iret X rfl rfl (by first | rfl | exact bI_nar _ | decide) (Nat.le_refl _) (Nat.le_refl _) ⟨?_, rfl, rfl⟩
  rw [in64 (lo := nI 1) (hi := nI 10000000) (by decide) (by decide)]
set_option maxRecDepth 100000 in
set_option maxHeartbeats 400000 in
theorem cr_X8_entryPart (l : Launch) (D : va_G) (cy : Nat → ClassId) (B : Nat) (od : Nat → Option Nat) {A : AH} {f : MF} {r : Nat → Int32} {Z : SV} {S : StV} (hm : MdR cy A f r Z S) {k q : Nat} (hk : k < S.1.1) (hq : q < 7) : CR l D cy B od yX8_entryPart cX8_entryPart 3 (some .int) rmX8_entryPart [.ref 231, .int (nI k), .int (nI q)] A (.int (S.1.2 q k)) := by
  intro z
  refine CT.of (by decide) tX8_entryPart okX8_entryPart (Nat.le_of_ble_eq_true rfl) (q0 := tX8_entryPart[0]) rfl rfl ?_
  intro p e s m args below meth c X _
  obtain ⟨hM, hn, hc, hw, hwb, hz⟩ := id hm
  obtain ⟨c0, ⟨c1, c2, c3, c4, c5⟩, cb, ⟨c16, cr⟩, ⟨c35, ce⟩, ⟨c456, ca⟩, c517, cp⟩ := id hc
  obtain ⟨w1, w2, w3, w4, w5⟩ := id hw
  refine g_aload_n X rfl rfl ?_
  refine g_get X rfl flX8_16 (ci := 8) rfl hM rfl ?_
  refine g_bipush X rfl (v := nI 36) (by decide) ?_
  refine g_bipush X rfl (v := nI 7) (by decide) ?_
  refine g_iload_n X rfl rfl ?_
  refine g_imul X rfl ?_
  refine g_iadd X rfl ?_
  refine g_iload_n X rfl rfl ?_
  refine g_iadd X rfl ?_
  rw [pk_mul, nI_add, nI_add]
  refine g_ialdN X rfl hn (by omega) (by decide) ?_
  refine g_iret X rfl rfl (by first | rfl | exact bI_nar _ | decide) (Nat.le_refl _) (Nat.le_refl _) ⟨?_, rfl, rfl⟩
  rw [ce k hk q hq]
set_option maxRecDepth 100000 in
set_option maxHeartbeats 400000 in
theorem cr_X8_roomPart (l : Launch) (D : va_G) (cy : Nat → ClassId) (B : Nat) (od : Nat → Option Nat) {A : AH} {f : MF} {r : Nat → Int32} {Z : SV} {S : StV} (hm : MdR cy A f r Z S) {k q : Nat} (hk : k < S.2.1.1) (hq : q < 3) : CR l D cy B od yX8_roomPart cX8_roomPart 3 (some .int) rmX8_roomPart [.ref 231, .int (nI k), .int (nI q)] A (.int (S.2.1.2 q k)) := by
  intro z
  refine CT.of (by decide) tX8_roomPart okX8_roomPart (Nat.le_of_ble_eq_true rfl) (q0 := tX8_roomPart[0]) rfl rfl ?_
  intro p e s m args below meth c X _
  obtain ⟨hM, hn, hc, hw, hwb, hz⟩ := id hm
  obtain ⟨c0, ⟨c1, c2, c3, c4, c5⟩, cb, ⟨c16, cr⟩, ⟨c35, ce⟩, ⟨c456, ca⟩, c517, cp⟩ := id hc
  obtain ⟨w1, w2, w3, w4, w5⟩ := id hw
  refine g_aload_n X rfl rfl ?_
  refine g_get X rfl flX8_16 (ci := 8) rfl hM rfl ?_
  refine g_bipush X rfl (v := nI 17) (by decide) ?_
  refine g_iconst X rfl (v := nI 3) (by decide) ?_
  refine g_iload_n X rfl rfl ?_
  refine g_imul X rfl ?_
  refine g_iadd X rfl ?_
  refine g_iload_n X rfl rfl ?_
  refine g_iadd X rfl ?_
  rw [pk_mul, nI_add, nI_add]
  refine g_ialdN X rfl hn (by omega) (by decide) ?_
  refine g_iret X rfl rfl (by first | rfl | exact bI_nar _ | decide) (Nat.le_refl _) (Nat.le_refl _) ⟨?_, rfl, rfl⟩
  rw [cr k hk q hq]
set_option maxRecDepth 100000 in
set_option maxHeartbeats 400000 in
theorem cr_X8_assetPart (l : Launch) (D : va_G) (cy : Nat → ClassId) (B : Nat) (od : Nat → Option Nat) {A : AH} {f : MF} {r : Nat → Int32} {Z : SV} {S : StV} (hm : MdR cy A f r Z S) {k q q2 : Nat} (hk : k < S.2.2.1.1) (hq : q < 5) (hq2 : q2 = if q < 3 then q else q + 1) : CR l D cy B od yX8_assetPart cX8_assetPart 3 (some .int) rmX8_assetPart [.ref 231, .int (nI k), .int (nI q)] A (.int (S.2.2.1.2 q2 k)) := by
  intro z
  refine CT.of (by decide) tX8_assetPart okX8_assetPart (Nat.le_of_ble_eq_true rfl) (q0 := tX8_assetPart[0]) rfl rfl ?_
  intro p e s m args below meth c X _
  obtain ⟨hM, hn, hc, hw, hwb, hz⟩ := id hm
  obtain ⟨c0, ⟨c1, c2, c3, c4, c5⟩, cb, ⟨c16, cr⟩, ⟨c35, ce⟩, ⟨c456, ca⟩, c517, cp⟩ := id hc
  obtain ⟨w1, w2, w3, w4, w5⟩ := id hw
  refine g_aload_n X rfl rfl ?_
  refine g_get X rfl flX8_16 (ci := 8) rfl hM rfl ?_
  refine g_sipush X rfl (v := nI 457) (by decide) ?_
  refine g_iconst X rfl (v := nI 5) (by decide) ?_
  refine g_iload_n X rfl rfl ?_
  refine g_imul X rfl ?_
  refine g_iadd X rfl ?_
  refine g_iload_n X rfl rfl ?_
  refine g_iadd X rfl ?_
  rw [pk_mul, nI_add, nI_add]
  refine g_ialdN X rfl hn (by omega) (by decide) ?_
  refine g_iret X rfl rfl (by first | rfl | exact bI_nar _ | decide) (Nat.le_refl _) (Nat.le_refl _) ⟨?_, rfl, rfl⟩
  rw [ca k hk q hq, hq2]
set_option maxRecDepth 100000 in
set_option maxHeartbeats 400000 in
theorem cr_X8_isEntry (l : Launch) (D : va_G) (cy : Nat → ClassId) (B : Nat) (od : Nat → Option Nat) {A : AH} {f : MF} {r : Nat → Int32} {Z : SV} {S : StV} (hm : MdR cy A f r Z S) {x : Int32} : CR l D cy B od yX8_isEntry cX8_isEntry 2 (some .boolean) rmX8_isEntry [.ref 231, .int x] A (.int (bI (decide (0 ≤ x) && decide (x < nI S.1.1)))) := by
  intro z
  refine CT.of (by decide) tX8_isEntry okX8_isEntry (Nat.le_of_ble_eq_true rfl) (q0 := tX8_isEntry[0]) rfl rfl ?_
  intro p e s m args below meth c X _
  obtain ⟨hM, hn, hc, hw, hwb, hz⟩ := id hm
  obtain ⟨c0, ⟨c1, c2, c3, c4, c5⟩, cb, ⟨c16, cr⟩, ⟨c35, ce⟩, ⟨c456, ca⟩, c517, cp⟩ := id hc
  obtain ⟨w1, w2, w3, w4, w5⟩ := id hw
  refine g_iload_n X rfl rfl ?_
  refine g_i2l X rfl ?_
  refine g_lconst X rfl (v := 0) (by decide) ?_
  refine g_aload_n X rfl rfl ?_
  refine g_get X rfl flX8_16 (ci := 8) rfl hM rfl ?_
  refine g_bipush X rfl (v := nI 35) (by decide) ?_
  refine g_ialdN X rfl hn (by omega) (by decide) ?_
  rw [c35]
  refine g_iconst X rfl (v := nI 1) (by decide) ?_
  refine g_isub X rfl ?_
  refine g_i2l X rfl ?_
  refine g_rS X rfl lcX8_in lmX8_56 stX8_in (cr_X8_in l D cy B od) rfl rfl (Nat.le_of_ble_eq_true rfl) ⟨⟨by decide, by decide⟩, rfl, rfl⟩ ⟨Nat.le_of_ble_eq_true rfl, Nat.le_of_ble_eq_true rfl⟩ ?_
  refine g_iret X rfl rfl (by first | rfl | exact bI_nar _ | decide) (Nat.le_refl _) (Nat.le_refl _) ⟨?_, rfl, rfl⟩
  rw [inIx (by omega)]
set_option maxRecDepth 100000 in
set_option maxHeartbeats 400000 in
theorem cr_X8_isRoom (l : Launch) (D : va_G) (cy : Nat → ClassId) (B : Nat) (od : Nat → Option Nat) {A : AH} {f : MF} {r : Nat → Int32} {Z : SV} {S : StV} (hm : MdR cy A f r Z S) {x : Int32} : CR l D cy B od yX8_isRoom cX8_isRoom 2 (some .boolean) rmX8_isRoom [.ref 231, .int x] A (.int (bI (decide (0 ≤ x) && decide (x < nI S.2.1.1)))) := by
  intro z
  refine CT.of (by decide) tX8_isRoom okX8_isRoom (Nat.le_of_ble_eq_true rfl) (q0 := tX8_isRoom[0]) rfl rfl ?_
  intro p e s m args below meth c X _
  obtain ⟨hM, hn, hc, hw, hwb, hz⟩ := id hm
  obtain ⟨c0, ⟨c1, c2, c3, c4, c5⟩, cb, ⟨c16, cr⟩, ⟨c35, ce⟩, ⟨c456, ca⟩, c517, cp⟩ := id hc
  obtain ⟨w1, w2, w3, w4, w5⟩ := id hw
  refine g_iload_n X rfl rfl ?_
  refine g_i2l X rfl ?_
  refine g_lconst X rfl (v := 0) (by decide) ?_
  refine g_aload_n X rfl rfl ?_
  refine g_get X rfl flX8_16 (ci := 8) rfl hM rfl ?_
  refine g_bipush X rfl (v := nI 16) (by decide) ?_
  refine g_ialdN X rfl hn (by omega) (by decide) ?_
  rw [c16]
  refine g_iconst X rfl (v := nI 1) (by decide) ?_
  refine g_isub X rfl ?_
  refine g_i2l X rfl ?_
  refine g_rS X rfl lcX8_in lmX8_56 stX8_in (cr_X8_in l D cy B od) rfl rfl (Nat.le_of_ble_eq_true rfl) ⟨⟨by decide, by decide⟩, rfl, rfl⟩ ⟨Nat.le_of_ble_eq_true rfl, Nat.le_of_ble_eq_true rfl⟩ ?_
  refine g_iret X rfl rfl (by first | rfl | exact bI_nar _ | decide) (Nat.le_refl _) (Nat.le_refl _) ⟨?_, rfl, rfl⟩
  rw [inIx (by omega)]
set_option maxRecDepth 100000 in
set_option maxHeartbeats 400000 in
theorem cr_X8_isAsset (l : Launch) (D : va_G) (cy : Nat → ClassId) (B : Nat) (od : Nat → Option Nat) {A : AH} {f : MF} {r : Nat → Int32} {Z : SV} {S : StV} (hm : MdR cy A f r Z S) {x : Int32} : CR l D cy B od yX8_isAsset cX8_isAsset 2 (some .boolean) rmX8_isAsset [.ref 231, .int x] A (.int (bI (decide (0 ≤ x) && decide (x < nI S.2.2.1.1)))) := by
  intro z
  refine CT.of (by decide) tX8_isAsset okX8_isAsset (Nat.le_of_ble_eq_true rfl) (q0 := tX8_isAsset[0]) rfl rfl ?_
  intro p e s m args below meth c X _
  obtain ⟨hM, hn, hc, hw, hwb, hz⟩ := id hm
  obtain ⟨c0, ⟨c1, c2, c3, c4, c5⟩, cb, ⟨c16, cr⟩, ⟨c35, ce⟩, ⟨c456, ca⟩, c517, cp⟩ := id hc
  obtain ⟨w1, w2, w3, w4, w5⟩ := id hw
  refine g_iload_n X rfl rfl ?_
  refine g_i2l X rfl ?_
  refine g_lconst X rfl (v := 0) (by decide) ?_
  refine g_aload_n X rfl rfl ?_
  refine g_get X rfl flX8_16 (ci := 8) rfl hM rfl ?_
  refine g_sipush X rfl (v := nI 456) (by decide) ?_
  refine g_ialdN X rfl hn (by omega) (by decide) ?_
  rw [c456]
  refine g_iconst X rfl (v := nI 1) (by decide) ?_
  refine g_isub X rfl ?_
  refine g_i2l X rfl ?_
  refine g_rS X rfl lcX8_in lmX8_56 stX8_in (cr_X8_in l D cy B od) rfl rfl (Nat.le_of_ble_eq_true rfl) ⟨⟨by decide, by decide⟩, rfl, rfl⟩ ⟨Nat.le_of_ble_eq_true rfl, Nat.le_of_ble_eq_true rfl⟩ ?_
  refine g_iret X rfl rfl (by first | rfl | exact bI_nar _ | decide) (Nat.le_refl _) (Nat.le_refl _) ⟨?_, rfl, rfl⟩
  rw [inIx (by omega)]
set_option maxRecDepth 100000 in
set_option maxHeartbeats 400000 in
theorem cr_X8_isCancelled (l : Launch) (D : va_G) (cy : Nat → ClassId) (B : Nat) (od : Nat → Option Nat) {A : AH} {f : MF} {r : Nat → Int32} {Z : SV} {S : StV} (hm : MdR cy A f r Z S) {k : Nat} (hk : k < S.1.1) : CR l D cy B od yX8_isCancelled cX8_isCancelled 2 (some .boolean) rmX8_isCancelled [.ref 231, .int (nI k)] A (.int (bI (!(S.1.2 5 k == 0)))) := by
  intro z
  refine CT.of (by decide) tX8_isCancelled okX8_isCancelled (Nat.le_of_ble_eq_true rfl) (q0 := tX8_isCancelled[0]) rfl rfl ?_
  intro p e s m args below meth c X _
  obtain ⟨hM, hn, hc, hw, hwb, hz⟩ := id hm
  obtain ⟨c0, ⟨c1, c2, c3, c4, c5⟩, cb, ⟨c16, cr⟩, ⟨c35, ce⟩, ⟨c456, ca⟩, c517, cp⟩ := id hc
  obtain ⟨w1, w2, w3, w4, w5⟩ := id hw
  refine g_aload_n X rfl rfl ?_
  refine g_iload_n X rfl rfl ?_
  refine g_iconst X rfl (v := nI 5) (by decide) ?_
  refine g_rV X rfl lcX8_entryPart lmX8_184 lsX8_entryPart (cr_X8_entryPart l D cy B od hm (by omega) (by omega)) (ci := 8) hM rfl rfl rfl (Nat.le_of_ble_eq_true rfl) ⟨⟨by decide, by decide⟩, rfl, rfl⟩ ⟨Nat.le_of_ble_eq_true rfl, Nat.le_of_ble_eq_true rfl⟩ ?_
  refine g_iconst X rfl (v := nI 1) (by decide) ?_
  refine g_icmp_ne X rfl (fun h1 => ?_) (fun h1 => ?_)
  · refine g_iconst X rfl (v := nI 0) (by decide) ?_
    refine g_iret X rfl rfl (by first | rfl | exact bI_nar _ | decide) (Nat.le_refl _) (Nat.le_refl _) ⟨?_, rfl, rfl⟩
    have h9 := (hwb k hk).1; first | exact bR1 (by rcases h9 with h9 | h9 <;> simp_all [show nI 1 = 1 by decide]) | exact bR0 (by rcases h9 with h9 | h9 <;> simp_all [show nI 1 = 1 by decide])
  · refine g_iconst X rfl (v := nI 1) (by decide) ?_
    refine g_goto X rfl ?_
    refine g_iret X rfl rfl (by first | rfl | exact bI_nar _ | decide) (Nat.le_refl _) (Nat.le_refl _) ⟨?_, rfl, rfl⟩
    have h9 := (hwb k hk).1; first | exact bR1 (by rcases h9 with h9 | h9 <;> simp_all [show nI 1 = 1 by decide]) | exact bR0 (by rcases h9 with h9 | h9 <;> simp_all [show nI 1 = 1 by decide])
set_option maxRecDepth 100000 in
set_option maxHeartbeats 400000 in
theorem cr_X8_isOpen (l : Launch) (D : va_G) (cy : Nat → ClassId) (B : Nat) (od : Nat → Option Nat) {A : AH} {f : MF} {r : Nat → Int32} {Z : SV} {S : StV} (hm : MdR cy A f r Z S) {k : Nat} (hk : k < S.1.1) : CR l D cy B od yX8_isOpen cX8_isOpen 2 (some .boolean) rmX8_isOpen [.ref 231, .int (nI k)] A (.int (bI (eOpen S.1 k))) := by
  intro z
  refine CT.of (by decide) tX8_isOpen okX8_isOpen (Nat.le_of_ble_eq_true rfl) (q0 := tX8_isOpen[0]) rfl rfl ?_
  intro p e s m args below meth c X _
  obtain ⟨hM, hn, hc, hw, hwb, hz⟩ := id hm
  obtain ⟨c0, ⟨c1, c2, c3, c4, c5⟩, cb, ⟨c16, cr⟩, ⟨c35, ce⟩, ⟨c456, ca⟩, c517, cp⟩ := id hc
  obtain ⟨w1, w2, w3, w4, w5⟩ := id hw
  refine g_aload_n X rfl rfl ?_
  refine g_iload_n X rfl rfl ?_
  refine g_rV X rfl lcX8_isCancelled lmX8_187 lsX8_isCancelled (cr_X8_isCancelled l D cy B od hm (by omega)) (ci := 8) hM rfl rfl rfl (Nat.le_of_ble_eq_true rfl) ⟨⟨by decide, by decide⟩, rfl, rfl⟩ ⟨Nat.le_of_ble_eq_true rfl, Nat.le_of_ble_eq_true rfl⟩ ?_
  first | refine g_if_neB X rfl (fun h1 => ?_) (fun h1 => ?_) | refine g_if_ne X rfl (fun h1 => ?_) (fun h1 => ?_)
  · refine g_iconst X rfl (v := nI 0) (by decide) ?_
    refine g_iret X rfl rfl (by first | rfl | exact bI_nar _ | decide) (Nat.le_refl _) (Nat.le_refl _) ⟨?_, rfl, rfl⟩
    first | exact bR0 (by simp_all [eOpen, ← Int32.not_le, ← Int64.not_le]; done) | exact bR1 (by simp_all [eOpen, ← Int32.not_le, ← Int64.not_le]; done)
  · refine g_aload_n X rfl rfl ?_
    refine g_iload_n X rfl rfl ?_
    refine g_iconst X rfl (v := nI 4) (by decide) ?_
    refine g_rV X rfl lcX8_entryPart lmX8_184 lsX8_entryPart (cr_X8_entryPart l D cy B od hm (by omega) (by omega)) (ci := 8) hM rfl rfl rfl (Nat.le_of_ble_eq_true rfl) ⟨⟨by decide, by decide⟩, rfl, rfl⟩ ⟨Nat.le_of_ble_eq_true rfl, Nat.le_of_ble_eq_true rfl⟩ ?_
    refine g_iconst X rfl (v := (-1)) (by decide) ?_
    refine g_icmp_ne X rfl (fun h2 => ?_) (fun h2 => ?_)
    · refine g_iconst X rfl (v := nI 0) (by decide) ?_
      refine g_iret X rfl rfl (by first | rfl | exact bI_nar _ | decide) (Nat.le_refl _) (Nat.le_refl _) ⟨?_, rfl, rfl⟩
      first | exact bR0 (by simp_all [eOpen, ← Int32.not_le, ← Int64.not_le]; done) | exact bR1 (by simp_all [eOpen, ← Int32.not_le, ← Int64.not_le]; done)
    · refine g_iconst X rfl (v := nI 1) (by decide) ?_
      refine g_goto X rfl ?_
      refine g_iret X rfl rfl (by first | rfl | exact bI_nar _ | decide) (Nat.le_refl _) (Nat.le_refl _) ⟨?_, rfl, rfl⟩
      first | exact bR0 (by simp_all [eOpen, ← Int32.not_le, ← Int64.not_le]; done) | exact bR1 (by simp_all [eOpen, ← Int32.not_le, ← Int64.not_le]; done)
set_option maxRecDepth 100000 in
set_option maxHeartbeats 400000 in
theorem cr_X8_counts (l : Launch) (D : va_G) (cy : Nat → ClassId) (B : Nat) (od : Nat → Option Nat) {A : AH} {f : MF} {r : Nat → Int32} {Z : SV} {S : StV} (hm : MdR cy A f r Z S) {k : Nat} (hk : k < S.1.1) : CR l D cy B od yX8_counts cX8_counts 2 (some .boolean) rmX8_counts [.ref 231, .int (nI k)] A (.int (bI (eCnt S.1 k))) := by
  intro z
  refine CT.of (by decide) tX8_counts okX8_counts (Nat.le_of_ble_eq_true rfl) (q0 := tX8_counts[0]) rfl rfl ?_
  intro p e s m args below meth c X _
  obtain ⟨hM, hn, hc, hw, hwb, hz⟩ := id hm
  obtain ⟨c0, ⟨c1, c2, c3, c4, c5⟩, cb, ⟨c16, cr⟩, ⟨c35, ce⟩, ⟨c456, ca⟩, c517, cp⟩ := id hc
  obtain ⟨w1, w2, w3, w4, w5⟩ := id hw
  refine g_aload_n X rfl rfl ?_
  refine g_iload_n X rfl rfl ?_
  refine g_rV X rfl lcX8_isCancelled lmX8_187 lsX8_isCancelled (cr_X8_isCancelled l D cy B od hm (by omega)) (ci := 8) hM rfl rfl rfl (Nat.le_of_ble_eq_true rfl) ⟨⟨by decide, by decide⟩, rfl, rfl⟩ ⟨Nat.le_of_ble_eq_true rfl, Nat.le_of_ble_eq_true rfl⟩ ?_
  first | refine g_if_neB X rfl (fun h1 => ?_) (fun h1 => ?_) | refine g_if_ne X rfl (fun h1 => ?_) (fun h1 => ?_)
  · refine g_iconst X rfl (v := nI 0) (by decide) ?_
    refine g_iret X rfl rfl (by first | rfl | exact bI_nar _ | decide) (Nat.le_refl _) (Nat.le_refl _) ⟨?_, rfl, rfl⟩
    first | exact bR0 (by simp_all [eCnt, ← Int32.not_le, ← Int64.not_le]; done) | exact bR1 (by simp_all [eCnt, ← Int32.not_le, ← Int64.not_le]; done)
  · refine g_aload_n X rfl rfl ?_
    refine g_iload_n X rfl rfl ?_
    refine g_iconst X rfl (v := nI 4) (by decide) ?_
    refine g_rV X rfl lcX8_entryPart lmX8_184 lsX8_entryPart (cr_X8_entryPart l D cy B od hm (by omega) (by omega)) (ci := 8) hM rfl rfl rfl (Nat.le_of_ble_eq_true rfl) ⟨⟨by decide, by decide⟩, rfl, rfl⟩ ⟨Nat.le_of_ble_eq_true rfl, Nat.le_of_ble_eq_true rfl⟩ ?_
    refine g_iconst X rfl (v := (-1)) (by decide) ?_
    refine g_icmp_eq X rfl (fun h2 => ?_) (fun h2 => ?_)
    · refine g_iconst X rfl (v := nI 0) (by decide) ?_
      refine g_iret X rfl rfl (by first | rfl | exact bI_nar _ | decide) (Nat.le_refl _) (Nat.le_refl _) ⟨?_, rfl, rfl⟩
      first | exact bR0 (by simp_all [eCnt, ← Int32.not_le, ← Int64.not_le]; done) | exact bR1 (by simp_all [eCnt, ← Int32.not_le, ← Int64.not_le]; done)
    · refine g_iconst X rfl (v := nI 1) (by decide) ?_
      refine g_goto X rfl ?_
      refine g_iret X rfl rfl (by first | rfl | exact bI_nar _ | decide) (Nat.le_refl _) (Nat.le_refl _) ⟨?_, rfl, rfl⟩
      first | exact bR0 (by simp_all [eCnt, ← Int32.not_le, ← Int64.not_le]; done) | exact bR1 (by simp_all [eCnt, ← Int32.not_le, ← Int64.not_le]; done)
set_option maxRecDepth 100000 in
set_option maxHeartbeats 400000 in
theorem cr_X8_countsIn (l : Launch) (D : va_G) (cy : Nat → ClassId) (B : Nat) (od : Nat → Option Nat) {A : AH} {f : MF} {r : Nat → Int32} {Z : SV} {S : StV} (hm : MdR cy A f r Z S) {k : Nat} (hk : k < S.1.1) {f9 t9 : Int32} : CR l D cy B od yX8_countsIn cX8_countsIn 4 (some .boolean) rmX8_countsIn [.ref 231, .int (nI k), .int f9, .int t9] A (.int (bI (eCntIn S.1 f9 t9 k))) := by
  intro z
  refine CT.of (by decide) tX8_countsIn okX8_countsIn (Nat.le_of_ble_eq_true rfl) (q0 := tX8_countsIn[0]) rfl rfl ?_
  intro p e s m args below meth c X _
  obtain ⟨hM, hn, hc, hw, hwb, hz⟩ := id hm
  obtain ⟨c0, ⟨c1, c2, c3, c4, c5⟩, cb, ⟨c16, cr⟩, ⟨c35, ce⟩, ⟨c456, ca⟩, c517, cp⟩ := id hc
  obtain ⟨w1, w2, w3, w4, w5⟩ := id hw
  refine g_aload_n X rfl rfl ?_
  refine g_iload_n X rfl rfl ?_
  refine g_rV X rfl lcX8_counts lmX8_190 lsX8_counts (cr_X8_counts l D cy B od hm (by omega)) (ci := 8) hM rfl rfl rfl (Nat.le_of_ble_eq_true rfl) ⟨⟨by decide, by decide⟩, rfl, rfl⟩ ⟨Nat.le_of_ble_eq_true rfl, Nat.le_of_ble_eq_true rfl⟩ ?_
  first | refine g_if_eqB X rfl (fun h1 => ?_) (fun h1 => ?_) | refine g_if_eq X rfl (fun h1 => ?_) (fun h1 => ?_)
  · refine g_iconst X rfl (v := nI 0) (by decide) ?_
    refine g_iret X rfl rfl (by first | rfl | exact bI_nar _ | decide) (Nat.le_refl _) (Nat.le_refl _) ⟨?_, rfl, rfl⟩
    first | exact bR0 (by simp_all [eCntIn, in64, within9, ← Int32.not_le, ← Int64.not_le]; done) | exact bR1 (by simp_all [eCntIn, in64, within9, ← Int32.not_le, ← Int64.not_le]; done)
  · refine g_aload_n X rfl rfl ?_
    refine g_iload_n X rfl rfl ?_
    refine g_iconst X rfl (v := nI 4) (by decide) ?_
    refine g_rV X rfl lcX8_entryPart lmX8_184 lsX8_entryPart (cr_X8_entryPart l D cy B od hm (by omega) (by omega)) (ci := 8) hM rfl rfl rfl (Nat.le_of_ble_eq_true rfl) ⟨⟨by decide, by decide⟩, rfl, rfl⟩ ⟨Nat.le_of_ble_eq_true rfl, Nat.le_of_ble_eq_true rfl⟩ ?_
    refine g_i2l X rfl ?_
    refine g_iload_n X rfl rfl ?_
    refine g_i2l X rfl ?_
    refine g_iload_n X rfl rfl ?_
    refine g_i2l X rfl ?_
    refine g_rS X rfl lcX8_in lmX8_56 stX8_in (cr_X8_in l D cy B od) rfl rfl (Nat.le_of_ble_eq_true rfl) ⟨⟨by decide, by decide⟩, rfl, rfl⟩ ⟨Nat.le_of_ble_eq_true rfl, Nat.le_of_ble_eq_true rfl⟩ ?_
    rw [in64 (lo := f9) (hi := t9) rfl rfl]
    first | refine g_if_eqB X rfl (fun h2 => ?_) (fun h2 => ?_) | refine g_if_eq X rfl (fun h2 => ?_) (fun h2 => ?_)
    · refine g_iconst X rfl (v := nI 0) (by decide) ?_
      refine g_iret X rfl rfl (by first | rfl | exact bI_nar _ | decide) (Nat.le_refl _) (Nat.le_refl _) ⟨?_, rfl, rfl⟩
      first | exact bR0 (by simp_all [eCntIn, in64, within9, ← Int32.not_le, ← Int64.not_le]; done) | exact bR1 (by simp_all [eCntIn, in64, within9, ← Int32.not_le, ← Int64.not_le]; done)
    · refine g_iconst X rfl (v := nI 1) (by decide) ?_
      refine g_goto X rfl ?_
      refine g_iret X rfl rfl (by first | rfl | exact bI_nar _ | decide) (Nat.le_refl _) (Nat.le_refl _) ⟨?_, rfl, rfl⟩
      first | exact bR0 (by simp_all [eCntIn, in64, within9, ← Int32.not_le, ← Int64.not_le]; done) | exact bR1 (by simp_all [eCntIn, in64, within9, ← Int32.not_le, ← Int64.not_le]; done)
set_option maxRecDepth 100000 in
set_option maxHeartbeats 400000 in
theorem cr_X8_isSold (l : Launch) (D : va_G) (cy : Nat → ClassId) (B : Nat) (od : Nat → Option Nat) {A : AH} {f : MF} {r : Nat → Int32} {Z : SV} {S : StV} (hm : MdR cy A f r Z S) {k : Nat} (hk : k < S.2.2.1.1) : CR l D cy B od yX8_isSold cX8_isSold 2 (some .boolean) rmX8_isSold [.ref 231, .int (nI k)] A (.int (bI (!(S.2.2.1.2 4 k == -1)))) := by
  intro z
  refine CT.of (by decide) tX8_isSold okX8_isSold (Nat.le_of_ble_eq_true rfl) (q0 := tX8_isSold[0]) rfl rfl ?_
  intro p e s m args below meth c X _
  obtain ⟨hM, hn, hc, hw, hwb, hz⟩ := id hm
  obtain ⟨c0, ⟨c1, c2, c3, c4, c5⟩, cb, ⟨c16, cr⟩, ⟨c35, ce⟩, ⟨c456, ca⟩, c517, cp⟩ := id hc
  obtain ⟨w1, w2, w3, w4, w5⟩ := id hw
  refine g_aload_n X rfl rfl ?_
  refine g_iload_n X rfl rfl ?_
  refine g_iconst X rfl (v := nI 3) (by decide) ?_
  refine g_rV X rfl lcX8_assetPart lmX8_229 lsX8_assetPart (cr_X8_assetPart l D cy B od hm (q := 3) (q2 := 4) (by omega) (by decide) rfl) (ci := 8) hM rfl rfl rfl (Nat.le_of_ble_eq_true rfl) ⟨⟨by decide, by decide⟩, rfl, rfl⟩ ⟨Nat.le_of_ble_eq_true rfl, Nat.le_of_ble_eq_true rfl⟩ ?_
  refine g_iconst X rfl (v := (-1)) (by decide) ?_
  refine g_icmp_eq X rfl (fun h1 => ?_) (fun h1 => ?_)
  · refine g_iconst X rfl (v := nI 0) (by decide) ?_
    refine g_iret X rfl rfl (by first | rfl | exact bI_nar _ | decide) (Nat.le_refl _) (Nat.le_refl _) ⟨?_, rfl, rfl⟩
    first | exact bR0 (by simp_all [bI, ← Int32.not_le, ← Int64.not_le]; done) | exact bR1 (by simp_all [bI, ← Int32.not_le, ← Int64.not_le]; done)
  · refine g_iconst X rfl (v := nI 1) (by decide) ?_
    refine g_goto X rfl ?_
    refine g_iret X rfl rfl (by first | rfl | exact bI_nar _ | decide) (Nat.le_refl _) (Nat.le_refl _) ⟨?_, rfl, rfl⟩
    first | exact bR0 (by simp_all [bI, ← Int32.not_le, ← Int64.not_le]; done) | exact bR1 (by simp_all [bI, ← Int32.not_le, ← Int64.not_le]; done)
