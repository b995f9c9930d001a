/-! 20: states and the history: copies -/
/-- two states say the same, up to what lies behind their sizes -/
def StE (S S2 : StV) : Prop := S2.1.1 = S.1.1 ∧ (∀ q j, j < S.1.1 → S2.1.2 q j = S.1.2 q j) ∧ S2.2.1.1 = S.2.1.1 ∧ (∀ q j, j < S.2.1.1 → S2.2.1.2 q j = S.2.1.2 q j) ∧ S2.2.2.1.1 = S.2.2.1.1 ∧ (∀ q j, j < S.2.2.1.1 → S2.2.2.1.2 q j = S.2.2.1.2 q j) ∧ S2.2.2.2.2.1 = S.2.2.2.2.1 ∧ S2.2.2.2.2.2 = S.2.2.2.2.2 ∧ ∀ j, j < S.2.2.2.2.1 → S2.2.2.2.1 j = S.2.2.2.1 j
def WfB (S : StV) : Prop := ∀ j, j < S.1.1 → (S.1.2 5 j = 0 ∨ S.1.2 5 j = 1) ∧ (S.1.2 6 j = 0 ∨ S.1.2 6 j = 1)
set_option maxRecDepth 100000 in
set_option maxHeartbeats 400000 in
theorem lp_X6_copyFrom (l : Launch) (D : va_G) (cy : Nat → ClassId) (B : Nat) (od : Nat → Option Nat) {p : Program} {e : Env} {s : State} {m : MethodId} {args : Array Value} {below : List Frame} {meth : Method} {c : Code} {A : AH} {z : Nat} {b b2 : Nat} {S S' : StV} (h1 : StA cy A b S) (h2 : StA cy A b2 S') (hw : WfS S') (hb : WfB S') (hd : b + 21 ≤ b2 ∨ b2 + 21 ≤ b) {c1 c2 c3 : Nat → Nat → Int32} (e1 : ∀ q j, j < S'.1.1 → c1 q j = S'.1.2 q j) (e2 : ∀ q j, j < S'.2.1.1 → c2 q j = S'.2.1.2 q j) (e3 : ∀ q j, j < S'.2.2.1.1 → c3 q j = S'.2.2.1.2 q j) (X : Cx p s m args meth c D cy B od cX6_copyFrom 3 tX6_copyFrom RX6 none) : ∀ (k i : Nat) (A1 : AH) (p9 : Nat → Int32) (g1 : StA cy A1 b ((S'.1.1, c1), (S'.2.1.1, c2), (S'.2.2.1.1, c3), p9, S'.2.2.2.2.1, S'.2.2.2.2.2)) (g2 : SameOff A A1 b (b + 21)) (g3 : ∀ j, j < i → p9 j = S'.2.2.2.1 j), 0 ≤ i → i ≤ S'.2.2.2.2.1 → S'.2.2.2.2.1 - i < k → G p l e rmX6_copyFrom s m args below meth c D B od 3 tX6_copyFrom (FinQ false D B od (fun v A' z' => z' = z ∧ (fun v A' => v = none ∧ SameOff A A' b (b + 21) ∧ ∃ S2 : StV, StA cy A' b S2 ∧ StE S' S2) v A') (fun _ _ => True) args s below rmX6_copyFrom.cells rmX6_copyFrom.slots) 0 0 A1 z 25 [some (.ref b), some (.ref b2), some (.int (nI i))] [] := by
  intro k
  induction k with
  | zero => intro i _ _ _ _ _ _ _ h; omega
  | succ k ih =>
    intro i A1 p9 g1 g2 g3 hlo hi hk
    obtain ⟨hs, hE9, hR9, hA9, hp⟩ := id g1
    obtain ⟨hE, hE0, hE1, hE2, hE3, hE4, hE5, hE6⟩ := id hE9
    obtain ⟨hR, hR0, hR1, hR2⟩ := id hR9
    obtain ⟨hA, hA0, hA1, hA2, hA3, hA4, hA5⟩ := id hA9
    dsimp only at hs
    obtain ⟨khs, khE9, khR9, khA9, khp⟩ := id (h2.same (g2.on (by omega)))
    obtain ⟨khE, khE0, khE1, khE2, khE3, khE4, khE5, khE6⟩ := id khE9
    obtain ⟨khR, khR0, khR1, khR2⟩ := id khR9
    obtain ⟨khA, khA0, khA1, khA2, khA3, khA4, khA5⟩ := id khA9
    obtain ⟨w1, w2, w3, w4, w5⟩ := id hw
    refine g_iload_n X rfl rfl ?_
    refine g_aload_n X rfl rfl ?_
    refine g_get X rfl flX6_48 (ci := 6) rfl (by (repeat (first | exact hs | exact upA_eq | refine (upA_ne (by omega)).trans ?_))) rfl ?_
    first | refine g_ic_geN X rfl (by omega) (by omega) (fun h1 => ?_) (fun h1 => ?_) | refine g_icmp_ge X rfl (fun h1 => ?_) (fun h1 => ?_)
    · refine g_vret X rfl rfl (Nat.le_of_ble_eq_true rfl) (Nat.le_of_ble_eq_true rfl) ⟨rfl, ?_⟩
      exact ⟨rfl, g2, ((S'.1.1, c1), (S'.2.1.1, c2), (S'.2.2.1.1, c3), p9, S'.2.2.2.2.1, S'.2.2.2.2.2), g1, rfl, e1, rfl, e2, rfl, e3, rfl, rfl, fun j hj => g3 j (by omega)⟩
    · refine g_aload_n X rfl rfl ?_
      refine g_get X rfl flX6_32 (ci := 6) rfl (by (repeat (first | exact hs | exact upA_eq | refine (upA_ne (by omega)).trans ?_))) rfl ?_
      refine g_iload_n X rfl rfl ?_
      refine g_aload_n X rfl rfl ?_
      refine g_get X rfl flX6_32 (ci := 6) rfl (by (repeat (first | exact khs | exact upA_eq | refine (upA_ne (by omega)).trans ?_))) rfl ?_
      refine g_iload_n X rfl rfl ?_
      refine g_ialdN X rfl (by (repeat (first | exact khp | exact upA_eq | refine (upA_ne (by omega)).trans ?_))) (by omega) (by decide) ?_
      refine g_iastN X rfl (by (repeat (first | exact hp | exact upA_eq | refine (upA_ne (by omega)).trans ?_))) (by omega) (by decide) ?_
      refine g_iinc1 X rfl rfl (by decide) ?_
      refine g_goto X rfl ?_
      refine ih (i + 1) _ (upd p9 i (S'.2.2.2.1 i)) ?_ ?_ ?_ (by omega) (by omega) (by omega)
      · refine ⟨(upA_ne (by omega)).trans hs, hE9.same (fun k _ _ => upA_ne (by omega)), hR9.same (fun k _ _ => upA_ne (by omega)), hA9.same (fun k _ _ => upA_ne (by omega)), upA_eq⟩
      · exact g2.up (by omega) (by omega)
      · intro j hj
        by_cases ej : j = i
        · subst ej; exact pk_us
        · exact (pk_un ej).trans (g3 j (by omega))
set_option maxRecDepth 100000 in
set_option maxHeartbeats 400000 in
theorem cm_X6_copyFrom (l : Launch) (D : va_G) (cy : Nat → ClassId) (B : Nat) (od : Nat → Option Nat) {A : AH} {b b2 : Nat} {S S' : StV} (h1 : StA cy A b S) (h2 : StA cy A b2 S') (hw : WfS S') (hb : WfB S') (hd : b + 21 ≤ b2 ∨ b2 + 21 ≤ b) : CM l D cy B od yX6_copyFrom cX6_copyFrom 3 none rmX6_copyFrom [.ref b, .ref b2] A (fun v A' => v = none ∧ SameOff A A' b (b + 21) ∧ ∃ S2 : StV, StA cy A' b S2 ∧ StE S' S2) := by
  intro z
  refine CT.of (by decide) tX6_copyFrom okX6_copyFrom (Nat.le_of_ble_eq_true rfl) (q0 := tX6_copyFrom[0]) rfl rfl ?_
  intro p e s m args below meth c X _
  obtain ⟨hs, hE9, hR9, hA9, hp⟩ := id h1
  obtain ⟨hE, hE0, hE1, hE2, hE3, hE4, hE5, hE6⟩ := id hE9
  obtain ⟨hR, hR0, hR1, hR2⟩ := id hR9
  obtain ⟨hA, hA0, hA1, hA2, hA3, hA4, hA5⟩ := id hA9
  obtain ⟨khs, khE9, khR9, khA9, khp⟩ := id h2
  obtain ⟨khE, khE0, khE1, khE2, khE3, khE4, khE5, khE6⟩ := id khE9
  obtain ⟨khR, khR0, khR1, khR2⟩ := id khR9
  obtain ⟨khA, khA0, khA1, khA2, khA3, khA4, khA5⟩ := id khA9
  obtain ⟨w1, w2, w3, w4, w5⟩ := id hw
  refine g_aload_n X rfl rfl ?_
  refine g_get X rfl flX6_12 (ci := 6) rfl (by (repeat (first | exact hs | exact upA_eq | refine (upA_ne (by omega)).trans ?_ | refine (f3 _ (by omega)).trans ?_ | refine (f2 _ (by omega)).trans ?_ | refine (f1 _ (by omega)).trans ?_))) rfl ?_
  refine g_aload_n X rfl rfl ?_
  refine g_get X rfl flX6_12 (ci := 6) rfl (by (repeat (first | exact khs | exact upA_eq | refine (upA_ne (by omega)).trans ?_ | refine (f3 _ (by omega)).trans ?_ | refine (f2 _ (by omega)).trans ?_ | refine (f1 _ (by omega)).trans ?_))) rfl ?_
  refine g_mVN X rfl lcX1_copyFrom lnX6_55 lsX1_copyFrom (cm_X1_copyFrom l D cy B od hE9 khE9 w1 (by omega) hb) (ci := 1) (by (repeat (first | exact hE | exact upA_eq | refine (upA_ne (by omega)).trans ?_ | refine (f3 _ (by omega)).trans ?_ | refine (f2 _ (by omega)).trans ?_ | refine (f1 _ (by omega)).trans ?_))) rfl rfl rfl (Nat.le_of_ble_eq_true rfl) ⟨⟨by decide, by decide⟩, rfl, rfl⟩ ⟨Nat.le_of_ble_eq_true rfl, Nat.le_of_ble_eq_true rfl⟩ (fun v1 A1 q1 => ?_)
  obtain ⟨rfl, f1, c1, E1, e1⟩ := q1
  refine g_aload_n X rfl rfl ?_
  refine g_get X rfl flX6_21 (ci := 6) rfl (by (repeat (first | exact hs | exact upA_eq | refine (upA_ne (by omega)).trans ?_ | refine (f3 _ (by omega)).trans ?_ | refine (f2 _ (by omega)).trans ?_ | refine (f1 _ (by omega)).trans ?_))) rfl ?_
  refine g_aload_n X rfl rfl ?_
  refine g_get X rfl flX6_21 (ci := 6) rfl (by (repeat (first | exact khs | exact upA_eq | refine (upA_ne (by omega)).trans ?_ | refine (f3 _ (by omega)).trans ?_ | refine (f2 _ (by omega)).trans ?_ | refine (f1 _ (by omega)).trans ?_))) rfl ?_
  refine g_mVN X rfl lcX3_copyFrom lnX6_44 lsX3_copyFrom (cm_X3_copyFrom l D cy B od (hR9.same (f1.on (by omega))) (khR9.same (f1.on (by omega))) w2 (by omega)) (ci := 3) (by (repeat (first | exact hR | exact upA_eq | refine (upA_ne (by omega)).trans ?_ | refine (f3 _ (by omega)).trans ?_ | refine (f2 _ (by omega)).trans ?_ | refine (f1 _ (by omega)).trans ?_))) rfl rfl rfl (Nat.le_of_ble_eq_true rfl) ⟨⟨by decide, by decide⟩, rfl, rfl⟩ ⟨Nat.le_of_ble_eq_true rfl, Nat.le_of_ble_eq_true rfl⟩ (fun v2 A2 q2 => ?_)
  obtain ⟨rfl, f2, c2, E2, e2⟩ := q2
  refine g_aload_n X rfl rfl ?_
  refine g_get X rfl flX6_28 (ci := 6) rfl (by (repeat (first | exact hs | exact upA_eq | refine (upA_ne (by omega)).trans ?_ | refine (f3 _ (by omega)).trans ?_ | refine (f2 _ (by omega)).trans ?_ | refine (f1 _ (by omega)).trans ?_))) rfl ?_
  refine g_aload_n X rfl rfl ?_
  refine g_get X rfl flX6_28 (ci := 6) rfl (by (repeat (first | exact khs | exact upA_eq | refine (upA_ne (by omega)).trans ?_ | refine (f3 _ (by omega)).trans ?_ | refine (f2 _ (by omega)).trans ?_ | refine (f1 _ (by omega)).trans ?_))) rfl ?_
  refine g_mVN X rfl lcX0_copyFrom lnX6_58 lsX0_copyFrom (cm_X0_copyFrom l D cy B od ((hA9.same (f1.on (by omega))).same (f2.on (by omega))) ((khA9.same (f1.on (by omega))).same (f2.on (by omega))) w3 (by omega)) (ci := 0) (by (repeat (first | exact hA | exact upA_eq | refine (upA_ne (by omega)).trans ?_ | refine (f3 _ (by omega)).trans ?_ | refine (f2 _ (by omega)).trans ?_ | refine (f1 _ (by omega)).trans ?_))) rfl rfl rfl (Nat.le_of_ble_eq_true rfl) ⟨⟨by decide, by decide⟩, rfl, rfl⟩ ⟨Nat.le_of_ble_eq_true rfl, Nat.le_of_ble_eq_true rfl⟩ (fun v3 A3 q3 => ?_)
  obtain ⟨rfl, f3, c3, E3, e3⟩ := q3
  refine g_aload_n X rfl rfl ?_
  refine g_aload_n X rfl rfl ?_
  refine g_get X rfl flX6_48 (ci := 6) rfl (by (repeat (first | exact khs | exact upA_eq | refine (upA_ne (by omega)).trans ?_ | refine (f3 _ (by omega)).trans ?_ | refine (f2 _ (by omega)).trans ?_ | refine (f1 _ (by omega)).trans ?_))) rfl ?_
  refine g_put X rfl flX6_48 rfl (ci := 6) rfl (by (repeat (first | exact hs | exact upA_eq | refine (upA_ne (by omega)).trans ?_ | refine (f3 _ (by omega)).trans ?_ | refine (f2 _ (by omega)).trans ?_ | refine (f1 _ (by omega)).trans ?_))) (Nat.le_of_ble_eq_true rfl) (by first | rfl | exact bI_nar _) (by first | rfl | decide) ?_
  refine g_aload_n X rfl rfl ?_
  refine g_aload_n X rfl rfl ?_
  refine g_get X rfl flX6_54 (ci := 6) rfl (by (repeat (first | exact khs | exact upA_eq | refine (upA_ne (by omega)).trans ?_ | refine (f3 _ (by omega)).trans ?_ | refine (f2 _ (by omega)).trans ?_ | refine (f1 _ (by omega)).trans ?_))) rfl ?_
  refine g_put X rfl flX6_54 rfl (ci := 6) rfl (by (repeat (first | exact hs | exact upA_eq | refine (upA_ne (by omega)).trans ?_ | refine (f3 _ (by omega)).trans ?_ | refine (f2 _ (by omega)).trans ?_ | refine (f1 _ (by omega)).trans ?_))) (Nat.le_of_ble_eq_true rfl) (by first | rfl | exact bI_nar _) (by first | rfl | decide) ?_
  refine g_iconst X rfl (v := nI 0) (by decide) ?_
  refine g_istore_n X rfl (by decide) ?_
  refine lp_X6_copyFrom l D cy B od h1 h2 hw hb hd e1 e2 e3 X (S'.2.2.2.2.1 + 1) 0 _ S.2.2.2.1 ?_ ?_ (fun j hj => absurd hj (by omega)) (by omega) (by omega) (by omega)
  · refine ⟨?_, ?_, ?_, ?_, ?_⟩
    · exact upA_eq
    · exact ((E1.same (f2.on (by omega))).same (f3.on (by omega))).same (fun k _ _ => (upA_ne (by omega)).trans (upA_ne (by omega)))
    · exact (E2.same (f3.on (by omega))).same (fun k _ _ => (upA_ne (by omega)).trans (upA_ne (by omega)))
    · exact E3.same (fun k _ _ => (upA_ne (by omega)).trans (upA_ne (by omega)))
    · exact (upA_ne (by omega)).trans ((upA_ne (by omega)).trans ((f3 _ (by omega)).trans ((f2 _ (by omega)).trans ((f1 _ (by omega)).trans hp))))
  · exact (((((f1.wide (by omega) (by omega)).trans (f2.wide (by omega) (by omega))).trans (f3.wide (by omega) (by omega))).up (by omega) (by omega)).up (by omega) (by omega))
set_option maxRecDepth 100000 in
set_option maxHeartbeats 400000 in
theorem cm_X6_begin (l : Launch) (D : va_G) (cy : Nat → ClassId) (B : Nat) (od : Nat → Option Nat) {A : AH} {b b2 : Nat} {S : StV} {Z : SV} {Rm : RV} (h1 : StA cy A b S) (h2 : SetA cy A b2 Z) (h3 : RoomA cy A (b2 + 3) Rm) (hn : Rm.1 ≤ 6) (hd : b + 21 ≤ b2 ∨ b2 + 7 ≤ b) : CM l D cy B od yX6_begin cX6_begin 2 none rmX6_begin [.ref b, .ref b2] A (fun v A' => v = none ∧ SameOff A A' b (b + 21) ∧ ∃ (c2 : Nat → Nat → Int32), StA cy A' b ((0, S.1.2), (Rm.1, c2), (0, S.2.2.1.2), S.2.2.2.1, 0, Z.2.1 0) ∧ ∀ q j, j < Rm.1 → c2 q j = Rm.2 q j) := by
  intro z
  refine CT.of (by decide) tX6_begin okX6_begin (Nat.le_of_ble_eq_true rfl) (q0 := tX6_begin[0]) rfl rfl ?_
  intro p e s m args below meth c X _
  obtain ⟨hs, hE9, hR9, hA9, hp⟩ := id h1
  obtain ⟨hE, hE0, hE1, hE2, hE3, hE4, hE5, hE6⟩ := id hE9
  obtain ⟨hR, hR0, hR1, hR2⟩ := id hR9
  obtain ⟨hA, hA0, hA1, hA2, hA3, hA4, hA5⟩ := id hA9
  obtain ⟨hS, hS0, hS1⟩ := id h2
  refine g_aload_n X rfl rfl ?_
  refine g_get X rfl flX6_12 (ci := 6) rfl (by (repeat (first | exact hs | exact upA_eq | refine (upA_ne (by omega)).trans ?_ | refine (f2 _ (by omega)).trans ?_))) rfl ?_
  refine g_iconst X rfl (v := nI 0) (by decide) ?_
  refine g_put X rfl flX6_36 rfl (ci := 1) rfl (by (repeat (first | exact hE | exact upA_eq | refine (upA_ne (by omega)).trans ?_ | refine (f2 _ (by omega)).trans ?_))) (Nat.le_of_ble_eq_true rfl) (by first | rfl | exact bI_nar _) (by first | rfl | decide) ?_
  refine g_aload_n X rfl rfl ?_
  refine g_get X rfl flX6_28 (ci := 6) rfl (by (repeat (first | exact hs | exact upA_eq | refine (upA_ne (by omega)).trans ?_ | refine (f2 _ (by omega)).trans ?_))) rfl ?_
  refine g_iconst X rfl (v := nI 0) (by decide) ?_
  refine g_put X rfl flX6_40 rfl (ci := 0) rfl (by (repeat (first | exact hA | exact upA_eq | refine (upA_ne (by omega)).trans ?_ | refine (f2 _ (by omega)).trans ?_))) (Nat.le_of_ble_eq_true rfl) (by first | rfl | exact bI_nar _) (by first | rfl | decide) ?_
  refine g_aload_n X rfl rfl ?_
  refine g_get X rfl flX6_21 (ci := 6) rfl (by (repeat (first | exact hs | exact upA_eq | refine (upA_ne (by omega)).trans ?_ | refine (f2 _ (by omega)).trans ?_))) rfl ?_
  refine g_aload_n X rfl rfl ?_
  refine g_get X rfl flX6_41 (ci := 4) rfl (by (repeat (first | exact hS | exact upA_eq | refine (upA_ne (by omega)).trans ?_ | refine (f2 _ (by omega)).trans ?_))) rfl ?_
  refine g_mVN X rfl lcX3_copyFrom lnX6_44 lsX3_copyFrom (cm_X3_copyFrom l D cy B od (E := S.2.1) (E' := Rm) (hR9.same (fun k _ _ => (upA_ne (by omega)).trans (upA_ne (by omega)))) (h3.same (fun k _ _ => (upA_ne (by omega)).trans (upA_ne (by omega)))) hn (by omega)) (ci := 3) (by (repeat (first | exact hR | exact upA_eq | refine (upA_ne (by omega)).trans ?_ | refine (f2 _ (by omega)).trans ?_))) rfl rfl rfl (Nat.le_of_ble_eq_true rfl) ⟨⟨by decide, by decide⟩, rfl, rfl⟩ ⟨Nat.le_of_ble_eq_true rfl, Nat.le_of_ble_eq_true rfl⟩ (fun v1 A1 q1 => ?_)
  obtain ⟨rfl, f2, c2, E2, e2⟩ := q1
  refine g_aload_n X rfl rfl ?_
  refine g_iconst X rfl (v := nI 0) (by decide) ?_
  refine g_put X rfl flX6_48 rfl (ci := 6) rfl (by (repeat (first | exact hs | exact upA_eq | refine (upA_ne (by omega)).trans ?_ | refine (f2 _ (by omega)).trans ?_))) (Nat.le_of_ble_eq_true rfl) (by first | rfl | exact bI_nar _) (by first | rfl | decide) ?_
  refine g_aload_n X rfl rfl ?_
  refine g_aload_n X rfl rfl ?_
  refine g_get X rfl flX6_51 (ci := 4) rfl (by (repeat (first | exact hS | exact upA_eq | refine (upA_ne (by omega)).trans ?_ | refine (f2 _ (by omega)).trans ?_))) rfl ?_
  refine g_put X rfl flX6_54 rfl (ci := 6) rfl (by (repeat (first | exact hs | exact upA_eq | refine (upA_ne (by omega)).trans ?_ | refine (f2 _ (by omega)).trans ?_))) (Nat.le_of_ble_eq_true rfl) (by first | rfl | exact bI_nar _) (by first | rfl | decide) ?_
  refine g_vret X rfl rfl (Nat.le_of_ble_eq_true rfl) (Nat.le_of_ble_eq_true rfl) ⟨rfl, ?_⟩
  refine ⟨rfl, ?_, c2, ⟨?_, ?_, ?_, ?_, ?_⟩, e2⟩
  · exact ((((SameOff.refl A b (b + 21)).up (by omega) (by omega)).up (by omega) (by omega)).trans (f2.wide (by omega) (by omega))).up (by omega) (by omega) |>.up (by omega) (by omega)
  · exact upA_eq
  · refine ⟨?_, ?_, ?_, ?_, ?_, ?_, ?_, ?_⟩
    · exact ((upA_ne (by omega)).trans (upA_ne (by omega))).trans ((f2 _ (by omega)).trans ((upA_ne (by omega)).trans upA_eq))
    · exact ((upA_ne (by omega)).trans (upA_ne (by omega))).trans ((f2 _ (by omega)).trans ((upA_ne (by omega)).trans ((upA_ne (by omega)).trans hE0)))
    · exact ((upA_ne (by omega)).trans (upA_ne (by omega))).trans ((f2 _ (by omega)).trans ((upA_ne (by omega)).trans ((upA_ne (by omega)).trans hE1)))
    · exact ((upA_ne (by omega)).trans (upA_ne (by omega))).trans ((f2 _ (by omega)).trans ((upA_ne (by omega)).trans ((upA_ne (by omega)).trans hE2)))
    · exact ((upA_ne (by omega)).trans (upA_ne (by omega))).trans ((f2 _ (by omega)).trans ((upA_ne (by omega)).trans ((upA_ne (by omega)).trans hE3)))
    · exact ((upA_ne (by omega)).trans (upA_ne (by omega))).trans ((f2 _ (by omega)).trans ((upA_ne (by omega)).trans ((upA_ne (by omega)).trans hE4)))
    · exact ((upA_ne (by omega)).trans (upA_ne (by omega))).trans ((f2 _ (by omega)).trans ((upA_ne (by omega)).trans ((upA_ne (by omega)).trans hE5)))
    · exact ((upA_ne (by omega)).trans (upA_ne (by omega))).trans ((f2 _ (by omega)).trans ((upA_ne (by omega)).trans ((upA_ne (by omega)).trans hE6)))
  · exact E2.same (fun k _ _ => (upA_ne (by omega)).trans (upA_ne (by omega)))
  · refine ⟨?_, ?_, ?_, ?_, ?_, ?_, ?_⟩
    · exact ((upA_ne (by omega)).trans (upA_ne (by omega))).trans ((f2 _ (by omega)).trans upA_eq)
    · exact ((upA_ne (by omega)).trans (upA_ne (by omega))).trans ((f2 _ (by omega)).trans ((upA_ne (by omega)).trans ((upA_ne (by omega)).trans hA0)))
    · exact ((upA_ne (by omega)).trans (upA_ne (by omega))).trans ((f2 _ (by omega)).trans ((upA_ne (by omega)).trans ((upA_ne (by omega)).trans hA1)))
    · exact ((upA_ne (by omega)).trans (upA_ne (by omega))).trans ((f2 _ (by omega)).trans ((upA_ne (by omega)).trans ((upA_ne (by omega)).trans hA2)))
    · exact ((upA_ne (by omega)).trans (upA_ne (by omega))).trans ((f2 _ (by omega)).trans ((upA_ne (by omega)).trans ((upA_ne (by omega)).trans hA3)))
    · exact ((upA_ne (by omega)).trans (upA_ne (by omega))).trans ((f2 _ (by omega)).trans ((upA_ne (by omega)).trans ((upA_ne (by omega)).trans hA4)))
    · exact ((upA_ne (by omega)).trans (upA_ne (by omega))).trans ((f2 _ (by omega)).trans ((upA_ne (by omega)).trans ((upA_ne (by omega)).trans hA5)))
  · exact ((upA_ne (by omega)).trans (upA_ne (by omega))).trans ((f2 _ (by omega)).trans ((upA_ne (by omega)).trans ((upA_ne (by omega)).trans hp)))
/-- the history: next, size, the eight rows -/
abbrev HV : Type := Nat × Nat × (Nat → StV)
def HisA (cy : Nat → ClassId) (A : AH) (b : Nat) (K : HV) : Prop := A b = some (.inr (2, [.ref (b + 1), .int (nI K.1), .int (nI K.2.1)])) ∧ (∃ f : Nat → Option Nat, A (b + 1) = some (.inl (cy 4, 8, .inr (.inr (.inr (.inr f))))) ∧ ∀ k, k < 8 → f k = some (b + 2 + 21 * k)) ∧ ∀ k, k < 8 → StA cy A (b + 2 + 21 * k) (K.2.2 k)
def stU (K : Nat → StV) (n : Nat) (S : StV) : Nat → StV := fun k => if k = n then S else K k
set_option maxHeartbeats 400000 in
theorem min8 {n : Nat} (h : n ≤ 8) : (if nI 8 < nI n + nI 1 then nI 8 else nI n + nI 1) = nI (if n < 8 then n + 1 else 8) := by
  rw [nI_add]
  by_cases h2 : n < 8
  · rw [if_pos h2, if_neg (fun q => absurd ((nI_ltI (by omega) (by omega)).mp q) (by omega))]
  · rw [if_neg h2, if_pos (nI_lt (by omega) (by omega))]
theorem max0 {n : Nat} (h : n ≤ 8) : (if nI n - nI 1 < nI 0 then nI 0 else nI n - nI 1) = nI (n - 1) := by
  by_cases h2 : n = 0
  · subst h2; decide
  · rw [pk_sub (by omega), if_neg (fun q => absurd ((nI_ltI (by omega) (by omega)).mp q) (by omega))]
theorem HisA.put {cy : Nat → ClassId} {A : AH} {b nx sz : Nat} {K : HV} (h : HisA cy A b K) : HisA cy (upA A b (.inr (2, [.ref (b + 1), .int (nI nx), .int (nI sz)]))) b (nx, sz, K.2.2) := by
  obtain ⟨h1, ⟨f, h2, h3⟩, h4⟩ := h
  exact ⟨upA_eq, ⟨f, (upA_ne (by omega)).trans h2, h3⟩, fun k hk => (h4 k hk).same (fun j _ _ => upA_ne (by omega))⟩
theorem HisA.row {cy : Nat → ClassId} {A A' : AH} {b n : Nat} {K : HV} {S : StV} (h : HisA cy A b K) (hn : n < 8) (hf : SameOff A A' (b + 2 + 21 * n) (b + 2 + 21 * n + 21)) (hS : StA cy A' (b + 2 + 21 * n) S) : HisA cy A' b (K.1, K.2.1, stU K.2.2 n S) := by
  obtain ⟨h1, ⟨f, h2, h3⟩, h4⟩ := h
  refine ⟨(hf _ (by omega)).trans h1, ⟨f, (hf _ (by omega)).trans h2, h3⟩, fun k hk => ?_⟩
  show StA cy A' (b + 2 + 21 * k) (stU K.2.2 n S k)
  unfold stU
  by_cases e : k = n
  · subst e; rw [if_pos rfl]; exact hS
  · rw [if_neg e]; exact (h4 k hk).same (hf.on (by omega))
set_option maxRecDepth 100000 in
set_option maxHeartbeats 400000 in
theorem cm_X2_clear (l : Launch) (D : va_G) (cy : Nat → ClassId) (B : Nat) (od : Nat → Option Nat) {A : AH} {b : Nat} {K : HV} (h1 : HisA cy A b K) : CM l D cy B od yX2_clear cX2_clear 1 none rmX2_clear [.ref b] A (fun v A' => v = none ∧ SameOff A A' b (b + 1) ∧ HisA cy A' b (0, 0, K.2.2)) := by
  intro z
  refine CT.of (by decide) tX2_clear okX2_clear (Nat.le_of_ble_eq_true rfl) (q0 := tX2_clear[0]) rfl rfl ?_
  intro p e s m args below meth c X _
  obtain ⟨hH, ⟨f, hr, hf⟩, hk⟩ := id h1
  refine g_aload_n X rfl rfl ?_
  refine g_iconst X rfl (v := nI 0) (by decide) ?_
  refine g_put X rfl flX2_18 rfl (ci := 2) rfl (by (repeat (first | exact hH | exact upA_eq | refine (upA_ne (by omega)).trans ?_))) (Nat.le_of_ble_eq_true rfl) (by first | rfl | exact bI_nar _) (by first | rfl | decide) ?_
  refine g_aload_n X rfl rfl ?_
  refine g_iconst X rfl (v := nI 0) (by decide) ?_
  refine g_put X rfl flX2_22 rfl (ci := 2) rfl (by (repeat (first | exact hH | exact upA_eq | refine (upA_ne (by omega)).trans ?_))) (Nat.le_of_ble_eq_true rfl) (by first | rfl | exact bI_nar _) (by first | rfl | decide) ?_
  refine g_vret X rfl rfl (Nat.le_of_ble_eq_true rfl) (Nat.le_of_ble_eq_true rfl) ⟨rfl, ?_⟩
  exact ⟨rfl, ((SameOff.refl A b (b + 1)).up (by omega) (by omega)).up (by omega) (by omega), by rw [upA_up]; exact h1.put⟩
set_option maxRecDepth 100000 in
set_option maxHeartbeats 400000 in
theorem cm_X2_remember (l : Launch) (D : va_G) (cy : Nat → ClassId) (B : Nat) (od : Nat → Option Nat) {A : AH} {b : Nat} {K : HV} (h1 : HisA cy A b K) (hn : K.1 < 8) (hz : K.2.1 ≤ 8) {b2 : Nat} {S : StV} (h2 : StA cy A b2 S) (hw : WfS S) (hb : WfB S) (hd : b2 + 21 ≤ b ∨ b + 170 ≤ b2) : CM l D cy B od yX2_remember cX2_remember 3 none rmX2_remember [.ref b, .ref b2] A (fun v A' => v = none ∧ SameOff A A' b (b + 170) ∧ ∃ S2 : StV, StE S S2 ∧ HisA cy A' b ((K.1 + 1) % 8, if K.2.1 < 8 then K.2.1 + 1 else 8, stU K.2.2 K.1 S2)) := by
  intro z
  refine CT.of (by decide) tX2_remember okX2_remember (Nat.le_of_ble_eq_true rfl) (q0 := tX2_remember[0]) rfl rfl ?_
  intro p e s m args below meth c X _
  obtain ⟨hH, ⟨f, hr, hf⟩, hk⟩ := id h1
  refine g_aload_n X rfl rfl ?_
  refine g_get X rfl flX2_11 (ci := 2) rfl (by (repeat (first | exact hH | exact upA_eq | refine (upA_ne (by omega)).trans ?_ | refine (f1 _ (by omega)).trans ?_))) rfl ?_
  refine g_aload_n X rfl rfl ?_
  refine g_get X rfl flX2_18 (ci := 2) rfl (by (repeat (first | exact hH | exact upA_eq | refine (upA_ne (by omega)).trans ?_ | refine (f1 _ (by omega)).trans ?_))) rfl ?_
  refine g_aald X rfl (hr) (vp_in_nI hn (by decide)) (by rw [nI_clamp (by omega)]; exact hf _ hn) ?_
  refine g_astore_n X rfl (by decide) ?_
  refine g_aload_n X rfl rfl ?_
  refine g_ifnull X rfl ?_
  refine g_aload_n X rfl rfl ?_
  refine g_aload_n X rfl rfl ?_
  refine g_mVN X rfl lcX6_copyFrom lnX2_25 lsX6_copyFrom (cm_X6_copyFrom l D cy B od (hk _ hn) h2 hw hb (by omega)) (ci := 6) (by (repeat (first | exact (hk _ hn).1 | exact upA_eq | refine (upA_ne (by omega)).trans ?_ | refine (f1 _ (by omega)).trans ?_))) rfl rfl rfl (Nat.le_of_ble_eq_true rfl) ⟨⟨by decide, by decide⟩, rfl, rfl⟩ ⟨Nat.le_of_ble_eq_true rfl, Nat.le_of_ble_eq_true rfl⟩ (fun v1 A1 q1 => ?_)
  obtain ⟨rfl, f1, S2, E2, e2⟩ := q1
  refine g_aload_n X rfl rfl ?_
  refine g_aload_n X rfl rfl ?_
  refine g_get X rfl flX2_18 (ci := 2) rfl (by (repeat (first | exact hH | exact upA_eq | refine (upA_ne (by omega)).trans ?_ | refine (f1 _ (by omega)).trans ?_))) rfl ?_
  refine g_iconst X rfl (v := nI 1) (by decide) ?_
  refine g_iadd X rfl ?_
  refine g_bipush X rfl (v := nI 8) (by decide) ?_
  refine g_irem X rfl (by decide) ?_
  rw [nI_add, pk_rem (by omega) (by decide) (by decide)]
  refine g_put X rfl flX2_18 rfl (ci := 2) rfl (by (repeat (first | exact hH | exact upA_eq | refine (upA_ne (by omega)).trans ?_ | refine (f1 _ (by omega)).trans ?_))) (Nat.le_of_ble_eq_true rfl) (by first | rfl | exact bI_nar _) (by first | rfl | decide) ?_
  refine g_aload_n X rfl rfl ?_
  refine g_aload_n X rfl rfl ?_
  refine g_get X rfl flX2_22 (ci := 2) rfl (by (repeat (first | exact hH | exact upA_eq | refine (upA_ne (by omega)).trans ?_ | refine (f1 _ (by omega)).trans ?_))) rfl ?_
  refine g_iconst X rfl (v := nI 1) (by decide) ?_
  refine g_iadd X rfl ?_
  refine g_bipush X rfl (v := nI 8) (by decide) ?_
  refine g_m_min_i X rfl lmX2_29 (Nat.le_of_ble_eq_true rfl) ⟨by decide, by decide⟩ ⟨Nat.le_of_ble_eq_true rfl, Nat.le_of_ble_eq_true rfl⟩ ?_
  rw [min8 hz]
  refine g_put X rfl flX2_22 rfl (ci := 2) rfl (by (repeat (first | exact hH | exact upA_eq | refine (upA_ne (by omega)).trans ?_ | refine (f1 _ (by omega)).trans ?_))) (Nat.le_of_ble_eq_true rfl) (by first | rfl | exact bI_nar _) (by first | rfl | decide) ?_
  refine g_vret X rfl rfl (Nat.le_of_ble_eq_true rfl) (Nat.le_of_ble_eq_true rfl) ⟨rfl, ?_⟩
  exact ⟨rfl, ((f1.wide (by omega) (by omega)).up (by omega) (by omega)).up (by omega) (by omega), S2, e2, by rw [upA_up]; exact (h1.row hn f1 E2).put⟩
set_option maxRecDepth 100000 in
set_option maxHeartbeats 400000 in
theorem cm_X2_takeBack (l : Launch) (D : va_G) (cy : Nat → ClassId) (B : Nat) (od : Nat → Option Nat) {A : AH} {b : Nat} {K : HV} (h1 : HisA cy A b K) (hn : K.1 < 8) (hz : K.2.1 ≤ 8) {b2 : Nat} {S : StV} (h2 : StA cy A b2 S) (hw : WfS (K.2.2 ((K.1 + 7) % 8))) (hb : WfB (K.2.2 ((K.1 + 7) % 8))) (hd : b2 + 21 ≤ b ∨ b + 170 ≤ b2) : CM l D cy B od yX2_takeBack cX2_takeBack 3 none rmX2_takeBack [.ref b, .ref b2] A (fun v A' => v = none ∧ SameOn A A' 0 (min b b2) ∧ (∀ k, max (b + 170) (b2 + 21) ≤ k → A' k = A k) ∧ SameOn A A' (min (b + 170) (b2 + 21)) (max b b2) ∧ HisA cy A' b ((K.1 + 7) % 8, K.2.1 - 1, K.2.2) ∧ ∃ S2 : StV, StE (K.2.2 ((K.1 + 7) % 8)) S2 ∧ StA cy A' b2 S2) := by
  intro z
  refine CT.of (by decide) tX2_takeBack okX2_takeBack (Nat.le_of_ble_eq_true rfl) (q0 := tX2_takeBack[0]) rfl rfl ?_
  intro p e s m args below meth c X _
  obtain ⟨hH, ⟨f, hr, hf⟩, hk⟩ := id h1
  have hm : (K.1 + 7) % 8 < 8 := Nat.mod_lt _ (by decide)
  refine g_aload_n X rfl rfl ?_
  refine g_aload_n X rfl rfl ?_
  refine g_get X rfl flX2_18 (ci := 2) rfl (by (repeat (first | exact hH | exact upA_eq | refine (upA_ne (by omega)).trans ?_ | refine (f1 _ (by omega)).trans ?_))) rfl ?_
  refine g_bipush X rfl (v := nI 8) (by decide) ?_
  refine g_iadd X rfl ?_
  refine g_iconst X rfl (v := nI 1) (by decide) ?_
  refine g_isub X rfl ?_
  refine g_bipush X rfl (v := nI 8) (by decide) ?_
  refine g_irem X rfl (by decide) ?_
  rw [nI_add, pk_sub (by omega), pk_rem (by omega) (by decide) (by decide), show (K.1 + 8 - 1) % 8 = (K.1 + 7) % 8 by rfl]
  refine g_put X rfl flX2_18 rfl (ci := 2) rfl (by (repeat (first | exact hH | exact upA_eq | refine (upA_ne (by omega)).trans ?_ | refine (f1 _ (by omega)).trans ?_))) (Nat.le_of_ble_eq_true rfl) (by first | rfl | exact bI_nar _) (by first | rfl | decide) ?_
  refine g_aload_n X rfl rfl ?_
  refine g_aload_n X rfl rfl ?_
  refine g_get X rfl flX2_22 (ci := 2) rfl (by (repeat (first | exact hH | exact upA_eq | refine (upA_ne (by omega)).trans ?_ | refine (f1 _ (by omega)).trans ?_))) rfl ?_
  refine g_iconst X rfl (v := nI 1) (by decide) ?_
  refine g_isub X rfl ?_
  refine g_iconst X rfl (v := nI 0) (by decide) ?_
  refine g_m_max_i X rfl lmX2_35 (Nat.le_of_ble_eq_true rfl) ⟨by decide, by decide⟩ ⟨Nat.le_of_ble_eq_true rfl, Nat.le_of_ble_eq_true rfl⟩ ?_
  rw [max0 hz]
  refine g_put X rfl flX2_22 rfl (ci := 2) rfl (by (repeat (first | exact hH | exact upA_eq | refine (upA_ne (by omega)).trans ?_ | refine (f1 _ (by omega)).trans ?_))) (Nat.le_of_ble_eq_true rfl) (by first | rfl | exact bI_nar _) (by first | rfl | decide) ?_
  refine g_aload_n X rfl rfl ?_
  refine g_get X rfl flX2_11 (ci := 2) rfl (by (repeat (first | exact hH | exact upA_eq | refine (upA_ne (by omega)).trans ?_ | refine (f1 _ (by omega)).trans ?_))) rfl ?_
  refine g_aload_n X rfl rfl ?_
  refine g_get X rfl flX2_18 (ci := 2) rfl (by (repeat (first | exact hH | exact upA_eq | refine (upA_ne (by omega)).trans ?_ | refine (f1 _ (by omega)).trans ?_))) rfl ?_
  refine g_aald X rfl ((upA_ne (by omega)).trans ((upA_ne (by omega)).trans hr)) (vp_in_nI hm (by decide)) (by rw [nI_clamp (by omega)]; exact hf _ hm) ?_
  refine g_astore_n X rfl (by decide) ?_
  refine g_aload_n X rfl rfl ?_
  refine g_ifnull X rfl ?_
  refine g_aload_n X rfl rfl ?_
  refine g_aload_n X rfl rfl ?_
  refine g_mVN X rfl lcX6_copyFrom lnX2_25 lsX6_copyFrom (cm_X6_copyFrom l D cy B od (h2.same (fun k _ _ => (upA_ne (by omega)).trans (upA_ne (by omega)))) ((hk _ hm).same (fun k _ _ => (upA_ne (by omega)).trans (upA_ne (by omega)))) hw hb (by omega)) (ci := 6) (by (repeat (first | exact h2.1 | exact upA_eq | refine (upA_ne (by omega)).trans ?_ | refine (f1 _ (by omega)).trans ?_))) rfl rfl rfl (Nat.le_of_ble_eq_true rfl) ⟨⟨by decide, by decide⟩, rfl, rfl⟩ ⟨Nat.le_of_ble_eq_true rfl, Nat.le_of_ble_eq_true rfl⟩ (fun v1 A1 q1 => ?_)
  obtain ⟨rfl, f1, S2, E2, e2⟩ := q1
  refine g_vret X rfl rfl (Nat.le_of_ble_eq_true rfl) (Nat.le_of_ble_eq_true rfl) ⟨rfl, ?_⟩
  refine ⟨rfl, fun k _ _ => ?_, fun k _ => ?_, fun k _ _ => ?_, ?_, S2, e2, E2⟩
  · exact (f1 _ (by omega)).trans ((upA_ne (by omega)).trans (upA_ne (by omega)))
  · exact (f1 _ (by omega)).trans ((upA_ne (by omega)).trans (upA_ne (by omega)))
  · exact (f1 _ (by omega)).trans ((upA_ne (by omega)).trans (upA_ne (by omega)))
  · have g9 : HisA cy (upA (upA A b (.inr (2, [.ref (b + 1), .int (nI ((K.1 + 7) % 8)), .int (nI K.2.1)]))) b (.inr (2, [.ref (b + 1), .int (nI ((K.1 + 7) % 8)), .int (nI (K.2.1 - 1))]))) b ((K.1 + 7) % 8, K.2.1 - 1, K.2.2) := by rw [upA_up]; exact h1.put
    obtain ⟨q1, ⟨f', q2, q3⟩, q4⟩ := g9
    exact ⟨(f1 _ (by omega)).trans q1, ⟨f', (f1 _ (by omega)).trans q2, q3⟩, fun k hk => (q4 k hk).same (f1.on (by omega))⟩
