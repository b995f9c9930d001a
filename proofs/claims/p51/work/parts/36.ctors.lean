/-! constructors of the class and of the reference -/
abbrev sNil : StV := ((0, fun _ _ => 0), (0, fun _ _ => 0), (0, fun _ _ => 0), fun _ => 0, 0, nI 0)
abbrev zNil : SV := (0, fun _ => nI 0, fun _ _ => 0)
def zNew : SV := zAdd (zAdd (zDef zNil) (nI 1000000) (nI 0)) (nI 6000000) (nI 250)
theorem nwX2_9 : NWk RX2 9 RX6 TX6 6 tyX6 := ⟨inX6, tyX6_ok, lw_good_in (n := 346) (by decide +kernel) rfl, lw_good_in (n := 224) (by decide +kernel) rfl, lw_good_in (n := 67) (by decide +kernel) rfl⟩
set_option maxRecDepth 100000 in
set_option maxHeartbeats 400000 in
theorem ci_X6_init (l : Launch) (D : va_G) (cy : Nat → ClassId) (B : Nat) (od : Nat → Option Nat) {A : AH} {b : Nat} (hb : b < 900) (h : A b = some (.inr (6, [.null, .null, .null, .null, .int (nI 0), .int (nI 0)]))) : CT l D cy B od yX6_init cX6_init 1 none rmX6_init [.ref b] A ((b + 1) + 1) (fun v A' z' => v = none ∧ z' = (b + 21) + 1 ∧ (fun A' => (∀ k, k < b → A' k = A k) ∧ StA cy A' b sNil) A') := by
  refine CT.of (by decide) tX6_init okX6_init (Nat.le_of_ble_eq_true rfl) (q0 := tX6_init[0]) rfl rfl ?_
  intro p e s m args below meth c X hnm
  refine g_aload_n X rfl rfl ?_
  refine g_objInit X rfl oiX6_3 (by decide) (Nat.le_of_ble_eq_true rfl) (by decide) ?_
  refine g_aload_n X rfl rfl ?_
  refine g_new X rfl nwX6_9 (ci := 1) rfl (fs := [.int (nI 0), .null, .null, .null, .null, .null, .null, .null]) rfl rfl (by omega) (Nat.le_of_ble_eq_true rfl) (Nat.le_of_ble_eq_true rfl) ?_
  refine g_dup X rfl rfl ?_
  refine g_callIN X rfl lcX1_init lnX6_11 liX1_init rfl (ci_X1_init l D cy B od (b := b + 1) (by omega) upA_eq) rfl rfl (Nat.le_of_ble_eq_true rfl) ⟨by decide, by decide⟩ ⟨by first | exact Nat.le_of_ble_eq_true rfl | omega, by first | exact Nat.le_of_ble_eq_true rfl | omega⟩ (fun v1 A1 z1 q1 => ?_)
  obtain ⟨rfl, hz, l1, e1⟩ := q1
  have hz : z1 = b + 9 + 1 := hz
  subst hz
  refine g_putF X rfl flX6_12 rfl hnm rfl ffX6_12 (ci := 6) rfl (by (repeat (first | exact h | exact upA_eq | refine (upA_ne (by omega)).trans ?_ | refine (l3 _ (by omega)).trans ?_ | refine (l2 _ (by omega)).trans ?_ | refine (l1 _ (by omega)).trans ?_))) (Nat.le_of_ble_eq_true rfl) (by rfl) (by rfl) ?_
  refine g_aload_n X rfl rfl ?_
  refine g_new X rfl nwX6_18 (ci := 3) rfl (fs := [.int (nI 0), .null, .null, .null]) rfl rfl (by omega) (Nat.le_of_ble_eq_true rfl) (Nat.le_of_ble_eq_true rfl) ?_
  refine g_dup X rfl rfl ?_
  refine g_callIN X rfl lcX3_init lnX6_20 liX3_init rfl (ci_X3_init l D cy B od (b := b + 9) (by omega) upA_eq) rfl rfl (Nat.le_of_ble_eq_true rfl) ⟨by decide, by decide⟩ ⟨by first | exact Nat.le_of_ble_eq_true rfl | omega, by first | exact Nat.le_of_ble_eq_true rfl | omega⟩ (fun v2 A2 z2 q2 => ?_)
  obtain ⟨rfl, hz, l2, e2⟩ := q2
  have hz : z2 = b + 13 + 1 := hz
  subst hz
  refine g_putF X rfl flX6_21 rfl hnm rfl ffX6_21 (ci := 6) rfl (by (repeat (first | exact h | exact upA_eq | refine (upA_ne (by omega)).trans ?_ | refine (l3 _ (by omega)).trans ?_ | refine (l2 _ (by omega)).trans ?_ | refine (l1 _ (by omega)).trans ?_))) (Nat.le_of_ble_eq_true rfl) (by rfl) (by rfl) ?_
  refine g_aload_n X rfl rfl ?_
  refine g_new X rfl nwX6_25 (ci := 0) rfl (fs := [.int (nI 0), .null, .null, .null, .null, .null, .null]) rfl rfl (by omega) (Nat.le_of_ble_eq_true rfl) (Nat.le_of_ble_eq_true rfl) ?_
  refine g_dup X rfl rfl ?_
  refine g_callIN X rfl lcX0_init lnX6_27 liX0_init rfl (ci_X0_init l D cy B od (b := b + 13) (by omega) upA_eq) rfl rfl (Nat.le_of_ble_eq_true rfl) ⟨by decide, by decide⟩ ⟨by first | exact Nat.le_of_ble_eq_true rfl | omega, by first | exact Nat.le_of_ble_eq_true rfl | omega⟩ (fun v3 A3 z3 q3 => ?_)
  obtain ⟨rfl, hz, l3, e3⟩ := q3
  have hz : z3 = b + 20 + 1 := hz
  subst hz
  refine g_putF X rfl flX6_28 rfl hnm rfl ffX6_28 (ci := 6) rfl (by (repeat (first | exact h | exact upA_eq | refine (upA_ne (by omega)).trans ?_ | refine (l3 _ (by omega)).trans ?_ | refine (l2 _ (by omega)).trans ?_ | refine (l1 _ (by omega)).trans ?_))) (Nat.le_of_ble_eq_true rfl) (by rfl) (by rfl) ?_
  refine g_aload_n X rfl rfl ?_
  refine g_iconst X rfl (v := nI 4) (by decide) ?_
  refine g_newai X rfl aw_i (N := 4) (by decide) (by decide) (by decide) (by omega) (Nat.le_of_ble_eq_true rfl) (Nat.le_of_ble_eq_true rfl) ?_
  refine g_putF X rfl flX6_32 rfl hnm rfl ffX6_32 (ci := 6) rfl (by (repeat (first | exact h | exact upA_eq | refine (upA_ne (by omega)).trans ?_ | refine (l3 _ (by omega)).trans ?_ | refine (l2 _ (by omega)).trans ?_ | refine (l1 _ (by omega)).trans ?_))) (Nat.le_of_ble_eq_true rfl) (by rfl) (by rfl) ?_
  refine g_vret X rfl rfl (Nat.le_of_ble_eq_true rfl) (Nat.le_of_ble_eq_true rfl) ⟨rfl, rfl, ?_⟩
  exact ⟨(fun k hk => (by repeat (first | rfl | refine (upA_ne (by omega)).trans ?_ | refine (l3 _ (by omega)).trans ?_ | refine (l2 _ (by omega)).trans ?_ | refine (l1 _ (by omega)).trans ?_))), (by repeat (first | exact upA_eq | refine (upA_ne (by omega)).trans ?_ | refine (l3 _ (by omega)).trans ?_ | refine (l2 _ (by omega)).trans ?_ | refine (l1 _ (by omega)).trans ?_)), EntA.same (fun k h1 h2 => (by repeat (first | rfl | refine (upA_ne (by omega)).trans ?_ | refine (l3 _ (by omega)).trans ?_ | refine (l2 _ (by omega)).trans ?_ | refine (l1 _ (by omega)).trans ?_))) e1, RoomA.same (fun k h1 h2 => (by repeat (first | rfl | refine (upA_ne (by omega)).trans ?_ | refine (l3 _ (by omega)).trans ?_ | refine (l2 _ (by omega)).trans ?_ | refine (l1 _ (by omega)).trans ?_))) e2, AssA.same (fun k h1 h2 => (by repeat (first | rfl | refine (upA_ne (by omega)).trans ?_ | refine (l3 _ (by omega)).trans ?_ | refine (l2 _ (by omega)).trans ?_ | refine (l1 _ (by omega)).trans ?_))) e3, (by repeat (first | exact upA_eq | refine (upA_ne (by omega)).trans ?_))⟩
set_option maxRecDepth 100000 in
set_option maxHeartbeats 400000 in
theorem ci_X4_init (l : Launch) (D : va_G) (cy : Nat → ClassId) (B : Nat) (od : Nat → Option Nat) {A : AH} {b : Nat} (hb : b < 900) (h : A b = some (.inr (4, [.int (nI 0), .int (nI 0), .int (nI 0), .int (nI 0), .int (nI 0), .int (nI 0), .null, .null, .null]))) : CT l D cy B od yX4_init cX4_init 1 none rmX4_init [.ref b] A ((b + 1) + 1) (fun v A' z' => v = none ∧ z' = (b + 7) + 1 ∧ (fun A' => (∀ k, k < b → A' k = A k) ∧ SetA cy A' b (zDef zNil) ∧ RoomA cy A' (b + 3) (0, fun _ _ => 0)) A') := by
  refine CT.of (by decide) tX4_init okX4_init (Nat.le_of_ble_eq_true rfl) (q0 := tX4_init[0]) rfl rfl ?_
  intro p e s m args below meth c X hnm
  refine g_aload_n X rfl rfl ?_
  refine g_objInit X rfl oiX4_3 (by decide) (Nat.le_of_ble_eq_true rfl) (by decide) ?_
  refine g_aload_n X rfl rfl ?_
  refine g_iconst X rfl (v := nI 5) (by decide) ?_
  refine g_newai X rfl aw_i (N := 5) (by decide) (by decide) (by decide) (by omega) (Nat.le_of_ble_eq_true rfl) (Nat.le_of_ble_eq_true rfl) ?_
  refine g_putF X rfl flX4_9 rfl hnm rfl ffX4_9 (ci := 4) rfl (by (repeat (first | exact h | exact upA_eq | refine (upA_ne (by omega)).trans ?_ | refine (l1 _ (by omega)).trans ?_))) (Nat.le_of_ble_eq_true rfl) (by rfl) (by rfl) ?_
  refine g_aload_n X rfl rfl ?_
  refine g_iconst X rfl (v := nI 5) (by decide) ?_
  refine g_newai X rfl aw_i (N := 5) (by decide) (by decide) (by decide) (by omega) (Nat.le_of_ble_eq_true rfl) (Nat.le_of_ble_eq_true rfl) ?_
  refine g_putF X rfl flX4_15 rfl hnm rfl ffX4_15 (ci := 4) rfl (by (repeat (first | exact h | exact upA_eq | refine (upA_ne (by omega)).trans ?_ | refine (l1 _ (by omega)).trans ?_))) (Nat.le_of_ble_eq_true rfl) (by rfl) (by rfl) ?_
  refine g_aload_n X rfl rfl ?_
  refine g_new X rfl nwX4_18 (ci := 3) rfl (fs := [.int (nI 0), .null, .null, .null]) rfl rfl (by omega) (Nat.le_of_ble_eq_true rfl) (Nat.le_of_ble_eq_true rfl) ?_
  refine g_dup X rfl rfl ?_
  refine g_callIN X rfl lcX3_init lnX4_20 liX3_init rfl (ci_X3_init l D cy B od (b := b + 3) (by omega) upA_eq) rfl rfl (Nat.le_of_ble_eq_true rfl) ⟨by decide, by decide⟩ ⟨by first | exact Nat.le_of_ble_eq_true rfl | omega, by first | exact Nat.le_of_ble_eq_true rfl | omega⟩ (fun v1 A1 z1 q1 => ?_)
  obtain ⟨rfl, hz, l1, e2⟩ := q1
  have hz : z1 = b + 7 + 1 := hz
  subst hz
  refine g_putF X rfl flX4_21 rfl hnm rfl ffX4_21 (ci := 4) rfl (by (repeat (first | exact h | exact upA_eq | refine (upA_ne (by omega)).trans ?_ | refine (l1 _ (by omega)).trans ?_))) (Nat.le_of_ble_eq_true rfl) (by rfl) (by rfl) ?_
  refine g_aload_n X rfl rfl ?_
  refine g_mV X rfl lcX4_useDefaults lmX4_25 lsX4_useDefaults (cm_X4_useDefaults l D cy B od (t := b) (Z := zNil) (Rm := (0, fun _ _ => 0)) ⟨(by repeat (first | exact upA_eq | refine (upA_ne (by omega)).trans ?_ | refine (l1 _ (by omega)).trans ?_)), (by repeat (first | exact upA_eq | refine (upA_ne (by omega)).trans ?_ | refine (l1 _ (by omega)).trans ?_)), (by repeat (first | exact upA_eq | refine (upA_ne (by omega)).trans ?_ | refine (l1 _ (by omega)).trans ?_))⟩ (RoomA.same (fun k h1 h2 => (by repeat (first | rfl | refine (upA_ne (by omega)).trans ?_ | refine (l1 _ (by omega)).trans ?_))) e2)) (ci := 4) (by (repeat (first | exact h | exact upA_eq | refine (upA_ne (by omega)).trans ?_ | refine (l1 _ (by omega)).trans ?_))) rfl rfl rfl (Nat.le_of_ble_eq_true rfl) ⟨⟨by decide, by decide⟩, rfl, rfl⟩ ⟨Nat.le_of_ble_eq_true rfl, Nat.le_of_ble_eq_true rfl⟩ (fun v2 A2 q2 => ?_)
  obtain ⟨rfl, f1, e3, e4⟩ := q2
  refine g_vret X rfl rfl (Nat.le_of_ble_eq_true rfl) (Nat.le_of_ble_eq_true rfl) ⟨rfl, rfl, ?_⟩
  exact ⟨fun k hk => (f1 k (Or.inl hk)).trans (by repeat (first | rfl | refine (upA_ne (by omega)).trans ?_ | refine (l1 _ (by omega)).trans ?_)), e3, e4⟩
set_option maxRecDepth 100000 in
set_option maxHeartbeats 400000 in
theorem ci_X5_init (l : Launch) (D : va_G) (cy : Nat → ClassId) (B : Nat) (od : Nat → Option Nat) {A : AH} {b : Nat} (hb : b < 800) (h : A b = some (.inr (5, [.null, .int (nI 0), .int (nI 0), .int (nI 0), .int (nI 0), .int (nI 0), .null, .int (nI 0), .int (nI 0), .int (nI 0), .int (nI 0)]))) : CT l D cy B od yX5_init cX5_init 1 none rmX5_init [.ref b] A ((b + 1) + 1) (fun v A' z' => v = none ∧ z' = (b + 9) + 1 ∧ (fun A' => (∀ k, k < b → A' k = A k) ∧ A' b = some (.inr (5, [.ref (b + 1), .int (nI 0), .int (nI 0), .int (nI 0), .int (nI 0), .int (nI 0), .ref (b + 2), .int (nI 0), .int (nI 0), .int (nI 0), .int (nI 0)])) ∧ A' (b + 1) = some (.inl (cy 0, 400, .inl (fun _ => 0))) ∧ SetA cy A' (b + 2) (zDef zNil) ∧ RoomA cy A' (b + 5) (0, fun _ _ => 0)) A') := by
  refine CT.of (by decide) tX5_init okX5_init (Nat.le_of_ble_eq_true rfl) (q0 := tX5_init[0]) rfl rfl ?_
  intro p e s m args below meth c X hnm
  refine g_aload_n X rfl rfl ?_
  refine g_objInit X rfl oiX5_3 (by decide) (Nat.le_of_ble_eq_true rfl) (by decide) ?_
  refine g_aload_n X rfl rfl ?_
  refine g_sipush X rfl (v := nI 400) (by decide) ?_
  refine g_newai X rfl aw_i (N := 400) (by decide) (by decide) (by decide) (by omega) (Nat.le_of_ble_eq_true rfl) (Nat.le_of_ble_eq_true rfl) ?_
  refine g_putF X rfl flX5_9 rfl hnm rfl ffX5_9 (ci := 5) rfl (by (repeat (first | exact h | exact upA_eq | refine (upA_ne (by omega)).trans ?_ | refine (l1 _ (by omega)).trans ?_))) (Nat.le_of_ble_eq_true rfl) (by rfl) (by rfl) ?_
  refine g_aload_n X rfl rfl ?_
  refine g_new X rfl nwX5_15 (ci := 4) rfl (fs := [.int (nI 0), .int (nI 0), .int (nI 0), .int (nI 0), .int (nI 0), .int (nI 0), .null, .null, .null]) rfl rfl (by omega) (Nat.le_of_ble_eq_true rfl) (Nat.le_of_ble_eq_true rfl) ?_
  refine g_dup X rfl rfl ?_
  refine g_callIN X rfl lcX4_init lnX5_17 liX4_init rfl (ci_X4_init l D cy B od (b := b + 2) (by omega) upA_eq) rfl rfl (Nat.le_of_ble_eq_true rfl) ⟨by decide, by decide⟩ ⟨by first | exact Nat.le_of_ble_eq_true rfl | omega, by first | exact Nat.le_of_ble_eq_true rfl | omega⟩ (fun v1 A1 z1 q1 => ?_)
  obtain ⟨rfl, hz, l1, e1, e2⟩ := q1
  have hz : z1 = b + 9 + 1 := hz
  subst hz
  refine g_put X rfl flX5_18 rfl (ci := 5) rfl (by (repeat (first | exact h | exact upA_eq | refine (upA_ne (by omega)).trans ?_ | refine (l1 _ (by omega)).trans ?_))) (Nat.le_of_ble_eq_true rfl) (by first | rfl | exact bI_nar _) (by first | rfl | decide) ?_
  refine g_vret X rfl rfl (Nat.le_of_ble_eq_true rfl) (Nat.le_of_ble_eq_true rfl) ⟨rfl, rfl, ?_⟩
  exact ⟨(fun k hk => (by repeat (first | rfl | refine (upA_ne (by omega)).trans ?_ | refine (l1 _ (by omega)).trans ?_))), (by repeat (first | exact upA_eq | refine (upA_ne (by omega)).trans ?_ | refine (l1 _ (by omega)).trans ?_)), (by repeat (first | exact upA_eq | refine (upA_ne (by omega)).trans ?_ | refine (l1 _ (by omega)).trans ?_)), SetA.same (fun k h1 h2 => (by repeat (first | rfl | refine (upA_ne (by omega)).trans ?_ | refine (l1 _ (by omega)).trans ?_))) e1, RoomA.same (fun k h1 h2 => (by repeat (first | rfl | refine (upA_ne (by omega)).trans ?_ | refine (l1 _ (by omega)).trans ?_))) e2⟩
set_option maxRecDepth 100000 in
set_option maxHeartbeats 400000 in
theorem lp_X2_init (l : Launch) (D : va_G) (cy : Nat → ClassId) (B : Nat) (od : Nat → Option Nat) {p : Program} {e : Env} {s : State} {m : MethodId} {args : Array Value} {below : List Frame} {meth : Method} {c : Code} {A : AH} {b : Nat} (hb : b < 700) (X : Cx p s m args meth c D cy B od cX2_init 2 tX2_init RX2 none) : ∀ (k i : Nat) (A1 : AH) (f : Nat → Option Nat), i ≤ 8 → 8 - i < k → (∀ k, k < b → A1 k = A k) → A1 b = some (.inr (2, [.ref (b + 1), .int (nI 0), .int (nI 0)])) → A1 (b + 1) = some (.inl (cy 4, 8, .inr (.inr (.inr (.inr f))))) → (∀ j, j < i → f j = some (b + 2 + 21 * j)) → (∀ j, j < i → StA cy A1 (b + 2 + 21 * j) sNil) → G p l e rmX2_init s m args below meth c D B od 2 tX2_init (FinQ false D B od (fun v A' z' => v = none ∧ z' = b + 170 + 1 ∧ (∀ k, k < b → A' k = A k) ∧ HisA cy A' b (0, 0, fun _ => sNil)) (fun _ _ => True) args s below 169 4320) (1 + 21 * i) (8 + 539 * i) A1 (b + 2 + 21 * i + 1) 8 [some (.ref b), some (.int (nI i))] [] := by
  intro k
  induction k with
  | zero => intro i _ _ _ h; omega
  | succ k ih =>
    intro i A1 f hi hk h0 h1 h2 h3 h4
    refine g_iload_n X rfl rfl ?_
    refine g_bipush X rfl (v := nI 8) (by decide) ?_
    refine g_ic_geN X rfl (by omega) (by omega) (fun h5 => ?_) (fun h5 => ?_)
    · have hi8 : i = 8 := by omega
      subst hi8
      refine g_vret X rfl rfl (Nat.le_of_ble_eq_true rfl) (Nat.le_of_ble_eq_true rfl) ⟨rfl, by omega, h0, h1, ⟨f, h2, h3⟩, h4⟩
    · refine g_aload_n X rfl rfl ?_
      refine g_get X rfl flX2_11 (ci := 2) rfl h1 rfl ?_
      refine g_iload_n X rfl rfl ?_
      refine g_new X rfl nwX2_9 (ci := 6) rfl (fs := [.null, .null, .null, .null, .int (nI 0), .int (nI 0)]) rfl rfl (by omega) (show 1 + 21 * i + 1 ≤ 169 by omega) (show 8 + 539 * i + 6 ≤ 4320 by omega) ?_
      refine g_dup X rfl rfl ?_
      refine g_callIN X rfl lcX6_init lnX2_17 liX6_init rfl (ci_X6_init l D cy B od (b := b + 2 + 21 * i) (by omega) upA_eq) rfl rfl (Nat.le_of_ble_eq_true rfl) ⟨by decide, by decide⟩ ⟨show 1 + 21 * i + 1 + 20 ≤ 169 by omega, show 8 + 539 * i + 6 + 533 ≤ 4320 by omega⟩ (fun v1 A2 z1 q1 => ?_)
      obtain ⟨rfl, hz, l1, e1⟩ := q1
      have hz : z1 = b + 2 + 21 * (i + 1) + 1 := by omega
      subst hz
      refine g_aast X rfl (f := f) (n := 8) ((l1 _ (by omega)).trans ((upA_ne (by omega)).trans h2)) e1.1 (vp_in_nI (by omega) (by decide)) ?_
      rw [nI_clamp (by omega)]
      refine g_iinc1 X rfl rfl (by decide) ?_
      refine g_goto X rfl ?_
      have K := ih (i + 1) (upA A2 (b + 1) (.inl (cy 4, 8, .inr (.inr (.inr (.inr (va_up f i (some (b + 2 + 21 * i)))))))) ) (va_up f i (some (b + 2 + 21 * i))) (by omega) (by omega) (fun j hj => (upA_ne (by omega)).trans ((l1 _ (by omega)).trans ((upA_ne (by omega)).trans (h0 j hj)))) ((upA_ne (by omega)).trans ((l1 _ (by omega)).trans ((upA_ne (by omega)).trans h1))) upA_eq (fun j hj => ?_) (fun j hj => ?_)
      · rw [show 1 + 21 * (i + 1) = 1 + 21 * i + 1 + rmX6_init.cells by (show _ = 1 + 21 * i + 1 + 20); omega, show 8 + 539 * (i + 1) = 8 + 539 * i + 6 + rmX6_init.slots by (show _ = 8 + 539 * i + 6 + 533); omega] at K
        exact K
      · by_cases e : j = i
        · subst e; simp [va_up]
        · simp only [va_up, e, if_false]; exact h3 j (by omega)
      · by_cases e : j = i
        · subst e; exact StA.same (fun k h1 h2 => upA_ne (by omega)) e1
        · exact StA.same (fun k h1 h2 => (upA_ne (by omega)).trans ((l1 _ (by omega)).trans (upA_ne (by omega)))) (h4 j (by omega))
set_option maxRecDepth 100000 in
set_option maxHeartbeats 400000 in
theorem ci_X2_init (l : Launch) (D : va_G) (cy : Nat → ClassId) (B : Nat) (od : Nat → Option Nat) {A : AH} {b : Nat} (hb : b < 700) (h : A b = some (.inr (2, [.null, .int (nI 0), .int (nI 0)]))) : CT l D cy B od yX2_init cX2_init 2 none rmX2_init [.ref b] A ((b + 1) + 1) (fun v A' z' => v = none ∧ z' = b + 170 + 1 ∧ (∀ k, k < b → A' k = A k) ∧ HisA cy A' b (0, 0, fun _ => sNil)) := by
  refine CT.of (by decide) tX2_init okX2_init (Nat.le_of_ble_eq_true rfl) (q0 := tX2_init[0]) rfl rfl ?_
  intro p e s m args below meth c X hnm
  refine g_aload_n X rfl rfl ?_
  refine g_objInit X rfl oiX2_3 (by decide) (Nat.le_of_ble_eq_true rfl) (by decide) ?_
  refine g_aload_n X rfl rfl ?_
  refine g_bipush X rfl (v := nI 8) (by decide) ?_
  refine g_anew X rfl clX2_9 (N := 8) (by decide) (by decide) (by decide) (by omega) (Nat.le_of_ble_eq_true rfl) (Nat.le_of_ble_eq_true rfl) ?_
  refine g_putF X rfl flX2_11 rfl hnm rfl ffX2_11 (ci := 2) rfl (by repeat (first | exact h | exact upA_eq | refine (upA_ne (by omega)).trans ?_)) (Nat.le_of_ble_eq_true rfl) (by rfl) (by rfl) ?_
  refine g_iconst X rfl (v := nI 0) (by decide) ?_
  refine g_istore_n X rfl (by decide) ?_
  exact lp_X2_init l D cy B od hb X 9 0 _ (fun _ => none) (by omega) (by omega) (fun k hk => (by repeat (first | rfl | refine (upA_ne (by omega)).trans ?_))) upA_eq (by repeat (first | exact upA_eq | refine (upA_ne (by omega)).trans ?_)) (fun j hj => absurd hj (Nat.not_lt_zero j)) (fun j hj => absurd hj (Nat.not_lt_zero j))
/-- the ledger as it is made -/
def wNew (c2 : Nat → Nat → Int32) : LW := ((11, 0, nI 0, ((0, fun _ _ => 0), (0, c2), (0, fun _ _ => 0), fun _ => 0, 0, nI 0), zNew), fun _ => 0, sNil, (0, 0, fun _ => sNil))
theorem wfNil : WfS sNil := ⟨Nat.zero_le _, Nat.zero_le _, Nat.zero_le _, Nat.zero_le _, fun j hj => absurd hj (Nat.not_lt_zero j)⟩
theorem wbNil : WfB sNil := fun j hj => absurd hj (Nat.not_lt_zero j)
theorem wfNew {c2 : Nat → Nat → Int32} : WfS (vS (wNew c2).1) := ⟨Nat.zero_le _, Nat.zero_le _, Nat.zero_le _, Nat.zero_le _, fun j hj => absurd hj (Nat.not_lt_zero j)⟩
theorem wbNew {c2 : Nat → Nat → Int32} : WfB (vS (wNew c2).1) := fun j hj => absurd hj (Nat.not_lt_zero j)
set_option maxRecDepth 100000 in
set_option maxHeartbeats 400000 in
theorem ci_X7_init (l : Launch) (D : va_G) (cy : Nat → ClassId) (B : Nat) (od : Nat → Option Nat) {A : AH} (h : A 0 = some (.inr (7, [.null, .int (nI 0), .null, .null, .null, .null, .int (nI 0), .null, .null]))) : CT l D cy B od yX7_init cX7_init 1 none rmX7_init [.ref 0] A (1 + 1) (fun v A' z' => v = none ∧ z' = 231 + 1 ∧ (fun A' => ∃ c2, LedA cy A' (wNew c2)) A') := by
  refine CT.of (by decide) tX7_init okX7_init (Nat.le_of_ble_eq_true rfl) (q0 := tX7_init[0]) rfl rfl ?_
  intro p e s m args below meth c X hnm
  refine g_aload_n X rfl rfl ?_
  refine g_objInit X rfl oiX7_3 (by decide) (Nat.le_of_ble_eq_true rfl) (by decide) ?_
  refine g_aload_n X rfl rfl ?_
  refine g_sipush X rfl (v := nI 400) (by decide) ?_
  refine g_newai X rfl aw_i (N := 400) (by decide) (by decide) (by decide) (by omega) (Nat.le_of_ble_eq_true rfl) (Nat.le_of_ble_eq_true rfl) ?_
  refine g_putF X rfl flX7_9 rfl hnm rfl ffX7_9 (ci := 7) rfl (by (repeat (first | exact h | exact upA_eq | refine (upA_ne (by omega)).trans ?_ | refine (f8 _ (by omega)).trans ?_ | refine (f7 _ (by omega)).trans ?_ | refine (f6 _ (by omega)).trans ?_ | refine (l5 _ (by omega)).trans ?_ | refine (l4 _ (by omega)).trans ?_ | refine (l3 _ (by omega)).trans ?_ | refine (l2 _ (by omega)).trans ?_ | refine (l1 _ (by omega)).trans ?_))) (Nat.le_of_ble_eq_true rfl) (by rfl) (by rfl) ?_
  refine g_aload_n X rfl rfl ?_
  refine g_new X rfl nwX7_13 (ci := 5) rfl (fs := [.null, .int (nI 0), .int (nI 0), .int (nI 0), .int (nI 0), .int (nI 0), .null, .int (nI 0), .int (nI 0), .int (nI 0), .int (nI 0)]) rfl rfl (by omega) (Nat.le_of_ble_eq_true rfl) (Nat.le_of_ble_eq_true rfl) ?_
  refine g_dup X rfl rfl ?_
  refine g_callIN X rfl lcX5_init lnX7_15 liX5_init rfl (ci_X5_init l D cy B od (b := 2) (by omega) upA_eq) rfl rfl (Nat.le_of_ble_eq_true rfl) ⟨by decide, by decide⟩ ⟨by first | exact Nat.le_of_ble_eq_true rfl | omega, by first | exact Nat.le_of_ble_eq_true rfl | omega⟩ (fun v1 A1 z1 q1 => ?_)
  obtain ⟨rfl, hz, l1, d1, d2, e1, r1⟩ := q1
  have hz : z1 = 11 + 1 := hz
  subst hz
  refine g_putF X rfl flX7_16 rfl hnm rfl ffX7_16 (ci := 7) rfl (by (repeat (first | exact h | exact upA_eq | refine (upA_ne (by omega)).trans ?_ | refine (f8 _ (by omega)).trans ?_ | refine (f7 _ (by omega)).trans ?_ | refine (f6 _ (by omega)).trans ?_ | refine (l5 _ (by omega)).trans ?_ | refine (l4 _ (by omega)).trans ?_ | refine (l3 _ (by omega)).trans ?_ | refine (l2 _ (by omega)).trans ?_ | refine (l1 _ (by omega)).trans ?_))) (Nat.le_of_ble_eq_true rfl) (by rfl) (by rfl) ?_
  refine g_aload_n X rfl rfl ?_
  refine g_new X rfl nwX7_20 (ci := 4) rfl (fs := [.int (nI 0), .int (nI 0), .int (nI 0), .int (nI 0), .int (nI 0), .int (nI 0), .null, .null, .null]) rfl rfl (by omega) (Nat.le_of_ble_eq_true rfl) (Nat.le_of_ble_eq_true rfl) ?_
  refine g_dup X rfl rfl ?_
  refine g_callIN X rfl lcX4_init lnX7_22 liX4_init rfl (ci_X4_init l D cy B od (b := 11) (by omega) upA_eq) rfl rfl (Nat.le_of_ble_eq_true rfl) ⟨by decide, by decide⟩ ⟨by first | exact Nat.le_of_ble_eq_true rfl | omega, by first | exact Nat.le_of_ble_eq_true rfl | omega⟩ (fun v2 A2 z2 q2 => ?_)
  obtain ⟨rfl, hz, l2, e2, r2⟩ := q2
  have hz : z2 = 18 + 1 := hz
  subst hz
  refine g_put X rfl flX7_23 rfl (ci := 7) rfl (by (repeat (first | exact h | exact upA_eq | refine (upA_ne (by omega)).trans ?_ | refine (f8 _ (by omega)).trans ?_ | refine (f7 _ (by omega)).trans ?_ | refine (f6 _ (by omega)).trans ?_ | refine (l5 _ (by omega)).trans ?_ | refine (l4 _ (by omega)).trans ?_ | refine (l3 _ (by omega)).trans ?_ | refine (l2 _ (by omega)).trans ?_ | refine (l1 _ (by omega)).trans ?_))) (Nat.le_of_ble_eq_true rfl) (by first | rfl | exact bI_nar _) (by first | rfl | decide) ?_
  refine g_aload_n X rfl rfl ?_
  refine g_new X rfl nwX7_27 (ci := 6) rfl (fs := [.null, .null, .null, .null, .int (nI 0), .int (nI 0)]) rfl rfl (by omega) (Nat.le_of_ble_eq_true rfl) (Nat.le_of_ble_eq_true rfl) ?_
  refine g_dup X rfl rfl ?_
  refine g_callIN X rfl lcX6_init lnX7_29 liX6_init rfl (ci_X6_init l D cy B od (b := 18) (by omega) upA_eq) rfl rfl (Nat.le_of_ble_eq_true rfl) ⟨by decide, by decide⟩ ⟨by first | exact Nat.le_of_ble_eq_true rfl | omega, by first | exact Nat.le_of_ble_eq_true rfl | omega⟩ (fun v3 A3 z3 q3 => ?_)
  obtain ⟨rfl, hz, l3, e3⟩ := q3
  have hz : z3 = 39 + 1 := hz
  subst hz
  refine g_putF X rfl flX7_30 rfl hnm rfl ffX7_30 (ci := 7) rfl (by (repeat (first | exact h | exact upA_eq | refine (upA_ne (by omega)).trans ?_ | refine (f8 _ (by omega)).trans ?_ | refine (f7 _ (by omega)).trans ?_ | refine (f6 _ (by omega)).trans ?_ | refine (l5 _ (by omega)).trans ?_ | refine (l4 _ (by omega)).trans ?_ | refine (l3 _ (by omega)).trans ?_ | refine (l2 _ (by omega)).trans ?_ | refine (l1 _ (by omega)).trans ?_))) (Nat.le_of_ble_eq_true rfl) (by rfl) (by rfl) ?_
  refine g_aload_n X rfl rfl ?_
  refine g_new X rfl nwX7_27 (ci := 6) rfl (fs := [.null, .null, .null, .null, .int (nI 0), .int (nI 0)]) rfl rfl (by omega) (Nat.le_of_ble_eq_true rfl) (Nat.le_of_ble_eq_true rfl) ?_
  refine g_dup X rfl rfl ?_
  refine g_callIN X rfl lcX6_init lnX7_29 liX6_init rfl (ci_X6_init l D cy B od (b := 39) (by omega) upA_eq) rfl rfl (Nat.le_of_ble_eq_true rfl) ⟨by decide, by decide⟩ ⟨by first | exact Nat.le_of_ble_eq_true rfl | omega, by first | exact Nat.le_of_ble_eq_true rfl | omega⟩ (fun v4 A4 z4 q4 => ?_)
  obtain ⟨rfl, hz, l4, e4⟩ := q4
  have hz : z4 = 60 + 1 := hz
  subst hz
  refine g_putF X rfl flX7_34 rfl hnm rfl ffX7_34 (ci := 7) rfl (by (repeat (first | exact h | exact upA_eq | refine (upA_ne (by omega)).trans ?_ | refine (f8 _ (by omega)).trans ?_ | refine (f7 _ (by omega)).trans ?_ | refine (f6 _ (by omega)).trans ?_ | refine (l5 _ (by omega)).trans ?_ | refine (l4 _ (by omega)).trans ?_ | refine (l3 _ (by omega)).trans ?_ | refine (l2 _ (by omega)).trans ?_ | refine (l1 _ (by omega)).trans ?_))) (Nat.le_of_ble_eq_true rfl) (by rfl) (by rfl) ?_
  refine g_aload_n X rfl rfl ?_
  refine g_new X rfl nwX7_37 (ci := 2) rfl (fs := [.null, .int (nI 0), .int (nI 0)]) rfl rfl (by omega) (Nat.le_of_ble_eq_true rfl) (Nat.le_of_ble_eq_true rfl) ?_
  refine g_dup X rfl rfl ?_
  refine g_callIN X rfl lcX2_init lnX7_39 liX2_init rfl (ci_X2_init l D cy B od (b := 60) (by omega) upA_eq) rfl rfl (Nat.le_of_ble_eq_true rfl) ⟨by decide, by decide⟩ ⟨by first | exact Nat.le_of_ble_eq_true rfl | omega, by first | exact Nat.le_of_ble_eq_true rfl | omega⟩ (fun v5 A5 z5 q5 => ?_)
  obtain ⟨rfl, hz, l5, e5⟩ := q5
  have hz : z5 = 230 + 1 := hz
  subst hz
  refine g_putF X rfl flX7_40 rfl hnm rfl ffX7_40 (ci := 7) rfl (by (repeat (first | exact h | exact upA_eq | refine (upA_ne (by omega)).trans ?_ | refine (f8 _ (by omega)).trans ?_ | refine (f7 _ (by omega)).trans ?_ | refine (f6 _ (by omega)).trans ?_ | refine (l5 _ (by omega)).trans ?_ | refine (l4 _ (by omega)).trans ?_ | refine (l3 _ (by omega)).trans ?_ | refine (l2 _ (by omega)).trans ?_ | refine (l1 _ (by omega)).trans ?_))) (Nat.le_of_ble_eq_true rfl) (by rfl) (by rfl) ?_
  refine g_aload_n X rfl rfl ?_
  refine g_sipush X rfl (v := nI 360) (by decide) ?_
  refine g_newal X rfl aw_l (N := 360) (by decide) (by decide) (by decide) (by omega) (Nat.le_of_ble_eq_true rfl) (Nat.le_of_ble_eq_true rfl) ?_
  refine g_putF X rfl flX7_44 rfl hnm rfl ffX7_44 (ci := 7) rfl (by (repeat (first | exact h | exact upA_eq | refine (upA_ne (by omega)).trans ?_ | refine (f8 _ (by omega)).trans ?_ | refine (f7 _ (by omega)).trans ?_ | refine (f6 _ (by omega)).trans ?_ | refine (l5 _ (by omega)).trans ?_ | refine (l4 _ (by omega)).trans ?_ | refine (l3 _ (by omega)).trans ?_ | refine (l2 _ (by omega)).trans ?_ | refine (l1 _ (by omega)).trans ?_))) (Nat.le_of_ble_eq_true rfl) (by rfl) (by rfl) ?_
  refine g_aload_n X rfl rfl ?_
  refine g_get X rfl flX7_23 (ci := 7) rfl (by (repeat (first | exact h | exact upA_eq | refine (upA_ne (by omega)).trans ?_ | refine (f8 _ (by omega)).trans ?_ | refine (f7 _ (by omega)).trans ?_ | refine (f6 _ (by omega)).trans ?_ | refine (l5 _ (by omega)).trans ?_ | refine (l4 _ (by omega)).trans ?_ | refine (l3 _ (by omega)).trans ?_ | refine (l2 _ (by omega)).trans ?_ | refine (l1 _ (by omega)).trans ?_))) rfl ?_
  refine g_ldc X rfl kcX7_48 ?_
  refine g_iconst X rfl (v := nI 0) (by decide) ?_
  have hS := e2.1
  refine g_mVN X rfl lcX4_addBracket lnX7_49 lsX4_addBracket (cm_X4_addBracket l D cy B od (t := 11) (Z := zDef zNil) (SetA.same (fun k h1 h2 => (by repeat (first | rfl | refine (upA_ne (by omega)).trans ?_ | refine (f8 _ (by omega)).trans ?_ | refine (f7 _ (by omega)).trans ?_ | refine (f6 _ (by omega)).trans ?_ | refine (l5 _ (by omega)).trans ?_ | refine (l4 _ (by omega)).trans ?_ | refine (l3 _ (by omega)).trans ?_ | refine (l2 _ (by omega)).trans ?_ | refine (l1 _ (by omega)).trans ?_))) e2) (Nat.le_of_ble_eq_true rfl)) (ci := 4) (by (repeat (first | exact hS | exact upA_eq | refine (upA_ne (by omega)).trans ?_ | refine (f8 _ (by omega)).trans ?_ | refine (f7 _ (by omega)).trans ?_ | refine (f6 _ (by omega)).trans ?_ | refine (l5 _ (by omega)).trans ?_ | refine (l4 _ (by omega)).trans ?_ | refine (l3 _ (by omega)).trans ?_ | refine (l2 _ (by omega)).trans ?_ | refine (l1 _ (by omega)).trans ?_))) rfl rfl rfl (Nat.le_of_ble_eq_true rfl) ⟨⟨by decide, by decide⟩, rfl, rfl⟩ ⟨Nat.le_of_ble_eq_true rfl, Nat.le_of_ble_eq_true rfl⟩ (fun v6 A6 q6 => ?_)
  obtain ⟨rfl, f6, e6⟩ := q6
  refine g_aload_n X rfl rfl ?_
  refine g_get X rfl flX7_23 (ci := 7) rfl (by (repeat (first | exact h | exact upA_eq | refine (upA_ne (by omega)).trans ?_ | refine (f8 _ (by omega)).trans ?_ | refine (f7 _ (by omega)).trans ?_ | refine (f6 _ (by omega)).trans ?_ | refine (l5 _ (by omega)).trans ?_ | refine (l4 _ (by omega)).trans ?_ | refine (l3 _ (by omega)).trans ?_ | refine (l2 _ (by omega)).trans ?_ | refine (l1 _ (by omega)).trans ?_))) rfl ?_
  refine g_ldc X rfl kcX7_53 ?_
  refine g_sipush X rfl (v := nI 250) (by decide) ?_
  have hS := e6.1
  refine g_mVN X rfl lcX4_addBracket lnX7_49 lsX4_addBracket (cm_X4_addBracket l D cy B od (t := 11) (Z := zAdd (zDef zNil) (nI 1000000) (nI 0)) e6 (Nat.le_of_ble_eq_true rfl)) (ci := 4) (by (repeat (first | exact hS | exact upA_eq | refine (upA_ne (by omega)).trans ?_ | refine (f8 _ (by omega)).trans ?_ | refine (f7 _ (by omega)).trans ?_ | refine (f6 _ (by omega)).trans ?_ | refine (l5 _ (by omega)).trans ?_ | refine (l4 _ (by omega)).trans ?_ | refine (l3 _ (by omega)).trans ?_ | refine (l2 _ (by omega)).trans ?_ | refine (l1 _ (by omega)).trans ?_))) rfl rfl rfl (Nat.le_of_ble_eq_true rfl) ⟨⟨by decide, by decide⟩, rfl, rfl⟩ ⟨Nat.le_of_ble_eq_true rfl, Nat.le_of_ble_eq_true rfl⟩ (fun v7 A7 q7 => ?_)
  obtain ⟨rfl, f7, e8⟩ := q7
  refine g_aload_n X rfl rfl ?_
  refine g_get X rfl flX7_30 (ci := 7) rfl (by (repeat (first | exact h | exact upA_eq | refine (upA_ne (by omega)).trans ?_ | refine (f8 _ (by omega)).trans ?_ | refine (f7 _ (by omega)).trans ?_ | refine (f6 _ (by omega)).trans ?_ | refine (l5 _ (by omega)).trans ?_ | refine (l4 _ (by omega)).trans ?_ | refine (l3 _ (by omega)).trans ?_ | refine (l2 _ (by omega)).trans ?_ | refine (l1 _ (by omega)).trans ?_))) rfl ?_
  refine g_aload_n X rfl rfl ?_
  refine g_get X rfl flX7_23 (ci := 7) rfl (by (repeat (first | exact h | exact upA_eq | refine (upA_ne (by omega)).trans ?_ | refine (f8 _ (by omega)).trans ?_ | refine (f7 _ (by omega)).trans ?_ | refine (f6 _ (by omega)).trans ?_ | refine (l5 _ (by omega)).trans ?_ | refine (l4 _ (by omega)).trans ?_ | refine (l3 _ (by omega)).trans ?_ | refine (l2 _ (by omega)).trans ?_ | refine (l1 _ (by omega)).trans ?_))) rfl ?_
  have hN := e3.1
  refine g_mVN X rfl lcX6_begin lnX7_54 lsX6_begin (cm_X6_begin l D cy B od (b := 18) (b2 := 11) (S := sNil) (Z := zNew) (Rm := (0, fun _ _ => 0)) (StA.same (fun k h1 h2 => (by repeat (first | rfl | refine (upA_ne (by omega)).trans ?_ | refine (f8 _ (by omega)).trans ?_ | refine (f7 _ (by omega)).trans ?_ | refine (f6 _ (by omega)).trans ?_ | refine (l5 _ (by omega)).trans ?_ | refine (l4 _ (by omega)).trans ?_ | refine (l3 _ (by omega)).trans ?_ | refine (l2 _ (by omega)).trans ?_ | refine (l1 _ (by omega)).trans ?_))) e3) e8 (RoomA.same (fun k h1 h2 => (by repeat (first | rfl | refine (upA_ne (by omega)).trans ?_ | refine (f8 _ (by omega)).trans ?_ | refine (f7 _ (by omega)).trans ?_ | refine (f6 _ (by omega)).trans ?_ | refine (l5 _ (by omega)).trans ?_ | refine (l4 _ (by omega)).trans ?_ | refine (l3 _ (by omega)).trans ?_ | refine (l2 _ (by omega)).trans ?_ | refine (l1 _ (by omega)).trans ?_))) r2) (Nat.le_of_ble_eq_true rfl) (by omega)) (ci := 6) (by (repeat (first | exact hN | exact upA_eq | refine (upA_ne (by omega)).trans ?_ | refine (f8 _ (by omega)).trans ?_ | refine (f7 _ (by omega)).trans ?_ | refine (f6 _ (by omega)).trans ?_ | refine (l5 _ (by omega)).trans ?_ | refine (l4 _ (by omega)).trans ?_ | refine (l3 _ (by omega)).trans ?_ | refine (l2 _ (by omega)).trans ?_ | refine (l1 _ (by omega)).trans ?_))) rfl rfl rfl (Nat.le_of_ble_eq_true rfl) ⟨⟨by decide, by decide⟩, rfl, rfl⟩ ⟨Nat.le_of_ble_eq_true rfl, Nat.le_of_ble_eq_true rfl⟩ (fun v8 A8 q8 => ?_)
  obtain ⟨rfl, f8, c2, e9, -⟩ := q8
  refine g_vret X rfl rfl (Nat.le_of_ble_eq_true rfl) (Nat.le_of_ble_eq_true rfl) ⟨rfl, rfl, ?_⟩
  refine ⟨c2, ⟨(by repeat (first | exact upA_eq | refine (upA_ne (by omega)).trans ?_ | refine (f8 _ (by omega)).trans ?_ | refine (f7 _ (by omega)).trans ?_ | refine (f6 _ (by omega)).trans ?_ | refine (l5 _ (by omega)).trans ?_ | refine (l4 _ (by omega)).trans ?_ | refine (l3 _ (by omega)).trans ?_ | refine (l2 _ (by omega)).trans ?_ | refine (l1 _ (by omega)).trans ?_)), e9, wfNew, SetA.same (b := 11) (fun k h1 h2 => (by repeat (first | rfl | refine (upA_ne (by omega)).trans ?_ | refine (f8 _ (by omega)).trans ?_ | refine (f7 _ (by omega)).trans ?_ | refine (f6 _ (by omega)).trans ?_ | refine (l5 _ (by omega)).trans ?_ | refine (l4 _ (by omega)).trans ?_ | refine (l3 _ (by omega)).trans ?_ | refine (l2 _ (by omega)).trans ?_ | refine (l1 _ (by omega)).trans ?_))) e8, Nat.le_of_ble_eq_true rfl⟩, wbNew, ⟨(0, fun _ _ => 0), RoomA.same (b := 14) (fun k h1 h2 => (by repeat (first | rfl | refine (upA_ne (by omega)).trans ?_ | refine (f8 _ (by omega)).trans ?_ | refine (f7 _ (by omega)).trans ?_ | refine (f6 _ (by omega)).trans ?_ | refine (l5 _ (by omega)).trans ?_ | refine (l4 _ (by omega)).trans ?_ | refine (l3 _ (by omega)).trans ?_ | refine (l2 _ (by omega)).trans ?_ | refine (l1 _ (by omega)).trans ?_))) r2, Nat.le_of_ble_eq_true rfl⟩, ⟨(by repeat (first | exact upA_eq | refine (upA_ne (by omega)).trans ?_ | refine (f8 _ (by omega)).trans ?_ | refine (f7 _ (by omega)).trans ?_ | refine (f6 _ (by omega)).trans ?_ | refine (l5 _ (by omega)).trans ?_ | refine (l4 _ (by omega)).trans ?_ | refine (l3 _ (by omega)).trans ?_ | refine (l2 _ (by omega)).trans ?_ | refine (l1 _ (by omega)).trans ?_)), Nat.le_of_ble_eq_true rfl⟩, ⟨StA.same (fun k h1 h2 => (by repeat (first | rfl | refine (upA_ne (by omega)).trans ?_ | refine (f8 _ (by omega)).trans ?_ | refine (f7 _ (by omega)).trans ?_ | refine (f6 _ (by omega)).trans ?_ | refine (l5 _ (by omega)).trans ?_ | refine (l4 _ (by omega)).trans ?_ | refine (l3 _ (by omega)).trans ?_ | refine (l2 _ (by omega)).trans ?_ | refine (l1 _ (by omega)).trans ?_))) e4, wfNil, wbNil⟩, ⟨HisA.same e5 (fun k h1 h2 => (by repeat (first | rfl | refine (upA_ne (by omega)).trans ?_ | refine (f8 _ (by omega)).trans ?_ | refine (f7 _ (by omega)).trans ?_ | refine (f6 _ (by omega)).trans ?_ | refine (l5 _ (by omega)).trans ?_ | refine (l4 _ (by omega)).trans ?_ | refine (l3 _ (by omega)).trans ?_ | refine (l2 _ (by omega)).trans ?_ | refine (l1 _ (by omega)).trans ?_))), Nat.le_of_ble_eq_true rfl, Nat.le_of_ble_eq_true rfl, fun k hk => ⟨wfNil, wbNil⟩⟩, ⟨fun _ => 0, (by repeat (first | exact upA_eq | refine (upA_ne (by omega)).trans ?_ | refine (f8 _ (by omega)).trans ?_ | refine (f7 _ (by omega)).trans ?_ | refine (f6 _ (by omega)).trans ?_ | refine (l5 _ (by omega)).trans ?_ | refine (l4 _ (by omega)).trans ?_ | refine (l3 _ (by omega)).trans ?_ | refine (l2 _ (by omega)).trans ?_ | refine (l1 _ (by omega)).trans ?_))⟩, 4, nI 0, nI 0, nI 0, nI 0, nI 0, nI 0, nI 0, nI 0, nI 0, fun _ => 0, zDef zNil, (0, fun _ _ => 0), Or.inl ⟨rfl, rfl⟩, (by repeat (first | exact d1 | exact upA_eq | refine (upA_ne (by omega)).trans ?_ | refine (f8 _ (by omega)).trans ?_ | refine (f7 _ (by omega)).trans ?_ | refine (f6 _ (by omega)).trans ?_ | refine (l5 _ (by omega)).trans ?_ | refine (l4 _ (by omega)).trans ?_ | refine (l3 _ (by omega)).trans ?_ | refine (l2 _ (by omega)).trans ?_ | refine (l1 _ (by omega)).trans ?_)), (by repeat (first | exact d2 | exact upA_eq | refine (upA_ne (by omega)).trans ?_ | refine (f8 _ (by omega)).trans ?_ | refine (f7 _ (by omega)).trans ?_ | refine (f6 _ (by omega)).trans ?_ | refine (l5 _ (by omega)).trans ?_ | refine (l4 _ (by omega)).trans ?_ | refine (l3 _ (by omega)).trans ?_ | refine (l2 _ (by omega)).trans ?_ | refine (l1 _ (by omega)).trans ?_)), SetA.same (b := 4) (fun k h1 h2 => (by repeat (first | rfl | refine (upA_ne (by omega)).trans ?_ | refine (f8 _ (by omega)).trans ?_ | refine (f7 _ (by omega)).trans ?_ | refine (f6 _ (by omega)).trans ?_ | refine (l5 _ (by omega)).trans ?_ | refine (l4 _ (by omega)).trans ?_ | refine (l3 _ (by omega)).trans ?_ | refine (l2 _ (by omega)).trans ?_ | refine (l1 _ (by omega)).trans ?_))) e1, RoomA.same (b := 7) (fun k h1 h2 => (by repeat (first | rfl | refine (upA_ne (by omega)).trans ?_ | refine (f8 _ (by omega)).trans ?_ | refine (f7 _ (by omega)).trans ?_ | refine (f6 _ (by omega)).trans ?_ | refine (l5 _ (by omega)).trans ?_ | refine (l4 _ (by omega)).trans ?_ | refine (l3 _ (by omega)).trans ?_ | refine (l2 _ (by omega)).trans ?_ | refine (l1 _ (by omega)).trans ?_))) r1, Nat.le_of_ble_eq_true rfl, Nat.le_of_ble_eq_true rfl⟩
