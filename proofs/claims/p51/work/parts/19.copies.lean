/-! 19: copies and additions -/
set_option maxRecDepth 100000 in
set_option maxHeartbeats 400000 in
theorem lp_X1_copyFrom (l : Launch) (D : va_G) (cy : Nat → ClassId) (B : Nat) (od : Nat → Option Nat) {p : Program} {e : Env} {s : State} {m : MethodId} {args : Array Value} {below : List Frame} {meth : Method} {c : Code} {A : AH} {z : Nat} {b b2 : Nat} {E E' : EV} (h1 : EntA cy A b E) (h2 : EntA cy A b2 E') (hn : E'.1 ≤ 60) (hd : b + 8 ≤ b2 ∨ b2 + 8 ≤ b) (hb : ∀ j, j < E'.1 → (E'.2 5 j = 0 ∨ E'.2 5 j = 1) ∧ (E'.2 6 j = 0 ∨ E'.2 6 j = 1)) (X : Cx p s m args meth c D cy B od cX1_copyFrom 3 tX1_copyFrom RX1 none) : ∀ (k i : Nat) (A1 : AH) (c9 : Nat → Nat → Int32) (g1 : EntA cy A1 b (E'.1, c9)) (g2 : SameOff A A1 b (b + 8)) (g3 : ∀ q j, j < i → c9 q j = E'.2 q j), 0 ≤ i → i ≤ E'.1 → E'.1 - i < k → G p l e rmX1_copyFrom s m args below meth c D B od 3 tX1_copyFrom (FinQ false D B od (fun v A' z' => z' = z ∧ (fun v A' => v = none ∧ SameOff A A' b (b + 8) ∧ ∃ c9 : Nat → Nat → Int32, EntA cy A' b (E'.1, c9) ∧ ∀ q j, j < E'.1 → c9 q j = E'.2 q j) v A') (fun _ _ => True) args s below rmX1_copyFrom.cells rmX1_copyFrom.slots) 0 0 A1 z 6 [some (.ref b), some (.ref b2), some (.int (nI i))] [] := by
  intro k
  induction k with
  | zero => intro i _ _ _ _ _ _ _ h; omega
  | succ k ih =>
    intro i A1 c9 g1 g2 g3 hlo hi hk
    obtain ⟨hE, hE0, hE1, hE2, hE3, hE4, hE5, hE6⟩ := id g1
    obtain ⟨hF, hF0, hF1, hF2, hF3, hF4, hF5, hF6⟩ := h2.same (g2.on (by omega))
    refine g_iload_n X rfl rfl ?_
    refine g_aload_n X rfl rfl ?_
    refine g_get X rfl flX1_34 (ci := 1) rfl (by (repeat (first | exact hE | exact upA_eq | refine (upA_ne (by omega)).trans ?_))) rfl ?_
    first | refine g_ic_geN X rfl (by omega) (by omega) (fun h1 => ?_) (fun h1 => ?_) | refine g_icmp_ge X rfl (fun h1 => ?_) (fun h1 => ?_)
    · refine g_vret X rfl rfl (Nat.le_of_ble_eq_true rfl) (Nat.le_of_ble_eq_true rfl) ⟨rfl, ?_⟩
      exact ⟨rfl, g2, c9, g1, fun q j hj => g3 q j (by omega)⟩
    · refine g_aload_n X rfl rfl ?_
      refine g_get X rfl flX1_9 (ci := 1) rfl (by (repeat (first | exact hE | exact upA_eq | refine (upA_ne (by omega)).trans ?_))) rfl ?_
      refine g_iload_n X rfl rfl ?_
      refine g_aload_n X rfl rfl ?_
      refine g_get X rfl flX1_9 (ci := 1) rfl (by (repeat (first | exact hF | exact upA_eq | refine (upA_ne (by omega)).trans ?_))) rfl ?_
      refine g_iload_n X rfl rfl ?_
      refine g_ialdN X rfl (by (repeat (first | exact hF0 | exact upA_eq | refine (upA_ne (by omega)).trans ?_))) (by omega) (by decide) ?_
      refine g_iastN X rfl (by (repeat (first | exact hE0 | exact upA_eq | refine (upA_ne (by omega)).trans ?_))) (by omega) (by decide) ?_
      refine g_aload_n X rfl rfl ?_
      refine g_get X rfl flX1_15 (ci := 1) rfl (by (repeat (first | exact hE | exact upA_eq | refine (upA_ne (by omega)).trans ?_))) rfl ?_
      refine g_iload_n X rfl rfl ?_
      refine g_aload_n X rfl rfl ?_
      refine g_get X rfl flX1_15 (ci := 1) rfl (by (repeat (first | exact hF | exact upA_eq | refine (upA_ne (by omega)).trans ?_))) rfl ?_
      refine g_iload_n X rfl rfl ?_
      refine g_ialdN X rfl (by (repeat (first | exact hF1 | exact upA_eq | refine (upA_ne (by omega)).trans ?_))) (by omega) (by decide) ?_
      refine g_iastN X rfl (by (repeat (first | exact hE1 | exact upA_eq | refine (upA_ne (by omega)).trans ?_))) (by omega) (by decide) ?_
      refine g_aload_n X rfl rfl ?_
      refine g_get X rfl flX1_18 (ci := 1) rfl (by (repeat (first | exact hE | exact upA_eq | refine (upA_ne (by omega)).trans ?_))) rfl ?_
      refine g_iload_n X rfl rfl ?_
      refine g_aload_n X rfl rfl ?_
      refine g_get X rfl flX1_18 (ci := 1) rfl (by (repeat (first | exact hF | exact upA_eq | refine (upA_ne (by omega)).trans ?_))) rfl ?_
      refine g_iload_n X rfl rfl ?_
      refine g_ialdN X rfl (by (repeat (first | exact hF2 | exact upA_eq | refine (upA_ne (by omega)).trans ?_))) (by omega) (by decide) ?_
      refine g_iastN X rfl (by (repeat (first | exact hE2 | exact upA_eq | refine (upA_ne (by omega)).trans ?_))) (by omega) (by decide) ?_
      refine g_aload_n X rfl rfl ?_
      refine g_get X rfl flX1_21 (ci := 1) rfl (by (repeat (first | exact hE | exact upA_eq | refine (upA_ne (by omega)).trans ?_))) rfl ?_
      refine g_iload_n X rfl rfl ?_
      refine g_aload_n X rfl rfl ?_
      refine g_get X rfl flX1_21 (ci := 1) rfl (by (repeat (first | exact hF | exact upA_eq | refine (upA_ne (by omega)).trans ?_))) rfl ?_
      refine g_iload_n X rfl rfl ?_
      refine g_ialdN X rfl (by (repeat (first | exact hF3 | exact upA_eq | refine (upA_ne (by omega)).trans ?_))) (by omega) (by decide) ?_
      refine g_iastN X rfl (by (repeat (first | exact hE3 | exact upA_eq | refine (upA_ne (by omega)).trans ?_))) (by omega) (by decide) ?_
      refine g_aload_n X rfl rfl ?_
      refine g_get X rfl flX1_24 (ci := 1) rfl (by (repeat (first | exact hE | exact upA_eq | refine (upA_ne (by omega)).trans ?_))) rfl ?_
      refine g_iload_n X rfl rfl ?_
      refine g_aload_n X rfl rfl ?_
      refine g_get X rfl flX1_24 (ci := 1) rfl (by (repeat (first | exact hF | exact upA_eq | refine (upA_ne (by omega)).trans ?_))) rfl ?_
      refine g_iload_n X rfl rfl ?_
      refine g_ialdN X rfl (by (repeat (first | exact hF4 | exact upA_eq | refine (upA_ne (by omega)).trans ?_))) (by omega) (by decide) ?_
      refine g_iastN X rfl (by (repeat (first | exact hE4 | exact upA_eq | refine (upA_ne (by omega)).trans ?_))) (by omega) (by decide) ?_
      refine g_aload_n X rfl rfl ?_
      refine g_get X rfl flX1_27 (ci := 1) rfl (by (repeat (first | exact hE | exact upA_eq | refine (upA_ne (by omega)).trans ?_))) rfl ?_
      refine g_iload_n X rfl rfl ?_
      refine g_aload_n X rfl rfl ?_
      refine g_get X rfl flX1_27 (ci := 1) rfl (by (repeat (first | exact hF | exact upA_eq | refine (upA_ne (by omega)).trans ?_))) rfl ?_
      refine g_iload_n X rfl rfl ?_
      refine g_zaldN X rfl (by (repeat (first | exact hF5 | exact upA_eq | refine (upA_ne (by omega)).trans ?_))) (by omega) (by decide) ?_
      refine g_zastN X rfl (by (repeat (first | exact hE5 | exact upA_eq | refine (upA_ne (by omega)).trans ?_))) (by omega) (by decide) (by first | exact (hb _ (by omega)).1 | exact (hb _ (by omega)).2) ?_
      refine g_aload_n X rfl rfl ?_
      refine g_get X rfl flX1_31 (ci := 1) rfl (by (repeat (first | exact hE | exact upA_eq | refine (upA_ne (by omega)).trans ?_))) rfl ?_
      refine g_iload_n X rfl rfl ?_
      refine g_aload_n X rfl rfl ?_
      refine g_get X rfl flX1_31 (ci := 1) rfl (by (repeat (first | exact hF | exact upA_eq | refine (upA_ne (by omega)).trans ?_))) rfl ?_
      refine g_iload_n X rfl rfl ?_
      refine g_zaldN X rfl (by (repeat (first | exact hF6 | exact upA_eq | refine (upA_ne (by omega)).trans ?_))) (by omega) (by decide) ?_
      refine g_zastN X rfl (by (repeat (first | exact hE6 | exact upA_eq | refine (upA_ne (by omega)).trans ?_))) (by omega) (by decide) (by first | exact (hb _ (by omega)).1 | exact (hb _ (by omega)).2) ?_
      refine g_iinc1 X rfl rfl (by decide) ?_
      refine g_goto X rfl ?_
      refine ih (i + 1) _ (fun q => upd (c9 q) i (E'.2 q i)) ?_ ?_ ?_ (by omega) (by omega) (by omega)
      · exact ⟨(by (repeat (first | exact hE | exact upA_eq | refine (upA_ne (by omega)).trans ?_))), (by (repeat (first | exact hE0 | exact upA_eq | refine (upA_ne (by omega)).trans ?_))), (by (repeat (first | exact hE1 | exact upA_eq | refine (upA_ne (by omega)).trans ?_))), (by (repeat (first | exact hE2 | exact upA_eq | refine (upA_ne (by omega)).trans ?_))), (by (repeat (first | exact hE3 | exact upA_eq | refine (upA_ne (by omega)).trans ?_))), (by (repeat (first | exact hE4 | exact upA_eq | refine (upA_ne (by omega)).trans ?_))), (by (repeat (first | exact hE5 | exact upA_eq | refine (upA_ne (by omega)).trans ?_))), (by (repeat (first | exact hE6 | exact upA_eq | refine (upA_ne (by omega)).trans ?_)))⟩
      · repeat (first | exact g2 | refine SameOff.up ?_ (by omega) (by omega))
      · intro q j hj
        by_cases ej : j = i
        · subst ej; exact pk_us
        · exact (pk_un ej).trans (g3 q j (by omega))
set_option maxRecDepth 100000 in
set_option maxHeartbeats 400000 in
theorem cm_X1_copyFrom (l : Launch) (D : va_G) (cy : Nat → ClassId) (B : Nat) (od : Nat → Option Nat) {A : AH} {b b2 : Nat} {E E' : EV} (h1 : EntA cy A b E) (h2 : EntA cy A b2 E') (hn : E'.1 ≤ 60) (hd : b + 8 ≤ b2 ∨ b2 + 8 ≤ b) (hb : ∀ j, j < E'.1 → (E'.2 5 j = 0 ∨ E'.2 5 j = 1) ∧ (E'.2 6 j = 0 ∨ E'.2 6 j = 1)) : CM l D cy B od yX1_copyFrom cX1_copyFrom 3 none rmX1_copyFrom [.ref b, .ref b2] A (fun v A' => v = none ∧ SameOff A A' b (b + 8) ∧ ∃ c9 : Nat → Nat → Int32, EntA cy A' b (E'.1, c9) ∧ ∀ q j, j < E'.1 → c9 q j = E'.2 q j) := by
  intro z
  refine CT.of (by decide) tX1_copyFrom okX1_copyFrom (Nat.le_of_ble_eq_true rfl) (q0 := tX1_copyFrom[0]) rfl rfl ?_
  intro p e s m args below meth c X _
  obtain ⟨hE, hE0, hE1, hE2, hE3, hE4, hE5, hE6⟩ := id h1
  obtain ⟨hF, hF0, hF1, hF2, hF3, hF4, hF5, hF6⟩ := id h2
  refine g_aload_n X rfl rfl ?_
  refine g_aload_n X rfl rfl ?_
  refine g_get X rfl flX1_34 (ci := 1) rfl (by (repeat (first | exact hF | exact upA_eq | refine (upA_ne (by omega)).trans ?_))) rfl ?_
  refine g_put X rfl flX1_34 rfl (ci := 1) rfl (by (repeat (first | exact hE | exact upA_eq | refine (upA_ne (by omega)).trans ?_))) (Nat.le_of_ble_eq_true rfl) (by first | rfl | exact bI_nar _) (by first | rfl | decide) ?_
  refine g_iconst X rfl (v := nI 0) (by decide) ?_
  refine g_istore_n X rfl (by decide) ?_
  exact lp_X1_copyFrom l D cy B od h1 h2 hn hd hb X (E'.1 + 1) 0 _ E.2 ⟨upA_eq, (upA_ne (by omega)).trans hE0, (upA_ne (by omega)).trans hE1, (upA_ne (by omega)).trans hE2, (upA_ne (by omega)).trans hE3, (upA_ne (by omega)).trans hE4, (upA_ne (by omega)).trans hE5, (upA_ne (by omega)).trans hE6⟩ ((SameOff.refl A b (b + 8)).up (by omega) (by omega)) (fun q j hj => absurd hj (by omega)) (by omega) (by omega) (by omega)
set_option maxRecDepth 100000 in
set_option maxHeartbeats 400000 in
theorem cm_X1_add (l : Launch) (D : va_G) (cy : Nat → ClassId) (B : Nat) (od : Nat → Option Nat) {A : AH} {b : Nat} {E : EV} (h1 : EntA cy A b E) (hn : E.1 < 60) {kd ca am iv pd lt : Int32} (hlt : lt = 0 ∨ lt = 1) : CM l D cy B od yX1_add cX1_add 7 (some .int) rmX1_add [.ref b, .int kd, .int ca, .int am, .int iv, .int pd, .int lt] A (fun v A' => v = some (.int (nI E.1)) ∧ SameOff A A' b (b + 8) ∧ ∃ c9 : Nat → Nat → Int32, EntA cy A' b (E.1 + 1, c9) ∧ (∀ q j, j < E.1 → c9 q j = E.2 q j) ∧ c9 0 E.1 = kd ∧ c9 1 E.1 = ca ∧ c9 2 E.1 = am ∧ c9 3 E.1 = iv ∧ c9 4 E.1 = pd ∧ c9 5 E.1 = 0 ∧ c9 6 E.1 = lt) := by
  intro z
  refine CT.of (by decide) tX1_add okX1_add (Nat.le_of_ble_eq_true rfl) (q0 := tX1_add[0]) rfl rfl ?_
  intro p e s m args below meth c X _
  obtain ⟨hE, hE0, hE1, hE2, hE3, hE4, hE5, hE6⟩ := id h1
  refine g_aload_n X rfl rfl ?_
  refine g_get X rfl flX1_34 (ci := 1) rfl (by (repeat (first | exact hE | exact upA_eq | refine (upA_ne (by omega)).trans ?_))) rfl ?_
  refine g_bipush X rfl (v := nI 60) (by decide) ?_
  first | refine g_ic_ltN X rfl (by omega) (by omega) (fun h1 => ?_) (fun h1 => ?_) | refine g_icmp_lt X rfl (fun h1 => ?_) (fun h1 => ?_)
  · refine g_aload_n X rfl rfl ?_
    refine g_get X rfl flX1_9 (ci := 1) rfl (by (repeat (first | exact hE | exact upA_eq | refine (upA_ne (by omega)).trans ?_))) rfl ?_
    refine g_aload_n X rfl rfl ?_
    refine g_get X rfl flX1_34 (ci := 1) rfl (by (repeat (first | exact hE | exact upA_eq | refine (upA_ne (by omega)).trans ?_))) rfl ?_
    refine g_iload_n X rfl rfl ?_
    refine g_iastN X rfl (by (repeat (first | exact hE0 | exact upA_eq | refine (upA_ne (by omega)).trans ?_))) (by omega) (by decide) ?_
    refine g_aload_n X rfl rfl ?_
    refine g_get X rfl flX1_15 (ci := 1) rfl (by (repeat (first | exact hE | exact upA_eq | refine (upA_ne (by omega)).trans ?_))) rfl ?_
    refine g_aload_n X rfl rfl ?_
    refine g_get X rfl flX1_34 (ci := 1) rfl (by (repeat (first | exact hE | exact upA_eq | refine (upA_ne (by omega)).trans ?_))) rfl ?_
    refine g_iload_n X rfl rfl ?_
    refine g_iastN X rfl (by (repeat (first | exact hE1 | exact upA_eq | refine (upA_ne (by omega)).trans ?_))) (by omega) (by decide) ?_
    refine g_aload_n X rfl rfl ?_
    refine g_get X rfl flX1_18 (ci := 1) rfl (by (repeat (first | exact hE | exact upA_eq | refine (upA_ne (by omega)).trans ?_))) rfl ?_
    refine g_aload_n X rfl rfl ?_
    refine g_get X rfl flX1_34 (ci := 1) rfl (by (repeat (first | exact hE | exact upA_eq | refine (upA_ne (by omega)).trans ?_))) rfl ?_
    refine g_iload_n X rfl rfl ?_
    refine g_iastN X rfl (by (repeat (first | exact hE2 | exact upA_eq | refine (upA_ne (by omega)).trans ?_))) (by omega) (by decide) ?_
    refine g_aload_n X rfl rfl ?_
    refine g_get X rfl flX1_21 (ci := 1) rfl (by (repeat (first | exact hE | exact upA_eq | refine (upA_ne (by omega)).trans ?_))) rfl ?_
    refine g_aload_n X rfl rfl ?_
    refine g_get X rfl flX1_34 (ci := 1) rfl (by (repeat (first | exact hE | exact upA_eq | refine (upA_ne (by omega)).trans ?_))) rfl ?_
    refine g_iload X rfl rfl ?_
    refine g_iastN X rfl (by (repeat (first | exact hE3 | exact upA_eq | refine (upA_ne (by omega)).trans ?_))) (by omega) (by decide) ?_
    refine g_aload_n X rfl rfl ?_
    refine g_get X rfl flX1_24 (ci := 1) rfl (by (repeat (first | exact hE | exact upA_eq | refine (upA_ne (by omega)).trans ?_))) rfl ?_
    refine g_aload_n X rfl rfl ?_
    refine g_get X rfl flX1_34 (ci := 1) rfl (by (repeat (first | exact hE | exact upA_eq | refine (upA_ne (by omega)).trans ?_))) rfl ?_
    refine g_iload X rfl rfl ?_
    refine g_iastN X rfl (by (repeat (first | exact hE4 | exact upA_eq | refine (upA_ne (by omega)).trans ?_))) (by omega) (by decide) ?_
    refine g_aload_n X rfl rfl ?_
    refine g_get X rfl flX1_27 (ci := 1) rfl (by (repeat (first | exact hE | exact upA_eq | refine (upA_ne (by omega)).trans ?_))) rfl ?_
    refine g_aload_n X rfl rfl ?_
    refine g_get X rfl flX1_34 (ci := 1) rfl (by (repeat (first | exact hE | exact upA_eq | refine (upA_ne (by omega)).trans ?_))) rfl ?_
    refine g_iconst X rfl (v := nI 0) (by decide) ?_
    refine g_zastN X rfl (by (repeat (first | exact hE5 | exact upA_eq | refine (upA_ne (by omega)).trans ?_))) (by omega) (by decide) (by first | exact hlt | decide) ?_
    refine g_aload_n X rfl rfl ?_
    refine g_get X rfl flX1_31 (ci := 1) rfl (by (repeat (first | exact hE | exact upA_eq | refine (upA_ne (by omega)).trans ?_))) rfl ?_
    refine g_aload_n X rfl rfl ?_
    refine g_get X rfl flX1_34 (ci := 1) rfl (by (repeat (first | exact hE | exact upA_eq | refine (upA_ne (by omega)).trans ?_))) rfl ?_
    refine g_iload X rfl rfl ?_
    refine g_zastN X rfl (by (repeat (first | exact hE6 | exact upA_eq | refine (upA_ne (by omega)).trans ?_))) (by omega) (by decide) (by first | exact hlt | decide) ?_
    refine g_aload_n X rfl rfl ?_
    refine g_dup X rfl rfl ?_
    refine g_get X rfl flX1_34 (ci := 1) rfl (by (repeat (first | exact hE | exact upA_eq | refine (upA_ne (by omega)).trans ?_))) rfl ?_
    refine g_iconst X rfl (v := nI 1) (by decide) ?_
    refine g_iadd X rfl ?_
    rw [nI_add]
    refine g_put X rfl flX1_34 rfl (ci := 1) rfl (by (repeat (first | exact hE | exact upA_eq | refine (upA_ne (by omega)).trans ?_))) (Nat.le_of_ble_eq_true rfl) (by first | rfl | exact bI_nar _) (by first | rfl | decide) ?_
    refine g_aload_n X rfl rfl ?_
    refine g_get X rfl flX1_34 (ci := 1) rfl (by (repeat (first | exact hE | exact upA_eq | refine (upA_ne (by omega)).trans ?_))) rfl ?_
    refine g_iconst X rfl (v := nI 1) (by decide) ?_
    refine g_isub X rfl ?_
    refine g_iret X rfl rfl (by first | rfl | exact bI_nar _ | decide) (Nat.le_of_ble_eq_true rfl) (Nat.le_of_ble_eq_true rfl) ⟨rfl, ?_⟩
    exact ⟨by rw [pk_sub (by omega)]; rfl, by (repeat (first | exact SameOff.refl _ _ _ | refine SameOff.up ?_ (by omega) (by omega))), (fun q => match q with | 0 => upd (E.2 0) E.1 kd | 1 => upd (E.2 1) E.1 ca | 2 => upd (E.2 2) E.1 am | 3 => upd (E.2 3) E.1 iv | 4 => upd (E.2 4) E.1 pd | 5 => upd (E.2 5) E.1 (nI 0) | 6 => upd (E.2 6) E.1 lt | q => E.2 q), ⟨(by (repeat (first | exact hE | exact upA_eq | refine (upA_ne (by omega)).trans ?_))), (by (repeat (first | exact hE0 | exact upA_eq | refine (upA_ne (by omega)).trans ?_))), (by (repeat (first | exact hE1 | exact upA_eq | refine (upA_ne (by omega)).trans ?_))), (by (repeat (first | exact hE2 | exact upA_eq | refine (upA_ne (by omega)).trans ?_))), (by (repeat (first | exact hE3 | exact upA_eq | refine (upA_ne (by omega)).trans ?_))), (by (repeat (first | exact hE4 | exact upA_eq | refine (upA_ne (by omega)).trans ?_))), (by (repeat (first | exact hE5 | exact upA_eq | refine (upA_ne (by omega)).trans ?_))), (by (repeat (first | exact hE6 | exact upA_eq | refine (upA_ne (by omega)).trans ?_)))⟩, fun q j hj => (by match q with | 0 => exact pk_un (by omega) | 1 => exact pk_un (by omega) | 2 => exact pk_un (by omega) | 3 => exact pk_un (by omega) | 4 => exact pk_un (by omega) | 5 => exact pk_un (by omega) | 6 => exact pk_un (by omega) | _ + 7 => rfl), pk_us, pk_us, pk_us, pk_us, pk_us, pk_us.trans nI_0, pk_us⟩
  · exact absurd h1 (by omega)
set_option maxRecDepth 100000 in
set_option maxHeartbeats 400000 in
theorem lp_X3_copyFrom (l : Launch) (D : va_G) (cy : Nat → ClassId) (B : Nat) (od : Nat → Option Nat) {p : Program} {e : Env} {s : State} {m : MethodId} {args : Array Value} {below : List Frame} {meth : Method} {c : Code} {A : AH} {z : Nat} {b b2 : Nat} {E E' : RV} (h1 : RoomA cy A b E) (h2 : RoomA cy A b2 E') (hn : E'.1 ≤ 6) (hd : b + 4 ≤ b2 ∨ b2 + 4 ≤ b) (X : Cx p s m args meth c D cy B od cX3_copyFrom 3 tX3_copyFrom RX3 none) : ∀ (k i : Nat) (A1 : AH) (c9 : Nat → Nat → Int32) (g1 : RoomA cy A1 b (E'.1, c9)) (g2 : SameOff A A1 b (b + 4)) (g3 : ∀ q j, j < i → c9 q j = E'.2 q j), 0 ≤ i → i ≤ E'.1 → E'.1 - i < k → G p l e rmX3_copyFrom s m args below meth c D B od 3 tX3_copyFrom (FinQ false D B od (fun v A' z' => z' = z ∧ (fun v A' => v = none ∧ SameOff A A' b (b + 4) ∧ ∃ c9 : Nat → Nat → Int32, RoomA cy A' b (E'.1, c9) ∧ ∀ q j, j < E'.1 → c9 q j = E'.2 q j) v A') (fun _ _ => True) args s below rmX3_copyFrom.cells rmX3_copyFrom.slots) 0 0 A1 z 6 [some (.ref b), some (.ref b2), some (.int (nI i))] [] := by
  intro k
  induction k with
  | zero => intro i _ _ _ _ _ _ _ h; omega
  | succ k ih =>
    intro i A1 c9 g1 g2 g3 hlo hi hk
    obtain ⟨hR, hR0, hR1, hR2⟩ := id g1
    obtain ⟨hF, hF0, hF1, hF2⟩ := h2.same (g2.on (by omega))
    refine g_iload_n X rfl rfl ?_
    refine g_aload_n X rfl rfl ?_
    refine g_get X rfl flX3_21 (ci := 3) rfl (by (repeat (first | exact hR | exact upA_eq | refine (upA_ne (by omega)).trans ?_))) rfl ?_
    first | refine g_ic_geN X rfl (by omega) (by omega) (fun h1 => ?_) (fun h1 => ?_) | refine g_icmp_ge X rfl (fun h1 => ?_) (fun h1 => ?_)
    · refine g_vret X rfl rfl (Nat.le_of_ble_eq_true rfl) (Nat.le_of_ble_eq_true rfl) ⟨rfl, ?_⟩
      exact ⟨rfl, g2, c9, g1, fun q j hj => g3 q j (by omega)⟩
    · refine g_aload_n X rfl rfl ?_
      refine g_get X rfl flX3_9 (ci := 3) rfl (by (repeat (first | exact hR | exact upA_eq | refine (upA_ne (by omega)).trans ?_))) rfl ?_
      refine g_iload_n X rfl rfl ?_
      refine g_aload_n X rfl rfl ?_
      refine g_get X rfl flX3_9 (ci := 3) rfl (by (repeat (first | exact hF | exact upA_eq | refine (upA_ne (by omega)).trans ?_))) rfl ?_
      refine g_iload_n X rfl rfl ?_
      refine g_ialdN X rfl (by (repeat (first | exact hF0 | exact upA_eq | refine (upA_ne (by omega)).trans ?_))) (by omega) (by decide) ?_
      refine g_iastN X rfl (by (repeat (first | exact hR0 | exact upA_eq | refine (upA_ne (by omega)).trans ?_))) (by omega) (by decide) ?_
      refine g_aload_n X rfl rfl ?_
      refine g_get X rfl flX3_15 (ci := 3) rfl (by (repeat (first | exact hR | exact upA_eq | refine (upA_ne (by omega)).trans ?_))) rfl ?_
      refine g_iload_n X rfl rfl ?_
      refine g_aload_n X rfl rfl ?_
      refine g_get X rfl flX3_15 (ci := 3) rfl (by (repeat (first | exact hF | exact upA_eq | refine (upA_ne (by omega)).trans ?_))) rfl ?_
      refine g_iload_n X rfl rfl ?_
      refine g_ialdN X rfl (by (repeat (first | exact hF1 | exact upA_eq | refine (upA_ne (by omega)).trans ?_))) (by omega) (by decide) ?_
      refine g_iastN X rfl (by (repeat (first | exact hR1 | exact upA_eq | refine (upA_ne (by omega)).trans ?_))) (by omega) (by decide) ?_
      refine g_aload_n X rfl rfl ?_
      refine g_get X rfl flX3_18 (ci := 3) rfl (by (repeat (first | exact hR | exact upA_eq | refine (upA_ne (by omega)).trans ?_))) rfl ?_
      refine g_iload_n X rfl rfl ?_
      refine g_aload_n X rfl rfl ?_
      refine g_get X rfl flX3_18 (ci := 3) rfl (by (repeat (first | exact hF | exact upA_eq | refine (upA_ne (by omega)).trans ?_))) rfl ?_
      refine g_iload_n X rfl rfl ?_
      refine g_ialdN X rfl (by (repeat (first | exact hF2 | exact upA_eq | refine (upA_ne (by omega)).trans ?_))) (by omega) (by decide) ?_
      refine g_iastN X rfl (by (repeat (first | exact hR2 | exact upA_eq | refine (upA_ne (by omega)).trans ?_))) (by omega) (by decide) ?_
      refine g_iinc1 X rfl rfl (by decide) ?_
      refine g_goto X rfl ?_
      refine ih (i + 1) _ (fun q => upd (c9 q) i (E'.2 q i)) ?_ ?_ ?_ (by omega) (by omega) (by omega)
      · exact ⟨(by (repeat (first | exact hR | exact upA_eq | refine (upA_ne (by omega)).trans ?_))), (by (repeat (first | exact hR0 | exact upA_eq | refine (upA_ne (by omega)).trans ?_))), (by (repeat (first | exact hR1 | exact upA_eq | refine (upA_ne (by omega)).trans ?_))), (by (repeat (first | exact hR2 | exact upA_eq | refine (upA_ne (by omega)).trans ?_)))⟩
      · repeat (first | exact g2 | refine SameOff.up ?_ (by omega) (by omega))
      · intro q j hj
        by_cases ej : j = i
        · subst ej; exact pk_us
        · exact (pk_un ej).trans (g3 q j (by omega))
set_option maxRecDepth 100000 in
set_option maxHeartbeats 400000 in
theorem cm_X3_copyFrom (l : Launch) (D : va_G) (cy : Nat → ClassId) (B : Nat) (od : Nat → Option Nat) {A : AH} {b b2 : Nat} {E E' : RV} (h1 : RoomA cy A b E) (h2 : RoomA cy A b2 E') (hn : E'.1 ≤ 6) (hd : b + 4 ≤ b2 ∨ b2 + 4 ≤ b) : CM l D cy B od yX3_copyFrom cX3_copyFrom 3 none rmX3_copyFrom [.ref b, .ref b2] A (fun v A' => v = none ∧ SameOff A A' b (b + 4) ∧ ∃ c9 : Nat → Nat → Int32, RoomA cy A' b (E'.1, c9) ∧ ∀ q j, j < E'.1 → c9 q j = E'.2 q j) := by
  intro z
  refine CT.of (by decide) tX3_copyFrom okX3_copyFrom (Nat.le_of_ble_eq_true rfl) (q0 := tX3_copyFrom[0]) rfl rfl ?_
  intro p e s m args below meth c X _
  obtain ⟨hR, hR0, hR1, hR2⟩ := id h1
  obtain ⟨hF, hF0, hF1, hF2⟩ := id h2
  refine g_aload_n X rfl rfl ?_
  refine g_aload_n X rfl rfl ?_
  refine g_get X rfl flX3_21 (ci := 3) rfl (by (repeat (first | exact hF | exact upA_eq | refine (upA_ne (by omega)).trans ?_))) rfl ?_
  refine g_put X rfl flX3_21 rfl (ci := 3) rfl (by (repeat (first | exact hR | exact upA_eq | refine (upA_ne (by omega)).trans ?_))) (Nat.le_of_ble_eq_true rfl) (by first | rfl | exact bI_nar _) (by first | rfl | decide) ?_
  refine g_iconst X rfl (v := nI 0) (by decide) ?_
  refine g_istore_n X rfl (by decide) ?_
  exact lp_X3_copyFrom l D cy B od h1 h2 hn hd X (E'.1 + 1) 0 _ E.2 ⟨upA_eq, (upA_ne (by omega)).trans hR0, (upA_ne (by omega)).trans hR1, (upA_ne (by omega)).trans hR2⟩ ((SameOff.refl A b (b + 4)).up (by omega) (by omega)) (fun q j hj => absurd hj (by omega)) (by omega) (by omega) (by omega)
set_option maxRecDepth 100000 in
set_option maxHeartbeats 400000 in
theorem cm_X3_add (l : Launch) (D : va_G) (cy : Nat → ClassId) (B : Nat) (od : Nat → Option Nat) {A : AH} {b : Nat} {E : RV} (h1 : RoomA cy A b E) (hn : E.1 < 6) {ar fr to : Int32} : CM l D cy B od yX3_add cX3_add 4 (some .int) rmX3_add [.ref b, .int ar, .int fr, .int to] A (fun v A' => v = some (.int (nI E.1)) ∧ SameOff A A' b (b + 4) ∧ ∃ c9 : Nat → Nat → Int32, RoomA cy A' b (E.1 + 1, c9) ∧ (∀ q j, j < E.1 → c9 q j = E.2 q j) ∧ c9 0 E.1 = ar ∧ c9 1 E.1 = fr ∧ c9 2 E.1 = to) := by
  intro z
  refine CT.of (by decide) tX3_add okX3_add (Nat.le_of_ble_eq_true rfl) (q0 := tX3_add[0]) rfl rfl ?_
  intro p e s m args below meth c X _
  obtain ⟨hR, hR0, hR1, hR2⟩ := id h1
  refine g_aload_n X rfl rfl ?_
  refine g_get X rfl flX3_21 (ci := 3) rfl (by (repeat (first | exact hR | exact upA_eq | refine (upA_ne (by omega)).trans ?_))) rfl ?_
  refine g_bipush X rfl (v := nI 6) (by decide) ?_
  first | refine g_ic_ltN X rfl (by omega) (by omega) (fun h1 => ?_) (fun h1 => ?_) | refine g_icmp_lt X rfl (fun h1 => ?_) (fun h1 => ?_)
  · refine g_aload_n X rfl rfl ?_
    refine g_get X rfl flX3_9 (ci := 3) rfl (by (repeat (first | exact hR | exact upA_eq | refine (upA_ne (by omega)).trans ?_))) rfl ?_
    refine g_aload_n X rfl rfl ?_
    refine g_get X rfl flX3_21 (ci := 3) rfl (by (repeat (first | exact hR | exact upA_eq | refine (upA_ne (by omega)).trans ?_))) rfl ?_
    refine g_iload_n X rfl rfl ?_
    refine g_iastN X rfl (by (repeat (first | exact hR0 | exact upA_eq | refine (upA_ne (by omega)).trans ?_))) (by omega) (by decide) ?_
    refine g_aload_n X rfl rfl ?_
    refine g_get X rfl flX3_15 (ci := 3) rfl (by (repeat (first | exact hR | exact upA_eq | refine (upA_ne (by omega)).trans ?_))) rfl ?_
    refine g_aload_n X rfl rfl ?_
    refine g_get X rfl flX3_21 (ci := 3) rfl (by (repeat (first | exact hR | exact upA_eq | refine (upA_ne (by omega)).trans ?_))) rfl ?_
    refine g_iload_n X rfl rfl ?_
    refine g_iastN X rfl (by (repeat (first | exact hR1 | exact upA_eq | refine (upA_ne (by omega)).trans ?_))) (by omega) (by decide) ?_
    refine g_aload_n X rfl rfl ?_
    refine g_get X rfl flX3_18 (ci := 3) rfl (by (repeat (first | exact hR | exact upA_eq | refine (upA_ne (by omega)).trans ?_))) rfl ?_
    refine g_aload_n X rfl rfl ?_
    refine g_get X rfl flX3_21 (ci := 3) rfl (by (repeat (first | exact hR | exact upA_eq | refine (upA_ne (by omega)).trans ?_))) rfl ?_
    refine g_iload_n X rfl rfl ?_
    refine g_iastN X rfl (by (repeat (first | exact hR2 | exact upA_eq | refine (upA_ne (by omega)).trans ?_))) (by omega) (by decide) ?_
    refine g_aload_n X rfl rfl ?_
    refine g_dup X rfl rfl ?_
    refine g_get X rfl flX3_21 (ci := 3) rfl (by (repeat (first | exact hR | exact upA_eq | refine (upA_ne (by omega)).trans ?_))) rfl ?_
    refine g_iconst X rfl (v := nI 1) (by decide) ?_
    refine g_iadd X rfl ?_
    rw [nI_add]
    refine g_put X rfl flX3_21 rfl (ci := 3) rfl (by (repeat (first | exact hR | exact upA_eq | refine (upA_ne (by omega)).trans ?_))) (Nat.le_of_ble_eq_true rfl) (by first | rfl | exact bI_nar _) (by first | rfl | decide) ?_
    refine g_aload_n X rfl rfl ?_
    refine g_get X rfl flX3_21 (ci := 3) rfl (by (repeat (first | exact hR | exact upA_eq | refine (upA_ne (by omega)).trans ?_))) rfl ?_
    refine g_iconst X rfl (v := nI 1) (by decide) ?_
    refine g_isub X rfl ?_
    refine g_iret X rfl rfl (by first | rfl | exact bI_nar _ | decide) (Nat.le_of_ble_eq_true rfl) (Nat.le_of_ble_eq_true rfl) ⟨rfl, ?_⟩
    exact ⟨by rw [pk_sub (by omega)]; rfl, by (repeat (first | exact SameOff.refl _ _ _ | refine SameOff.up ?_ (by omega) (by omega))), (fun q => match q with | 0 => upd (E.2 0) E.1 ar | 1 => upd (E.2 1) E.1 fr | 2 => upd (E.2 2) E.1 to | q => E.2 q), ⟨(by (repeat (first | exact hR | exact upA_eq | refine (upA_ne (by omega)).trans ?_))), (by (repeat (first | exact hR0 | exact upA_eq | refine (upA_ne (by omega)).trans ?_))), (by (repeat (first | exact hR1 | exact upA_eq | refine (upA_ne (by omega)).trans ?_))), (by (repeat (first | exact hR2 | exact upA_eq | refine (upA_ne (by omega)).trans ?_)))⟩, fun q j hj => (by match q with | 0 => exact pk_un (by omega) | 1 => exact pk_un (by omega) | 2 => exact pk_un (by omega) | _ + 3 => rfl), pk_us, pk_us, pk_us⟩
  · exact absurd h1 (by omega)
set_option maxRecDepth 100000 in
set_option maxHeartbeats 400000 in
theorem lp_X0_copyFrom (l : Launch) (D : va_G) (cy : Nat → ClassId) (B : Nat) (od : Nat → Option Nat) {p : Program} {e : Env} {s : State} {m : MethodId} {args : Array Value} {below : List Frame} {meth : Method} {c : Code} {A : AH} {z : Nat} {b b2 : Nat} {E E' : RV} (h1 : AssA cy A b E) (h2 : AssA cy A b2 E') (hn : E'.1 ≤ 12) (hd : b + 7 ≤ b2 ∨ b2 + 7 ≤ b) (X : Cx p s m args meth c D cy B od cX0_copyFrom 3 tX0_copyFrom RX0 none) : ∀ (k i : Nat) (A1 : AH) (c9 : Nat → Nat → Int32) (g1 : AssA cy A1 b (E'.1, c9)) (g2 : SameOff A A1 b (b + 7)) (g3 : ∀ q j, j < i → c9 q j = E'.2 q j), 0 ≤ i → i ≤ E'.1 → E'.1 - i < k → G p l e rmX0_copyFrom s m args below meth c D B od 3 tX0_copyFrom (FinQ false D B od (fun v A' z' => z' = z ∧ (fun v A' => v = none ∧ SameOff A A' b (b + 7) ∧ ∃ c9 : Nat → Nat → Int32, AssA cy A' b (E'.1, c9) ∧ ∀ q j, j < E'.1 → c9 q j = E'.2 q j) v A') (fun _ _ => True) args s below rmX0_copyFrom.cells rmX0_copyFrom.slots) 0 0 A1 z 6 [some (.ref b), some (.ref b2), some (.int (nI i))] [] := by
  intro k
  induction k with
  | zero => intro i _ _ _ _ _ _ _ h; omega
  | succ k ih =>
    intro i A1 c9 g1 g2 g3 hlo hi hk
    obtain ⟨hA, hA0, hA1, hA2, hA3, hA4, hA5⟩ := id g1
    obtain ⟨hF, hF0, hF1, hF2, hF3, hF4, hF5⟩ := h2.same (g2.on (by omega))
    refine g_iload_n X rfl rfl ?_
    refine g_aload_n X rfl rfl ?_
    refine g_get X rfl flX0_30 (ci := 0) rfl (by (repeat (first | exact hA | exact upA_eq | refine (upA_ne (by omega)).trans ?_))) rfl ?_
    first | refine g_ic_geN X rfl (by omega) (by omega) (fun h1 => ?_) (fun h1 => ?_) | refine g_icmp_ge X rfl (fun h1 => ?_) (fun h1 => ?_)
    · refine g_vret X rfl rfl (Nat.le_of_ble_eq_true rfl) (Nat.le_of_ble_eq_true rfl) ⟨rfl, ?_⟩
      exact ⟨rfl, g2, c9, g1, fun q j hj => g3 q j (by omega)⟩
    · refine g_aload_n X rfl rfl ?_
      refine g_get X rfl flX0_9 (ci := 0) rfl (by (repeat (first | exact hA | exact upA_eq | refine (upA_ne (by omega)).trans ?_))) rfl ?_
      refine g_iload_n X rfl rfl ?_
      refine g_aload_n X rfl rfl ?_
      refine g_get X rfl flX0_9 (ci := 0) rfl (by (repeat (first | exact hF | exact upA_eq | refine (upA_ne (by omega)).trans ?_))) rfl ?_
      refine g_iload_n X rfl rfl ?_
      refine g_ialdN X rfl (by (repeat (first | exact hF0 | exact upA_eq | refine (upA_ne (by omega)).trans ?_))) (by omega) (by decide) ?_
      refine g_iastN X rfl (by (repeat (first | exact hA0 | exact upA_eq | refine (upA_ne (by omega)).trans ?_))) (by omega) (by decide) ?_
      refine g_aload_n X rfl rfl ?_
      refine g_get X rfl flX0_15 (ci := 0) rfl (by (repeat (first | exact hA | exact upA_eq | refine (upA_ne (by omega)).trans ?_))) rfl ?_
      refine g_iload_n X rfl rfl ?_
      refine g_aload_n X rfl rfl ?_
      refine g_get X rfl flX0_15 (ci := 0) rfl (by (repeat (first | exact hF | exact upA_eq | refine (upA_ne (by omega)).trans ?_))) rfl ?_
      refine g_iload_n X rfl rfl ?_
      refine g_ialdN X rfl (by (repeat (first | exact hF1 | exact upA_eq | refine (upA_ne (by omega)).trans ?_))) (by omega) (by decide) ?_
      refine g_iastN X rfl (by (repeat (first | exact hA1 | exact upA_eq | refine (upA_ne (by omega)).trans ?_))) (by omega) (by decide) ?_
      refine g_aload_n X rfl rfl ?_
      refine g_get X rfl flX0_18 (ci := 0) rfl (by (repeat (first | exact hA | exact upA_eq | refine (upA_ne (by omega)).trans ?_))) rfl ?_
      refine g_iload_n X rfl rfl ?_
      refine g_aload_n X rfl rfl ?_
      refine g_get X rfl flX0_18 (ci := 0) rfl (by (repeat (first | exact hF | exact upA_eq | refine (upA_ne (by omega)).trans ?_))) rfl ?_
      refine g_iload_n X rfl rfl ?_
      refine g_ialdN X rfl (by (repeat (first | exact hF2 | exact upA_eq | refine (upA_ne (by omega)).trans ?_))) (by omega) (by decide) ?_
      refine g_iastN X rfl (by (repeat (first | exact hA2 | exact upA_eq | refine (upA_ne (by omega)).trans ?_))) (by omega) (by decide) ?_
      refine g_aload_n X rfl rfl ?_
      refine g_get X rfl flX0_21 (ci := 0) rfl (by (repeat (first | exact hA | exact upA_eq | refine (upA_ne (by omega)).trans ?_))) rfl ?_
      refine g_iload_n X rfl rfl ?_
      refine g_aload_n X rfl rfl ?_
      refine g_get X rfl flX0_21 (ci := 0) rfl (by (repeat (first | exact hF | exact upA_eq | refine (upA_ne (by omega)).trans ?_))) rfl ?_
      refine g_iload_n X rfl rfl ?_
      refine g_ialdN X rfl (by (repeat (first | exact hF3 | exact upA_eq | refine (upA_ne (by omega)).trans ?_))) (by omega) (by decide) ?_
      refine g_iastN X rfl (by (repeat (first | exact hA3 | exact upA_eq | refine (upA_ne (by omega)).trans ?_))) (by omega) (by decide) ?_
      refine g_aload_n X rfl rfl ?_
      refine g_get X rfl flX0_24 (ci := 0) rfl (by (repeat (first | exact hA | exact upA_eq | refine (upA_ne (by omega)).trans ?_))) rfl ?_
      refine g_iload_n X rfl rfl ?_
      refine g_aload_n X rfl rfl ?_
      refine g_get X rfl flX0_24 (ci := 0) rfl (by (repeat (first | exact hF | exact upA_eq | refine (upA_ne (by omega)).trans ?_))) rfl ?_
      refine g_iload_n X rfl rfl ?_
      refine g_ialdN X rfl (by (repeat (first | exact hF4 | exact upA_eq | refine (upA_ne (by omega)).trans ?_))) (by omega) (by decide) ?_
      refine g_iastN X rfl (by (repeat (first | exact hA4 | exact upA_eq | refine (upA_ne (by omega)).trans ?_))) (by omega) (by decide) ?_
      refine g_aload_n X rfl rfl ?_
      refine g_get X rfl flX0_27 (ci := 0) rfl (by (repeat (first | exact hA | exact upA_eq | refine (upA_ne (by omega)).trans ?_))) rfl ?_
      refine g_iload_n X rfl rfl ?_
      refine g_aload_n X rfl rfl ?_
      refine g_get X rfl flX0_27 (ci := 0) rfl (by (repeat (first | exact hF | exact upA_eq | refine (upA_ne (by omega)).trans ?_))) rfl ?_
      refine g_iload_n X rfl rfl ?_
      refine g_ialdN X rfl (by (repeat (first | exact hF5 | exact upA_eq | refine (upA_ne (by omega)).trans ?_))) (by omega) (by decide) ?_
      refine g_iastN X rfl (by (repeat (first | exact hA5 | exact upA_eq | refine (upA_ne (by omega)).trans ?_))) (by omega) (by decide) ?_
      refine g_iinc1 X rfl rfl (by decide) ?_
      refine g_goto X rfl ?_
      refine ih (i + 1) _ (fun q => upd (c9 q) i (E'.2 q i)) ?_ ?_ ?_ (by omega) (by omega) (by omega)
      · exact ⟨(by (repeat (first | exact hA | exact upA_eq | refine (upA_ne (by omega)).trans ?_))), (by (repeat (first | exact hA0 | exact upA_eq | refine (upA_ne (by omega)).trans ?_))), (by (repeat (first | exact hA1 | exact upA_eq | refine (upA_ne (by omega)).trans ?_))), (by (repeat (first | exact hA2 | exact upA_eq | refine (upA_ne (by omega)).trans ?_))), (by (repeat (first | exact hA3 | exact upA_eq | refine (upA_ne (by omega)).trans ?_))), (by (repeat (first | exact hA4 | exact upA_eq | refine (upA_ne (by omega)).trans ?_))), (by (repeat (first | exact hA5 | exact upA_eq | refine (upA_ne (by omega)).trans ?_)))⟩
      · repeat (first | exact g2 | refine SameOff.up ?_ (by omega) (by omega))
      · intro q j hj
        by_cases ej : j = i
        · subst ej; exact pk_us
        · exact (pk_un ej).trans (g3 q j (by omega))
set_option maxRecDepth 100000 in
set_option maxHeartbeats 400000 in
theorem cm_X0_copyFrom (l : Launch) (D : va_G) (cy : Nat → ClassId) (B : Nat) (od : Nat → Option Nat) {A : AH} {b b2 : Nat} {E E' : RV} (h1 : AssA cy A b E) (h2 : AssA cy A b2 E') (hn : E'.1 ≤ 12) (hd : b + 7 ≤ b2 ∨ b2 + 7 ≤ b) : CM l D cy B od yX0_copyFrom cX0_copyFrom 3 none rmX0_copyFrom [.ref b, .ref b2] A (fun v A' => v = none ∧ SameOff A A' b (b + 7) ∧ ∃ c9 : Nat → Nat → Int32, AssA cy A' b (E'.1, c9) ∧ ∀ q j, j < E'.1 → c9 q j = E'.2 q j) := by
  intro z
  refine CT.of (by decide) tX0_copyFrom okX0_copyFrom (Nat.le_of_ble_eq_true rfl) (q0 := tX0_copyFrom[0]) rfl rfl ?_
  intro p e s m args below meth c X _
  obtain ⟨hA, hA0, hA1, hA2, hA3, hA4, hA5⟩ := id h1
  obtain ⟨hF, hF0, hF1, hF2, hF3, hF4, hF5⟩ := id h2
  refine g_aload_n X rfl rfl ?_
  refine g_aload_n X rfl rfl ?_
  refine g_get X rfl flX0_30 (ci := 0) rfl (by (repeat (first | exact hF | exact upA_eq | refine (upA_ne (by omega)).trans ?_))) rfl ?_
  refine g_put X rfl flX0_30 rfl (ci := 0) rfl (by (repeat (first | exact hA | exact upA_eq | refine (upA_ne (by omega)).trans ?_))) (Nat.le_of_ble_eq_true rfl) (by first | rfl | exact bI_nar _) (by first | rfl | decide) ?_
  refine g_iconst X rfl (v := nI 0) (by decide) ?_
  refine g_istore_n X rfl (by decide) ?_
  exact lp_X0_copyFrom l D cy B od h1 h2 hn hd X (E'.1 + 1) 0 _ E.2 ⟨upA_eq, (upA_ne (by omega)).trans hA0, (upA_ne (by omega)).trans hA1, (upA_ne (by omega)).trans hA2, (upA_ne (by omega)).trans hA3, (upA_ne (by omega)).trans hA4, (upA_ne (by omega)).trans hA5⟩ ((SameOff.refl A b (b + 7)).up (by omega) (by omega)) (fun q j hj => absurd hj (by omega)) (by omega) (by omega) (by omega)
set_option maxRecDepth 100000 in
set_option maxHeartbeats 400000 in
theorem cm_X0_add (l : Launch) (D : va_G) (cy : Nat → ClassId) (B : Nat) (od : Nat → Option Nat) {A : AH} {b : Nat} {E : RV} (h1 : AssA cy A b E) (hn : E.1 < 12) {pr dy li so : Int32} : CM l D cy B od yX0_add cX0_add 5 (some .int) rmX0_add [.ref b, .int pr, .int dy, .int li, .int so] A (fun v A' => v = some (.int (nI E.1)) ∧ SameOff A A' b (b + 7) ∧ ∃ c9 : Nat → Nat → Int32, AssA cy A' b (E.1 + 1, c9) ∧ (∀ q j, j < E.1 → c9 q j = E.2 q j) ∧ c9 0 E.1 = pr ∧ c9 1 E.1 = dy ∧ c9 2 E.1 = li ∧ c9 3 E.1 = so ∧ c9 4 E.1 = (-1) ∧ c9 5 E.1 = (-1)) := by
  intro z
  refine CT.of (by decide) tX0_add okX0_add (Nat.le_of_ble_eq_true rfl) (q0 := tX0_add[0]) rfl rfl ?_
  intro p e s m args below meth c X _
  obtain ⟨hA, hA0, hA1, hA2, hA3, hA4, hA5⟩ := id h1
  refine g_aload_n X rfl rfl ?_
  refine g_get X rfl flX0_30 (ci := 0) rfl (by (repeat (first | exact hA | exact upA_eq | refine (upA_ne (by omega)).trans ?_))) rfl ?_
  refine g_bipush X rfl (v := nI 12) (by decide) ?_
  first | refine g_ic_ltN X rfl (by omega) (by omega) (fun h1 => ?_) (fun h1 => ?_) | refine g_icmp_lt X rfl (fun h1 => ?_) (fun h1 => ?_)
  · refine g_aload_n X rfl rfl ?_
    refine g_get X rfl flX0_9 (ci := 0) rfl (by (repeat (first | exact hA | exact upA_eq | refine (upA_ne (by omega)).trans ?_))) rfl ?_
    refine g_aload_n X rfl rfl ?_
    refine g_get X rfl flX0_30 (ci := 0) rfl (by (repeat (first | exact hA | exact upA_eq | refine (upA_ne (by omega)).trans ?_))) rfl ?_
    refine g_iload_n X rfl rfl ?_
    refine g_iastN X rfl (by (repeat (first | exact hA0 | exact upA_eq | refine (upA_ne (by omega)).trans ?_))) (by omega) (by decide) ?_
    refine g_aload_n X rfl rfl ?_
    refine g_get X rfl flX0_15 (ci := 0) rfl (by (repeat (first | exact hA | exact upA_eq | refine (upA_ne (by omega)).trans ?_))) rfl ?_
    refine g_aload_n X rfl rfl ?_
    refine g_get X rfl flX0_30 (ci := 0) rfl (by (repeat (first | exact hA | exact upA_eq | refine (upA_ne (by omega)).trans ?_))) rfl ?_
    refine g_iload_n X rfl rfl ?_
    refine g_iastN X rfl (by (repeat (first | exact hA1 | exact upA_eq | refine (upA_ne (by omega)).trans ?_))) (by omega) (by decide) ?_
    refine g_aload_n X rfl rfl ?_
    refine g_get X rfl flX0_18 (ci := 0) rfl (by (repeat (first | exact hA | exact upA_eq | refine (upA_ne (by omega)).trans ?_))) rfl ?_
    refine g_aload_n X rfl rfl ?_
    refine g_get X rfl flX0_30 (ci := 0) rfl (by (repeat (first | exact hA | exact upA_eq | refine (upA_ne (by omega)).trans ?_))) rfl ?_
    refine g_iload_n X rfl rfl ?_
    refine g_iastN X rfl (by (repeat (first | exact hA2 | exact upA_eq | refine (upA_ne (by omega)).trans ?_))) (by omega) (by decide) ?_
    refine g_aload_n X rfl rfl ?_
    refine g_get X rfl flX0_21 (ci := 0) rfl (by (repeat (first | exact hA | exact upA_eq | refine (upA_ne (by omega)).trans ?_))) rfl ?_
    refine g_aload_n X rfl rfl ?_
    refine g_get X rfl flX0_30 (ci := 0) rfl (by (repeat (first | exact hA | exact upA_eq | refine (upA_ne (by omega)).trans ?_))) rfl ?_
    refine g_iload X rfl rfl ?_
    refine g_iastN X rfl (by (repeat (first | exact hA3 | exact upA_eq | refine (upA_ne (by omega)).trans ?_))) (by omega) (by decide) ?_
    refine g_aload_n X rfl rfl ?_
    refine g_get X rfl flX0_24 (ci := 0) rfl (by (repeat (first | exact hA | exact upA_eq | refine (upA_ne (by omega)).trans ?_))) rfl ?_
    refine g_aload_n X rfl rfl ?_
    refine g_get X rfl flX0_30 (ci := 0) rfl (by (repeat (first | exact hA | exact upA_eq | refine (upA_ne (by omega)).trans ?_))) rfl ?_
    refine g_iconst X rfl (v := (-1)) (by decide) ?_
    refine g_iastN X rfl (by (repeat (first | exact hA4 | exact upA_eq | refine (upA_ne (by omega)).trans ?_))) (by omega) (by decide) ?_
    refine g_aload_n X rfl rfl ?_
    refine g_get X rfl flX0_27 (ci := 0) rfl (by (repeat (first | exact hA | exact upA_eq | refine (upA_ne (by omega)).trans ?_))) rfl ?_
    refine g_aload_n X rfl rfl ?_
    refine g_get X rfl flX0_30 (ci := 0) rfl (by (repeat (first | exact hA | exact upA_eq | refine (upA_ne (by omega)).trans ?_))) rfl ?_
    refine g_iconst X rfl (v := (-1)) (by decide) ?_
    refine g_iastN X rfl (by (repeat (first | exact hA5 | exact upA_eq | refine (upA_ne (by omega)).trans ?_))) (by omega) (by decide) ?_
    refine g_aload_n X rfl rfl ?_
    refine g_dup X rfl rfl ?_
    refine g_get X rfl flX0_30 (ci := 0) rfl (by (repeat (first | exact hA | exact upA_eq | refine (upA_ne (by omega)).trans ?_))) rfl ?_
    refine g_iconst X rfl (v := nI 1) (by decide) ?_
    refine g_iadd X rfl ?_
    rw [nI_add]
    refine g_put X rfl flX0_30 rfl (ci := 0) rfl (by (repeat (first | exact hA | exact upA_eq | refine (upA_ne (by omega)).trans ?_))) (Nat.le_of_ble_eq_true rfl) (by first | rfl | exact bI_nar _) (by first | rfl | decide) ?_
    refine g_aload_n X rfl rfl ?_
    refine g_get X rfl flX0_30 (ci := 0) rfl (by (repeat (first | exact hA | exact upA_eq | refine (upA_ne (by omega)).trans ?_))) rfl ?_
    refine g_iconst X rfl (v := nI 1) (by decide) ?_
    refine g_isub X rfl ?_
    refine g_iret X rfl rfl (by first | rfl | exact bI_nar _ | decide) (Nat.le_of_ble_eq_true rfl) (Nat.le_of_ble_eq_true rfl) ⟨rfl, ?_⟩
    exact ⟨by rw [pk_sub (by omega)]; rfl, by (repeat (first | exact SameOff.refl _ _ _ | refine SameOff.up ?_ (by omega) (by omega))), (fun q => match q with | 0 => upd (E.2 0) E.1 pr | 1 => upd (E.2 1) E.1 dy | 2 => upd (E.2 2) E.1 li | 3 => upd (E.2 3) E.1 so | 4 => upd (E.2 4) E.1 (-1) | 5 => upd (E.2 5) E.1 (-1) | q => E.2 q), ⟨(by (repeat (first | exact hA | exact upA_eq | refine (upA_ne (by omega)).trans ?_))), (by (repeat (first | exact hA0 | exact upA_eq | refine (upA_ne (by omega)).trans ?_))), (by (repeat (first | exact hA1 | exact upA_eq | refine (upA_ne (by omega)).trans ?_))), (by (repeat (first | exact hA2 | exact upA_eq | refine (upA_ne (by omega)).trans ?_))), (by (repeat (first | exact hA3 | exact upA_eq | refine (upA_ne (by omega)).trans ?_))), (by (repeat (first | exact hA4 | exact upA_eq | refine (upA_ne (by omega)).trans ?_))), (by (repeat (first | exact hA5 | exact upA_eq | refine (upA_ne (by omega)).trans ?_)))⟩, fun q j hj => (by match q with | 0 => exact pk_un (by omega) | 1 => exact pk_un (by omega) | 2 => exact pk_un (by omega) | 3 => exact pk_un (by omega) | 4 => exact pk_un (by omega) | 5 => exact pk_un (by omega) | _ + 6 => rfl), pk_us, pk_us, pk_us, pk_us, pk_us, pk_us⟩
  · exact absurd h1 (by omega)
