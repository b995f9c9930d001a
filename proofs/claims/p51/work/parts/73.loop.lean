/-! 73: the law's loop and its end -/
set_option maxRecDepth 100000 in
set_option maxHeartbeats 400000 in
theorem law_end (l : Launch) (D : va_G) (cy : Nat → ClassId) (B : Nat) (od : Nat → Option Nat) (hl9 : l.stackTraces = false) {p : Program} {e : Env} {s : State} {m : MethodId} {args : Array Value} {below : List Frame} {meth : Method} {c : Code} {A : AH} {W : LW} {hk g : Nat} {sv : Option Nat} {cl sl i z : Nat} {o6 o7 o8 o9 : Option Value} {b9 : Nat} (ha : args = #[Value.ref b9]) (X : Cx p s m args meth c D cy B od cL_law 10 tL RL (some .boolean)) (hB : s.heap.size ≤ B) (hcl : cl + 5000 ≤ 600000 ∧ sl + 30000 ≤ 7000000) (h : LHd cy A W hk g sv) : G p l e room_1 s m args below meth c D B od 10 tL (lw_Z below args s) cl sl A (z) 216 (lwL g hk sv i o6 o7 o8 o9) [] := by
  obtain ⟨hL, hgz, hi, hH, hsv, own, mc, ed, f, hP⟩ := h
  obtain ⟨hcl1, hcl2⟩ := hcl
  refine g_fr X (fun z9 hF hz9 _ _ => ?_)
  refine g_aload_n X rfl rfl ?_
  refine g_callS X rfl lcL_texts lmL_244 stL_texts (ct_L_texts l D cy B od hl9 (LQ.of hL) (z9 + 1)) rfl rfl (Nat.le_of_ble_eq_true rfl) ⟨by decide, by decide⟩ ⟨by show cl + 2109 ≤ 641696; omega, by show sl + 12654 ≤ 7176609; omega⟩ (fun v1 A1 z1 q1 => ?_)
  obtain ⟨rfl, ho1, n1, f1, hL1⟩ := q1
  have hP1 := hP.led hF (by omega) hL (fun q y hq hy => (ho1 q hq).trans hy)
  refine g_if_eq X rfl (fun h => absurd h (by decide)) (fun _ => ?_)
  · skip
    refine g_aload_n X rfl rfl ?_
    refine g_aload_n X rfl rfl ?_
    refine g_fr X (fun z8 hF8 hz8 _ _ => ?_)
    have hz8 : B + z8 ≤ s.heap.size + (cl + 2109) := hz8
    obtain ⟨hg231, Lg, hbg, hhi, hft⟩ := hP1.2.hi hL1 hP1.1.1
    have hz232 : 232 ≤ z8 := by have := hF8.lt hbg.1.1; omega
    refine g_callV X rfl lcX8_isAs lmL_188 lsX8_isAs (ct_X8_isAs l D cy B od hl9 hbg.1 hL1 rfl rfl hi.1 hL1.1.2.2.1 hL1.2.1 hi.2.1 hhi z8 hF8 (by omega) (by omega)) (ci := 8) hbg.1.1 rfl rfl rfl (Nat.le_of_ble_eq_true rfl) ⟨by decide, by decide⟩ ⟨by show cl + 4709 ≤ 641696; omega, by show sl + 28654 ≤ 7176609; omega⟩ (fun v2 A2 z2 q2 => ?_)
    obtain ⟨rfl, -⟩ := q2
    refine g_if_eq X rfl (fun h => absurd h (by decide)) (fun _ => ?_)
    · skip
      refine g_iconst X rfl (v := nI 1) (by decide) ?_
      refine g_goto X rfl ?_
      exact g_lawend X ha rfl rfl rfl hB rfl (by show cl + 4709 ≤ 641696; omega) (by show sl + 28654 ≤ 7176609; omega)
set_option maxRecDepth 100000 in
set_option maxHeartbeats 1000000 in
theorem law_loop (l : Launch) (D : va_G) (cy : Nat → ClassId) (B : Nat) (od : Nat → Option Nat) (hl9 : l.stackTraces = false) {p : Program} {e : Env} {s : State} {m : MethodId} {args : Array Value} {below : List Frame} {meth : Method} {c : Code} {hk : Nat} {b9 : Nat} (ha : args = #[Value.ref b9]) (X : Cx p s m args meth c D cy B od cL_law 10 tL RL (some .boolean)) (hB : s.heap.size ≤ B) : ∀ (d i : Nat) (A : AH) (W : LW) (g : Nat) (sv : Option Nat) (cl sl z : Nat) (o6 o7 o8 o9 : Option Value), i + d = 60 → (cl + 3600 * d + 6000 ≤ 600000 ∧ sl + 33000 * d + 40000 ≤ 7000000) → LHd cy A W hk g sv → G p l e room_1 s m args below meth c D B od 10 tL (lw_Z below args s) cl sl A (z) 60 (lwL g hk sv i o6 o7 o8 o9) [] := by
  intro d
  induction d with
  | zero =>
    intro i A W g sv cl sl z o6 o7 o8 o9 hid hcl h
    refine g_iload X rfl rfl ?_
    refine g_bipush X rfl (v := nI 60) (by decide) ?_
    refine g_ic_geN X rfl (by omega) (by decide) (fun _ => ?_) (fun h9 => absurd h9 (by omega))
    · exact law_end l D cy B od hl9 ha X hB (by omega) h
  | succ d ih =>
    intro i A W g sv cl sl z o6 o7 o8 o9 hid hcl h
    obtain ⟨hcl1, hcl2⟩ := hcl
    refine g_iload X rfl rfl ?_
    refine g_bipush X rfl (v := nI 60) (by decide) ?_
    refine g_ic_geN X rfl (by omega) (by decide) (fun h9 => absurd h9 (by omega)) (fun _ => ?_)
    · skip
      refine g_aload_n X rfl rfl ?_
      refine g_iconst X rfl (v := nI 3) (by decide) ?_
      refine g_iload X rfl rfl ?_
      refine g_bipush X rfl (v := nI 40) (by decide) ?_
      refine g_irem X rfl (by decide) ?_
      rw [rem_N (by omega) (by decide) (by decide)]
      refine g_iadd X rfl ?_
      rw [nI_add]
      refine g_ldc X rfl kcL_208 ?_
      refine g_rS X rfl lcL_pick lmL_209 stL_pick (cr_L_pick l D cy B od (k := 3 + i % 40) (N := 1000000000) (by omega) (by decide) (by decide)) rfl rfl (Nat.le_of_ble_eq_true rfl) ⟨⟨by decide, by decide⟩, rfl, rfl⟩ ⟨by show cl + 0 ≤ 641696; omega, by show sl + 0 ≤ 7176609; omega⟩ ?_
      have hx := pick_lt od (3 + i % 40) (N := 1000000000) (by decide)
      generalize pickN od (3 + i % 40) 1000000000 = x0 at *
      refine g_sipush X rfl (v := nI 983) (by decide) ?_
      refine g_iload X rfl rfl ?_
      refine g_imul X rfl ?_
      rw [pk_mul]
      refine g_iadd X rfl ?_
      rw [nI_add]
      generalize hxe : x0 + 983 * i = x at *
      have hx1 : x < 1100000000 := by omega
      refine g_istoreS X rfl (by decide) rfl ?_
      refine g_iload X rfl rfl ?_
      refine g_bipush X rfl (v := nI 13) (by decide) ?_
      refine g_irem X rfl (by decide) ?_
      rw [rem_N (by omega) (by decide) (by decide)]
      refine g_if_ne X rfl (fun _ => ?_) (fun _ => ?_)
      · exact law_step l D cy B od hl9 (o6 := o6) hx1 X hB (by omega) h (fun A' W' g' sv' p6 p7 p8 p9 h' => law_tail l D cy B od hl9 X hB (by omega) h' (fun A2 h2 => ih (i + 1) A2 W' g' sv' (cl + 3600) (sl + 33000) 0 p6 p7 p8 p9 (by omega) (by omega) h2))
      · skip
        refine g_iload X rfl rfl ?_
        refine g_bipush X rfl (v := nI 13) (by decide) ?_
        refine g_idiv X rfl (by decide) ?_
        rw [pk_div (by omega) (by decide) (by decide)]
        refine g_iconst X rfl (v := nI 4) (by decide) ?_
        refine g_irem X rfl (by decide) ?_
        rw [rem_N (by omega) (by decide) (by decide)]
        refine g_iconst X rfl (v := nI 2) (by decide) ?_
        refine g_ic_geN X rfl (by omega) (by decide) (fun _ => ?_) (fun _ => ?_)
        · skip
          refine g_iload X rfl rfl ?_
          refine g_bipush X rfl (v := nI 13) (by decide) ?_
          refine g_idiv X rfl (by decide) ?_
          rw [pk_div (by omega) (by decide) (by decide)]
          refine g_iconst X rfl (v := nI 4) (by decide) ?_
          refine g_irem X rfl (by decide) ?_
          rw [rem_N (by omega) (by decide) (by decide)]
          refine g_iconst X rfl (v := nI 2) (by decide) ?_
          refine g_ic_neN X rfl (by omega) (by decide) (fun _ => ?_) (fun _ => ?_)
          · exact law_restore l D cy B od hl9 X hB (by omega) h (fun A' W' g' sv' p6 p7 p8 p9 h' => law_tail l D cy B od hl9 X hB (by omega) h' (fun A2 h2 => ih (i + 1) A2 W' g' sv' (cl + 3600) (sl + 33000) 0 p6 p7 p8 p9 (by omega) (by omega) h2))
          · exact law_save l D cy B od hl9 X hB (by omega) h (fun A' W' g' sv' p6 p7 p8 p9 h' => law_tail l D cy B od hl9 X hB (by omega) h' (fun A2 h2 => ih (i + 1) A2 W' g' sv' (cl + 3600) (sl + 33000) 0 p6 p7 p8 p9 (by omega) (by omega) h2))
        · exact law_undo l D cy B od hl9 X hB (by omega) h (fun A' W' g' sv' p6 p7 p8 p9 h' => law_tail l D cy B od hl9 X hB (by omega) h' (fun A2 h2 => ih (i + 1) A2 W' g' sv' (cl + 3600) (sl + 33000) 0 p6 p7 p8 p9 (by omega) (by omega) h2))
