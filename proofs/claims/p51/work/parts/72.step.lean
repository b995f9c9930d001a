/-! 72: a round of the law: a drawn call; the loop -/
set_option maxRecDepth 100000 in
set_option maxHeartbeats 1000000 in
theorem law_push (l : Launch) (D : va_G) (cy : Nat → ClassId) (B : Nat) (od : Nat → Option Nat) (hl9 : l.stackTraces = false) {p : Program} {e : Env} {s : State} {m : MethodId} {args : Array Value} {below : List Frame} {meth : Method} {c : Code} {A : AH} {W1 : LW} {own : Nat → Nat} {mc : Int32} {ed n w hk g : Nat} {f : Nat → Nat} {H : Nat → StV} {Sw S2 : StV} {sv : Option Nat} {cl sl i z : Nat} {o6 o8 o9 : Option Value} (X : Cx p s m args meth c D cy B od cL_law 10 tL RL (some .boolean)) (hB : s.heap.size ≤ B) (hcl : cl + 1000 ≤ 600000 ∧ sl + 17000 ≤ 7000000) (hP : Pk cy A (vZ W1.1) own hk mc ed n f g (vS W1.1) H (fun b T => (sv = some b ∧ T = W1.2.2.1) ∨ (b = w ∧ T = Sw))) (hn : n ≤ 7) (hF : FRs A z) (hz : z ≤ 800000) (hL : LedA cy A W1) (hgz : RngZ (vZ W1.1)) (hi : Inv3 (vZ W1.1) (vS W1.1)) (hc : W1.2.2.2.2.1 = n + 1) (hh : ∀ j, j < n → hisS W1 j = H j) (hh2 : hisS W1 n = S2) (hE : StE Sw S2) (hH : ∀ j, j < n → Inv3 (vZ W1.1) (H j)) (hI : Inv3 (vZ W1.1) Sw) (hsv : (sv = none ∧ W1.1.2.2.1 = 0) ∨ ∃ b, sv = some b ∧ ¬ W1.1.2.2.1 = 0 ∧ Inv3 (vZ W1.1) W1.2.2.1) (hne : ∀ b, sv = some b → b ≠ w) (kk : ∀ A' W' g' sv' p6 p7 p8 p9, LHd cy A' W' hk g' sv' → G p l e room_1 s m args below meth c D B od 10 tL (lw_Z below args s) (cl + 1000) (sl + 17000) A' (0) 203 (lwL g' hk sv' i p6 p7 p8 p9) []) : G p l e room_1 s m args below meth c D B od 10 tL (lw_Z below args s) (cl + 919) (sl + 16718) A (z + 1) 199 (lwL g hk sv i o6 (some (.ref w)) o8 o9) [] := by
  obtain ⟨hcl1, hcl2⟩ := hcl
  have hz231 := hL.z hF
  obtain ⟨hw1, hw2, hw3⟩ := hP.1.2.2.2.2.2 w Sw (Or.inr ⟨rfl, rfl⟩)
  obtain ⟨fs8, hw8⟩ := hw1.at
  refine g_aload_n X rfl rfl ?_
  refine g_aload X rfl rfl ?_
  refine g_callV X rfl lcJx4a65c_add_9ea2d lmL_121 lsJx4a65c_add_9ea2d (ct_add l D cy B od hP.1.2.2.1 (Or.inr (Or.inl ⟨_, hw8⟩)) (by omega) hF (by omega)) (ci := 9) hP.1.2.2.1.1 rfl rfl rfl (Nat.le_of_ble_eq_true rfl) ⟨by decide, by decide⟩ ⟨by show cl + 920 ≤ 641696; omega, by show sl + 16838 ≤ 7176609; omega⟩ (fun v1 A1 z1 q1 => ?_)
  obtain ⟨rfl, ed2, y1, rfl, hL1, hc1, hF1, hf1⟩ := q1
  have hP2 := hP.re (A' := A1) (n' := n + 1) (g' := g) (S' := vS W1.1) (H' := hisS W1) (E' := fun b T => sv = some b ∧ T = W1.2.2.1) hF (by omega) hz231 hL1 (hc1.imp (fun q => q.1) (fun q => Nat.le_of_eq q.1.symm)) (fun q a1 a2 a3 => hf1 q a1 a2 (by omega)) PkSrc.cur (fun j hj => by
    show PkSrc _ _ _ _ _ _ (if j = n then w else f j) _ ∧ (if j = n then w else f j) ≠ g
    by_cases e : j = n
    · rw [if_pos e, e, hh2]; exact ⟨(PkSrc.e (Or.inr ⟨rfl, rfl⟩)).stb hE, hw2⟩
    · rw [if_neg e, hh j (by omega)]; exact ⟨PkSrc.i (by omega), (hP.1.2.2.2.1 j (by omega)).2⟩) (fun a b ha hb e => by
    have e : (if a = n then w else f a) = (if b = n then w else f b) := e
    by_cases ea : a = n
    · rw [if_pos ea] at e
      by_cases eb : b = n
      · omega
      · rw [if_neg eb] at e; exact absurd e (hw3 b (by omega))
    · rw [if_neg ea] at e
      by_cases eb : b = n
      · rw [if_pos eb] at e; exact absurd e.symm (hw3 a (by omega))
      · rw [if_neg eb] at e; exact hP.1.2.2.2.2.1 a b (by omega) (by omega) e) (fun b T hb => ⟨PkSrc.e (Or.inl hb), (hP.1.2.2.2.2.2 b T (Or.inl hb)).2.1, fun j hj => by
    show b ≠ (if j = n then w else f j)
    by_cases e : j = n
    · rw [if_pos e]; exact hne b hb.1
    · rw [if_neg e]; exact (hP.1.2.2.2.2.2 b T (Or.inl hb)).2.2 j (by omega)⟩)
  have hL2 : LedA cy A1 W1 := hL.st (fun q y hq hy => (hf1 q (by have := hP.1.2.1.1; omega) (fun e => by subst e; by_cases e3 : q = 3000001; omega; have a1 := hP.1.2.1.2.2 e3; have a2 := hP.1.1 q hq; have := hP.1.2.1.1; omega) (by omega)).trans hy)
  rw [← hc] at hP2
  refine g_pop X rfl rfl ?_
  refine g_z0 (g_more (c' := cl + 1000) (s' := sl + 17000) (by show cl + 920 ≤ _; omega) (by show sl + 16838 ≤ _; omega) (kk A1 W1 g sv _ _ _ _ ⟨hL2, hgz, hi, fun j hj => ?_, hsv, _, _, _, _, hP2⟩))
  by_cases e : j = n
  · rw [e, hh2]; exact hI.ste hE
  · rw [hh j (by omega)]; exact hH j (by omega)
set_option maxRecDepth 100000 in
set_option maxHeartbeats 1000000 in
theorem law_step (l : Launch) (D : va_G) (cy : Nat → ClassId) (B : Nat) (od : Nat → Option Nat) (hl9 : l.stackTraces = false) {p : Program} {e : Env} {s : State} {m : MethodId} {args : Array Value} {below : List Frame} {meth : Method} {c : Code} {A : AH} {W : LW} {hk g : Nat} {sv : Option Nat} {cl sl i z : Nat} {o6 o7 o8 o9 : Option Value} {x : Nat} (hx : x < 1100000000) (X : Cx p s m args meth c D cy B od cL_law 10 tL RL (some .boolean)) (hB : s.heap.size ≤ B) (hcl : cl + 1000 ≤ 600000 ∧ sl + 17000 ≤ 7000000) (h : LHd cy A W hk g sv) (kk : ∀ A' W' g' sv' p6 p7 p8 p9, LHd cy A' W' hk g' sv' → G p l e room_1 s m args below meth c D B od 10 tL (lw_Z below args s) (cl + 1000) (sl + 17000) A' (0) 203 (lwL g' hk sv' i p6 p7 p8 p9) []) : G p l e room_1 s m args below meth c D B od 10 tL (lw_Z below args s) cl sl A (z) 156 (lwL g hk sv i (some (.int (nI x))) o7 o8 o9) [] := by
  have h9 := h
  obtain ⟨hL, hgz, hi, hH, hsv, own, mc, ed, f, hP⟩ := h
  obtain ⟨hcl1, hcl2⟩ := hcl
  have hK := hL.2.2.2.2.2.1.2
  refine g_fr X (fun z9 hF hz9 _ _ => ?_)
  have hz231 := hL.z hF
  have hWf := hL.1.2.2.1
  have hz5 := hL.1.2.2.2.2
  obtain ⟨Lg, hbg, hfg⟩ := hP.2
  refine g_new X rfl nwL_92 (ci := 8) rfl (fs := [.int (nI 0), .int (nI 0), .int (nI 0), .int (nI 0), .int (nI 0), .null, .null, .null, .null, .null]) rfl rfl (by omega) (by show cl + 1 ≤ 641696; omega) (by show sl + 10 ≤ 7176609; omega) ?_
  refine g_dup X rfl rfl ?_
  refine g_aload_n X rfl rfl ?_
  refine g_callI X rfl lcX8_init_ lmL_223 liX8_init_ rfl (ct_X8_init_ l D cy B od (A0 := A) (g := z9) hF (by omega) hbg.1 hWf hz5) rfl rfl (Nat.le_of_ble_eq_true rfl) ⟨by decide, by decide⟩ ⟨by show cl + 201 ≤ 641696; omega, by show sl + 12010 ≤ 7176609; omega⟩ (fun v2 A2 z2 q2 => ?_)
  obtain ⟨rfl, y2, rfl, hG2, L2, hB2, hFt2⟩ := q2
  have hy2 := hG2.2.2.1
  have hP2 := hP.copy hF (by omega) hz231 hG2 hB2 hFt2
  have hL2 := hL.st (A' := A2) (fun q y _ hy => hG2.1 _ _ hy)
  obtain ⟨Lg2, hbg2, hfg2⟩ := hP2.2
  have hz2 := hL2.z hG2.2.2.2
  refine g_astoreS X rfl (by decide) rfl ?_
  refine g_iload X rfl rfl ?_
  refine g_bipush X rfl (v := nI 13) (by decide) ?_
  refine g_idiv X rfl (by decide) ?_
  rw [pk_div (by omega) (by decide) (by decide)]
  refine g_bipush X rfl (v := nI 14) (by decide) ?_
  refine g_irem X rfl (by decide) ?_
  rw [rem_N (by omega) (by decide) (by decide)]
  refine g_istoreS X rfl (by decide) rfl ?_
  refine g_aload_n X rfl rfl ?_
  refine g_iload X rfl rfl ?_
  refine g_iload X rfl rfl ?_
  refine g_sipush X rfl (v := nI 182) (by decide) ?_
  refine g_idiv X rfl (by decide) ?_
  rw [pk_div (by omega) (by decide) (by decide)]
  refine g_callS X rfl lcL_act lmL_229 stL_act (act_any l D cy B od (V := W.1) hbg2 hWf hL.2.1 hi hgz (n := x / 182) (by omega) y2 hG2.2.2.2 (by omega) (x / 13 % 14) (by omega)) rfl rfl (Nat.le_of_ble_eq_true rfl) ⟨by decide, by decide⟩ ⟨by show cl + 901 ≤ 641696; omega, by show sl + 16610 ≤ 7176609; omega⟩ (fun v3 A3 z3 q3 => ?_)
  obtain ⟨rfl, ⟨z4, rfl, hz34, hz4, hF4⟩, hA⟩ := q3
  have hL3 : LedA cy A3 W := by
    obtain ⟨L5, S5, -, -, -, -, d5⟩ := hA
    refine hL2.st (fun q y hq hy => d5 q y hy (fun hq9 => ?_))
    have e1 := hfg2 q hq9
    have e2 := hP2.1.1 q hq
    have e3 := (hP2.2.hi hL2 hP2.1.1).1
    rw [e2] at e1
    omega
  obtain ⟨S1, c1, c2, hP3⟩ := hP2.act (S1 := vS W.1) hG2.2.2.2 (by omega) hz2 hbg2 hfg2 hA
  obtain ⟨⟨Lw, hbw, hfw⟩, hwg, hwf⟩ := hP3.1.2.2.2.2.2 z9 (vS W.1) (Or.inr ⟨rfl, rfl⟩)
  refine g_istoreS X rfl (by decide) rfl ?_
  refine g_aload_n X rfl rfl ?_
  refine g_aload X rfl rfl ?_
  refine g_iload X rfl rfl ?_
  refine g_iload X rfl rfl ?_
  refine g_sipush X rfl (v := nI 182) (by decide) ?_
  refine g_idiv X rfl (by decide) ?_
  rw [pk_div (by omega) (by decide) (by decide)]
  refine g_callS X rfl lcL_call lmL_233 stL_call (call_any l D cy B od hl9 hL3 hbw.1 rfl (n := x / 182) (by omega) (z4 + 1) (x / 13 % 14) (by omega)) rfl rfl (Nat.le_of_ble_eq_true rfl) ⟨by decide, by decide⟩ ⟨by show cl + 919 ≤ 641696; omega, by show sl + 16718 ≤ 7176609; omega⟩ (fun v5 A5 z5 q5 => ?_)
  obtain ⟨rfl, q5⟩ := q5
  have hz3 := hL3.z hF4
  rcases q5 with ⟨y9, hoc, hch⟩ | ⟨E9, hoc, rfl⟩
  · obtain ⟨ho5, S2, S9, hE, hR, hL5⟩ := hch
    obtain ⟨⟨hI9, v9, hv9, hie0⟩, hSB⟩ := kept_any hi hgz hWf (n := x / 182) (by omega) (x / 13 % 14) (by omega) hoc hR
    have hie : isErr (ocI (ocW W.1 (x / 182) (x / 13 % 14))) = false := by rw [hoc, hv9]; exact hie0
    have hP5 := hP3.led hF4 (by omega) hL3 (fun q y hq hy => (ho5 q (Or.inr hq)).trans hy)
    rw [c1 _ hoc] at hP5
    have hP5 := hP5.stb hSB
    refine g_fr X (fun z6 hF5 hz6 _ _ => ?_)
    have hz6 : B + z6 ≤ s.heap.size + (cl + 919) := hz6
    have hz66 := hL5.z hF5
    have hn8 := hK.2.1
    refine g_iload X rfl rfl ?_
    refine g_icmp_eq X rfl (fun _ => ?_) (fun h => absurd rfl h)
    · skip
      refine g_iload X rfl rfl ?_
      refine g_rS X rfl lcL_isError lmL_237 stL_isError (cr_L_isError l D cy B od (v := ocI (ocW W.1 (x / 182) (x / 13 % 14)))) rfl rfl (Nat.le_of_ble_eq_true rfl) ⟨⟨by decide, by decide⟩, rfl, rfl⟩ ⟨by show cl + 919 ≤ 641696; omega, by show sl + 16718 ≤ 7176609; omega⟩ ?_
      refine g_if_eq X rfl (fun _ => ?_) (fun h => ?_)
      · skip
        refine g_aload_n X rfl rfl ?_
        refine g_rV X rfl lcJx4a65c_size_8abf5 lmL_97 lsJx4a65c_size_8abf5 (cr_size l D cy B od hP5.1.2.2.1) (ci := 9) hP5.1.2.2.1.1 rfl rfl rfl (Nat.le_of_ble_eq_true rfl) ⟨⟨by decide, by decide⟩, rfl, rfl⟩ ⟨by show cl + 919 ≤ 641696; omega, by show sl + 16718 ≤ 7176609; omega⟩ ?_
        refine g_bipush X rfl (v := nI 8) (by decide) ?_
        refine g_ic_neN X rfl (by omega) (by decide) (fun h8 => ?_) (fun h8 => ?_)
        · obtain ⟨t1, t2, t3⟩ := his_push (W := W) (W1 := (vNow W.1 S9, W.2.1, W.2.2.1, remK W.2.2.2 S2)) (S2 := S2) rfl hK.1 (by omega)
          exact law_push l D cy B od hl9 X hB ⟨hcl1, hcl2⟩ hP5 (by omega) hF5 (by omega) hL5 hgz hI9 t1 t2 t3 hE hH hi hsv (fun b hb => hP.newE hF ⟨hb, rfl⟩) kk
        · obtain ⟨t1, t2, t3⟩ := his_full (W := W) (W1 := (vNow W.1 S9, W.2.1, W.2.2.1, remK W.2.2.2 S2)) (S2 := S2) rfl hK.1 h8
          rw [h8] at hP5
          refine g_aload_n X rfl rfl ?_
          refine g_iconst X rfl (v := nI 0) (by decide) ?_
          refine g_mV X rfl lcJx4a65c_remove_915e3 lmL_217 lsJx4a65c_remove_915e3 (cm_AL_remove l D cy B od (n := 7) hP5.1.2.2.1 (i := 0) (by omega)) (ci := 9) hP5.1.2.2.1.1 rfl rfl rfl (Nat.le_of_ble_eq_true rfl) ⟨⟨by decide, by decide⟩, rfl, rfl⟩ ⟨by show cl + 919 ≤ 641696; omega, by show sl + 16718 ≤ 7176609; omega⟩ (fun v6 A6 q6 => ?_)
          obtain ⟨rfl, hL6, hf6⟩ := q6
          have hP6 := hP5.re (A' := A6) (n' := 7) (g' := g) (S' := S9) (H' := fun j => hisS W (j + 1)) (E' := fun b T => (sv = some b ∧ T = W.2.2.1) ∨ (b = z9 ∧ T = vS W.1)) hF5 (by omega) hz66 hL6 (Or.inl rfl) (fun q a1 a2 _ => hf6 q a1 a2) PkSrc.cur (fun j hj => by
            show PkSrc _ _ _ _ _ _ (if j < 0 then f j else f (j + 1)) _ ∧ (if j < 0 then f j else f (j + 1)) ≠ g
            rw [if_neg (by omega)]
            exact ⟨PkSrc.i (by omega), (hP5.1.2.2.2.1 (j + 1) (by omega)).2⟩) (fun a b ha hb e => by
            have e : (if a < 0 then f a else f (a + 1)) = (if b < 0 then f b else f (b + 1)) := e
            rw [if_neg (by omega), if_neg (by omega)] at e
            have := hP5.1.2.2.2.2.1 (a + 1) (b + 1) (by omega) (by omega) e
            omega) (fun b T hb => ⟨PkSrc.e hb, (hP5.1.2.2.2.2.2 b T hb).2.1, fun j hj => by
            show b ≠ (if j < 0 then f j else f (j + 1))
            rw [if_neg (by omega)]
            exact (hP5.1.2.2.2.2.2 b T hb).2.2 (j + 1) (by omega)⟩)
          have hL7 : LedA cy A6 (vNow W.1 S9, W.2.1, W.2.2.1, remK W.2.2.2 S2) := hL5.st (fun q y hq hy => (hf6 q (by have := hP5.1.2.1.1; omega) (fun e => by subst e; by_cases e3 : q = 3000001; omega; have a1 := hP5.1.2.1.2.2 e3; have a2 := hP5.1.1 q hq; have := hP5.1.2.1.1; omega)).trans hy)
          have hF6 : FRs A6 z6 := fun k hk9 => (hf6 k (by have := hF5.lt hP5.1.2.2.1.1; omega) (fun e => by
            obtain ⟨cap, g0, e4, -⟩ := hP5.1.2.2.1.arr (j := 0) (by omega)
            have := hF5.lt e4; omega)).trans (hF5 k hk9)
          refine g_pop X rfl rfl ?_
          exact law_push l D cy B od hl9 X hB ⟨hcl1, hcl2⟩ hP6 (by omega) hF6 (by omega) hL7 hgz hI9 t1 t2 t3 hE (fun j hj => hH (j + 1) (by omega)) hi hsv (fun b hb => hP.newE hF ⟨hb, rfl⟩) kk
      · exact absurd ((bI_iff _).mpr hie) h
  · have hie : isErr (ocI (ocW W.1 (x / 182) (x / 13 % 14))) = true := by rw [hoc]; exact isErr_c E9
    rw [c2 _ hoc] at hP3
    refine g_iload X rfl rfl ?_
    refine g_icmp_eq X rfl (fun _ => ?_) (fun h => absurd rfl h)
    · skip
      refine g_iload X rfl rfl ?_
      refine g_rS X rfl lcL_isError lmL_237 stL_isError (cr_L_isError l D cy B od (v := ocI (ocW W.1 (x / 182) (x / 13 % 14)))) rfl rfl (Nat.le_of_ble_eq_true rfl) ⟨⟨by decide, by decide⟩, rfl, rfl⟩ ⟨by show cl + 919 ≤ 641696; omega, by show sl + 16718 ≤ 7176609; omega⟩ ?_
      refine g_if_eq X rfl (fun h => ?_) (fun _ => ?_)
      · exact absurd ((bI_iff _).mp h) (by rw [hie]; decide)
      · skip
        refine g_aload X rfl rfl ?_
        refine g_astore_nS X rfl (by decide) rfl ?_
        refine g_goto X rfl ?_
        exact g_z0 (g_more (c' := cl + 1000) (s' := sl + 17000) (by show cl + 919 ≤ _; omega) (by show sl + 16718 ≤ _; omega) (kk A5 W z9 sv _ _ _ _ ⟨hL3, hgz, hi, hH, hsv, _, _, _, _, hP3.swap (Or.inr ⟨rfl, rfl⟩) (fun b T hb => ⟨Or.inl hb, hP.newE hF hb⟩)⟩))
