/-! 68: invalid texts: typed, placed, not loaded -/
section CORE68
variable {p : Program} {l : Launch} {e : Env} {R : Room} {s : State} {m : MethodId} {args : Array Value} {below : List Frame} {meth : Method} {c : Code}
theorem ldcwStr {T : State} {locs : List Loc} {cells slots : Nat} (X : Stand p l e R s m args below meth c T locs cells slots) (hexec : p.tables.exec = Jvm.exec) {own text : String} {index : Nat} {a : Addr} (hown : s.vm.findClass own = some m.cls)
    (hconst : (Cond.stringRef own index text).before args s = true) (hev : (Term.string own index).eval args s none [] s = some (.ref a)) {g : JFrame} (hg : g.method = m) (hdg : decode c.code g.pc = .ok (.ldc_w index, 3)) :
    ∀ target, Steps p.tables e below (T.setTop { g with pc := g.pc + 3, stack := .ref a :: g.stack }) target → Steps p.tables e below (T.setTop g) target := by
  obtain ⟨k, cf, i, a', hk, hcf, hcp, -, hr, hev'⟩ := Cond.stringRef_spec hown hconst
  cases hev.symm.trans hev'
  obtain ⟨k', hk', he⟩ := X.warmed.alike.2.2 _ _ hk
  have hr' : k'.resolved[index]? = some (some (.string a)) := by
    rcases X.warmed.entry hk hk' index with h | ⟨h, -⟩
    · rw [h]; exact hr
    · rw [hr] at h; cases h
  intro target hrest
  subst hg
  jvm_step X.here [hexec, hdg, ldc_w.wp_string (e := e) (s := T) (f := g) X.here.top hk' (by rw [he]; exact hcf) hcp hr']
  exact hrest
variable {D : va_G} {cy : Nat → ClassId} {B : Nat} {od : Nat → Option Nat} {cc : ByteArray} {nL : Nat} {tab : List PT} {own : String} {ret : Option FieldType}
variable {F : State → Prop} {cells slots : Nat} {A : AH} {z i pc len nx tg : Nat} {lv : List (Option Value)} {st : List Value}
theorem lv_ldcwS {H : Heap} {locs : List Loc} {Q : State → Prop} {ls : Array Slot} {rest : List Value} (hexec : p.tables.exec = Jvm.exec) (hb : c.code = cc) {own tx : String} {index q : Nat} (hown : s.vm.findClass own = some m.cls) (hZ : vk_R own index tx q s) (hdg : decode cc pc = .ok (.ldc_w index, 3))
    (k : W p l e R s m args below meth c H locs cells slots Q (F0 m (pc + 3) ls (.ref q :: rest))) : W p l e R s m args below meth c H locs cells slots Q (F0 m pc ls rest) := by
  intro T hT X
  obtain ⟨t, a1, b1⟩ := k T hT X
  exact ⟨t, ldcwStr X hexec hown (text := tx) (a := q) hZ.1 hZ.2 (g := F0 m pc ls rest) rfl (by rw [hb]; exact hdg) t a1, b1⟩
theorem g_ldcwS (X : Cx p s m args meth c D cy B od cc nL tab own ret) {ix j : Nat} {text : String} (hi : tab[i]? = some (pc, .ldc_w ix, 3, nx, tg)) (hs : strT[j]? = some (own, ix, text)) (kk : G p l e R s m args below meth c D B od nL tab F cells slots A z nx lv (.ref (1000000 + j) :: st)) : G p l e R s m args below meth c D B od nL tab F cells slots A z i lv st := by
  intro q hq H locs ls hR hS hl
  cases Option.some.inj (hi.symm.trans hq)
  obtain ⟨q2, hq2, e2⟩ := X.2.2.2.1.fall hi rfl
  have K := kk q2 hq2 H locs ls hR hS hl
  rw [e2] at K
  obtain ⟨a, ha, hv⟩ := X.2.2.2.2.2.2.2.2.2.1 j _ hs
  have K2 : W p l e R s m args below meth c H locs cells slots F (F0 m (pc + 3) ls (.ref (rho B od (1000000 + j)) :: st.map (trV B od))) := K
  rw [rho_od ha] at K2
  exact lv_ldcwS X.1.1 X.1.2.1 X.1.2.2.2.1 hv (X.2.2.2.1.dec hi) K2
end CORE68
theorem wr_len : ∀ j, j < 19 → (strN (19 + j)).length ≤ 60 ∧ ∀ k, k < (strN (19 + j)).length → 1 ≤ (strN (19 + j)).getD k 0 ∧ (strN (19 + j)).getD k 0 < 128 := by decide +kernel
/-- the ledger but for what is typed -/
def LQ (cy : Nat → ClassId) (A : AH) (W : LW) : Prop := ∃ n f, LedA cy A ((W.1.1, n, W.1.2.2), f, W.2.2)
theorem LQ.of {cy : Nat → ClassId} {A : AH} {W : LW} (h : LedA cy A W) : LQ cy A W := ⟨_, _, h⟩
set_option maxRecDepth 100000 in
set_option maxHeartbeats 400000 in
theorem ct_L_isWrong (l : Launch) (D : va_G) (cy : Nat → ClassId) (B : Nat) (od : Nat → Option Nat) (hl9 : l.stackTraces = false) {A : AH} {W : LW} (hQ : LQ cy A W) {j : Nat} (hj : j < 19) (z : Nat) : CT l D cy B od yL_isWrong cL_isWrong 3 (some .boolean) rmL_isWrong [.ref 0, .ref (1000000 + (19 + j)), .int (nI (plW.getD j 0))] A z (fun v A' _ => v = some (.int (nI 1)) ∧ (∀ k, 231 ≤ k → A' k = A k) ∧ LQ cy A' W) := by
  obtain ⟨n0, f0, hW⟩ := hQ
  refine CT.of (by decide) tL_isWrong okL_isWrong (Nat.le_of_ble_eq_true rfl) (q0 := tL_isWrong[0]) rfl rfl ?_
  intro p e s m args below meth c X hnm
  refine g_aload_n X rfl rfl ?_
  refine g_aload_n X rfl rfl ?_
  refine g_callS X rfl lcL_type lmL_200 stL_type (ct_L_type l D cy B od hl9 hW (fun A9 _ => str_old (by omega)) (fun k hk => ((wr_len j hj).2 k hk).2) (fun k hk => ((wr_len j hj).2 k hk).1) (Nat.le_trans (wr_len j hj).1 (by decide)) z) rfl rfl (Nat.le_of_ble_eq_true rfl) ⟨by decide, by decide⟩ ⟨Nat.le_of_ble_eq_true rfl, Nat.le_of_ble_eq_true rfl⟩ (fun v1 A1 z1 q1 => ?_)
  obtain ⟨rfl, ho1, f1, hf1, hW1⟩ := q1
  refine g_if_eq X rfl (fun h => absurd h (by decide)) (fun _ => ?_)
  · skip
    refine g_aload_n X rfl rfl ?_
    refine g_mV X rfl lcX7_errorPosition lmL_204 lsX7_errorPosition (cm_X7_errorPosition l D cy B od hW1) (ci := 7) hW1.1.1 rfl rfl rfl (Nat.le_of_ble_eq_true rfl) ⟨⟨by decide, by decide⟩, rfl, rfl⟩ ⟨Nat.le_of_ble_eq_true rfl, Nat.le_of_ble_eq_true rfl⟩ (fun v2 A2 q2 => ?_)
    obtain ⟨R, hR, rfl, ho2, hW2⟩ := q2
    have hR1 : R.1 = nI (plW.getD j 0) := wrong_R hj hf1 hR
    rw [hR1]
    refine g_iload_n X rfl rfl ?_
    refine g_icmp_ne X rfl (fun h => absurd rfl h) (fun _ => ?_)
    · skip
      refine g_aload_n X rfl rfl ?_
      refine g_hp X rfl lwL_load lmL_182 stL_load (hp_L_load l D cy B od (cx_X7_load l D cy B od hl9 hW2) hW2.1.1 (fun v A' h => by obtain ⟨R, -, -, h, -⟩ := h; exact ⟨_, h⟩) (fun E A' h => h.1) z1) rfl rfl (Nat.le_of_ble_eq_true rfl) ⟨by decide, by decide⟩ ⟨Nat.le_of_ble_eq_true rfl, Nat.le_of_ble_eq_true rfl⟩ (fun v3 A3 z3 q3 => ?_)
      obtain ⟨rfl, ho3, hW3⟩ : v3 = some (.int (-1000000002)) ∧ SameOff A2 A3 0 231 ∧ LedA cy A3 ((W.1.1, (strN (19 + j)).length, W.1.2.2), f1, W.2.2) := by
        rcases q3 with ⟨R3, h3, h4, -⟩ | ⟨h, E, -, -, h2, h3⟩
        · have h5 := wrong_R hj hf1 h3
          rw [h4] at h5
          exact absurd h5.symm (plW_ne j hj)
        · exact ⟨h, h2, h3⟩
      refine g_ldc X rfl kcL_29 ?_
      refine g_icmp_ne X rfl (fun h => absurd rfl h) (fun _ => ?_)
      · skip
        refine g_iconst X rfl (v := nI 1) (by decide) ?_
        refine g_goto X rfl ?_
        exact g_iret X rfl rfl (by rfl) (Nat.le_of_ble_eq_true rfl) (Nat.le_of_ble_eq_true rfl) ⟨rfl, fun k hk => ((ho3 k (Or.inr hk)).trans (ho2 k (Or.inr hk))).trans (ho1 k hk), _, _, hW3⟩
set_option maxRecDepth 100000 in
set_option maxHeartbeats 1000000 in
theorem ct_L_texts (l : Launch) (D : va_G) (cy : Nat → ClassId) (B : Nat) (od : Nat → Option Nat) (hl9 : l.stackTraces = false) {A : AH} {W : LW} (hQ : LQ cy A W) (z : Nat) : CT l D cy B od yL_texts cL_texts 2 (some .boolean) rmL_texts [.ref 0] A z (fun v A' _ => v = some (.int (nI 1)) ∧ (∀ k, 231 ≤ k → A' k = A k) ∧ LQ cy A' W) := by
  refine CT.of (by decide) tL_texts okL_texts (Nat.le_of_ble_eq_true rfl) (q0 := tL_texts[0]) rfl rfl ?_
  intro p e s m args below meth c X hnm
  refine g_aload_n X rfl rfl ?_
  refine g_ldcS X rfl (j := 19) rfl ?_
  refine g_iconst X rfl (v := nI 0) (by decide) ?_
  refine g_callS X rfl lcL_isWrong lmL_249 stL_isWrong (ct_L_isWrong l D cy B od hl9 hQ (j := 0) (by decide) z) rfl rfl (Nat.le_of_ble_eq_true rfl) ⟨by decide, by decide⟩ ⟨Nat.le_of_ble_eq_true rfl, Nat.le_of_ble_eq_true rfl⟩ (fun v1 A1 z1 q1 => ?_)
  obtain ⟨rfl, o1, h1⟩ := q1
  refine g_if_eq X rfl (fun h => absurd h (by decide)) (fun _ => ?_)
  · skip
    refine g_aload_n X rfl rfl ?_
    refine g_ldcS X rfl (j := 20) rfl ?_
    refine g_bipush X rfl (v := nI 6) (by decide) ?_
    refine g_callS X rfl lcL_isWrong lmL_249 stL_isWrong (ct_L_isWrong l D cy B od hl9 h1 (j := 1) (by decide) z1) rfl rfl (Nat.le_of_ble_eq_true rfl) ⟨by decide, by decide⟩ ⟨Nat.le_of_ble_eq_true rfl, Nat.le_of_ble_eq_true rfl⟩ (fun v2 A2 z2 q2 => ?_)
    obtain ⟨rfl, o2, h2⟩ := q2
    refine g_if_eq X rfl (fun h => absurd h (by decide)) (fun _ => ?_)
    · skip
      refine g_aload_n X rfl rfl ?_
      refine g_ldcS X rfl (j := 21) rfl ?_
      refine g_bipush X rfl (v := nI 9) (by decide) ?_
      refine g_callS X rfl lcL_isWrong lmL_249 stL_isWrong (ct_L_isWrong l D cy B od hl9 h2 (j := 2) (by decide) z2) rfl rfl (Nat.le_of_ble_eq_true rfl) ⟨by decide, by decide⟩ ⟨Nat.le_of_ble_eq_true rfl, Nat.le_of_ble_eq_true rfl⟩ (fun v3 A3 z3 q3 => ?_)
      obtain ⟨rfl, o3, h3⟩ := q3
      refine g_if_eq X rfl (fun h => absurd h (by decide)) (fun _ => ?_)
      · skip
        refine g_aload_n X rfl rfl ?_
        refine g_ldcwS X rfl (j := 22) rfl ?_
        refine g_bipush X rfl (v := nI 7) (by decide) ?_
        refine g_callS X rfl lcL_isWrong lmL_249 stL_isWrong (ct_L_isWrong l D cy B od hl9 h3 (j := 3) (by decide) z3) rfl rfl (Nat.le_of_ble_eq_true rfl) ⟨by decide, by decide⟩ ⟨Nat.le_of_ble_eq_true rfl, Nat.le_of_ble_eq_true rfl⟩ (fun v4 A4 z4 q4 => ?_)
        obtain ⟨rfl, o4, h4⟩ := q4
        refine g_if_eq X rfl (fun h => absurd h (by decide)) (fun _ => ?_)
        · skip
          refine g_aload_n X rfl rfl ?_
          refine g_ldcwS X rfl (j := 23) rfl ?_
          refine g_bipush X rfl (v := nI 9) (by decide) ?_
          refine g_callS X rfl lcL_isWrong lmL_249 stL_isWrong (ct_L_isWrong l D cy B od hl9 h4 (j := 4) (by decide) z4) rfl rfl (Nat.le_of_ble_eq_true rfl) ⟨by decide, by decide⟩ ⟨Nat.le_of_ble_eq_true rfl, Nat.le_of_ble_eq_true rfl⟩ (fun v5 A5 z5 q5 => ?_)
          obtain ⟨rfl, o5, h5⟩ := q5
          refine g_if_eq X rfl (fun h => absurd h (by decide)) (fun _ => ?_)
          · skip
            refine g_iconst X rfl (v := nI 1) (by decide) ?_
            refine g_goto X rfl ?_
            first | refine g_istore_nS X rfl (by decide) rfl ?_ | refine g_istore_n X rfl (by decide) ?_
            refine g_iload_n X rfl rfl ?_
            refine g_if_eq X rfl (fun h => absurd h (by decide)) (fun _ => ?_)
            · skip
              refine g_aload_n X rfl rfl ?_
              refine g_ldcwS X rfl (j := 24) rfl ?_
              refine g_iconst X rfl (v := nI 4) (by decide) ?_
              refine g_callS X rfl lcL_isWrong lmL_249 stL_isWrong (ct_L_isWrong l D cy B od hl9 h5 (j := 5) (by decide) z5) rfl rfl (Nat.le_of_ble_eq_true rfl) ⟨by decide, by decide⟩ ⟨Nat.le_of_ble_eq_true rfl, Nat.le_of_ble_eq_true rfl⟩ (fun v6 A6 z6 q6 => ?_)
              obtain ⟨rfl, o6, h6⟩ := q6
              refine g_if_eq X rfl (fun h => absurd h (by decide)) (fun _ => ?_)
              · skip
                refine g_aload_n X rfl rfl ?_
                refine g_ldcwS X rfl (j := 25) rfl ?_
                refine g_bipush X rfl (v := nI 8) (by decide) ?_
                refine g_callS X rfl lcL_isWrong lmL_249 stL_isWrong (ct_L_isWrong l D cy B od hl9 h6 (j := 6) (by decide) z6) rfl rfl (Nat.le_of_ble_eq_true rfl) ⟨by decide, by decide⟩ ⟨Nat.le_of_ble_eq_true rfl, Nat.le_of_ble_eq_true rfl⟩ (fun v7 A7 z7 q7 => ?_)
                obtain ⟨rfl, o7, h7⟩ := q7
                refine g_if_eq X rfl (fun h => absurd h (by decide)) (fun _ => ?_)
                · skip
                  refine g_aload_n X rfl rfl ?_
                  refine g_ldcwS X rfl (j := 26) rfl ?_
                  refine g_bipush X rfl (v := nI 20) (by decide) ?_
                  refine g_callS X rfl lcL_isWrong lmL_249 stL_isWrong (ct_L_isWrong l D cy B od hl9 h7 (j := 7) (by decide) z7) rfl rfl (Nat.le_of_ble_eq_true rfl) ⟨by decide, by decide⟩ ⟨Nat.le_of_ble_eq_true rfl, Nat.le_of_ble_eq_true rfl⟩ (fun v8 A8 z8 q8 => ?_)
                  obtain ⟨rfl, o8, h8⟩ := q8
                  refine g_if_eq X rfl (fun h => absurd h (by decide)) (fun _ => ?_)
                  · skip
                    refine g_aload_n X rfl rfl ?_
                    refine g_ldcwS X rfl (j := 27) rfl ?_
                    refine g_bipush X rfl (v := nI 10) (by decide) ?_
                    refine g_callS X rfl lcL_isWrong lmL_249 stL_isWrong (ct_L_isWrong l D cy B od hl9 h8 (j := 8) (by decide) z8) rfl rfl (Nat.le_of_ble_eq_true rfl) ⟨by decide, by decide⟩ ⟨Nat.le_of_ble_eq_true rfl, Nat.le_of_ble_eq_true rfl⟩ (fun v9 A9 z9 q9 => ?_)
                    obtain ⟨rfl, o9, h9⟩ := q9
                    refine g_if_eq X rfl (fun h => absurd h (by decide)) (fun _ => ?_)
                    · skip
                      refine g_aload_n X rfl rfl ?_
                      refine g_ldcwS X rfl (j := 28) rfl ?_
                      refine g_iconst X rfl (v := nI 5) (by decide) ?_
                      refine g_callS X rfl lcL_isWrong lmL_249 stL_isWrong (ct_L_isWrong l D cy B od hl9 h9 (j := 9) (by decide) z9) rfl rfl (Nat.le_of_ble_eq_true rfl) ⟨by decide, by decide⟩ ⟨Nat.le_of_ble_eq_true rfl, Nat.le_of_ble_eq_true rfl⟩ (fun v10 A10 z10 q10 => ?_)
                      obtain ⟨rfl, o10, h10⟩ := q10
                      refine g_if_eq X rfl (fun h => absurd h (by decide)) (fun _ => ?_)
                      · skip
                        refine g_iconst X rfl (v := nI 1) (by decide) ?_
                        refine g_goto X rfl ?_
                        first | refine g_istore_nS X rfl (by decide) rfl ?_ | refine g_istore_n X rfl (by decide) ?_
                        refine g_iload_n X rfl rfl ?_
                        refine g_if_eq X rfl (fun h => absurd h (by decide)) (fun _ => ?_)
                        · skip
                          refine g_aload_n X rfl rfl ?_
                          refine g_ldcwS X rfl (j := 29) rfl ?_
                          refine g_bipush X rfl (v := nI 16) (by decide) ?_
                          refine g_callS X rfl lcL_isWrong lmL_249 stL_isWrong (ct_L_isWrong l D cy B od hl9 h10 (j := 10) (by decide) z10) rfl rfl (Nat.le_of_ble_eq_true rfl) ⟨by decide, by decide⟩ ⟨Nat.le_of_ble_eq_true rfl, Nat.le_of_ble_eq_true rfl⟩ (fun v11 A11 z11 q11 => ?_)
                          obtain ⟨rfl, o11, h11⟩ := q11
                          refine g_if_eq X rfl (fun h => absurd h (by decide)) (fun _ => ?_)
                          · skip
                            refine g_aload_n X rfl rfl ?_
                            refine g_ldcwS X rfl (j := 30) rfl ?_
                            refine g_bipush X rfl (v := nI 14) (by decide) ?_
                            refine g_callS X rfl lcL_isWrong lmL_249 stL_isWrong (ct_L_isWrong l D cy B od hl9 h11 (j := 11) (by decide) z11) rfl rfl (Nat.le_of_ble_eq_true rfl) ⟨by decide, by decide⟩ ⟨Nat.le_of_ble_eq_true rfl, Nat.le_of_ble_eq_true rfl⟩ (fun v12 A12 z12 q12 => ?_)
                            obtain ⟨rfl, o12, h12⟩ := q12
                            refine g_if_eq X rfl (fun h => absurd h (by decide)) (fun _ => ?_)
                            · skip
                              refine g_aload_n X rfl rfl ?_
                              refine g_ldcwS X rfl (j := 31) rfl ?_
                              refine g_bipush X rfl (v := nI 15) (by decide) ?_
                              refine g_callS X rfl lcL_isWrong lmL_249 stL_isWrong (ct_L_isWrong l D cy B od hl9 h12 (j := 12) (by decide) z12) rfl rfl (Nat.le_of_ble_eq_true rfl) ⟨by decide, by decide⟩ ⟨Nat.le_of_ble_eq_true rfl, Nat.le_of_ble_eq_true rfl⟩ (fun v13 A13 z13 q13 => ?_)
                              obtain ⟨rfl, o13, h13⟩ := q13
                              refine g_if_eq X rfl (fun h => absurd h (by decide)) (fun _ => ?_)
                              · skip
                                refine g_aload_n X rfl rfl ?_
                                refine g_ldcwS X rfl (j := 32) rfl ?_
                                refine g_bipush X rfl (v := nI 8) (by decide) ?_
                                refine g_callS X rfl lcL_isWrong lmL_249 stL_isWrong (ct_L_isWrong l D cy B od hl9 h13 (j := 13) (by decide) z13) rfl rfl (Nat.le_of_ble_eq_true rfl) ⟨by decide, by decide⟩ ⟨Nat.le_of_ble_eq_true rfl, Nat.le_of_ble_eq_true rfl⟩ (fun v14 A14 z14 q14 => ?_)
                                obtain ⟨rfl, o14, h14⟩ := q14
                                refine g_if_eq X rfl (fun h => absurd h (by decide)) (fun _ => ?_)
                                · skip
                                  refine g_aload_n X rfl rfl ?_
                                  refine g_ldcwS X rfl (j := 33) rfl ?_
                                  refine g_bipush X rfl (v := nI 8) (by decide) ?_
                                  refine g_callS X rfl lcL_isWrong lmL_249 stL_isWrong (ct_L_isWrong l D cy B od hl9 h14 (j := 14) (by decide) z14) rfl rfl (Nat.le_of_ble_eq_true rfl) ⟨by decide, by decide⟩ ⟨Nat.le_of_ble_eq_true rfl, Nat.le_of_ble_eq_true rfl⟩ (fun v15 A15 z15 q15 => ?_)
                                  obtain ⟨rfl, o15, h15⟩ := q15
                                  refine g_if_eq X rfl (fun h => absurd h (by decide)) (fun _ => ?_)
                                  · skip
                                    refine g_iconst X rfl (v := nI 1) (by decide) ?_
                                    refine g_goto X rfl ?_
                                    first | refine g_istore_nS X rfl (by decide) rfl ?_ | refine g_istore_n X rfl (by decide) ?_
                                    refine g_iload_n X rfl rfl ?_
                                    refine g_if_eq X rfl (fun h => absurd h (by decide)) (fun _ => ?_)
                                    · skip
                                      refine g_aload_n X rfl rfl ?_
                                      refine g_ldcwS X rfl (j := 34) rfl ?_
                                      refine g_bipush X rfl (v := nI 6) (by decide) ?_
                                      refine g_callS X rfl lcL_isWrong lmL_249 stL_isWrong (ct_L_isWrong l D cy B od hl9 h15 (j := 15) (by decide) z15) rfl rfl (Nat.le_of_ble_eq_true rfl) ⟨by decide, by decide⟩ ⟨Nat.le_of_ble_eq_true rfl, Nat.le_of_ble_eq_true rfl⟩ (fun v16 A16 z16 q16 => ?_)
                                      obtain ⟨rfl, o16, h16⟩ := q16
                                      refine g_if_eq X rfl (fun h => absurd h (by decide)) (fun _ => ?_)
                                      · skip
                                        refine g_aload_n X rfl rfl ?_
                                        refine g_ldcwS X rfl (j := 35) rfl ?_
                                        refine g_bipush X rfl (v := nI 6) (by decide) ?_
                                        refine g_callS X rfl lcL_isWrong lmL_249 stL_isWrong (ct_L_isWrong l D cy B od hl9 h16 (j := 16) (by decide) z16) rfl rfl (Nat.le_of_ble_eq_true rfl) ⟨by decide, by decide⟩ ⟨Nat.le_of_ble_eq_true rfl, Nat.le_of_ble_eq_true rfl⟩ (fun v17 A17 z17 q17 => ?_)
                                        obtain ⟨rfl, o17, h17⟩ := q17
                                        refine g_if_eq X rfl (fun h => absurd h (by decide)) (fun _ => ?_)
                                        · skip
                                          refine g_aload_n X rfl rfl ?_
                                          refine g_ldcwS X rfl (j := 36) rfl ?_
                                          refine g_iconst X rfl (v := nI 0) (by decide) ?_
                                          refine g_callS X rfl lcL_isWrong lmL_249 stL_isWrong (ct_L_isWrong l D cy B od hl9 h17 (j := 17) (by decide) z17) rfl rfl (Nat.le_of_ble_eq_true rfl) ⟨by decide, by decide⟩ ⟨Nat.le_of_ble_eq_true rfl, Nat.le_of_ble_eq_true rfl⟩ (fun v18 A18 z18 q18 => ?_)
                                          obtain ⟨rfl, o18, h18⟩ := q18
                                          refine g_if_eq X rfl (fun h => absurd h (by decide)) (fun _ => ?_)
                                          · skip
                                            refine g_aload_n X rfl rfl ?_
                                            refine g_ldcwS X rfl (j := 37) rfl ?_
                                            refine g_bipush X rfl (v := nI 42) (by decide) ?_
                                            refine g_callS X rfl lcL_isWrong lmL_249 stL_isWrong (ct_L_isWrong l D cy B od hl9 h18 (j := 18) (by decide) z18) rfl rfl (Nat.le_of_ble_eq_true rfl) ⟨by decide, by decide⟩ ⟨Nat.le_of_ble_eq_true rfl, Nat.le_of_ble_eq_true rfl⟩ (fun v19 A19 z19 q19 => ?_)
                                            obtain ⟨rfl, o19, h19⟩ := q19
                                            refine g_if_eq X rfl (fun h => absurd h (by decide)) (fun _ => ?_)
                                            · skip
                                              refine g_iconst X rfl (v := nI 1) (by decide) ?_
                                              refine g_goto X rfl ?_
                                              exact g_iret X rfl rfl (by rfl) (Nat.le_of_ble_eq_true rfl) (Nat.le_of_ble_eq_true rfl) ⟨rfl, fun k hk => (o19 k hk).trans ((o18 k hk).trans ((o17 k hk).trans ((o16 k hk).trans ((o15 k hk).trans ((o14 k hk).trans ((o13 k hk).trans ((o12 k hk).trans ((o11 k hk).trans ((o10 k hk).trans ((o9 k hk).trans ((o8 k hk).trans ((o7 k hk).trans ((o6 k hk).trans ((o5 k hk).trans ((o4 k hk).trans ((o3 k hk).trans ((o2 k hk).trans (o1 k hk)))))))))))))))))), h19⟩
