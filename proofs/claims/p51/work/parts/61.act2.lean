/-! 61: the book is asked: offices, sales, what is added, a quarter closed -/
/-- the locals of `act` before its switch -/
abbrev aLV (g w n : Nat) (S : StV) : List (Option Value) := [some (.ref g), some (.int (nI w)), some (.int (nI n)), some (.int (nI (n / 64))), some (.int (nI (n % (S.1.1 + 1)))), some (.int (nI (n % (S.2.2.1.1 + 1)))), some (.int (nI (n % (S.2.1.1 + 1)))), none, none, none, none]
set_option maxRecDepth 100000 in
set_option maxHeartbeats 400000 in
theorem act_pre (l : Launch) (D : va_G) (cy : Nat → ClassId) (B : Nat) (od : Nat → Option Nat) {A : AH} {g n : Nat} {L : BL} {S : StV} {Z : SV} (hb : BkW cy A g L S Z) (hw : WfS S) (hn : n < 10000000) (w : Nat) {z : Nat} {Q : QT} (kk : ∀ (p : Program) (e : Env) (s : State) (m : MethodId) (args : Array Value) (below : List Frame) (meth : Method) (c : Code), Cx p s m args meth c D cy B od cL_act 11 tL_act RL (some .int) → G p l e rmL_act s m args below meth c D B od 11 tL_act (FinQ false D B od Q (fun _ _ => True) args s below rmL_act.cells rmL_act.slots) 0 0 A (z) 28 (aLV g w n S) []) : CT l D cy B od yL_act cL_act 11 (some .int) rmL_act [.ref g, .int (nI w), .int (nI n)] A z Q := by
  refine CT.of (by decide) tL_act okL_act (Nat.le_of_ble_eq_true rfl) (q0 := tL_act[0]) rfl rfl ?_
  intro p e s m args below meth c X hnm
  have hw1 := hw.1
  have hw2 := hw.2.1
  have hw3 := hw.2.2.1
  refine g_iload_n X rfl rfl ?_
  refine g_bipush X rfl (v := nI 64) (by decide) ?_
  refine g_idiv X rfl (by decide) ?_
  rw [pk_div (by omega) (by decide) (by decide)]
  refine g_istore_nS X rfl (by decide) rfl ?_
  refine g_iload_n X rfl rfl ?_
  refine g_aload_n X rfl rfl ?_
  refine g_get X rfl flL_91 (ci := 8) rfl (hb.1.1) rfl ?_
  refine g_rV X rfl lcJx4a65c_size_8abf5 lmL_97 lsJx4a65c_size_8abf5 (cr_size l D cy B od (show LsC cy A (L.1 2) (L.2.1 2) (L.2.2.1 2) S.1.1 (L.2.2.2 2) from hb.1.2.1 2 (by decide))) (ci := 9) ((hb.1.2.1 2 (by decide)).1) rfl rfl rfl (Nat.le_of_ble_eq_true rfl) ⟨⟨by decide, by decide⟩, rfl, rfl⟩ ⟨Nat.le_of_ble_eq_true rfl, Nat.le_of_ble_eq_true rfl⟩ ?_
  refine g_iconst X rfl (v := nI 1) (by decide) ?_
  refine g_iadd X rfl ?_
  rw [nI_1b]
  refine g_irem X rfl (fun q => by rw [nI_eq0 (by omega)] at q; omega) ?_
  rw [rem_N (by omega) (by omega) (by omega)]
  refine g_istoreS X rfl (by decide) rfl ?_
  refine g_iload_n X rfl rfl ?_
  refine g_aload_n X rfl rfl ?_
  refine g_get X rfl flL_102 (ci := 8) rfl (hb.1.1) rfl ?_
  refine g_rV X rfl lcJx4a65c_size_8abf5 lmL_97 lsJx4a65c_size_8abf5 (cr_size l D cy B od (show LsC cy A (L.1 3) (L.2.1 3) (L.2.2.1 3) S.2.2.1.1 (L.2.2.2 3) from hb.1.2.1 3 (by decide))) (ci := 9) ((hb.1.2.1 3 (by decide)).1) rfl rfl rfl (Nat.le_of_ble_eq_true rfl) ⟨⟨by decide, by decide⟩, rfl, rfl⟩ ⟨Nat.le_of_ble_eq_true rfl, Nat.le_of_ble_eq_true rfl⟩ ?_
  refine g_iconst X rfl (v := nI 1) (by decide) ?_
  refine g_iadd X rfl ?_
  rw [nI_1b]
  refine g_irem X rfl (fun q => by rw [nI_eq0 (by omega)] at q; omega) ?_
  rw [rem_N (by omega) (by omega) (by omega)]
  refine g_istoreS X rfl (by decide) rfl ?_
  refine g_iload_n X rfl rfl ?_
  refine g_aload_n X rfl rfl ?_
  refine g_get X rfl flL_105 (ci := 8) rfl (hb.1.1) rfl ?_
  refine g_rV X rfl lcJx4a65c_size_8abf5 lmL_97 lsJx4a65c_size_8abf5 (cr_size l D cy B od (show LsC cy A (L.1 1) (L.2.1 1) (L.2.2.1 1) S.2.1.1 (L.2.2.2 1) from hb.1.2.1 1 (by decide))) (ci := 9) ((hb.1.2.1 1 (by decide)).1) rfl rfl rfl (Nat.le_of_ble_eq_true rfl) ⟨⟨by decide, by decide⟩, rfl, rfl⟩ ⟨Nat.le_of_ble_eq_true rfl, Nat.le_of_ble_eq_true rfl⟩ ?_
  refine g_iconst X rfl (v := nI 1) (by decide) ?_
  refine g_iadd X rfl ?_
  rw [nI_1b]
  refine g_irem X rfl (fun q => by rw [nI_eq0 (by omega)] at q; omega) ?_
  rw [rem_N (by omega) (by omega) (by omega)]
  refine g_istoreS X rfl (by decide) rfl ?_
  exact kk p e s m args below meth c X
theorem off_days {R : RV} {k : Nat} (h : ∃ a b, a ≤ b ∧ b ≤ 359 ∧ R.2 1 k = nI a ∧ R.2 2 k = nI b) : rDays R (nI 0) (nI 359) k = R.2 2 k - R.2 1 k + nI 1 := by
  obtain ⟨a, b, h1, h2, h3, h4⟩ := h
  have e1 : ¬ nI a = -1 := nI_nm1 (by omega)
  have e2 : (if nI b < nI 359 then nI b else nI 359) = nI b := by
    split
    · rfl
    · rename_i q
      rw [show b = 359 from Nat.le_antisymm h2 (Nat.not_lt.mp (fun w => q (nI_lt w (by omega))))]
  have e3 : (if nI 0 < nI a then nI a else nI 0) = nI a := by
    split
    · rfl
    · rename_i q
      rw [show a = 0 from Nat.le_zero.mp (Nat.not_lt.mp (fun w => q (nI_lt w (by omega))))]
  unfold rDays
  rw [h3, h4, e2, e3, if_neg (fun q => q.elim e1 (fun w => absurd ((nI_ltI (by omega) (by omega)).mp w) (by omega)))]
theorem ActR.room {cy : Nat → ClassId} {A : AH} {g E z : Nat} {L : BL} {S : StV} {Z : SV} {oc : OC} {x : Int32} {r r' : Nat → Int32} {R' : RV} (h : BkW cy A g L S Z) (hF : FRs A z) (hz : z + 700 ≤ 900000) (hE : E < S.2.1.1) (h0 : A (L.2.2.2 1 E) = some (.inl (cy 0, 3, .inl r))) (h1 : R'.1 = S.2.1.1) (hR : ∀ q i, i ≠ E → R'.2 q i = S.2.1.2 q i) (hr : ∀ i, i < 3 → r' i = R'.2 i E) (hoc : oc = .inr (.int x)) : ActR cy A z g L S Z oc (S.1, R', S.2.2) (some (.int x)) (upA A (L.2.2.2 1 E) (.inl (cy 0, 3, .inl r'))) (z + 1) := by
  subst hoc
  refine ⟨rfl, ⟨z, rfl, Nat.le_refl _, by omega, hF.up (hF.lt h0)⟩, L, _, (fun _ _ => rfl), (fun E q => by cases q), ?_, (fun q h => Or.inl (by
    rcases h with h | h | ⟨t, j, q1, q2, q3, q4⟩
    · exact Or.inl h
    · exact Or.inr (Or.inl h)
    · exact Or.inr (Or.inr ⟨t, j, q1, q2, by
        rcases (show t = 1 ∨ t = 2 ∨ t = 3 by omega) with rfl | rfl | rfl
        · exact Nat.lt_of_lt_of_eq q3 h1
        · exact q3
        · exact q3, q4⟩))), fun q y hy h => (upA_ne (fun e => h (Or.inr (Or.inr ⟨1, E, by decide, by decide, hE, e⟩)))).trans hy⟩
  exact h.row (t := 1) (j := E) (r' := r') (by decide) (by decide) hE hF (by omega) (fun u hu => by
      rcases (show u = 0 ∨ u = 1 ∨ u = 2 ∨ u = 3 ∨ u = 4 by omega) with rfl | rfl | rfl | rfl | rfl
      · rfl
      · exact h1
      · rfl
      · rfl
      · rfl) rfl
    (fun u hu i hi hne cy A a q => by
      rcases (show u = 0 ∨ u = 1 ∨ u = 2 ∨ u = 3 ∨ u = 4 by omega) with rfl | rfl | rfl | rfl | rfl
      · exact q
      · exact RwA.cong q (fun k _ => (hR k i (hne.resolve_left (fun e => e rfl))).symm)
      · exact q
      · exact q
      · exact q)
    ⟨_, upA_eq, hr⟩
set_option maxRecDepth 100000 in
set_option maxHeartbeats 400000 in
theorem act8c (l : Launch) (D : va_G) (cy : Nat → ClassId) (B : Nat) (od : Nat → Option Nat) {p : Program} {e : Env} {s : State} {m : MethodId} {args : Array Value} {below : List Frame} {meth : Method} {c : Code} {A : AH} {z : Nat} {Q : QT} {w0 x0 y0 e0 a0 r0 : Int32}{g rw0 : Nat} {f9 t9 wa : Int32} {r : Nat → Int32} (hr0 : A rw0 = some (.inl (cy 0, 3, .inl r))) (hQ : Q (some (.int wa)) (upA A rw0 (.inl (cy 0, 3, .inl (upd (upd r 1 f9) 2 (if f9 = -1 then -1 else t9))))) z) (X : Cx p s m args meth c D cy B od cL_act 11 tL_act RL (some .int)) : G p l e rmL_act s m args below meth c D B od 11 tL_act (FinQ false D B od Q (fun _ _ => True) args s below rmL_act.cells rmL_act.slots) 0 0 A (z) 317 [some (.ref g), some (.int (w0)), some (.int (x0)), some (.int (y0)), some (.int (e0)), some (.int (a0)), some (.int (r0)), some (.int (f9)), some (.int (t9)), some (.ref rw0), some (.int (wa))] [] := by
  refine g_aload X rfl rfl ?_
  refine g_iconst X rfl (v := nI 1) (by decide) ?_
  refine g_iload X rfl rfl ?_
  refine g_iastN X rfl hr0 (by decide) (by decide) ?_
  refine g_aload X rfl rfl ?_
  refine g_iconst X rfl (v := nI 2) (by decide) ?_
  refine g_iload X rfl rfl ?_
  refine g_iconst X rfl (v := (-1)) (by decide) ?_
  refine g_icmp_ne X rfl (fun h7 => ?_) (fun h7 => ?_)
  · have ht : (if f9 = -1 then -1 else t9) = t9 := if_neg h7
    refine g_iload X rfl rfl ?_
    refine g_iastN X rfl upA_eq (by decide) (by decide) ?_
    rw [upA_up]
    refine g_iload X rfl rfl ?_
    exact g_iret X rfl rfl (by rfl) (Nat.le_of_ble_eq_true rfl) (Nat.le_of_ble_eq_true rfl) (by rw [ht] at hQ; exact hQ)
  · have ht : (if f9 = -1 then -1 else t9) = -1 := if_pos h7
    refine g_iconst X rfl (v := (-1)) (by decide) ?_
    refine g_goto X rfl ?_
    refine g_iastN X rfl upA_eq (by decide) (by decide) ?_
    rw [upA_up]
    refine g_iload X rfl rfl ?_
    exact g_iret X rfl rfl (by rfl) (Nat.le_of_ble_eq_true rfl) (Nat.le_of_ble_eq_true rfl) (by rw [ht] at hQ; exact hQ)
set_option maxRecDepth 100000 in
set_option maxHeartbeats 400000 in
theorem act8b (l : Launch) (D : va_G) (cy : Nat → ClassId) (B : Nat) (od : Nat → Option Nat) {p : Program} {e : Env} {s : State} {m : MethodId} {args : Array Value} {below : List Frame} {meth : Method} {c : Code} {A : AH} {z : Nat} {Q : QT} {w0 x0 y0 e0 a0 : Int32}{g k : Nat} {L : BL} {S : StV} {Z : SV} {f9 t9 : Int32} {r : Nat → Int32} (hb : BkW cy A g L S Z) (hk : k < S.2.1.1) (hR : Rng Z S) (hr0 : A (L.2.2.2 1 k) = some (.inl (cy 0, 3, .inl r))) (hrv : ∀ j, j < 3 → r j = S.2.1.2 j k) (hQ : Q (some (.int (rDays S.2.1 (nI 0) (nI 359) k))) (upA A (L.2.2.2 1 k) (.inl (cy 0, 3, .inl (upd (upd r 1 f9) 2 (if f9 = -1 then -1 else t9))))) z) (X : Cx p s m args meth c D cy B od cL_act 11 tL_act RL (some .int)) : G p l e rmL_act s m args below meth c D B od 11 tL_act (FinQ false D B od Q (fun _ _ => True) args s below rmL_act.cells rmL_act.slots) 0 0 A (z) 294 [some (.ref g), some (.int (w0)), some (.int (x0)), some (.int (y0)), some (.int (e0)), some (.int (a0)), some (.int (nI k)), some (.int (f9)), some (.int (t9)), none, none] [] := by
  refine g_aload_n X rfl rfl ?_
  refine g_get X rfl flL_105 (ci := 8) rfl (hb.1.1) rfl ?_
  refine g_iload X rfl rfl ?_
  refine g_rV X rfl lcJx4a65c_get_915e3 lmL_125 lsJx4a65c_get_915e3 (cr_get l D cy B od (show LsC cy A (L.1 1) (L.2.1 1) (L.2.2.1 1) S.2.1.1 (L.2.2.2 1) from hb.1.2.1 1 (by decide)) hk) (ci := 9) ((hb.1.2.1 1 (by decide)).1) rfl rfl rfl (Nat.le_of_ble_eq_true rfl) ⟨⟨by decide, by decide⟩, rfl, rfl⟩ ⟨Nat.le_of_ble_eq_true rfl, Nat.le_of_ble_eq_true rfl⟩ ?_
  refine g_castI X rfl clL_129 hr0 ?_
  refine g_astoreS X rfl (by decide) rfl ?_
  refine g_aload X rfl rfl ?_
  refine g_iconst X rfl (v := nI 1) (by decide) ?_
  refine g_ialdN X rfl hr0 (by decide) (by decide) ?_
  rw [show r 1 = S.2.1.2 1 k from hrv 1 (by decide)]
  refine g_iconst X rfl (v := (-1)) (by decide) ?_
  refine g_icmp_ne X rfl (fun h6 => ?_) (fun h6 => ?_)
  · have hv : rDays S.2.1 (nI 0) (nI 359) k = S.2.1.2 2 k - S.2.1.2 1 k + nI 1 := off_days (((hR.2.1 _ hk).2).resolve_left h6)
    rw [hv] at hQ
    refine g_aload X rfl rfl ?_
    refine g_iconst X rfl (v := nI 2) (by decide) ?_
    refine g_ialdN X rfl hr0 (by decide) (by decide) ?_
    rw [show r 2 = S.2.1.2 2 k from hrv 2 (by decide)]
    refine g_aload X rfl rfl ?_
    refine g_iconst X rfl (v := nI 1) (by decide) ?_
    refine g_ialdN X rfl hr0 (by decide) (by decide) ?_
    rw [show r 1 = S.2.1.2 1 k from hrv 1 (by decide)]
    refine g_isub X rfl ?_
    refine g_iconst X rfl (v := nI 1) (by decide) ?_
    refine g_iadd X rfl ?_
    refine g_istoreS X rfl (by decide) rfl ?_
    exact act8c l D cy B od hr0 hQ X
  · have hv : rDays S.2.1 (nI 0) (nI 359) k = nI 0 := rDays_no h6
    rw [hv] at hQ
    refine g_iconst X rfl (v := nI 0) (by decide) ?_
    refine g_goto X rfl ?_
    refine g_istoreS X rfl (by decide) rfl ?_
    exact act8c l D cy B od hr0 hQ X
set_option maxRecDepth 100000 in
set_option maxHeartbeats 1000000 in
theorem ct_L_act_8 (l : Launch) (D : va_G) (cy : Nat → ClassId) (B : Nat) (od : Nat → Option Nat) {A : AH} {g n : Nat} {L : BL} {S : StV} {Z : SV} (hb : BkW cy A g L S Z) (hw : WfS S) (hn : n < 10000000) {V : LV} (hV : vS V = S) (z : Nat) (hF : FRs A z) (hz : z + 700 ≤ 900000) (hR : Rng Z S) : CT l D cy B od yL_act cL_act 11 (some .int) rmL_act [.ref g, .int (nI 8), .int (nI n)] A (z + 1) (ActR cy A z g L S Z (ocOff V (nI (n % (S.2.1.1 + 1))) (dayI (n / 64)) (numI (n / 64 / 5) (nI 0) (nI 359) 360)) (S.1, rSet (rSet S.2.1 1 (n % (S.2.1.1 + 1)) (dayI (n / 64))) 2 (n % (S.2.1.1 + 1)) (if dayI (n / 64) = -1 then -1 else numI (n / 64 / 5) (nI 0) (nI 359) 360), S.2.2)) := by
  refine act_pre l D cy B od hb hw hn 8 (fun p e s m args below meth c X => ?_)
  have hw1 := hw.1
  have hw2 := hw.2.1
  have hw3 := hw.2.2.1
  refine g_iload_n X rfl rfl ?_
  refine g_tsw X rfl (j := 262) (by decide) (by decide) rfl rfl (by decide) ?_
  refine g_iload_n X rfl rfl ?_
  refine g_rS X rfl lcL_day lmL_111 stL_day (cr_L_day l D cy B od (n := n / 64) (by omega)) rfl rfl (Nat.le_of_ble_eq_true rfl) ⟨⟨by decide, by decide⟩, rfl, rfl⟩ ⟨Nat.le_of_ble_eq_true rfl, Nat.le_of_ble_eq_true rfl⟩ ?_
  refine g_istoreS X rfl (by decide) rfl ?_
  refine g_iload_n X rfl rfl ?_
  refine g_iconst X rfl (v := nI 5) (by decide) ?_
  refine g_idiv X rfl (by decide) ?_
  rw [pk_div (by omega) (by decide) (by decide)]
  refine g_iconst X rfl (v := nI 0) (by decide) ?_
  refine g_sipush X rfl (v := nI 359) (by decide) ?_
  refine g_rS X rfl lcL_number lmL_86 stL_number (cr_L_number l D cy B od (n := n / 64 / 5) (N := 360) (lo := nI 0) (hi := nI 359) (by omega) (by decide) (by decide) (by decide)) rfl rfl (Nat.le_of_ble_eq_true rfl) ⟨⟨by decide, by decide⟩, rfl, rfl⟩ ⟨Nat.le_of_ble_eq_true rfl, Nat.le_of_ble_eq_true rfl⟩ ?_
  refine g_istoreS X rfl (by decide) rfl ?_
  refine g_iload X rfl rfl ?_
  refine g_aload_n X rfl rfl ?_
  refine g_get X rfl flL_105 (ci := 8) rfl (hb.1.1) rfl ?_
  refine g_rV X rfl lcJx4a65c_size_8abf5 lmL_97 lsJx4a65c_size_8abf5 (cr_size l D cy B od (show LsC cy A (L.1 1) (L.2.1 1) (L.2.2.1 1) S.2.1.1 (L.2.2.2 1) from hb.1.2.1 1 (by decide))) (ci := 9) ((hb.1.2.1 1 (by decide)).1) rfl rfl rfl (Nat.le_of_ble_eq_true rfl) ⟨⟨by decide, by decide⟩, rfl, rfl⟩ ⟨Nat.le_of_ble_eq_true rfl, Nat.le_of_ble_eq_true rfl⟩ ?_
  refine g_icmp_ne X rfl (fun h => ?_) (fun h => ?_)
  · have hE : n % (S.2.1.1 + 1) < S.2.1.1 := Nat.lt_of_le_of_ne (Nat.le_of_lt_succ (Nat.mod_lt _ (by omega))) (fun q => h (by rw [q]))
    have hcl := nI_clamp (n := n % (S.2.1.1 + 1)) (by omega)
    have hx9 : 0 ≤ nI (n % (S.2.1.1 + 1)) ∧ nI (n % (S.2.1.1 + 1)) < nI S.2.1.1 := ⟨nI_le (a := 0) (Nat.zero_le _) (by omega), nI_lt hE (by omega)⟩
    obtain ⟨r, hr0, hrv⟩ : ∃ r, A (L.2.2.2 1 (n % (S.2.1.1 + 1))) = some (.inl (cy 0, 3, .inl r)) ∧ ∀ j, j < 3 → r j = S.2.1.2 j (n % (S.2.1.1 + 1)) := hb.1.2.2.2.1 _ hE
    refine g_iload X rfl rfl ?_
    refine g_iconst X rfl (v := (-1)) (by decide) ?_
    refine g_icmp_eq X rfl (fun h3 => ?_) (fun h3 => ?_)
    · have hok : (decide (dayI (n / 64) = -1) || (within9 (dayI (n / 64)) (nI 0) (nI 359) && within9 (numI (n / 64 / 5) (nI 0) (nI 359) 360) (dayI (n / 64)) (nI 359))) = true := by rw [decide_eq_true h3]; rfl
      have hoc : ocOff V (nI (n % (S.2.1.1 + 1))) (dayI (n / 64)) (numI (n / 64 / 5) (nI 0) (nI 359) 360) = .inr (.int (rDays S.2.1 (nI 0) (nI 359) (n % (S.2.1.1 + 1)))) := by unfold ocOff; rw [hV, hcl, if_neg (fun q => q hx9), if_pos hok]
      exact act8b l D cy B od hb hE hR hr0 hrv (ActR.room hb hF hz hE hr0 rfl (fun q i hi => (rSet_ne hi).trans (rSet_ne hi)) (fun i hi => by rw [rSet_at]; unfold upd; split; rfl; show _ = (rSet S.2.1 1 (n % (S.2.1.1 + 1)) (dayI (n / 64))).2 i (n % (S.2.1.1 + 1)); rw [rSet_at]; unfold upd; split; rfl; exact hrv i hi) hoc) X
    · refine g_iload X rfl rfl ?_
      refine g_iconst X rfl (v := nI 0) (by decide) ?_
      refine g_sipush X rfl (v := nI 359) (by decide) ?_
      refine g_rS X rfl lcL_is lmL_114 stL_is (cr_L_is l D cy B od (v := dayI (n / 64)) (lo := nI 0) (hi := nI 359)) rfl rfl (Nat.le_of_ble_eq_true rfl) ⟨⟨by decide, by decide⟩, rfl, rfl⟩ ⟨Nat.le_of_ble_eq_true rfl, Nat.le_of_ble_eq_true rfl⟩ ?_
      refine g_if_eq X rfl (fun h4 => ?_) (fun h4 => ?_)
      · have hoc : ocOff V (nI (n % (S.2.1.1 + 1))) (dayI (n / 64)) (numI (n / 64 / 5) (nI 0) (nI 359) 360) = .inl eIAE := by unfold ocOff; rw [hV, if_neg (fun q => q hx9), if_neg (by rw [decide_eq_false h3, (bI_iff _).mp h4]; simp)]
        refine g_ldc X rfl kcL_29 ?_
        exact g_iret X rfl rfl (by rfl) (Nat.le_of_ble_eq_true rfl) (Nat.le_of_ble_eq_true rfl) (ActR.err hb hF hoc (by decide))
      · have h4 : within9 (dayI (n / 64)) (nI 0) (nI 359) = true := (Bool.not_eq_false _).mp (mt (bI_iff _).mpr h4)
        refine g_iload X rfl rfl ?_
        refine g_iload X rfl rfl ?_
        refine g_sipush X rfl (v := nI 359) (by decide) ?_
        refine g_rS X rfl lcL_is lmL_114 stL_is (cr_L_is l D cy B od (v := numI (n / 64 / 5) (nI 0) (nI 359) 360) (lo := dayI (n / 64)) (hi := nI 359)) rfl rfl (Nat.le_of_ble_eq_true rfl) ⟨⟨by decide, by decide⟩, rfl, rfl⟩ ⟨Nat.le_of_ble_eq_true rfl, Nat.le_of_ble_eq_true rfl⟩ ?_
        refine g_if_ne X rfl (fun h5 => ?_) (fun h5 => ?_)
        · have hok : (decide (dayI (n / 64) = -1) || (within9 (dayI (n / 64)) (nI 0) (nI 359) && within9 (numI (n / 64 / 5) (nI 0) (nI 359) 360) (dayI (n / 64)) (nI 359))) = true := by rw [h4, (Bool.not_eq_false _).mp (mt (bI_iff _).mpr h5)]; simp
          have hoc : ocOff V (nI (n % (S.2.1.1 + 1))) (dayI (n / 64)) (numI (n / 64 / 5) (nI 0) (nI 359) 360) = .inr (.int (rDays S.2.1 (nI 0) (nI 359) (n % (S.2.1.1 + 1)))) := by unfold ocOff; rw [hV, hcl, if_neg (fun q => q hx9), if_pos hok]
          exact act8b l D cy B od hb hE hR hr0 hrv (ActR.room hb hF hz hE hr0 rfl (fun q i hi => (rSet_ne hi).trans (rSet_ne hi)) (fun i hi => by rw [rSet_at]; unfold upd; split; rfl; show _ = (rSet S.2.1 1 (n % (S.2.1.1 + 1)) (dayI (n / 64))).2 i (n % (S.2.1.1 + 1)); rw [rSet_at]; unfold upd; split; rfl; exact hrv i hi) hoc) X
        · have hoc : ocOff V (nI (n % (S.2.1.1 + 1))) (dayI (n / 64)) (numI (n / 64 / 5) (nI 0) (nI 359) 360) = .inl eIAE := by unfold ocOff; rw [hV, if_neg (fun q => q hx9), if_neg (by rw [decide_eq_false h3, (bI_iff _).mp h5, h4]; simp)]
          refine g_ldc X rfl kcL_29 ?_
          exact g_iret X rfl rfl (by rfl) (Nat.le_of_ble_eq_true rfl) (Nat.le_of_ble_eq_true rfl) (ActR.err hb hF hoc (by decide))
  · have hoc : ocOff V (nI (n % (S.2.1.1 + 1))) (dayI (n / 64)) (numI (n / 64 / 5) (nI 0) (nI 359) 360) = .inl eIOB := by rw [h]; exact if_pos (fun q => by rw [hV] at q; exact Int32.lt_irrefl q.2)
    refine g_ldc X rfl kcL_58 ?_
    exact g_iret X rfl rfl (by rfl) (Nat.le_of_ble_eq_true rfl) (Nat.le_of_ble_eq_true rfl) (ActR.err hb hF hoc (by decide))
theorem ActR.asst {cy : Nat → ClassId} {A A1 : AH} {g E z z1 n9 : Nat} {L : BL} {S : StV} {Z : SV} {oc : OC} {x : Int32} {r r' : Nat → Int32} {R' : RV} (h : BkW cy A g L S Z) (hG : Grw A z A1 z1 n9) (hn9 : n9 ≤ 700) (hF : FRs A z) (hz : z + 700 ≤ 900000) (hE : E < S.2.2.1.1) (h0 : A (L.2.2.2 3 E) = some (.inl (cy 0, 5, .inl r))) (h1 : R'.1 = S.2.2.1.1) (hR : ∀ q i, i ≠ E → R'.2 q i = S.2.2.1.2 q i) (hr : ∀ i, i < 5 → r' i = R'.2 (asC i) E) (hoc : oc = .inr (.int x)) : ActR cy A z g L S Z oc (S.1, S.2.1, R', S.2.2.2) (some (.int x)) (upA A1 (L.2.2.2 3 E) (.inl (cy 0, 5, .inl r'))) (z1 + 1) := by
  subst hoc
  have h9 := h.le hG.1
  have hz1 := hG.2.2.1
  refine ⟨rfl, ⟨z1, rfl, hG.2.1, by omega, hG.2.2.2.up (Nat.lt_of_lt_of_le (hF.lt h0) hG.2.1)⟩, L, _, (fun _ _ => rfl), (fun E q => by cases q), ?_, (fun q h => Or.inl (by
    rcases h with h | h | ⟨t, j, q1, q2, q3, q4⟩
    · exact Or.inl h
    · exact Or.inr (Or.inl h)
    · exact Or.inr (Or.inr ⟨t, j, q1, q2, by
        rcases (show t = 1 ∨ t = 2 ∨ t = 3 by omega) with rfl | rfl | rfl
        · exact q3
        · exact q3
        · exact Nat.lt_of_lt_of_eq q3 h1, q4⟩))), fun q y hy h => (upA_ne (fun e => h (Or.inr (Or.inr ⟨3, E, by decide, by decide, hE, e⟩)))).trans (hG.1 _ _ hy)⟩
  exact h9.row (t := 3) (j := E) (r' := r') (by decide) (by decide) hE hG.2.2.2 (by omega) (fun u hu => by
      rcases (show u = 0 ∨ u = 1 ∨ u = 2 ∨ u = 3 ∨ u = 4 by omega) with rfl | rfl | rfl | rfl | rfl
      · rfl
      · rfl
      · rfl
      · exact h1
      · rfl) rfl
    (fun u hu i hi hne cy A a q => by
      rcases (show u = 0 ∨ u = 1 ∨ u = 2 ∨ u = 3 ∨ u = 4 by omega) with rfl | rfl | rfl | rfl | rfl
      · exact q
      · exact q
      · exact q
      · exact RwA.cong q (fun k _ => (hR (asC k) i (hne.resolve_left (fun e => e rfl))).symm)
      · exact q)
    ⟨_, upA_eq, hr⟩
theorem AsN.val_m {As : RV} {k p d li s so : Nat} (h : AsN As k p d li s so) : aVal As k (nI 0 - nI 1) = nI 0 := by
  have hd := h.2.2.1
  unfold aVal
  rw [h.bo, if_pos (Or.inr (Or.inl ?_))]
  rw [show nI 0 - nI 1 = (-1 : Int32) by decide, Int32.lt_iff_toInt_lt, nI_toInt (by omega)]
  show (-1 : Int) < _
  omega
/-- a number between two naturals is one -/
theorem w9_N {v : Int32} {a b : Nat} (hb : b < 2 ^ 31) (ha : a < 2 ^ 31) (h : within9 v (nI a) (nI b) = true) : ∃ n, a ≤ n ∧ n ≤ b ∧ v = nI n := by
  unfold within9 at h
  rw [Bool.and_eq_true, decide_eq_true_eq, decide_eq_true_eq, Int32.le_iff_toInt_le, Int32.le_iff_toInt_le, nI_toInt ha, nI_toInt hb] at h
  obtain ⟨n, hn, e⟩ := nI_of (x := v) (by rw [Int32.lt_iff_toInt_lt]; show ¬ _ < (0 : Int); omega)
  subst e
  rw [nI_toInt hn] at h
  exact ⟨n, by omega, by omega, rfl⟩
set_option maxRecDepth 100000 in
set_option maxHeartbeats 400000 in
theorem act11c (l : Launch) (D : va_G) (cy : Nat → ClassId) (B : Nat) (od : Nat → Option Nat) {p : Program} {e : Env} {s : State} {m : MethodId} {args : Array Value} {below : List Frame} {meth : Method} {c : Code} {A : AH} {z : Nat} {Q : QT} {w0 x0 y0 e0 a0 r0 : Int32}{g rw0 : Nat} {d9 p9 wa : Int32} {r : Nat → Int32} (hr0 : A rw0 = some (.inl (cy 0, 5, .inl r))) (hQ : Q (some (.int wa)) (upA A rw0 (.inl (cy 0, 5, .inl (upd (upd r 3 d9) 4 p9)))) z) (X : Cx p s m args meth c D cy B od cL_act 11 tL_act RL (some .int)) : G p l e rmL_act s m args below meth c D B od 11 tL_act (FinQ false D B od Q (fun _ _ => True) args s below rmL_act.cells rmL_act.slots) 12 144 A (z) 475 [some (.ref g), some (.int (w0)), some (.int (x0)), some (.int (y0)), some (.int (e0)), some (.int (a0)), some (.int (r0)), some (.int (d9)), some (.int (p9)), some (.ref rw0), some (.int (wa))] [] := by
  refine g_aload X rfl rfl ?_
  refine g_iconst X rfl (v := nI 3) (by decide) ?_
  refine g_iload X rfl rfl ?_
  refine g_iastN X rfl hr0 (by decide) (by decide) ?_
  refine g_aload X rfl rfl ?_
  refine g_iconst X rfl (v := nI 4) (by decide) ?_
  refine g_iload X rfl rfl ?_
  refine g_iastN X rfl upA_eq (by decide) (by decide) ?_
  rw [upA_up]
  refine g_iload X rfl rfl ?_
  exact g_iret X rfl rfl (by rfl) (Nat.le_of_ble_eq_true rfl) (Nat.le_of_ble_eq_true rfl) (hQ)
set_option maxRecDepth 100000 in
set_option maxHeartbeats 400000 in
theorem act11b (l : Launch) (D : va_G) (cy : Nat → ClassId) (B : Nat) (od : Nat → Option Nat) {p : Program} {e : Env} {s : State} {m : MethodId} {args : Array Value} {below : List Frame} {meth : Method} {c : Code} {A : AH} {z : Nat} {Q : QT} {w0 x0 y0 e0 a0 r0 : Int32}{g k : Nat} {L : BL} {S : StV} {Z : SV} {d9 pp dd li ss so : Nat} {p9 : Int32} {r : Nat → Int32} (hb : BkW cy A g L S Z) (hF : FRs A z) (hz : z + 700 ≤ 900000) (hN : AsN S.2.2.1 k pp dd li ss so) (hs : S.2.2.1.2 3 k = sSort Z (S.2.2.1.2 0 k)) (hso : dd / 30 ≤ so) (hd : d9 ≤ 359) (hr0 : A (L.2.2.2 3 k) = some (.inl (cy 0, 5, .inl r))) (hrv : ∀ j, j < 5 → r j = S.2.2.1.2 (asC j) k) (hQ : ∀ A1 z1 x, Grw A z A1 z1 12 → x = aVal S.2.2.1 k (nI d9 / nI 30 - nI 1) → Q (some (.int x)) (upA A1 (L.2.2.2 3 k) (.inl (cy 0, 5, .inl (upd (upd r 3 (nI d9)) 4 p9)))) (z1 + 1)) (X : Cx p s m args meth c D cy B od cL_act 11 tL_act RL (some .int)) : G p l e rmL_act s m args below meth c D B od 11 tL_act (FinQ false D B od Q (fun _ _ => True) args s below rmL_act.cells rmL_act.slots) 0 0 A (z + 1) 461 [some (.ref g), some (.int (w0)), some (.int (x0)), some (.int (y0)), some (.int (e0)), some (.int (a0)), some (.int (r0)), some (.int (nI d9)), some (.int (p9)), some (.ref (L.2.2.2 3 k)), none] [] := by
  refine g_iload X rfl rfl ?_
  refine g_bipush X rfl (v := nI 30) (by decide) ?_
  refine g_ic_geN X rfl (by omega) (by omega) (fun h => ?_) (fun h => ?_)
  · refine g_aload_n X rfl rfl ?_
    refine g_aload X rfl rfl ?_
    refine g_iload X rfl rfl ?_
    refine g_bipush X rfl (v := nI 30) (by decide) ?_
    refine g_idiv X rfl (by decide) ?_
    rw [pk_div (by omega) (by decide) (by decide)]
    refine g_iconst X rfl (v := nI 1) (by decide) ?_
    refine g_isub X rfl ?_
    rw [pk_sub (by omega)]
    refine g_gV X rfl lcX8_value lmL_133 lsX8_value (cg_X8_value l D cy B od hb.1 hr0 hrv hN hs hso (m9 := d9 / 30 - 1) (by omega)) hF (by show z + 12 ≤ 900000; omega) (ci := 8) hb.1.1 rfl rfl rfl (Nat.le_of_ble_eq_true rfl) ⟨by decide, by decide⟩ ⟨Nat.le_of_ble_eq_true rfl, Nat.le_of_ble_eq_true rfl⟩ (fun v1 A1 z1 q1 hG1 => ?_)
    obtain rfl := q1
    refine g_istoreS X rfl (by decide) rfl ?_
    exact act11c l D cy B od (hG1.1 _ _ hr0) (hQ A1 z1 _ hG1 (by rw [pk_div (by omega) (by decide) (by decide), pk_sub (by omega)])) X
  · refine g_iconst X rfl (v := nI 0) (by decide) ?_
    refine g_goto X rfl ?_
    refine g_istoreS X rfl (by decide) rfl ?_
    exact g_more (by decide) (by decide) (act11c l D cy B od hr0 (hQ A z _ ((Grw.rf hF).wide (by decide)) (by rw [pk_div (by omega) (by decide) (by decide), show d9 / 30 = 0 by omega, hN.val_m])) X)
theorem asset_sold {As : RV} {k i : Nat} {r : Nat → Int32} {d9 p9 : Int32} (hi : i < 5) (hrv : ∀ j, j < 5 → r j = As.2 (asC j) k) : upd (upd r 3 d9) 4 p9 i = (rSet (rSet As 4 k d9) 5 k p9).2 (asC i) k := by
  have h := hrv i hi
  rcases (show i = 0 ∨ i = 1 ∨ i = 2 ∨ i = 3 ∨ i = 4 by omega) with rfl | rfl | rfl | rfl | rfl
  · simpa [upd, rSet, asC] using h
  · simpa [upd, rSet, asC] using h
  · simpa [upd, rSet, asC] using h
  · simp [upd, rSet, asC]
  · simp [upd, rSet, asC]
set_option maxRecDepth 100000 in
set_option maxHeartbeats 1000000 in
theorem ct_L_act_11 (l : Launch) (D : va_G) (cy : Nat → ClassId) (B : Nat) (od : Nat → Option Nat) {A : AH} {g n : Nat} {L : BL} {S : StV} {Z : SV} (hb : BkW cy A g L S Z) (hw : WfS S) (hn : n < 10000000) {V : LV} (hV : vS V = S) (z : Nat) (hF : FRs A z) (hz : z + 700 ≤ 900000) (hR : Rng Z S) : CT l D cy B od yL_act cL_act 11 (some .int) rmL_act [.ref g, .int (nI 11), .int (nI n)] A (z + 1) (ActR cy A z g L S Z (ocSell V (nI (n % (S.2.2.1.1 + 1))) (numI (n / 64) (nI 0) (nI 359) 360) (numI (n / 64 / 3) (nI 0) (nI 5000000) 5000001)) (S.1, S.2.1, rSet (rSet S.2.2.1 4 (n % (S.2.2.1.1 + 1)) (numI (n / 64) (nI 0) (nI 359) 360)) 5 (n % (S.2.2.1.1 + 1)) (numI (n / 64 / 3) (nI 0) (nI 5000000) 5000001), S.2.2.2)) := by
  refine act_pre l D cy B od hb hw hn 11 (fun p e s m args below meth c X => ?_)
  have hw1 := hw.1
  have hw2 := hw.2.1
  have hw3 := hw.2.2.1
  refine g_iload_n X rfl rfl ?_
  refine g_tsw X rfl (j := 415) (by decide) (by decide) rfl rfl (by decide) ?_
  refine g_iload_n X rfl rfl ?_
  refine g_iconst X rfl (v := nI 0) (by decide) ?_
  refine g_sipush X rfl (v := nI 359) (by decide) ?_
  refine g_rS X rfl lcL_number lmL_86 stL_number (cr_L_number l D cy B od (n := n / 64) (N := 360) (lo := nI 0) (hi := nI 359) (by omega) (by decide) (by decide) (by decide)) rfl rfl (Nat.le_of_ble_eq_true rfl) ⟨⟨by decide, by decide⟩, rfl, rfl⟩ ⟨Nat.le_of_ble_eq_true rfl, Nat.le_of_ble_eq_true rfl⟩ ?_
  refine g_istoreS X rfl (by decide) rfl ?_
  refine g_iload_n X rfl rfl ?_
  refine g_iconst X rfl (v := nI 3) (by decide) ?_
  refine g_idiv X rfl (by decide) ?_
  rw [pk_div (by omega) (by decide) (by decide)]
  refine g_iconst X rfl (v := nI 0) (by decide) ?_
  refine g_ldc X rfl kcL_131 ?_
  refine g_rS X rfl lcL_number lmL_86 stL_number (cr_L_number l D cy B od (n := n / 64 / 3) (N := 5000001) (lo := nI 0) (hi := nI 5000000) (by omega) (by decide) (by decide) (by decide)) rfl rfl (Nat.le_of_ble_eq_true rfl) ⟨⟨by decide, by decide⟩, rfl, rfl⟩ ⟨Nat.le_of_ble_eq_true rfl, Nat.le_of_ble_eq_true rfl⟩ ?_
  refine g_istoreS X rfl (by decide) rfl ?_
  refine g_iload X rfl rfl ?_
  refine g_aload_n X rfl rfl ?_
  refine g_get X rfl flL_102 (ci := 8) rfl (hb.1.1) rfl ?_
  refine g_rV X rfl lcJx4a65c_size_8abf5 lmL_97 lsJx4a65c_size_8abf5 (cr_size l D cy B od (show LsC cy A (L.1 3) (L.2.1 3) (L.2.2.1 3) S.2.2.1.1 (L.2.2.2 3) from hb.1.2.1 3 (by decide))) (ci := 9) ((hb.1.2.1 3 (by decide)).1) rfl rfl rfl (Nat.le_of_ble_eq_true rfl) ⟨⟨by decide, by decide⟩, rfl, rfl⟩ ⟨Nat.le_of_ble_eq_true rfl, Nat.le_of_ble_eq_true rfl⟩ ?_
  refine g_icmp_ne X rfl (fun h => ?_) (fun h => ?_)
  · have hE : n % (S.2.2.1.1 + 1) < S.2.2.1.1 := Nat.lt_of_le_of_ne (Nat.le_of_lt_succ (Nat.mod_lt _ (by omega))) (fun q => h (by rw [q]))
    have hcl := nI_clamp (n := n % (S.2.2.1.1 + 1)) (by omega)
    have hx9 : 0 ≤ nI (n % (S.2.2.1.1 + 1)) ∧ nI (n % (S.2.2.1.1 + 1)) < nI S.2.2.1.1 := ⟨nI_le (a := 0) (Nat.zero_le _) (by omega), nI_lt hE (by omega)⟩
    obtain ⟨r, hr0, hrv⟩ : ∃ r, A (L.2.2.2 3 (n % (S.2.2.1.1 + 1))) = some (.inl (cy 0, 5, .inl r)) ∧ ∀ j, j < 5 → r j = S.2.2.1.2 (asC j) (n % (S.2.2.1.1 + 1)) := hb.1.2.2.2.2.2.1 _ hE
    have hk := hE
    obtain ⟨pp, dd, li, ss, so, hN⟩ := asset_N hR hE
    refine g_aload_n X rfl rfl ?_
    refine g_get X rfl flL_102 (ci := 8) rfl (hb.1.1) rfl ?_
    refine g_iload X rfl rfl ?_
    refine g_rV X rfl lcJx4a65c_get_915e3 lmL_125 lsJx4a65c_get_915e3 (cr_get l D cy B od (show LsC cy A (L.1 3) (L.2.1 3) (L.2.2.1 3) S.2.2.1.1 (L.2.2.2 3) from hb.1.2.1 3 (by decide)) hE) (ci := 9) ((hb.1.2.1 3 (by decide)).1) rfl rfl rfl (Nat.le_of_ble_eq_true rfl) ⟨⟨by decide, by decide⟩, rfl, rfl⟩ ⟨Nat.le_of_ble_eq_true rfl, Nat.le_of_ble_eq_true rfl⟩ ?_
    refine g_castI X rfl clL_129 hr0 ?_
    refine g_astoreS X rfl (by decide) rfl ?_
    refine g_iload X rfl rfl ?_
    refine g_aload X rfl rfl ?_
    refine g_iconst X rfl (v := nI 1) (by decide) ?_
    refine g_ialdN X rfl hr0 (by decide) (by decide) ?_
    rw [show r 1 = S.2.2.1.2 1 (n % (S.2.2.1.1 + 1)) from hrv 1 (by decide)]
    refine g_sipush X rfl (v := nI 359) (by decide) ?_
    refine g_rS X rfl lcL_is lmL_114 stL_is (cr_L_is l D cy B od (v := numI (n / 64) (nI 0) (nI 359) 360) (lo := S.2.2.1.2 1 (n % (S.2.2.1.1 + 1))) (hi := nI 359)) rfl rfl (Nat.le_of_ble_eq_true rfl) ⟨⟨by decide, by decide⟩, rfl, rfl⟩ ⟨Nat.le_of_ble_eq_true rfl, Nat.le_of_ble_eq_true rfl⟩ ?_
    refine g_if_eq X rfl (fun h4 => ?_) (fun h4 => ?_)
    · have hoc : ocSell V (nI (n % (S.2.2.1.1 + 1))) (numI (n / 64) (nI 0) (nI 359) 360) (numI (n / 64 / 3) (nI 0) (nI 5000000) 5000001) = .inl eIAE := by unfold ocSell; rw [hV, hcl, if_neg (fun q => q hx9), if_neg (by rw [(bI_iff _).mp h4]; simp)]
      refine g_ldc X rfl kcL_29 ?_
      exact g_iret X rfl rfl (by rfl) (Nat.le_of_ble_eq_true rfl) (Nat.le_of_ble_eq_true rfl) (ActR.err hb hF hoc (by decide))
    · have h4 : within9 (numI (n / 64) (nI 0) (nI 359) 360) (S.2.2.1.2 1 (n % (S.2.2.1.1 + 1))) (nI 359) = true := (Bool.not_eq_false _).mp (mt (bI_iff _).mpr h4)
      refine g_iload X rfl rfl ?_
      refine g_iconst X rfl (v := nI 0) (by decide) ?_
      refine g_ldc X rfl kcL_131 ?_
      refine g_rS X rfl lcL_is lmL_114 stL_is (cr_L_is l D cy B od (v := numI (n / 64 / 3) (nI 0) (nI 5000000) 5000001) (lo := nI 0) (hi := nI 5000000)) rfl rfl (Nat.le_of_ble_eq_true rfl) ⟨⟨by decide, by decide⟩, rfl, rfl⟩ ⟨Nat.le_of_ble_eq_true rfl, Nat.le_of_ble_eq_true rfl⟩ ?_
      refine g_if_ne X rfl (fun h5 => ?_) (fun h5 => ?_)
      · have hok : (within9 (numI (n / 64) (nI 0) (nI 359) 360) (S.2.2.1.2 1 (n % (S.2.2.1.1 + 1))) (nI 359) && within9 (numI (n / 64 / 3) (nI 0) (nI 5000000) 5000001) (nI 0) (nI 5000000)) = true := by rw [h4, (Bool.not_eq_false _).mp (mt (bI_iff _).mpr h5)]; rfl
        refine g_aload X rfl rfl ?_
        refine g_iconst X rfl (v := nI 3) (by decide) ?_
        refine g_ialdN X rfl hr0 (by decide) (by decide) ?_
        rw [show r 3 = S.2.2.1.2 4 (n % (S.2.2.1.1 + 1)) from hrv 3 (by decide)]
        refine g_iconst X rfl (v := (-1)) (by decide) ?_
        refine g_icmp_eq X rfl (fun h6 => ?_) (fun h6 => ?_)
        · have hoc : ocSell V (nI (n % (S.2.2.1.1 + 1))) (numI (n / 64) (nI 0) (nI 359) 360) (numI (n / 64 / 3) (nI 0) (nI 5000000) 5000001) = .inr (.int (aVal S.2.2.1 (n % (S.2.2.1.1 + 1)) ((numI (n / 64) (nI 0) (nI 359) 360) / nI 30 - nI 1))) := by unfold ocSell; rw [hV, hcl, if_neg (fun q => q hx9), if_pos hok, if_pos h6]
          have hdd := hN.2.2.1
          obtain ⟨d9, hd1, hd2, hd3⟩ := w9_N (a := dd) (b := 359) (by decide) (by omega) (by rw [← hN.2.2.2.2.2.2.2.2.1]; exact h4)
          have hso : dd / 30 ≤ so := by
            rcases hN.2.2.2.2.2.2.2.2.2.2.2 with ⟨-, h7⟩ | ⟨sd, h7, h8, -⟩
            · omega
            · rw [h6] at h8; exact absurd h8.symm (nI_nm1 (by omega))
          rw [hd3] at hoc ⊢
          exact act11b l D cy B od hb hF hz hN ((hR.2.2.1 _ hE).2.2.2.1) hso hd2 hr0 hrv (fun A1 z1 x hG hx => ActR.asst hb hG (by decide) hF hz hE hr0 rfl (fun q i hi => (rSet_ne hi).trans (rSet_ne hi)) (fun i hi => asset_sold hi hrv) (by rw [hx]; exact hoc)) X
        · have hoc : ocSell V (nI (n % (S.2.2.1.1 + 1))) (numI (n / 64) (nI 0) (nI 359) 360) (numI (n / 64 / 3) (nI 0) (nI 5000000) 5000001) = .inl eISE := by unfold ocSell; rw [hV, hcl, if_neg (fun q => q hx9), if_pos hok, if_neg h6]
          refine g_ldc X rfl kcL_22 ?_
          exact g_iret X rfl rfl (by rfl) (Nat.le_of_ble_eq_true rfl) (Nat.le_of_ble_eq_true rfl) (ActR.err hb hF hoc (by decide))
      · have hoc : ocSell V (nI (n % (S.2.2.1.1 + 1))) (numI (n / 64) (nI 0) (nI 359) 360) (numI (n / 64 / 3) (nI 0) (nI 5000000) 5000001) = .inl eIAE := by unfold ocSell; rw [hV, hcl, if_neg (fun q => q hx9), if_neg (by rw [(bI_iff _).mp h5, h4]; simp)]
        refine g_ldc X rfl kcL_29 ?_
        exact g_iret X rfl rfl (by rfl) (Nat.le_of_ble_eq_true rfl) (Nat.le_of_ble_eq_true rfl) (ActR.err hb hF hoc (by decide))
  · have hoc : ocSell V (nI (n % (S.2.2.1.1 + 1))) (numI (n / 64) (nI 0) (nI 359) 360) (numI (n / 64 / 3) (nI 0) (nI 5000000) 5000001) = .inl eIOB := by rw [h]; exact if_pos (fun q => by rw [hV] at q; exact Int32.lt_irrefl q.2)
    refine g_ldc X rfl kcL_58 ?_
    exact g_iret X rfl rfl (by rfl) (Nat.le_of_ble_eq_true rfl) (Nat.le_of_ble_eq_true rfl) (ActR.err hb hF hoc (by decide))
