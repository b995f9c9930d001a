/-! 49: the reference: a text as a whole -/
/-- what follows a statement that was read -/
def rdC (tx : Nat → Int32) (len n : Nat) (w : PS) : Int32 × PS := if w.1.2.1 = 0 then (-1, w) else if w.1.2.1 = nI 3 ∧ tx w.1.2.2.1 = nI 59 then rdL tx len n (tokN tx len w.1, w.2) else (nI w.1.2.2.1, w)
theorem rdL_t {tx : Nat → Int32} {len n : Nat} {u : PS} (h : (rdSt tx len u).1 = true) : rdL tx len (n + 1) u = rdC tx len n (rdSt tx len u).2 := by rw [rdL, if_pos h]; rfl
theorem rdL_f {tx : Nat → Int32} {len n : Nat} {u : PS} (h : (rdSt tx len u).1 = false) : rdL tx len (n + 1) u = (nI (rdSt tx len u).2.1.2.2.1, (rdSt tx len u).2) := by rw [rdL, if_neg (by rw [h]; decide)]
/-- what reading a text leaves: w is the error's position or -1 -/
def PEnd (cy : Nat → ClassId) (A A' : AH) (th : Int32) (len en : Nat) (sv : Int32) (R : Int32 × PS) : Prop := MFr A A' ∧ ∃ (at9 fr kd : Int32) (num : Int64) (td : Int32) (rr : Nat → Int32), A' 231 = some (mP th len at9 fr kd R.1 num en td sv) ∧ A' 233 = some (.inl (cy 0, 522, .inl rr)) ∧ ((R.1 = -1 ∧ RdC rr R.2.2.2.1 R.2.2.2.2 ∧ RgP R.2.2.2.1 R.2.2.2.2) ∨ ∃ n, n < 1000 ∧ R.1 = nI n)
theorem MS.out {cy : Nat → ClassId} {A : AH} {th : Int32} {len : Nat} {wr : Int32} {en : Nat} {sv : Int32} {mb tx rr : Nat → Int32} {tk : TK} {td : Int32} (h : MS cy A th len wr en sv mb tx tk td rr) : ∃ (at9 fr kd : Int32) (num : Int64), A 231 = some (mP th len at9 fr kd wr num en td sv) ∧ A 233 = some (.inl (cy 0, 522, .inl rr)) := by
  obtain ⟨num, h1, -, h2, -⟩ := h
  exact ⟨_, _, _, num, h1, h2⟩
set_option maxRecDepth 100000 in
set_option maxHeartbeats 400000 in
theorem tl_X8_parse (l : Launch) (D : va_G) (cy : Nat → ClassId) (B : Nat) (od : Nat → Option Nat) {p : Program} {e : Env} {s : State} {m : MethodId} {args : Array Value} {below : List Frame} {meth : Method} {c : Code} {A A1 : AH} {z : Nat} {th : Int32} {len en : Nat} {sv : Int32} {mb tx : Nat → Int32} {at9 fr kd : Int32} {num : Int64} {td : Int32} {R : Int32 × PS} {Qf : Option Value → AH → Prop} (hQ : ∀ A', PEnd cy A A' th len en sv R → Qf (some (.int R.1)) A') (hM : A1 231 = some (mP th len at9 fr kd R.1 num en td sv)) (hwb : ¬ R.1 < 0) (hE : PEnd cy A A1 th len en sv R) (X : Cx p s m args meth c D cy B od cX8_parse 1 tX8_parse RX8 (some .int)) : G p l e rmX8_parse s m args below meth c D B od 1 tX8_parse (FinQ false D B od (fun v A' z' => z' = z ∧ (Qf) v A') (fun _ _ => True) args s below rmX8_parse.cells rmX8_parse.slots) 0 0 A1 z 12 [some (.ref 231)] [] := by
  refine g_aload_n X rfl rfl ?_
  refine g_rV X rfl lcX8_isGood lmX8_99 lsX8_isGood (cr_X8_isGood l D cy B od (mb := mb) (tx := tx) hM) (ci := 8) (by (repeat (first | exact hM | exact upA_eq | refine (upA_ne (by omega)).trans ?_))) rfl rfl rfl (Nat.le_of_ble_eq_true rfl) ⟨⟨by decide, by decide⟩, rfl, rfl⟩ ⟨Nat.le_of_ble_eq_true rfl, Nat.le_of_ble_eq_true rfl⟩ ?_
  first | refine g_if_eqB X rfl (fun h1 => ?_) (fun h1 => ?_) | refine g_if_eq X rfl (fun h1 => ?_) (fun h1 => ?_)
  · refine g_aload_n X rfl rfl ?_
    refine g_rV X rfl lcX8_isGood lmX8_99 lsX8_isGood (cr_X8_isGood l D cy B od (mb := mb) (tx := tx) hM) (ci := 8) (by (repeat (first | exact hM | exact upA_eq | refine (upA_ne (by omega)).trans ?_))) rfl rfl rfl (Nat.le_of_ble_eq_true rfl) ⟨⟨by decide, by decide⟩, rfl, rfl⟩ ⟨Nat.le_of_ble_eq_true rfl, Nat.le_of_ble_eq_true rfl⟩ ?_
    first | refine g_if_eqB X rfl (fun h2 => ?_) (fun h2 => ?_) | refine g_if_eq X rfl (fun h2 => ?_) (fun h2 => ?_)
    · refine g_aload_n X rfl rfl ?_
      refine g_get X rfl flX8_96 (ci := 8) rfl (by (repeat (first | exact hM | exact upA_eq | refine (upA_ne (by omega)).trans ?_))) rfl ?_
      refine g_iret X rfl rfl (by first | rfl | exact bI_nar _ | decide) (Nat.le_of_ble_eq_true rfl) (Nat.le_of_ble_eq_true rfl) ⟨rfl, ?_⟩
      exact hQ A1 hE
    · exact absurd (of_decide_eq_true h2) hwb
  · exact absurd (of_decide_eq_true h1) hwb
set_option maxRecDepth 100000 in
set_option maxHeartbeats 400000 in
theorem lp_X8_parse (l : Launch) (D : va_G) (cy : Nat → ClassId) (B : Nat) (od : Nat → Option Nat) {p : Program} {e : Env} {s : State} {m : MethodId} {args : Array Value} {below : List Frame} {meth : Method} {c : Code} {A : AH} {z : Nat} {th : Int32} {len en : Nat} {sv : Int32} {mb tx : Nat → Int32} {R : Int32 × PS} {Qf : Option Value → AH → Prop} (hQ : ∀ A', PEnd cy A A' th len en sv R → Qf (some (.int R.1)) A')  (X : Cx p s m args meth c D cy B od cX8_parse 1 tX8_parse RX8 (some .int)) : ∀ (k i : Nat) (A1 : AH) (w : PS) (td : Int32) (rr : Nat → Int32) (_ : MS cy A1 th len (-1) en sv mb tx w.1 td rr) (_ : TdC td w.2.1) (_ : RdC rr w.2.2.1 w.2.2.2) (_ : RgP w.2.2.1 w.2.2.2) (_ : rdC tx len (399 - i) w = R) (_ : i + 1 ≤ w.1.2.2.1) (_ : MFr A A1), 0 ≤ i → i ≤ 399 → 399 - i < k → G p l e rmX8_parse s m args below meth c D B od 1 tX8_parse (FinQ false D B od (fun v A' z' => z' = z ∧ (Qf) v A') (fun _ _ => True) args s below rmX8_parse.cells rmX8_parse.slots) 0 0 A1 z 12 [some (.ref 231)] [] := by
  intro k
  induction k with
  | zero => intro i _ _ _ _ _ _ _ _ _ _ _ _ _ h; omega
  | succ k ih =>
    intro i A1 w td rr hS hT hC hg hR hJ hF hlo hi hk
    obtain ⟨num, hM, hX, hrd, hT3, hNk⟩ := id hS
    have hT1 := hT3.1.1
    have hT2 := hT3.1.2
    obtain ⟨hb, hlen, hal, hpos⟩ := id hX
    refine g_aload_n X rfl rfl ?_
    refine g_rV X rfl lcX8_isGood lmX8_99 lsX8_isGood (cr_X8_isGood l D cy B od (mb := mb) (tx := tx) hM) (ci := 8) (by (repeat (first | exact hM | exact upA_eq | refine (upA_ne (by omega)).trans ?_))) rfl rfl rfl (Nat.le_of_ble_eq_true rfl) ⟨⟨by decide, by decide⟩, rfl, rfl⟩ ⟨Nat.le_of_ble_eq_true rfl, Nat.le_of_ble_eq_true rfl⟩ ?_
    first | refine g_if_eqB X rfl (fun h1 => ?_) (fun h1 => ?_) | refine g_if_eq X rfl (fun h1 => ?_) (fun h1 => ?_)
    · exact absurd h1 (by decide)
    · refine g_aload_n X rfl rfl ?_
      refine g_get X rfl flX8_77 (ci := 8) rfl (by (repeat (first | exact hM | exact upA_eq | refine (upA_ne (by omega)).trans ?_))) rfl ?_
      refine g_iconst X rfl (v := nI 3) (by decide) ?_
      refine g_icmp_ne X rfl (fun h2 => ?_) (fun h2 => ?_)
      · have hns : ¬ (w.1.2.1 = nI 3 ∧ tx w.1.2.2.1 = nI 59) := fun q => h2 q.1
        refine g_aload_n X rfl rfl ?_
        refine g_rV X rfl lcX8_isGood lmX8_99 lsX8_isGood (cr_X8_isGood l D cy B od (mb := mb) (tx := tx) hM) (ci := 8) (by (repeat (first | exact hM | exact upA_eq | refine (upA_ne (by omega)).trans ?_))) rfl rfl rfl (Nat.le_of_ble_eq_true rfl) ⟨⟨by decide, by decide⟩, rfl, rfl⟩ ⟨Nat.le_of_ble_eq_true rfl, Nat.le_of_ble_eq_true rfl⟩ ?_
        first | refine g_if_eqB X rfl (fun h3 => ?_) (fun h3 => ?_) | refine g_if_eq X rfl (fun h3 => ?_) (fun h3 => ?_)
        · exact absurd h3 (by decide)
        · refine g_aload_n X rfl rfl ?_
          refine g_get X rfl flX8_77 (ci := 8) rfl (by (repeat (first | exact hM | exact upA_eq | refine (upA_ne (by omega)).trans ?_))) rfl ?_
          refine g_if_eq X rfl (fun h4 => ?_) (fun h4 => ?_)
          · have hk0 : w.1.2.1 = 0 := h4
            refine g_aload_n X rfl rfl ?_
            refine g_get X rfl flX8_96 (ci := 8) rfl (by (repeat (first | exact hM | exact upA_eq | refine (upA_ne (by omega)).trans ?_))) rfl ?_
            refine g_iret X rfl rfl (by first | rfl | exact bI_nar _ | decide) (Nat.le_of_ble_eq_true rfl) (Nat.le_of_ble_eq_true rfl) ⟨rfl, ?_⟩
            have e1 : R = (-1, w) := by rw [← hR, rdC, if_pos hk0]
            subst e1
            exact hQ _ ⟨hF, _, _, _, _, _, _, hM, hrd, Or.inl ⟨rfl, hC, hg⟩⟩
          · have hk0 : ¬ w.1.2.1 = 0 := h4
            refine g_aload_n X rfl rfl ?_
            refine g_mV X rfl lcX8_fail lmX8_112 lsX8_fail (cm_X8_fail l D cy B od (mb := mb) (tx := tx) hM rfl) (ci := 8) (by (repeat (first | exact hM | exact upA_eq | refine (upA_ne (by omega)).trans ?_))) rfl rfl rfl (Nat.le_of_ble_eq_true rfl) ⟨⟨by decide, by decide⟩, rfl, rfl⟩ ⟨Nat.le_of_ble_eq_true rfl, Nat.le_of_ble_eq_true rfl⟩ (fun v5 A5 q5 => ?_)
            obtain ⟨rfl, rfl⟩ := q5
            have hM := @upA_eq A1 231 (mP th len (nI w.1.1) (nI w.1.2.2.1) w.1.2.1 (nI w.1.2.2.1) num en td sv)
            have e1 : R.1 = nI w.1.2.2.1 := by rw [← hR, rdC, if_neg hk0, if_neg hns]
            refine g_aload_n X rfl rfl ?_
            refine g_get X rfl flX8_96 (ci := 8) rfl (by (repeat (first | exact hM | exact upA_eq | refine (upA_ne (by omega)).trans ?_))) rfl ?_
            refine g_iret X rfl rfl (by first | rfl | exact bI_nar _ | decide) (Nat.le_of_ble_eq_true rfl) (Nat.le_of_ble_eq_true rfl) ⟨rfl, ?_⟩
            have hq9 := hQ (upA A1 231 (mP th len (nI w.1.1) (nI w.1.2.2.1) w.1.2.1 (nI w.1.2.2.1) num en td sv)) ⟨hF.m, _, _, _, _, _, _, by rw [e1]; exact upA_eq, (upA_ne (by decide)).trans hrd, Or.inr ⟨w.1.2.2.1, by omega, e1⟩⟩
            rw [e1] at hq9
            exact hq9
      · have hk3 : w.1.2.1 = nI 3 := (by first | exact h2 | exact Classical.not_not.mp h2)
        have hlt9 := hT3.2 hk3
        refine g_aload_n X rfl rfl ?_
        refine g_get X rfl flX8_9 (ci := 8) rfl (by (repeat (first | exact hM | exact upA_eq | refine (upA_ne (by omega)).trans ?_))) rfl ?_
        refine g_aload_n X rfl rfl ?_
        refine g_get X rfl flX8_67 (ci := 8) rfl (by (repeat (first | exact hM | exact upA_eq | refine (upA_ne (by omega)).trans ?_))) rfl ?_
        refine g_ialdN X rfl hb (by omega) (by decide) ?_
        rw [hal _ hlt9]
        refine g_bipush X rfl (v := nI 59) (by decide) ?_
        refine g_icmp_ne X rfl (fun h6 => ?_) (fun h6 => ?_)
        · have hns : ¬ (w.1.2.1 = nI 3 ∧ tx w.1.2.2.1 = nI 59) := fun q => h6 q.2
          refine g_aload_n X rfl rfl ?_
          refine g_rV X rfl lcX8_isGood lmX8_99 lsX8_isGood (cr_X8_isGood l D cy B od (mb := mb) (tx := tx) hM) (ci := 8) (by (repeat (first | exact hM | exact upA_eq | refine (upA_ne (by omega)).trans ?_))) rfl rfl rfl (Nat.le_of_ble_eq_true rfl) ⟨⟨by decide, by decide⟩, rfl, rfl⟩ ⟨Nat.le_of_ble_eq_true rfl, Nat.le_of_ble_eq_true rfl⟩ ?_
          first | refine g_if_eqB X rfl (fun h7 => ?_) (fun h7 => ?_) | refine g_if_eq X rfl (fun h7 => ?_) (fun h7 => ?_)
          · exact absurd h7 (by decide)
          · refine g_aload_n X rfl rfl ?_
            refine g_get X rfl flX8_77 (ci := 8) rfl (by (repeat (first | exact hM | exact upA_eq | refine (upA_ne (by omega)).trans ?_))) rfl ?_
            refine g_if_eq X rfl (fun h8 => ?_) (fun h8 => ?_)
            · have hk0 : w.1.2.1 = 0 := h8
              refine g_aload_n X rfl rfl ?_
              refine g_get X rfl flX8_96 (ci := 8) rfl (by (repeat (first | exact hM | exact upA_eq | refine (upA_ne (by omega)).trans ?_))) rfl ?_
              refine g_iret X rfl rfl (by first | rfl | exact bI_nar _ | decide) (Nat.le_of_ble_eq_true rfl) (Nat.le_of_ble_eq_true rfl) ⟨rfl, ?_⟩
              have e1 : R = (-1, w) := by rw [← hR, rdC, if_pos hk0]
              subst e1
              exact hQ _ ⟨hF, _, _, _, _, _, _, hM, hrd, Or.inl ⟨rfl, hC, hg⟩⟩
            · have hk0 : ¬ w.1.2.1 = 0 := h8
              refine g_aload_n X rfl rfl ?_
              refine g_mV X rfl lcX8_fail lmX8_112 lsX8_fail (cm_X8_fail l D cy B od (mb := mb) (tx := tx) hM rfl) (ci := 8) (by (repeat (first | exact hM | exact upA_eq | refine (upA_ne (by omega)).trans ?_))) rfl rfl rfl (Nat.le_of_ble_eq_true rfl) ⟨⟨by decide, by decide⟩, rfl, rfl⟩ ⟨Nat.le_of_ble_eq_true rfl, Nat.le_of_ble_eq_true rfl⟩ (fun v9 A9 q9 => ?_)
              obtain ⟨rfl, rfl⟩ := q9
              have hM := @upA_eq A1 231 (mP th len (nI w.1.1) (nI w.1.2.2.1) w.1.2.1 (nI w.1.2.2.1) num en td sv)
              have e1 : R.1 = nI w.1.2.2.1 := by rw [← hR, rdC, if_neg hk0, if_neg hns]
              refine g_aload_n X rfl rfl ?_
              refine g_get X rfl flX8_96 (ci := 8) rfl (by (repeat (first | exact hM | exact upA_eq | refine (upA_ne (by omega)).trans ?_))) rfl ?_
              refine g_iret X rfl rfl (by first | rfl | exact bI_nar _ | decide) (Nat.le_of_ble_eq_true rfl) (Nat.le_of_ble_eq_true rfl) ⟨rfl, ?_⟩
              have hq9 := hQ (upA A1 231 (mP th len (nI w.1.1) (nI w.1.2.2.1) w.1.2.1 (nI w.1.2.2.1) num en td sv)) ⟨hF.m, _, _, _, _, _, _, by rw [e1]; exact upA_eq, (upA_ne (by decide)).trans hrd, Or.inr ⟨w.1.2.2.1, by omega, e1⟩⟩
              rw [e1] at hq9
              exact hq9
        · have hsc : tx w.1.2.2.1 = nI 59 := (by first | exact h6 | exact Classical.not_not.mp h6)
          refine g_aload_n X rfl rfl ?_
          refine g_mV X rfl lcX8_step lmX8_115 lsX8_step (cm_X8_step l D cy B od (nm := w.1.2.2.2) hM hX hT3.1.1) (ci := 8) (by (repeat (first | exact hM | exact upA_eq | refine (upA_ne (by omega)).trans ?_))) rfl rfl rfl (Nat.le_of_ble_eq_true rfl) ⟨⟨by decide, by decide⟩, rfl, rfl⟩ ⟨Nat.le_of_ble_eq_true rfl, Nat.le_of_ble_eq_true rfl⟩ (fun v10 A10 q10 => ?_)
          obtain ⟨rfl, n9, tk9, hn9, e9, rfl⟩ := q10
          have hS1 := hS.step e9 hn9
          have hF1 := hF.m (x := mP th len (nI tk9.1) (nI tk9.2.2.1) tk9.2.1 (-1) n9 en td sv)
          obtain ⟨num1, hM1, -⟩ := id hS1
          have hM := hM1
          refine g_aload_n X rfl rfl ?_
          refine g_mV X rfl lcX8_readStatement lmX8_161 lsX8_readStatement (cm_X8_readStatement l D cy B od (u := (tokN tx len w.1, w.2)) hS1 hT hC hg) (ci := 8) (by (repeat (first | exact hM | exact upA_eq | refine (upA_ne (by omega)).trans ?_))) rfl rfl rfl (Nat.le_of_ble_eq_true rfl) ⟨⟨by decide, by decide⟩, rfl, rfl⟩ ⟨Nat.le_of_ble_eq_true rfl, Nat.le_of_ble_eq_true rfl⟩ (fun v11 A11 q11 => ?_)
          obtain ⟨rfl, hF2, hR9⟩ := q11
          refine g_goto X rfl ?_
          have hlt : i < 399 := by have := hT3.2 hk3; omega
          have hR1 : rdL tx len (398 - i + 1) (tokN tx len w.1, w.2) = R := by rw [← hR, rdC, if_neg (by rw [hk3]; decide), if_pos ⟨hk3, hsc⟩, show 398 - i + 1 = 399 - i by omega]
          have hu3 : T3 len (tokN tx len w.1) := T3.tok hT3.1.1
          obtain ⟨td2, rr2, ⟨h1, hS2, hT2, hC2, hg2⟩ | ⟨h1, tk2, hS2⟩⟩ := hR9
          · have ha := rdSt_adv (u := (tokN tx len w.1, w.2)) hu3 h1
            have hw := rdSt_w h1
            have hge := tokN_ge (tx := tx) (len := len) (tk := w.1)
            rw [rdL_t h1] at hR1
            exact ih (i + 1) _ _ td2 rr2 hS2 hT2 hC2 hg2 (by rw [← hR1, show 399 - (i + 1) = 398 - i by omega]) (by have q1 : (tokN tx len w.1).2.2.1 < (tokN tx len w.1).1 := hw; have q2 : (tokN tx len w.1).1 ≤ (rdSt tx len (tokN tx len w.1, w.2)).2.1.2.2.1 := ha; omega) (hF1.trans hF2) (by omega) (by omega) (by omega)
          · obtain ⟨at9, fr9, kd9, num9, g1, g2⟩ := hS2.out
            rw [rdL_f h1] at hR1
            have hsl : (rdSt tx len (tokN tx len w.1, w.2)).2.1.2.2.1 < 1000 := by have := (rdSt_ok (tx := tx) (s := (tokN tx len w.1, w.2)) (len := len) ⟨hu3, hg.2.2.1, hg.2.2.2⟩).1.1; omega
            have e1 : R.1 = nI (rdSt tx len (tokN tx len w.1, w.2)).2.1.2.2.1 := by rw [← hR1]
            rw [← e1] at g1
            exact tl_X8_parse l D cy B od (mb := mb) (tx := tx) hQ g1 (by rw [e1]; exact nI_pos (by omega)) ⟨hF1.trans hF2, _, _, _, _, _, _, g1, g2, Or.inr ⟨_, hsl, e1⟩⟩ X
set_option maxRecDepth 100000 in
set_option maxHeartbeats 400000 in
theorem cm_X8_parse (l : Launch) (D : va_G) (cy : Nat → ClassId) (B : Nat) (od : Nat → Option Nat) {A : AH} {th at9 fr kd wr : Int32} {num : Int64} {len en : Nat} {td sv : Int32} {mb tx rr : Nat → Int32} (hM : A 231 = some (mP th len at9 fr kd wr num en td sv)) (hX : TX cy A len mb tx) (hrd : A 233 = some (.inl (cy 0, 522, .inl rr))) {kd0 nm0 : Int32} {n0 : Nat} {Z0 : SV} {Rm0 : RV} : CM l D cy B od yX8_parse cX8_parse 1 (some .int) rmX8_parse [.ref 231] A (fun v A' => v = some (.int (rdL tx len 400 (tokN tx len (0, kd0, n0, nm0), (nI 0, nI 0, nI 0, nI 0), zDef Z0, (0, Rm0.2))).1) ∧ PEnd cy A A' th len en sv (rdL tx len 400 (tokN tx len (0, kd0, n0, nm0), (nI 0, nI 0, nI 0, nI 0), zDef Z0, (0, Rm0.2)))) := by
  intro z
  refine CT.of (by decide) tX8_parse okX8_parse (Nat.le_of_ble_eq_true rfl) (q0 := tX8_parse[0]) rfl rfl ?_
  intro p e s m args below meth c X _
  have hQ0 : ∀ A', PEnd cy A A' th len en sv (rdL tx len 400 (tokN tx len (0, kd0, n0, nm0), (nI 0, nI 0, nI 0, nI 0), zDef Z0, (0, Rm0.2))) → (fun (v : Option Value) (A' : AH) => v = some (.int (rdL tx len 400 (tokN tx len (0, kd0, n0, nm0), (nI 0, nI 0, nI 0, nI 0), zDef Z0, (0, Rm0.2))).1) ∧ PEnd cy A A' th len en sv (rdL tx len 400 (tokN tx len (0, kd0, n0, nm0), (nI 0, nI 0, nI 0, nI 0), zDef Z0, (0, Rm0.2)))) (some (.int (rdL tx len 400 (tokN tx len (0, kd0, n0, nm0), (nI 0, nI 0, nI 0, nI 0), zDef Z0, (0, Rm0.2))).1)) A' := fun A' h => ⟨rfl, h⟩
  refine g_aload_n X rfl rfl ?_
  refine g_iconst X rfl (v := nI 0) (by decide) ?_
  refine g_put X rfl flX8_60 rfl (ci := 8) rfl (by (repeat (first | exact hM | exact upA_eq | refine (upA_ne (by omega)).trans ?_))) (Nat.le_of_ble_eq_true rfl) (by first | rfl | exact bI_nar _) (by first | rfl | decide) ?_
  first | rw [upA_up] | skip
  refine g_aload_n X rfl rfl ?_
  refine g_iconst X rfl (v := (-1)) (by decide) ?_
  refine g_put X rfl flX8_96 rfl (ci := 8) rfl (by (repeat (first | exact hM | exact upA_eq | refine (upA_ne (by omega)).trans ?_))) (Nat.le_of_ble_eq_true rfl) (by first | rfl | exact bI_nar _) (by first | rfl | decide) ?_
  first | rw [upA_up] | skip
  refine g_aload_n X rfl rfl ?_
  refine g_mV X rfl lcX8_begin lmX8_29 lsX8_begin (cm_X8_begin l D cy B od (rr := rr) upA_eq ((upA_ne (by decide)).trans hrd)) (ci := 8) (by (repeat (first | exact hM | exact upA_eq | refine (upA_ne (by omega)).trans ?_))) rfl rfl rfl (Nat.le_of_ble_eq_true rfl) ⟨⟨by decide, by decide⟩, rfl, rfl⟩ ⟨Nat.le_of_ble_eq_true rfl, Nat.le_of_ble_eq_true rfl⟩ (fun v1 A1 q1 => ?_)
  obtain ⟨rfl, rfl⟩ := q1
  have hM2 := @upA_eq (upA (upA A 231 (mP th len (nI 0) fr kd (-1) num en td sv)) 233 (.inl (cy 0, 522, .inl (mB rr)))) 231 (mP th len (nI 0) fr kd (-1) num en (nI 0) sv)
  have hX2 : TX cy (upA (upA (upA A 231 (mP th len (nI 0) fr kd (-1) num en td sv)) 233 (.inl (cy 0, 522, .inl (mB rr)))) 231 (mP th len (nI 0) fr kd (-1) num en (nI 0) sv)) len mb tx := ((hX.up (by decide)).up (by decide)).up (by decide)
  have hF0 := (((MFr.refl A).m (x := mP th len (nI 0) fr kd (-1) num en td sv)).r (x := .inl (cy 0, 522, .inl (mB rr)))).m (x := mP th len (nI 0) fr kd (-1) num en (nI 0) sv)
  refine g_aload_n X rfl rfl ?_
  refine g_mV X rfl lcX8_step lmX8_115 lsX8_step (cm_X8_step l D cy B od (nm := nm0) (a9 := 0) hM2 hX2 (Nat.zero_le _)) (ci := 8) (by (repeat (first | exact hM | exact upA_eq | refine (upA_ne (by omega)).trans ?_))) rfl rfl rfl (Nat.le_of_ble_eq_true rfl) ⟨⟨by decide, by decide⟩, rfl, rfl⟩ ⟨Nat.le_of_ble_eq_true rfl, Nat.le_of_ble_eq_true rfl⟩ (fun v2 A2 q2 => ?_)
  obtain ⟨rfl, n9, tk9, hn9, e9, rfl⟩ := q2
  have e8 : tk9 = tokN tx len (0, kd0, n0, nm0) := e9
  subst e8
  have hu3 : T3 len (tokN tx len (0, kd0, n0, nm0)) := T3.tok (Nat.zero_le _)
  have hS1 : MS cy (upA (upA (upA (upA A 231 (mP th len (nI 0) fr kd (-1) num en td sv)) 233 (.inl (cy 0, 522, .inl (mB rr)))) 231 (mP th len (nI 0) fr kd (-1) num en (nI 0) sv)) 231 (mP th len (nI (tokN tx len (0, kd0, n0, nm0)).1) (nI (tokN tx len (0, kd0, n0, nm0)).2.2.1) (tokN tx len (0, kd0, n0, nm0)).2.1 (-1) n9 en (nI 0) sv)) th len (-1) en sv mb tx (tokN tx len (0, kd0, n0, nm0)) (nI 0) (mB rr) := ⟨n9, upA_eq, hX2.up (by decide), (upA_ne (by decide)).trans ((upA_ne (by decide)).trans upA_eq), hu3, hn9⟩
  have hF1 := hF0.m (x := mP th len (nI (tokN tx len (0, kd0, n0, nm0)).1) (nI (tokN tx len (0, kd0, n0, nm0)).2.2.1) (tokN tx len (0, kd0, n0, nm0)).2.1 (-1) n9 en (nI 0) sv)
  refine g_aload_n X rfl rfl ?_
  refine g_mV X rfl lcX8_readStatement lmX8_161 lsX8_readStatement (cm_X8_readStatement l D cy B od (u := (tokN tx len (0, kd0, n0, nm0), (nI 0, nI 0, nI 0, nI 0), zDef Z0, (0, Rm0.2))) hS1 ⟨false, false, false, false, by decide, by show (nI 0, nI 0, nI 0, nI 0) = (bI false, bI false, bI false, bI false); rw [show bI false = nI 0 by decide]⟩ (mB_C rr Z0 Rm0) (mB_R Z0 Rm0)) (ci := 8) (by (repeat (first | exact hM | exact upA_eq | refine (upA_ne (by omega)).trans ?_))) rfl rfl rfl (Nat.le_of_ble_eq_true rfl) ⟨⟨by decide, by decide⟩, rfl, rfl⟩ ⟨Nat.le_of_ble_eq_true rfl, Nat.le_of_ble_eq_true rfl⟩ (fun v3 A3 q3 => ?_)
  obtain ⟨rfl, hF2, hR9⟩ := q3
  obtain ⟨td2, rr2, ⟨h1, hS2, hT2, hC2, hg2⟩ | ⟨h1, tk2, hS2⟩⟩ := hR9
  · have ha := rdSt_adv (u := (tokN tx len (0, kd0, n0, nm0), (nI 0, nI 0, nI 0, nI 0), zDef Z0, (0, Rm0.2))) hu3 h1
    have hw := rdSt_w h1
    exact lp_X8_parse l D cy B od (Qf := fun (v : Option Value) (A' : AH) => v = some (.int (rdL tx len 400 (tokN tx len (0, kd0, n0, nm0), (nI 0, nI 0, nI 0, nI 0), zDef Z0, (0, Rm0.2))).1) ∧ PEnd cy A A' th len en sv (rdL tx len 400 (tokN tx len (0, kd0, n0, nm0), (nI 0, nI 0, nI 0, nI 0), zDef Z0, (0, Rm0.2)))) (R := rdL tx len 400 (tokN tx len (0, kd0, n0, nm0), (nI 0, nI 0, nI 0, nI 0), zDef Z0, (0, Rm0.2))) hQ0 X 400 0 _ _ td2 rr2 hS2 hT2 hC2 hg2 (rdL_t h1).symm (by have q1 : (tokN tx len (0, kd0, n0, nm0)).2.2.1 < (tokN tx len (0, kd0, n0, nm0)).1 := hw; have q2 : (tokN tx len (0, kd0, n0, nm0)).1 ≤ (rdSt tx len (tokN tx len (0, kd0, n0, nm0), (nI 0, nI 0, nI 0, nI 0), zDef Z0, (0, Rm0.2))).2.1.2.2.1 := ha; omega) (hF1.trans hF2) (by omega) (by omega) (by omega)
  · obtain ⟨at8, fr9, kd9, num9, g1, g2⟩ := hS2.out
    have hsl : (rdSt tx len (tokN tx len (0, kd0, n0, nm0), (nI 0, nI 0, nI 0, nI 0), zDef Z0, (0, Rm0.2))).2.1.2.2.1 < 1000 := by have := (rdSt_ok (tx := tx) (s := (tokN tx len (0, kd0, n0, nm0), (nI 0, nI 0, nI 0, nI 0), zDef Z0, (0, Rm0.2))) (len := len) ⟨hu3, Nat.zero_le _, Nat.zero_le _⟩).1.1; have := hX.2.1; omega
    have e1 : (rdL tx len 400 (tokN tx len (0, kd0, n0, nm0), (nI 0, nI 0, nI 0, nI 0), zDef Z0, (0, Rm0.2))).1 = nI (rdSt tx len (tokN tx len (0, kd0, n0, nm0), (nI 0, nI 0, nI 0, nI 0), zDef Z0, (0, Rm0.2))).2.1.2.2.1 := by rw [rdL_f h1]
    rw [← e1] at g1
    exact tl_X8_parse l D cy B od (mb := mb) (tx := tx) (Qf := fun (v : Option Value) (A' : AH) => v = some (.int (rdL tx len 400 (tokN tx len (0, kd0, n0, nm0), (nI 0, nI 0, nI 0, nI 0), zDef Z0, (0, Rm0.2))).1) ∧ PEnd cy A A' th len en sv (rdL tx len 400 (tokN tx len (0, kd0, n0, nm0), (nI 0, nI 0, nI 0, nI 0), zDef Z0, (0, Rm0.2)))) (R := rdL tx len 400 (tokN tx len (0, kd0, n0, nm0), (nI 0, nI 0, nI 0, nI 0), zDef Z0, (0, Rm0.2))) hQ0 g1 (by rw [e1]; exact nI_pos (by omega)) ⟨hF1.trans hF2, _, _, _, _, _, _, g1, g2, Or.inr ⟨_, hsl, e1⟩⟩ X
