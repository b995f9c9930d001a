/-! 48: the reference: whole texts -/
theorem bit_0 (b0 b1 b2 b3 : Bool) : (tdN b0 b1 b2 b3 >>> (nI 0 &&& 31) &&& nI 1 = nI 1) = (b0 = true) ∧ tdN b0 b1 b2 b3 ||| nI 1 <<< (nI 0 &&& 31) = tdN true b1 b2 b3 := by cases b0 <;> cases b1 <;> cases b2 <;> cases b3 <;> exact ⟨propext (by decide), by decide⟩
theorem bit_1 (b0 b1 b2 b3 : Bool) : (tdN b0 b1 b2 b3 >>> (nI 1 &&& 31) &&& nI 1 = nI 1) = (b1 = true) ∧ tdN b0 b1 b2 b3 ||| nI 1 <<< (nI 1 &&& 31) = tdN b0 true b2 b3 := by cases b0 <;> cases b1 <;> cases b2 <;> cases b3 <;> exact ⟨propext (by decide), by decide⟩
theorem bit_2 (b0 b1 b2 b3 : Bool) : (tdN b0 b1 b2 b3 >>> (nI 2 &&& 31) &&& nI 1 = nI 1) = (b2 = true) ∧ tdN b0 b1 b2 b3 ||| nI 1 <<< (nI 2 &&& 31) = tdN b0 b1 true b3 := by cases b0 <;> cases b1 <;> cases b2 <;> cases b3 <;> exact ⟨propext (by decide), by decide⟩
theorem bit_3 (b0 b1 b2 b3 : Bool) : (tdN b0 b1 b2 b3 >>> (nI 3 &&& 31) &&& nI 1 = nI 1) = (b3 = true) ∧ tdN b0 b1 b2 b3 ||| nI 1 <<< (nI 3 &&& 31) = tdN b0 b1 b2 true := by cases b0 <;> cases b1 <;> cases b2 <;> cases b3 <;> exact ⟨propext (by decide), by decide⟩
theorem bI_t : bI true = nI 1 := by decide
theorem rdSt_st {tx : Nat → Int32} {len : Nat} {u : PS} (h : isW tx u.1 0 = true) : rdSt tx len u = rdStart tx len u := by rw [rdSt, if_pos h]
theorem rdSt_as {tx : Nat → Int32} {len : Nat} {u : PS} (h : isW tx u.1 1 = true) : rdSt tx len u = rdAssets tx len u := by rw [rdSt, if_neg (isW_ex h (by decide)), if_pos h]
theorem rdSt_in {tx : Nat → Int32} {len : Nat} {u : PS} (h : isW tx u.1 2 = true) : rdSt tx len u = rdInterest tx len u := by rw [rdSt, if_neg (isW_ex h (by decide)), if_neg (isW_ex h (by decide)), if_pos h]
theorem rdSt_to {tx : Nat → Int32} {len : Nat} {u : PS} (h : isW tx u.1 3 = true) : rdSt tx len u = rdTop tx len u := by rw [rdSt, if_neg (isW_ex h (by decide)), if_neg (isW_ex h (by decide)), if_neg (isW_ex h (by decide)), if_pos h]
theorem rdSt_br {tx : Nat → Int32} {len : Nat} {u : PS} (h : isW tx u.1 4 = true) : rdSt tx len u = rdBracket tx len u := by rw [rdSt, if_neg (isW_ex h (by decide)), if_neg (isW_ex h (by decide)), if_neg (isW_ex h (by decide)), if_neg (isW_ex h (by decide)), if_pos h]
theorem rdSt_ro {tx : Nat → Int32} {len : Nat} {u : PS} (h : isW tx u.1 5 = true) : rdSt tx len u = rdRoom tx len u := by rw [rdSt, if_neg (isW_ex h (by decide)), if_neg (isW_ex h (by decide)), if_neg (isW_ex h (by decide)), if_neg (isW_ex h (by decide)), if_neg (isW_ex h (by decide)), if_pos h]
theorem rdSt_no {tx : Nat → Int32} {len : Nat} {u : PS} (h0 : isW tx u.1 0 = false) (h1 : isW tx u.1 1 = false) (h2 : isW tx u.1 2 = false) (h3 : isW tx u.1 3 = false) (h4 : isW tx u.1 4 = false) (h5 : isW tx u.1 5 = false) : rdSt tx len u = (false, u) := by
  rw [rdSt, if_neg (by rw [h0]; decide), if_neg (by rw [h1]; decide), if_neg (by rw [h2]; decide), if_neg (by rw [h3]; decide), if_neg (by rw [h4]; decide), if_neg (by rw [h5]; decide)]
def Adv (len a : Nat) (tk : TK) : Prop := T3 len tk ∧ a ≤ tk.2.2.1
theorem tokN_ge {tx : Nat → Int32} {len : Nat} {tk : TK} : tk.1 ≤ (tokN tx len tk).2.2.1 := by
  have h1 := scan_lo (spR tx) len tk.1
  unfold tokN tokAt
  split
  · exact h1
  · split
    · exact h1
    · split
      · exact h1
      · exact h1
theorem Adv.tok {tx : Nat → Int32} {len a : Nat} {tk : TK} (h : T3 len tk) (ha : a ≤ tk.1) : Adv len a (tokN tx len tk) := ⟨T3.tok h.1.1, Nat.le_trans ha tokN_ge⟩
theorem Adv.num {tx : Nat → Int32} {len a : Nat} {tk : TK} {lo hi : Int32} (h : Adv len a tk) : Adv len a (tkS tx len tk lo hi) := by
  refine ⟨h.1.num, ?_⟩
  unfold tkS
  split
  · have := tokN_ge (tx := tx) (len := len) (tk := tk)
    have := h.1.1.2
    have := h.2
    omega
  · exact h.2
theorem Adv.tok2 {tx : Nat → Int32} {len a : Nat} {tk : TK} (h : Adv len a tk) : Adv len a (tokN tx len tk) := Adv.tok h.1 (Nat.le_trans h.2 h.1.1.2)
theorem rdSt_adv {tx : Nat → Int32} {len : Nat} {u : PS} (h : T3 len u.1) : (rdSt tx len u).1 = true → u.1.1 ≤ (rdSt tx len u).2.1.2.2.1 := by
  have k1 : Adv len u.1.1 (tokN tx len u.1) := Adv.tok h (Nat.le_refl _)
  have kk : ∀ {tk : TK} {lo hi : Int32}, Adv len u.1.1 tk → Adv len u.1.1 (tkS tx len tk lo hi) := fun h => h.num
  have no : ∀ {x : PS}, ((false, x) : Bool × PS).1 = true → u.1.1 ≤ ((false, x) : Bool × PS).2.1.2.2.1 := fun q => absurd (show false = true from q) (by decide)
  unfold rdSt
  split
  · unfold rdStart; split
    · exact no
    · exact fun _ => (kk k1).2
  · split
    · unfold rdAssets asRes; split
      · exact no
      · split
        · exact no
        · exact fun _ => (kk (kk k1)).2
    · split
      · unfold rdInterest; split
        · exact no
        · exact fun _ => (kk k1).2
      · split
        · unfold rdTop; split
          · exact no
          · exact fun _ => (kk k1).2
        · split
          · unfold rdBracket; split
            · exact no
            · split
              · exact no
              · unfold rdBr2; split
                · exact no
                · exact fun _ => (kk (kk k1)).2
          · split
            · unfold rdRoom; split
              · exact no
              · split
                · exact no
                · unfold rdRo2; split
                  · split
                    · exact no
                    · unfold rdRo3; split
                      · exact no
                      · exact fun _ => (kk (kk (kk k1).tok2)).2
                  · exact fun _ => (kk k1).2
            · exact no
theorem rdSt_w {tx : Nat → Int32} {len : Nat} {u : PS} (h : (rdSt tx len u).1 = true) : u.1.2.2.1 < u.1.1 := by
  have hl : ∀ j, j < 6 → isW tx u.1 j = true → u.1.2.2.1 < u.1.1 := by
    intro j hj hw
    have h1 := isW_len hw
    have h2 : ∀ j, j < 6 → 0 < (sB j).length := by decide
    have := h2 j hj
    omega
  by_cases h0 : isW tx u.1 0 = true
  · exact hl 0 (by decide) h0
  by_cases h1 : isW tx u.1 1 = true
  · exact hl 1 (by decide) h1
  by_cases h2 : isW tx u.1 2 = true
  · exact hl 2 (by decide) h2
  by_cases h3 : isW tx u.1 3 = true
  · exact hl 3 (by decide) h3
  by_cases h4 : isW tx u.1 4 = true
  · exact hl 4 (by decide) h4
  by_cases h5 : isW tx u.1 5 = true
  · exact hl 5 (by decide) h5
  rw [rdSt_no (by simpa using h0) (by simpa using h1) (by simpa using h2) (by simpa using h3) (by simpa using h4) (by simpa using h5)] at h
  cases h
set_option maxRecDepth 100000 in
set_option maxHeartbeats 400000 in
theorem cm_X8_readStatement (l : Launch) (D : va_G) (cy : Nat → ClassId) (B : Nat) (od : Nat → Option Nat) {A : AH} {th : Int32} {len en : Nat} {td sv : Int32} {mb tx rr : Nat → Int32} {u : PS} (hS : MS cy A th len (-1) en sv mb tx u.1 td rr) (hT : TdC td u.2.1) (hC : RdC rr u.2.2.1 u.2.2.2) (hg : RgP u.2.2.1 u.2.2.2)  : CM l D cy B od yX8_readStatement cX8_readStatement 1 none rmX8_readStatement [.ref 231] A (fun v A' => v = none ∧ MFr A A' ∧ RES cy A' th len en sv mb tx (rdSt tx len u)) := by
  intro z
  refine CT.of (by decide) tX8_readStatement okX8_readStatement (Nat.le_of_ble_eq_true rfl) (q0 := tX8_readStatement[0]) rfl rfl ?_
  intro p e s m args below meth c X _
  obtain ⟨num, hM, hX, hrd, hT3, hNk⟩ := id hS
  have hT1 := hT3.1.1
  have hT2 := hT3.1.2
  obtain ⟨hb, hlen, hal, hpos⟩ := id hX
  have hT0 := hT
  obtain ⟨b0, b1, b2, b3, rfl, efl⟩ := hT0
  refine g_aload_n X rfl rfl ?_
  refine g_ldcS X rfl (j := 12) rfl ?_
  refine g_mV X rfl lcX8_isWord lmX8_130 lsX8_isWord (cm_X8_isWord l D cy B od hS (j := 12) (by decide)) (ci := 8) (by (repeat (first | exact hM | exact upA_eq | refine (upA_ne (by omega)).trans ?_))) rfl rfl rfl (Nat.le_of_ble_eq_true rfl) ⟨⟨by decide, by decide⟩, rfl, rfl⟩ ⟨Nat.le_of_ble_eq_true rfl, Nat.le_of_ble_eq_true rfl⟩ (fun v1 A1 q1 => ?_)
  obtain ⟨rfl, e8⟩ := q1
  have e8 := e8.symm
  subst e8
  rw [show decide ((-1 : Int32) < 0) = true by decide, Bool.true_and]
  first | refine g_if_eqB X rfl (fun h2 => ?_) (fun h2 => ?_) | refine g_if_eq X rfl (fun h2 => ?_) (fun h2 => ?_)
  · have hn4 := h2
    refine g_aload_n X rfl rfl ?_
    refine g_ldcS X rfl (j := 13) rfl ?_
    refine g_mV X rfl lcX8_isWord lmX8_130 lsX8_isWord (cm_X8_isWord l D cy B od hS (j := 13) (by decide)) (ci := 8) (by (repeat (first | exact hM | exact upA_eq | refine (upA_ne (by omega)).trans ?_))) rfl rfl rfl (Nat.le_of_ble_eq_true rfl) ⟨⟨by decide, by decide⟩, rfl, rfl⟩ ⟨Nat.le_of_ble_eq_true rfl, Nat.le_of_ble_eq_true rfl⟩ (fun v3 A3 q3 => ?_)
    obtain ⟨rfl, e8⟩ := q3
    have e8 := e8.symm
    subst e8
    rw [show decide ((-1 : Int32) < 0) = true by decide, Bool.true_and]
    first | refine g_if_eqB X rfl (fun h4 => ?_) (fun h4 => ?_) | refine g_if_eq X rfl (fun h4 => ?_) (fun h4 => ?_)
    · have hn5 := h4
      refine g_aload_n X rfl rfl ?_
      refine g_ldcS X rfl (j := 15) rfl ?_
      refine g_iconst X rfl (v := nI 0) (by decide) ?_
      refine g_mV X rfl lcX8_once lmX8_146 lsX8_once (cm_X8_once l D cy B od hS (j := 15) (bt := 0) (by decide)) (ci := 8) (by (repeat (first | exact hM | exact upA_eq | refine (upA_ne (by omega)).trans ?_))) rfl rfl rfl (Nat.le_of_ble_eq_true rfl) ⟨⟨by decide, by decide⟩, rfl, rfl⟩ ⟨Nat.le_of_ble_eq_true rfl, Nat.le_of_ble_eq_true rfl⟩ (fun v5 A5 q5 => ?_)
      rcases q5 with ⟨hn0, rfl, e8⟩ | ⟨hw, rfl, hF2, ⟨hbit, hS2⟩ | ⟨hbit, hS2⟩⟩
      · have e8 := e8.symm
        subst e8
        refine g_if_eq X rfl (fun _ => ?_) (fun h => absurd nI_0 h) 
        refine g_aload_n X rfl rfl ?_
        refine g_ldcS X rfl (j := 16) rfl ?_
        refine g_iconst X rfl (v := nI 1) (by decide) ?_
        refine g_mV X rfl lcX8_once lmX8_146 lsX8_once (cm_X8_once l D cy B od hS (j := 16) (bt := 1) (by decide)) (ci := 8) (by (repeat (first | exact hM | exact upA_eq | refine (upA_ne (by omega)).trans ?_))) rfl rfl rfl (Nat.le_of_ble_eq_true rfl) ⟨⟨by decide, by decide⟩, rfl, rfl⟩ ⟨Nat.le_of_ble_eq_true rfl, Nat.le_of_ble_eq_true rfl⟩ (fun v6 A6 q6 => ?_)
        rcases q6 with ⟨hn1, rfl, e8⟩ | ⟨hw, rfl, hF2, ⟨hbit, hS2⟩ | ⟨hbit, hS2⟩⟩
        · have e8 := e8.symm
          subst e8
          refine g_if_eq X rfl (fun _ => ?_) (fun h => absurd nI_0 h) 
          refine g_aload_n X rfl rfl ?_
          refine g_ldcS X rfl (j := 17) rfl ?_
          refine g_iconst X rfl (v := nI 2) (by decide) ?_
          refine g_mV X rfl lcX8_once lmX8_146 lsX8_once (cm_X8_once l D cy B od hS (j := 17) (bt := 2) (by decide)) (ci := 8) (by (repeat (first | exact hM | exact upA_eq | refine (upA_ne (by omega)).trans ?_))) rfl rfl rfl (Nat.le_of_ble_eq_true rfl) ⟨⟨by decide, by decide⟩, rfl, rfl⟩ ⟨Nat.le_of_ble_eq_true rfl, Nat.le_of_ble_eq_true rfl⟩ (fun v7 A7 q7 => ?_)
          rcases q7 with ⟨hn2, rfl, e8⟩ | ⟨hw, rfl, hF2, ⟨hbit, hS2⟩ | ⟨hbit, hS2⟩⟩
          · have e8 := e8.symm
            subst e8
            refine g_if_eq X rfl (fun _ => ?_) (fun h => absurd nI_0 h) 
            refine g_aload_n X rfl rfl ?_
            refine g_ldcS X rfl (j := 18) rfl ?_
            refine g_iconst X rfl (v := nI 3) (by decide) ?_
            refine g_mV X rfl lcX8_once lmX8_146 lsX8_once (cm_X8_once l D cy B od hS (j := 18) (bt := 3) (by decide)) (ci := 8) (by (repeat (first | exact hM | exact upA_eq | refine (upA_ne (by omega)).trans ?_))) rfl rfl rfl (Nat.le_of_ble_eq_true rfl) ⟨⟨by decide, by decide⟩, rfl, rfl⟩ ⟨Nat.le_of_ble_eq_true rfl, Nat.le_of_ble_eq_true rfl⟩ (fun v8 A8 q8 => ?_)
            rcases q8 with ⟨hn3, rfl, e8⟩ | ⟨hw, rfl, hF2, ⟨hbit, hS2⟩ | ⟨hbit, hS2⟩⟩
            · have e8 := e8.symm
              subst e8
              refine g_if_eq X rfl (fun _ => ?_) (fun h => absurd nI_0 h) 
              refine g_aload_n X rfl rfl ?_
              refine g_mV X rfl lcX8_fail lmX8_112 lsX8_fail (cm_X8_fail l D cy B od (mb := mb) (tx := tx) hM rfl) (ci := 8) (by (repeat (first | exact hM | exact upA_eq | refine (upA_ne (by omega)).trans ?_))) rfl rfl rfl (Nat.le_of_ble_eq_true rfl) ⟨⟨by decide, by decide⟩, rfl, rfl⟩ ⟨Nat.le_of_ble_eq_true rfl, Nat.le_of_ble_eq_true rfl⟩ (fun v9 A9 q9 => ?_)
              obtain ⟨rfl, rfl⟩ := q9
              refine g_vret X rfl rfl (Nat.le_of_ble_eq_true rfl) (Nat.le_of_ble_eq_true rfl) ⟨rfl, ?_⟩
              have hno := rdSt_no (tx := tx) (len := len) (u := u) hn0 hn1 hn2 hn3 hn4 hn5
              exact ⟨rfl, (MFr.refl A).m, RES.bad (by rw [hno]) (by rw [hno]) (hS.m hT3 hNk)⟩
            · have hwb : ¬ nI u.1.2.2.1 < 0 := nI_pos (by omega)
              obtain ⟨num2, hM, hX, hrd, hT32, hNk2⟩ := id hS2
              have hT12 := hT32.1.1
              have hT22 := hT32.1.2
              refine g_if_eq X rfl (fun h => absurd h n10) (fun _ => ?_)
              refine g_aload_n X rfl rfl ?_
              refine g_iconst X rfl (v := nI 4) (by decide) ?_
              refine g_iconst X rfl (v := nI 0) (by decide) ?_
              refine g_sipush X rfl (v := nI 900) (by decide) ?_
              refine g_mV X rfl lcX8_take lmX8_151 lsX8_take (cm_X8_takeB l D cy B od hS2 hwb (by decide)) (ci := 8) (by (repeat (first | exact hM | exact upA_eq | refine (upA_ne (by omega)).trans ?_))) rfl rfl rfl (Nat.le_of_ble_eq_true rfl) ⟨⟨by decide, by decide⟩, rfl, rfl⟩ ⟨Nat.le_of_ble_eq_true rfl, Nat.le_of_ble_eq_true rfl⟩ (fun v10 A10 q10 => ?_)
              obtain ⟨rfl, hF3, rr3, hS3⟩ := q10
              obtain ⟨num3, hM, hX, hrd, hT33, hNk3⟩ := id hS3
              have hT13 := hT33.1.1
              have hT23 := hT33.1.2
              refine g_goto X rfl ?_
              refine g_vret X rfl rfl (Nat.le_of_ble_eq_true rfl) (Nat.le_of_ble_eq_true rfl) ⟨rfl, ?_⟩
              have hsn : ¬ u.2.1.2.2.2 = 0 := by rw [efl]; rw [show b3 = true from by rw [(bit_3 b0 b1 b2 b3).1] at hbit; exact hbit]; show ¬ bI true = 0; decide
              exact ⟨rfl, hF2.trans hF3, RES.bad (by rw [rdSt_to (show isW tx u.1 3 = true from hw), rdTop, if_pos hsn]) (by rw [rdSt_to (show isW tx u.1 3 = true from hw), rdTop, if_pos hsn]) hS3⟩
            · obtain ⟨num2, hM, hX, hrd, hT32, hNk2⟩ := id hS2
              have hT12 := hT32.1.1
              have hT22 := hT32.1.2
              refine g_if_eq X rfl (fun h => absurd h n10) (fun _ => ?_)
              refine g_aload_n X rfl rfl ?_
              refine g_iconst X rfl (v := nI 4) (by decide) ?_
              refine g_iconst X rfl (v := nI 0) (by decide) ?_
              refine g_sipush X rfl (v := nI 900) (by decide) ?_
              refine g_mV X rfl lcX8_take lmX8_151 lsX8_take (cm_X8_take l D cy B od hS2 (by decide) (by decide)) (ci := 8) (by (repeat (first | exact hM | exact upA_eq | refine (upA_ne (by omega)).trans ?_))) rfl rfl rfl (Nat.le_of_ble_eq_true rfl) ⟨⟨by decide, by decide⟩, rfl, rfl⟩ ⟨Nat.le_of_ble_eq_true rfl, Nat.le_of_ble_eq_true rfl⟩ (fun v11 A11 q11 => ?_)
              rcases q11 with ⟨rfl, hF3, ⟨hok, hS3⟩ | ⟨hok, rr3, hS3⟩⟩
              · obtain ⟨num3, hM, hX, hrd, hT33, hNk3⟩ := id hS3
                have hT13 := hT33.1.1
                have hT23 := hT33.1.2
                refine g_goto X rfl ?_
                refine g_vret X rfl rfl (Nat.le_of_ble_eq_true rfl) (Nat.le_of_ble_eq_true rfl) ⟨rfl, ?_⟩
                have hsn : ¬ ¬ u.2.1.2.2.2 = 0 := by rw [efl]; rw [show b3 = false from by rw [(bit_3 b0 b1 b2 b3).1] at hbit; simpa using hbit]; show ¬ ¬ bI false = 0; decide
                exact ⟨rfl, hF2.trans hF3, RES.good (s2 := (tokN tx len (tokN tx len u.1), (u.2.1.1, u.2.1.2.1, u.2.1.2.2.1, nI 1), zSet u.2.2.1 4 (tokN tx len u.1).2.2.2, u.2.2.2)) (by rw [rdSt_to (show isW tx u.1 3 = true from hw), rdTop, if_neg hsn, rd1, tkV_t hok, tkS_t hok, decide_eq_true (numOk_ne hok (by decide))]) hS3 ⟨b0, b1, b2, true, (bit_3 b0 b1 b2 b3).2, by rw [efl, bI_t]⟩ (hC.z 4 (by decide) _) (hg.z 4 _ (fun q => absurd q (by decide)) (fun _ => numOk_N (a := 0) (b := 900) hok (by decide) (by decide)))⟩
              · have hwb3 : ¬ nI (tokN tx len u.1).2.2.1 < 0 := nI_pos (by omega)
                obtain ⟨num3, hM, hX, hrd, hT33, hNk3⟩ := id hS3
                have hT13 := hT33.1.1
                have hT23 := hT33.1.2
                refine g_goto X rfl ?_
                refine g_vret X rfl rfl (Nat.le_of_ble_eq_true rfl) (Nat.le_of_ble_eq_true rfl) ⟨rfl, ?_⟩
                have hsn : ¬ ¬ u.2.1.2.2.2 = 0 := by rw [efl]; rw [show b3 = false from by rw [(bit_3 b0 b1 b2 b3).1] at hbit; simpa using hbit]; show ¬ ¬ bI false = 0; decide
                exact ⟨rfl, hF2.trans hF3, RES.bad (by rw [rdSt_to (show isW tx u.1 3 = true from hw), rdTop, if_neg hsn, rd1, tkV_f hok]; rfl) (by rw [rdSt_to (show isW tx u.1 3 = true from hw), rdTop, if_neg hsn, rd1, tkS_f hok]) hS3⟩
          · have hwb : ¬ nI u.1.2.2.1 < 0 := nI_pos (by omega)
            obtain ⟨num2, hM, hX, hrd, hT32, hNk2⟩ := id hS2
            have hT12 := hT32.1.1
            have hT22 := hT32.1.2
            refine g_if_eq X rfl (fun h => absurd h n10) (fun _ => ?_)
            refine g_aload_n X rfl rfl ?_
            refine g_iconst X rfl (v := nI 3) (by decide) ?_
            refine g_iconst X rfl (v := nI 0) (by decide) ?_
            refine g_bipush X rfl (v := nI 100) (by decide) ?_
            refine g_mV X rfl lcX8_take lmX8_151 lsX8_take (cm_X8_takeB l D cy B od hS2 hwb (by decide)) (ci := 8) (by (repeat (first | exact hM | exact upA_eq | refine (upA_ne (by omega)).trans ?_))) rfl rfl rfl (Nat.le_of_ble_eq_true rfl) ⟨⟨by decide, by decide⟩, rfl, rfl⟩ ⟨Nat.le_of_ble_eq_true rfl, Nat.le_of_ble_eq_true rfl⟩ (fun v12 A12 q12 => ?_)
            obtain ⟨rfl, hF3, rr3, hS3⟩ := q12
            obtain ⟨num3, hM, hX, hrd, hT33, hNk3⟩ := id hS3
            have hT13 := hT33.1.1
            have hT23 := hT33.1.2
            refine g_goto X rfl ?_
            refine g_vret X rfl rfl (Nat.le_of_ble_eq_true rfl) (Nat.le_of_ble_eq_true rfl) ⟨rfl, ?_⟩
            have hsn : ¬ u.2.1.2.2.1 = 0 := by rw [efl]; rw [show b2 = true from by rw [(bit_2 b0 b1 b2 b3).1] at hbit; exact hbit]; show ¬ bI true = 0; decide
            exact ⟨rfl, hF2.trans hF3, RES.bad (by rw [rdSt_in (show isW tx u.1 2 = true from hw), rdInterest, if_pos hsn]) (by rw [rdSt_in (show isW tx u.1 2 = true from hw), rdInterest, if_pos hsn]) hS3⟩
          · obtain ⟨num2, hM, hX, hrd, hT32, hNk2⟩ := id hS2
            have hT12 := hT32.1.1
            have hT22 := hT32.1.2
            refine g_if_eq X rfl (fun h => absurd h n10) (fun _ => ?_)
            refine g_aload_n X rfl rfl ?_
            refine g_iconst X rfl (v := nI 3) (by decide) ?_
            refine g_iconst X rfl (v := nI 0) (by decide) ?_
            refine g_bipush X rfl (v := nI 100) (by decide) ?_
            refine g_mV X rfl lcX8_take lmX8_151 lsX8_take (cm_X8_take l D cy B od hS2 (by decide) (by decide)) (ci := 8) (by (repeat (first | exact hM | exact upA_eq | refine (upA_ne (by omega)).trans ?_))) rfl rfl rfl (Nat.le_of_ble_eq_true rfl) ⟨⟨by decide, by decide⟩, rfl, rfl⟩ ⟨Nat.le_of_ble_eq_true rfl, Nat.le_of_ble_eq_true rfl⟩ (fun v13 A13 q13 => ?_)
            rcases q13 with ⟨rfl, hF3, ⟨hok, hS3⟩ | ⟨hok, rr3, hS3⟩⟩
            · obtain ⟨num3, hM, hX, hrd, hT33, hNk3⟩ := id hS3
              have hT13 := hT33.1.1
              have hT23 := hT33.1.2
              refine g_goto X rfl ?_
              refine g_vret X rfl rfl (Nat.le_of_ble_eq_true rfl) (Nat.le_of_ble_eq_true rfl) ⟨rfl, ?_⟩
              have hsn : ¬ ¬ u.2.1.2.2.1 = 0 := by rw [efl]; rw [show b2 = false from by rw [(bit_2 b0 b1 b2 b3).1] at hbit; simpa using hbit]; show ¬ ¬ bI false = 0; decide
              exact ⟨rfl, hF2.trans hF3, RES.good (s2 := (tokN tx len (tokN tx len u.1), (u.2.1.1, u.2.1.2.1, nI 1, u.2.1.2.2.2), zSet u.2.2.1 3 (tokN tx len u.1).2.2.2, u.2.2.2)) (by rw [rdSt_in (show isW tx u.1 2 = true from hw), rdInterest, if_neg hsn, rd1, tkV_t hok, tkS_t hok, decide_eq_true (numOk_ne hok (by decide))]) hS3 ⟨b0, b1, true, b3, (bit_2 b0 b1 b2 b3).2, by rw [efl, bI_t]⟩ (hC.z 3 (by decide) _) (hg.z 3 _ (fun _ => numOk_N (a := 0) (b := 100) hok (by decide) (by decide)) (fun q => absurd q (by decide)))⟩
            · have hwb3 : ¬ nI (tokN tx len u.1).2.2.1 < 0 := nI_pos (by omega)
              obtain ⟨num3, hM, hX, hrd, hT33, hNk3⟩ := id hS3
              have hT13 := hT33.1.1
              have hT23 := hT33.1.2
              refine g_goto X rfl ?_
              refine g_vret X rfl rfl (Nat.le_of_ble_eq_true rfl) (Nat.le_of_ble_eq_true rfl) ⟨rfl, ?_⟩
              have hsn : ¬ ¬ u.2.1.2.2.1 = 0 := by rw [efl]; rw [show b2 = false from by rw [(bit_2 b0 b1 b2 b3).1] at hbit; simpa using hbit]; show ¬ ¬ bI false = 0; decide
              exact ⟨rfl, hF2.trans hF3, RES.bad (by rw [rdSt_in (show isW tx u.1 2 = true from hw), rdInterest, if_neg hsn, rd1, tkV_f hok]; rfl) (by rw [rdSt_in (show isW tx u.1 2 = true from hw), rdInterest, if_neg hsn, rd1, tkS_f hok]) hS3⟩
        · have hwb : ¬ nI u.1.2.2.1 < 0 := nI_pos (by omega)
          obtain ⟨num2, hM, hX, hrd, hT32, hNk2⟩ := id hS2
          have hT12 := hT32.1.1
          have hT22 := hT32.1.2
          refine g_if_eq X rfl (fun h => absurd h n10) (fun _ => ?_)
          refine g_aload_n X rfl rfl ?_
          refine g_iconst X rfl (v := nI 1) (by decide) ?_
          refine g_iconst X rfl (v := nI 0) (by decide) ?_
          refine g_ldc X rfl kcX8_32 ?_
          refine g_mV X rfl lcX8_take lmX8_151 lsX8_take (cm_X8_takeB l D cy B od hS2 hwb (by decide)) (ci := 8) (by (repeat (first | exact hM | exact upA_eq | refine (upA_ne (by omega)).trans ?_))) rfl rfl rfl (Nat.le_of_ble_eq_true rfl) ⟨⟨by decide, by decide⟩, rfl, rfl⟩ ⟨Nat.le_of_ble_eq_true rfl, Nat.le_of_ble_eq_true rfl⟩ (fun v14 A14 q14 => ?_)
          obtain ⟨rfl, hF3, rr3, hS3⟩ := q14
          obtain ⟨num3, hM, hX, hrd, hT33, hNk3⟩ := id hS3
          have hT13 := hT33.1.1
          have hT23 := hT33.1.2
          refine g_aload_n X rfl rfl ?_
          refine g_iconst X rfl (v := nI 2) (by decide) ?_
          refine g_aload_n X rfl rfl ?_
          refine g_get X rfl flX8_13 (ci := 8) rfl (by (repeat (first | exact hM | exact upA_eq | refine (upA_ne (by omega)).trans ?_))) rfl ?_
          refine g_iconst X rfl (v := nI 1) (by decide) ?_
          refine g_ialdN X rfl hrd (by omega) (by decide) ?_
          refine g_ldc X rfl kcX8_32 ?_
          refine g_mV X rfl lcX8_take lmX8_151 lsX8_take (cm_X8_takeB l D cy B od hS3 hwb (by decide)) (ci := 8) (by (repeat (first | exact hM | exact upA_eq | refine (upA_ne (by omega)).trans ?_))) rfl rfl rfl (Nat.le_of_ble_eq_true rfl) ⟨⟨by decide, by decide⟩, rfl, rfl⟩ ⟨Nat.le_of_ble_eq_true rfl, Nat.le_of_ble_eq_true rfl⟩ (fun v15 A15 q15 => ?_)
          obtain ⟨rfl, hF4, rr4, hS4⟩ := q15
          refine g_goto X rfl ?_
          refine g_vret X rfl rfl (Nat.le_of_ble_eq_true rfl) (Nat.le_of_ble_eq_true rfl) ⟨rfl, ?_⟩
          have hsn : ¬ u.2.1.2.1 = 0 := by rw [efl]; rw [show b1 = true from by rw [(bit_1 b0 b1 b2 b3).1] at hbit; exact hbit]; show ¬ bI true = 0; decide
          exact ⟨rfl, (hF2.trans hF3).trans hF4, RES.bad (by rw [rdSt_as (show isW tx u.1 1 = true from hw), rdAssets, asRes, if_pos hsn]) (by rw [rdSt_as (show isW tx u.1 1 = true from hw), rdAssets, asRes, if_pos hsn]) hS4⟩
        · obtain ⟨num2, hM, hX, hrd, hT32, hNk2⟩ := id hS2
          have hT12 := hT32.1.1
          have hT22 := hT32.1.2
          refine g_if_eq X rfl (fun h => absurd h n10) (fun _ => ?_)
          refine g_aload_n X rfl rfl ?_
          refine g_iconst X rfl (v := nI 1) (by decide) ?_
          refine g_iconst X rfl (v := nI 0) (by decide) ?_
          refine g_ldc X rfl kcX8_32 ?_
          refine g_mV X rfl lcX8_take lmX8_151 lsX8_take (cm_X8_take l D cy B od hS2 (by decide) (by decide)) (ci := 8) (by (repeat (first | exact hM | exact upA_eq | refine (upA_ne (by omega)).trans ?_))) rfl rfl rfl (Nat.le_of_ble_eq_true rfl) ⟨⟨by decide, by decide⟩, rfl, rfl⟩ ⟨Nat.le_of_ble_eq_true rfl, Nat.le_of_ble_eq_true rfl⟩ (fun v16 A16 q16 => ?_)
          rcases q16 with ⟨rfl, hF3, ⟨hok, hS3⟩ | ⟨hok, rr3, hS3⟩⟩
          · obtain ⟨num3, hM, hX, hrd, hT33, hNk3⟩ := id hS3
            have hT13 := hT33.1.1
            have hT23 := hT33.1.2
            refine g_aload_n X rfl rfl ?_
            refine g_iconst X rfl (v := nI 2) (by decide) ?_
            refine g_aload_n X rfl rfl ?_
            refine g_get X rfl flX8_13 (ci := 8) rfl (by (repeat (first | exact hM | exact upA_eq | refine (upA_ne (by omega)).trans ?_))) rfl ?_
            refine g_iconst X rfl (v := nI 1) (by decide) ?_
            refine g_ialdN X rfl hrd (by omega) (by decide) ?_
            rw [pk_us]
            refine g_ldc X rfl kcX8_32 ?_
            refine g_mV X rfl lcX8_take lmX8_151 lsX8_take (cm_X8_take l D cy B od hS3 (Int32.le_trans (by decide) (numOk_w hok).1) (by decide)) (ci := 8) (by (repeat (first | exact hM | exact upA_eq | refine (upA_ne (by omega)).trans ?_))) rfl rfl rfl (Nat.le_of_ble_eq_true rfl) ⟨⟨by decide, by decide⟩, rfl, rfl⟩ ⟨Nat.le_of_ble_eq_true rfl, Nat.le_of_ble_eq_true rfl⟩ (fun v17 A17 q17 => ?_)
            rcases q17 with ⟨rfl, hF4, ⟨hok4, hS4⟩ | ⟨hok4, rr4, hS4⟩⟩
            · refine g_goto X rfl ?_
              refine g_vret X rfl rfl (Nat.le_of_ble_eq_true rfl) (Nat.le_of_ble_eq_true rfl) ⟨rfl, ?_⟩
              have hsn : ¬ ¬ u.2.1.2.1 = 0 := by rw [efl]; rw [show b1 = false from by rw [(bit_1 b0 b1 b2 b3).1] at hbit; simpa using hbit]; show ¬ ¬ bI false = 0; decide
              exact ⟨rfl, (hF2.trans hF3).trans hF4, RES.good (s2 := (tokN tx len (tokN tx len (tokN tx len u.1)), (u.2.1.1, nI 1, u.2.1.2.2), zSet (zSet u.2.2.1 1 (tokN tx len u.1).2.2.2) 2 (tokN tx len (tokN tx len u.1)).2.2.2, u.2.2.2)) (by rw [rdSt_as (show isW tx u.1 1 = true from hw), rdAssets, asRes, if_neg hsn, if_neg (show ¬ tkV (tokN tx len u.1) (nI 0) (nI 1000000) = -1 by rw [tkV_t hok]; exact numOk_ne hok (by decide)), tkV_t hok, tkS_t hok, tkV_t hok4, tkS_t hok4, decide_eq_true (numOk_ne hok4 (Int32.le_trans (by decide) (numOk_w hok).1))]) hS4 ⟨b0, true, b2, b3, (bit_1 b0 b1 b2 b3).2, by rw [efl, bI_t]⟩ ((hC.z 1 (by decide) _).z 2 (by decide) _) ((hg.z 1 _ (fun q => absurd q (by decide)) (fun q => absurd q (by decide))).z 2 _ (fun q => absurd q (by decide)) (fun q => absurd q (by decide)))⟩
            · refine g_goto X rfl ?_
              refine g_vret X rfl rfl (Nat.le_of_ble_eq_true rfl) (Nat.le_of_ble_eq_true rfl) ⟨rfl, ?_⟩
              have hsn : ¬ ¬ u.2.1.2.1 = 0 := by rw [efl]; rw [show b1 = false from by rw [(bit_1 b0 b1 b2 b3).1] at hbit; simpa using hbit]; show ¬ ¬ bI false = 0; decide
              exact ⟨rfl, (hF2.trans hF3).trans hF4, RES.bad (by rw [rdSt_as (show isW tx u.1 1 = true from hw), rdAssets, asRes, if_neg hsn, if_neg (show ¬ tkV (tokN tx len u.1) (nI 0) (nI 1000000) = -1 by rw [tkV_t hok]; exact numOk_ne hok (by decide)), tkV_t hok, tkS_t hok, tkV_f hok4]; rfl) (by rw [rdSt_as (show isW tx u.1 1 = true from hw), rdAssets, asRes, if_neg hsn, if_neg (show ¬ tkV (tokN tx len u.1) (nI 0) (nI 1000000) = -1 by rw [tkV_t hok]; exact numOk_ne hok (by decide)), tkV_t hok, tkS_t hok, tkS_f hok4]) hS4⟩
          · have hwb3 : ¬ nI (tokN tx len u.1).2.2.1 < 0 := nI_pos (by omega)
            obtain ⟨num3, hM, hX, hrd, hT33, hNk3⟩ := id hS3
            have hT13 := hT33.1.1
            have hT23 := hT33.1.2
            refine g_aload_n X rfl rfl ?_
            refine g_iconst X rfl (v := nI 2) (by decide) ?_
            refine g_aload_n X rfl rfl ?_
            refine g_get X rfl flX8_13 (ci := 8) rfl (by (repeat (first | exact hM | exact upA_eq | refine (upA_ne (by omega)).trans ?_))) rfl ?_
            refine g_iconst X rfl (v := nI 1) (by decide) ?_
            refine g_ialdN X rfl hrd (by omega) (by decide) ?_
            refine g_ldc X rfl kcX8_32 ?_
            refine g_mV X rfl lcX8_take lmX8_151 lsX8_take (cm_X8_takeB l D cy B od hS3 hwb3 (by decide)) (ci := 8) (by (repeat (first | exact hM | exact upA_eq | refine (upA_ne (by omega)).trans ?_))) rfl rfl rfl (Nat.le_of_ble_eq_true rfl) ⟨⟨by decide, by decide⟩, rfl, rfl⟩ ⟨Nat.le_of_ble_eq_true rfl, Nat.le_of_ble_eq_true rfl⟩ (fun v18 A18 q18 => ?_)
            obtain ⟨rfl, hF4, rr4, hS4⟩ := q18
            refine g_goto X rfl ?_
            refine g_vret X rfl rfl (Nat.le_of_ble_eq_true rfl) (Nat.le_of_ble_eq_true rfl) ⟨rfl, ?_⟩
            have hsn : ¬ ¬ u.2.1.2.1 = 0 := by rw [efl]; rw [show b1 = false from by rw [(bit_1 b0 b1 b2 b3).1] at hbit; simpa using hbit]; show ¬ ¬ bI false = 0; decide
            exact ⟨rfl, (hF2.trans hF3).trans hF4, RES.bad (by rw [rdSt_as (show isW tx u.1 1 = true from hw), rdAssets, asRes, if_neg hsn, if_pos (tkV_f hok)]) (by rw [rdSt_as (show isW tx u.1 1 = true from hw), rdAssets, asRes, if_neg hsn, if_pos (tkV_f hok), tkS_f hok]) hS4⟩
      · have hwb : ¬ nI u.1.2.2.1 < 0 := nI_pos (by omega)
        obtain ⟨num2, hM, hX, hrd, hT32, hNk2⟩ := id hS2
        have hT12 := hT32.1.1
        have hT22 := hT32.1.2
        refine g_if_eq X rfl (fun h => absurd h n10) (fun _ => ?_)
        refine g_aload_n X rfl rfl ?_
        refine g_iconst X rfl (v := nI 0) (by decide) ?_
        refine g_iconst X rfl (v := nI 0) (by decide) ?_
        refine g_ldc X rfl kcX8_150 ?_
        refine g_mV X rfl lcX8_take lmX8_151 lsX8_take (cm_X8_takeB l D cy B od hS2 hwb (by decide)) (ci := 8) (by (repeat (first | exact hM | exact upA_eq | refine (upA_ne (by omega)).trans ?_))) rfl rfl rfl (Nat.le_of_ble_eq_true rfl) ⟨⟨by decide, by decide⟩, rfl, rfl⟩ ⟨Nat.le_of_ble_eq_true rfl, Nat.le_of_ble_eq_true rfl⟩ (fun v19 A19 q19 => ?_)
        obtain ⟨rfl, hF3, rr3, hS3⟩ := q19
        obtain ⟨num3, hM, hX, hrd, hT33, hNk3⟩ := id hS3
        have hT13 := hT33.1.1
        have hT23 := hT33.1.2
        refine g_goto X rfl ?_
        refine g_vret X rfl rfl (Nat.le_of_ble_eq_true rfl) (Nat.le_of_ble_eq_true rfl) ⟨rfl, ?_⟩
        have hsn : ¬ u.2.1.1 = 0 := by rw [efl]; rw [show b0 = true from by rw [(bit_0 b0 b1 b2 b3).1] at hbit; exact hbit]; show ¬ bI true = 0; decide
        exact ⟨rfl, hF2.trans hF3, RES.bad (by rw [rdSt_st (show isW tx u.1 0 = true from hw), rdStart, if_pos hsn]) (by rw [rdSt_st (show isW tx u.1 0 = true from hw), rdStart, if_pos hsn]) hS3⟩
      · obtain ⟨num2, hM, hX, hrd, hT32, hNk2⟩ := id hS2
        have hT12 := hT32.1.1
        have hT22 := hT32.1.2
        refine g_if_eq X rfl (fun h => absurd h n10) (fun _ => ?_)
        refine g_aload_n X rfl rfl ?_
        refine g_iconst X rfl (v := nI 0) (by decide) ?_
        refine g_iconst X rfl (v := nI 0) (by decide) ?_
        refine g_ldc X rfl kcX8_150 ?_
        refine g_mV X rfl lcX8_take lmX8_151 lsX8_take (cm_X8_take l D cy B od hS2 (by decide) (by decide)) (ci := 8) (by (repeat (first | exact hM | exact upA_eq | refine (upA_ne (by omega)).trans ?_))) rfl rfl rfl (Nat.le_of_ble_eq_true rfl) ⟨⟨by decide, by decide⟩, rfl, rfl⟩ ⟨Nat.le_of_ble_eq_true rfl, Nat.le_of_ble_eq_true rfl⟩ (fun v20 A20 q20 => ?_)
        rcases q20 with ⟨rfl, hF3, ⟨hok, hS3⟩ | ⟨hok, rr3, hS3⟩⟩
        · obtain ⟨num3, hM, hX, hrd, hT33, hNk3⟩ := id hS3
          have hT13 := hT33.1.1
          have hT23 := hT33.1.2
          refine g_goto X rfl ?_
          refine g_vret X rfl rfl (Nat.le_of_ble_eq_true rfl) (Nat.le_of_ble_eq_true rfl) ⟨rfl, ?_⟩
          have hsn : ¬ ¬ u.2.1.1 = 0 := by rw [efl]; rw [show b0 = false from by rw [(bit_0 b0 b1 b2 b3).1] at hbit; simpa using hbit]; show ¬ ¬ bI false = 0; decide
          exact ⟨rfl, hF2.trans hF3, RES.good (s2 := (tokN tx len (tokN tx len u.1), (nI 1, u.2.1.2), zSet u.2.2.1 0 (tokN tx len u.1).2.2.2, u.2.2.2)) (by rw [rdSt_st (show isW tx u.1 0 = true from hw), rdStart, if_neg hsn, rd1, tkV_t hok, tkS_t hok, decide_eq_true (numOk_ne hok (by decide))]) hS3 ⟨true, b1, b2, b3, (bit_0 b0 b1 b2 b3).2, by rw [efl, bI_t]⟩ (hC.z 0 (by decide) _) (hg.z 0 _ (fun q => absurd q (by decide)) (fun q => absurd q (by decide)))⟩
        · have hwb3 : ¬ nI (tokN tx len u.1).2.2.1 < 0 := nI_pos (by omega)
          obtain ⟨num3, hM, hX, hrd, hT33, hNk3⟩ := id hS3
          have hT13 := hT33.1.1
          have hT23 := hT33.1.2
          refine g_goto X rfl ?_
          refine g_vret X rfl rfl (Nat.le_of_ble_eq_true rfl) (Nat.le_of_ble_eq_true rfl) ⟨rfl, ?_⟩
          have hsn : ¬ ¬ u.2.1.1 = 0 := by rw [efl]; rw [show b0 = false from by rw [(bit_0 b0 b1 b2 b3).1] at hbit; simpa using hbit]; show ¬ ¬ bI false = 0; decide
          exact ⟨rfl, hF2.trans hF3, RES.bad (by rw [rdSt_st (show isW tx u.1 0 = true from hw), rdStart, if_neg hsn, rd1, tkV_f hok]; rfl) (by rw [rdSt_st (show isW tx u.1 0 = true from hw), rdStart, if_neg hsn, rd1, tkS_f hok]) hS3⟩
    · have hy := h4
      refine g_aload_n X rfl rfl ?_
      refine g_mV X rfl lcX8_roomStatement lmX8_141 lsX8_roomStatement (cm_X8_roomStatement l D cy B od hS hT hC hg) (ci := 8) (by (repeat (first | exact hM | exact upA_eq | refine (upA_ne (by omega)).trans ?_))) rfl rfl rfl (Nat.le_of_ble_eq_true rfl) ⟨⟨by decide, by decide⟩, rfl, rfl⟩ ⟨Nat.le_of_ble_eq_true rfl, Nat.le_of_ble_eq_true rfl⟩ (fun v21 A21 q21 => ?_)
      obtain ⟨rfl, hF, hR⟩ := q21
      refine g_goto X rfl ?_
      refine g_vret X rfl rfl (Nat.le_of_ble_eq_true rfl) (Nat.le_of_ble_eq_true rfl) ⟨rfl, ?_⟩
      exact ⟨rfl, hF, by rw [rdSt_ro (show isW tx u.1 5 = true from hy)]; exact hR⟩
  · have hy := h2
    refine g_aload_n X rfl rfl ?_
    refine g_mV X rfl lcX8_bracketStatement lmX8_136 lsX8_bracketStatement (cm_X8_bracketStatement l D cy B od hS hT hC hg) (ci := 8) (by (repeat (first | exact hM | exact upA_eq | refine (upA_ne (by omega)).trans ?_))) rfl rfl rfl (Nat.le_of_ble_eq_true rfl) ⟨⟨by decide, by decide⟩, rfl, rfl⟩ ⟨Nat.le_of_ble_eq_true rfl, Nat.le_of_ble_eq_true rfl⟩ (fun v22 A22 q22 => ?_)
    obtain ⟨rfl, hF, hR⟩ := q22
    refine g_goto X rfl ?_
    refine g_vret X rfl rfl (Nat.le_of_ble_eq_true rfl) (Nat.le_of_ble_eq_true rfl) ⟨rfl, ?_⟩
    exact ⟨rfl, hF, by rw [rdSt_br (show isW tx u.1 4 = true from hy)]; exact hR⟩
