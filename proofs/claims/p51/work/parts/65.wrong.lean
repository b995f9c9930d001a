/-! 65: reading hangs on the text alone; the nineteen invalid texts have their places -/
section SIM
variable {tx ty : Nat → Int32} {len : Nat}
/-- the same token; a number counts only of a number -/
def TkS (k k2 : TK) : Prop := k.1 = k2.1 ∧ k.2.1 = k2.2.1 ∧ k.2.2.1 = k2.2.2.1 ∧ (k.2.1 = nI 2 → k.2.2.2 = k2.2.2.2)
theorem scan_cong {f g : Nat → Bool} (h : ∀ j, j < len → f j = g j) : ∀ n i, len - i < n → scan f len i = scan g len i
  | 0, i, h9 => by omega
  | n + 1, i, h9 => by
    by_cases e : i < len ∧ f i = true
    · have e2 : i < len ∧ g i = true := ⟨e.1, (h i e.1) ▸ e.2⟩
      rw [scan_go e.1 e.2, scan_go e2.1 e2.2]
      exact scan_cong h n (i + 1) (by omega)
    · have e2 : ¬ (i < len ∧ g i = true) := fun q => e ⟨q.1, (h i q.1).symm ▸ q.2⟩
      rw [scan_no e, scan_no e2]
theorem scan_eq {f g : Nat → Bool} (h : ∀ j, j < len → f j = g j) (i : Nat) : scan f len i = scan g len i := scan_cong h (len - i + 1) i (by omega)
theorem inR_eq (hq : ∀ j, j < len → tx j = ty j) (a b : Int32) : ∀ j, j < len → inR tx a b j = inR ty a b j := fun j hj => by unfold inR; rw [hq j hj]
theorem vD_eq {a : Nat} : ∀ n, (∀ j, j < n → tx (a + j) = ty (a + j)) → vD tx a n = vD ty a n
  | 0, _ => rfl
  | n + 1, h => by
    show vD tx a n * nI 10 + tx (a + n) - nI 48 = vD ty a n * nI 10 + ty (a + n) - nI 48
    rw [vD_eq n (fun j hj => h j (by omega)), h n (by omega)]
theorem tok_sim (hq : ∀ j, j < len → tx j = ty j) {k k2 : TK} (h : k.1 = k2.1) : TkS (tokN tx len k) (tokN ty len k2) := by
  unfold tokN
  rw [← h, ← scan_eq (inR_eq hq (nI 32) (nI 32)) k.1]
  generalize scan (spR tx) len k.1 = p
  unfold tokAt
  by_cases h1 : len ≤ p
  · rw [if_pos h1, if_pos h1]
    exact ⟨rfl, rfl, rfl, fun q => absurd q (show ¬ nI 0 = nI 2 by decide)⟩
  · rw [if_neg h1, if_neg h1, show leR ty p = leR tx p from (inR_eq hq _ _ p (by omega)).symm, show diR ty p = diR tx p from (inR_eq hq _ _ p (by omega)).symm]
    by_cases h2 : leR tx p = true
    · rw [if_pos h2, if_pos h2, ← scan_eq (inR_eq hq (nI 97) (nI 122)) p]
      exact ⟨rfl, rfl, rfl, fun q => absurd q (show ¬ nI 1 = nI 2 by decide)⟩
    · rw [if_neg h2, if_neg h2]
      by_cases h3 : diR tx p = true
      · rw [if_pos h3, if_pos h3, ← scan_eq (inR_eq hq (nI 48) (nI 57)) p]
        refine ⟨rfl, rfl, rfl, fun _ => ?_⟩
        show tokV tx p (scan (diR tx) len p) = tokV ty p (scan (diR tx) len p)
        have hl := scan_hi (f := diR tx) (len := len) (i := p) (by omega)
        unfold tokV
        rw [vD_eq (tx := tx) (ty := ty) _ (fun j hj => hq _ (by omega))]
      · rw [if_neg h3, if_neg h3]
        exact ⟨rfl, rfl, rfl, fun q => absurd q (show ¬ nI 3 = nI 2 by decide)⟩
theorem numOk_sim {k k2 : TK} (h : TkS k k2) (lo hi : Int32) : numOk k lo hi = numOk k2 lo hi := by
  obtain ⟨h1, h2, h3, h4⟩ := h
  unfold numOk
  rw [← h2]
  by_cases e : k.2.1 = nI 2
  · rw [h4 e]
  · rw [decide_eq_false e, Bool.false_and, Bool.false_and]
theorem tkV_sim {k k2 : TK} (h : TkS k k2) (lo hi : Int32) : tkV k lo hi = tkV k2 lo hi := by
  have h9 := h
  obtain ⟨h1, h2, h3, h4⟩ := h
  unfold tkV
  rw [← numOk_sim h9]
  by_cases e : numOk k lo hi = true
  · rw [if_pos e, if_pos e]
    unfold numOk at e
    rw [Bool.and_eq_true, decide_eq_true_eq] at e
    exact h4 e.1
  · rw [if_neg e, if_neg e]
theorem tkS_sim (hq : ∀ j, j < len → tx j = ty j) {k k2 : TK} (h : TkS k k2) (lo hi : Int32) : TkS (tkS tx len k lo hi) (tkS ty len k2 lo hi) := by
  unfold tkS
  rw [← numOk_sim h]
  by_cases e : numOk k lo hi = true
  · rw [if_pos e, if_pos e]; exact tok_sim hq h.1
  · rw [if_neg e, if_neg e]; exact h
theorem isW_sim (hq : ∀ j, j < len → tx j = ty j) {k k2 : TK} (h : TkS k k2) (h3 : T3 len k) (j : Nat) : isW tx k j = isW ty k2 j := by
  obtain ⟨e1, e2, e3, -⟩ := h
  unfold isW
  rw [← e1, ← e2, ← e3]
  by_cases e : k.1 - k.2.2.1 = (sB j).length
  · have e9 : (List.range (sB j).length).all (fun q => decide (tx (k.2.2.1 + q) = (sB j).getD q 0)) = (List.range (sB j).length).all (fun q => decide (ty (k.2.2.1 + q) = (sB j).getD q 0)) := by
      rw [Bool.eq_iff_iff, allR, allR]
      have hb := h3.1
      exact ⟨fun g q hq9 => by rw [← hq _ (by omega)]; exact g q hq9, fun g q hq9 => by rw [hq _ (by omega)]; exact g q hq9⟩
    rw [e9]
  · rw [decide_eq_false e, Bool.false_and, Bool.false_and]
def SimS (s s2 : PS) : Prop := TkS s.1 s2.1 ∧ s.2.1 = s2.2.1 ∧ s.2.2.1.1 = s2.2.2.1.1 ∧ lastL s.2.2.1 = lastL s2.2.2.1 ∧ s.2.2.2.1 = s2.2.2.2.1
def SimR (a b : Bool × PS) : Prop := a.1 = b.1 ∧ SimS a.2 b.2
theorem lastL_add (Z : SV) (a b : Int32) : lastL (zAdd Z a b) = a := by
  show (if Z.1 + 1 = 0 then nI 0 else upd (Z.2.2 0) Z.1 a (Z.1 + 1 - 1)) = a
  rw [if_neg (by omega), Nat.add_sub_cancel]
  exact if_pos rfl
variable {k k2 : TK} {fl : FL4} {Z Z2 : SV} {R R2 : RV}
theorem sim_1 (hq : ∀ j, j < len → tx j = ty j) (hk : TkS k k2) (hz : Z.1 = Z2.1) (hl : lastL Z = lastL Z2) (hr : R.1 = R2.1) (q : Nat) (lo hi : Int32) (f2 : FL4) : SimR (rd1 tx len q lo hi f2 (k, fl, Z, R)) (rd1 ty len q lo hi f2 (k2, fl, Z2, R2)) := by
  have ht := tok_sim hq (k := k) (k2 := k2) hk.1
  unfold rd1
  rw [tkV_sim ht]
  exact ⟨rfl, tkS_sim hq ht lo hi, rfl, hz, hl, hr⟩
theorem sim_as (hq : ∀ j, j < len → tx j = ty j) (hk : TkS k k2) (hz : Z.1 = Z2.1) (hl : lastL Z = lastL Z2) (hr : R.1 = R2.1) : SimR (rdAssets tx len (k, fl, Z, R)) (rdAssets ty len (k2, fl, Z2, R2)) := by
  have ht := tok_sim hq (k := k) (k2 := k2) hk.1
  have h1 := tkV_sim ht (nI 0) (nI 1000000)
  have h2 := tkS_sim hq ht (nI 0) (nI 1000000)
  unfold rdAssets
  rw [h1, tkV_sim h2]
  generalize tkV (tokN ty len k2) (nI 0) (nI 1000000) = v1
  have h3 := tkS_sim hq h2 v1 (nI 1000000)
  generalize tkV (tkS ty len (tokN ty len k2) (nI 0) (nI 1000000)) v1 (nI 1000000) = v2
  unfold asRes
  by_cases e1 : ¬ fl.2.1 = 0
  · rw [if_pos e1, if_pos e1]; exact ⟨rfl, hk, rfl, hz, hl, hr⟩
  · rw [if_neg e1, if_neg e1]
    by_cases e2 : v1 = -1
    · rw [if_pos e2, if_pos e2]; exact ⟨rfl, h2, rfl, hz, hl, hr⟩
    · rw [if_neg e2, if_neg e2]; exact ⟨rfl, h3, rfl, hz, hl, hr⟩
theorem sim_br (hq : ∀ j, j < len → tx j = ty j) (hk : TkS k k2) (hz : Z.1 = Z2.1) (hl : lastL Z = lastL Z2) (hr : R.1 = R2.1) : SimR (rdBracket tx len (k, fl, Z, R)) (rdBracket ty len (k2, fl, Z2, R2)) := by
  have ht := tok_sim hq (k := k) (k2 := k2) hk.1
  unfold rdBracket
  show SimR (if 5 ≤ Z.1 then _ else if tkV (tokN tx len k) (lastL Z + nI 1) (nI 99999999) = -1 then _ else _) (if 5 ≤ Z2.1 then _ else if tkV (tokN ty len k2) (lastL Z2 + nI 1) (nI 99999999) = -1 then _ else _)
  rw [hz, hl, tkV_sim ht]
  have h2 := tkS_sim hq ht (lastL Z2 + nI 1) (nI 99999999)
  generalize tkV (tokN ty len k2) (lastL Z2 + nI 1) (nI 99999999) = v1
  by_cases e1 : 5 ≤ Z2.1
  · rw [if_pos e1, if_pos e1]; exact ⟨rfl, hk, rfl, hz, hl, hr⟩
  · rw [if_neg e1, if_neg e1]
    by_cases e2 : v1 = -1
    · rw [if_pos e2, if_pos e2]; exact ⟨rfl, h2, rfl, hz, hl, hr⟩
    · rw [if_neg e2, if_neg e2]
      unfold rdBr2
      show SimR (if tkV (tkS tx len (tokN tx len k) (lastL Z2 + nI 1) (nI 99999999)) (nI 0) (nI 900) = -1 then _ else _) _
      rw [tkV_sim h2]
      have h3 := tkS_sim hq h2 (nI 0) (nI 900)
      generalize tkV (tkS ty len (tokN ty len k2) (lastL Z2 + nI 1) (nI 99999999)) (nI 0) (nI 900) = v2
      by_cases e3 : v2 = -1
      · rw [if_pos e3, if_pos e3]; exact ⟨rfl, h3, rfl, hz, hl, hr⟩
      · rw [if_neg e3, if_neg e3]; exact ⟨rfl, h3, rfl, congrArg (· + 1) hz, (lastL_add _ _ _).trans (lastL_add _ _ _).symm, hr⟩
theorem sim_ro (hq : ∀ j, j < len → tx j = ty j) (hk : TkS k k2) (h3 : T3 len k) (hz : Z.1 = Z2.1) (hl : lastL Z = lastL Z2) (hr : R.1 = R2.1) : SimR (rdRoom tx len (k, fl, Z, R)) (rdRoom ty len (k2, fl, Z2, R2)) := by
  have ht := tok_sim hq (k := k) (k2 := k2) hk.1
  have kt : T3 len (tokN tx len k) := T3.tok h3.1.1
  unfold rdRoom
  show SimR (if 6 ≤ R.1 then _ else if tkV (tokN tx len k) (nI 1) (nI 500) = -1 then _ else _) (if 6 ≤ R2.1 then _ else if tkV (tokN ty len k2) (nI 1) (nI 500) = -1 then _ else _)
  rw [hr, tkV_sim ht]
  have h2 := tkS_sim hq ht (nI 1) (nI 500)
  have kt2 : T3 len (tkS tx len (tokN tx len k) (nI 1) (nI 500)) := kt.num
  generalize tkV (tokN ty len k2) (nI 1) (nI 500) = v1
  generalize tkS tx len (tokN tx len k) (nI 1) (nI 500) = k3 at *
  generalize tkS ty len (tokN ty len k2) (nI 1) (nI 500) = k4 at *
  by_cases e1 : 6 ≤ R2.1
  · rw [if_pos e1, if_pos e1]; exact ⟨rfl, hk, rfl, hz, hl, hr⟩
  · rw [if_neg e1, if_neg e1]
    by_cases e2 : v1 = -1
    · rw [if_pos e2, if_pos e2]; exact ⟨rfl, h2, rfl, hz, hl, hr⟩
    · rw [if_neg e2, if_neg e2]
      have hR1 : ∀ a b c, (rAdd R a b c).1 = (rAdd R2 a b c).1 := fun a b c => congrArg (· + 1) hr
      unfold rdRo2
      show SimR (if isW tx k3 6 = true then _ else _) (if isW ty k4 6 = true then _ else _)
      rw [isW_sim hq h2 kt2 6]
      by_cases e3 : isW ty k4 6 = true
      · rw [if_pos e3, if_pos e3]
        have h5 := tok_sim hq (k := k3) (k2 := k4) h2.1
        show SimR (if tkV (tokN tx len k3) (nI 0) (nI 359) = -1 then _ else _) (if tkV (tokN ty len k4) (nI 0) (nI 359) = -1 then _ else _)
        rw [tkV_sim h5]
        have h6 := tkS_sim hq h5 (nI 0) (nI 359)
        generalize tkV (tokN ty len k4) (nI 0) (nI 359) = v2
        by_cases e4 : v2 = -1
        · rw [if_pos e4, if_pos e4]; exact ⟨rfl, h6, rfl, hz, hl, hr⟩
        · rw [if_neg e4, if_neg e4]
          unfold rdRo3
          show SimR (if tkV (tkS tx len (tokN tx len k3) (nI 0) (nI 359)) v2 (nI 359) = -1 then _ else _) _
          rw [tkV_sim h6]
          have h7 := tkS_sim hq h6 v2 (nI 359)
          generalize tkV (tkS ty len (tokN ty len k4) (nI 0) (nI 359)) v2 (nI 359) = v3
          by_cases e5 : v3 = -1
          · rw [if_pos e5, if_pos e5]; exact ⟨rfl, h7, rfl, hz, hl, hr⟩
          · rw [if_neg e5, if_neg e5]; exact ⟨rfl, h7, rfl, hz, hl, hR1 _ _ _⟩
      · rw [if_neg e3, if_neg e3]; exact ⟨rfl, h2, rfl, hz, hl, hR1 _ _ _⟩
theorem sim_st (hq : ∀ j, j < len → tx j = ty j) {s s2 : PS} (h : SimS s s2) (hw : PsW3 len s) : SimR (rdSt tx len s) (rdSt ty len s2) := by
  obtain ⟨k, fl, Z, R⟩ := s
  obtain ⟨k2, fl2, Z2, R2⟩ := s2
  obtain ⟨hk, hf, hz, hl, hr⟩ := h
  obtain rfl : fl = fl2 := hf
  have h3 : T3 len k := hw.1
  have hk : TkS k k2 := hk
  have hz : Z.1 = Z2.1 := hz
  have hl : lastL Z = lastL Z2 := hl
  have hr : R.1 = R2.1 := hr
  have hh : SimS (k, fl, Z, R) (k2, fl, Z2, R2) := ⟨hk, rfl, hz, hl, hr⟩
  unfold rdSt
  show SimR (if isW tx k 0 = true then _ else if isW tx k 1 = true then _ else if isW tx k 2 = true then _ else if isW tx k 3 = true then _ else if isW tx k 4 = true then _ else if isW tx k 5 = true then _ else _) (if isW ty k2 0 = true then _ else if isW ty k2 1 = true then _ else if isW ty k2 2 = true then _ else if isW ty k2 3 = true then _ else if isW ty k2 4 = true then _ else if isW ty k2 5 = true then _ else _)
  simp only [isW_sim hq hk h3]
  split
  · unfold rdStart
    show SimR (if ¬ fl.1 = 0 then _ else _) (if ¬ fl.1 = 0 then _ else _)
    split
    · exact ⟨rfl, hh⟩
    · exact sim_1 hq hk hz hl hr _ _ _ _
  · split
    · exact sim_as hq hk hz hl hr
    · split
      · unfold rdInterest
        show SimR (if ¬ fl.2.2.1 = 0 then _ else _) (if ¬ fl.2.2.1 = 0 then _ else _)
        split
        · exact ⟨rfl, hh⟩
        · exact sim_1 hq hk hz hl hr _ _ _ _
      · split
        · unfold rdTop
          show SimR (if ¬ fl.2.2.2 = 0 then _ else _) (if ¬ fl.2.2.2 = 0 then _ else _)
          split
          · exact ⟨rfl, hh⟩
          · exact sim_1 hq hk hz hl hr _ _ _ _
        · split
          · exact sim_br hq hk hz hl hr
          · split
            · exact sim_ro hq hk h3 hz hl hr
            · exact ⟨rfl, hh⟩
theorem sim_L (hq : ∀ j, j < len → tx j = ty j) : ∀ (n : Nat) (s s2 : PS), SimS s s2 → PsW3 len s → (rdL tx len n s).1 = (rdL ty len n s2).1
  | 0, s, s2, h, _ => congrArg nI h.1.2.2.1
  | n + 1, s, s2, h, hw => by
    obtain ⟨e1, e2⟩ := sim_st hq h hw
    have hw2 := rdSt_ok (tx := tx) hw
    obtain ⟨t1, t2, t3, t4⟩ := e2.1
    show (if (rdSt tx len s).1 = true then (if (rdSt tx len s).2.1.2.1 = 0 then (-1, (rdSt tx len s).2) else if (rdSt tx len s).2.1.2.1 = nI 3 ∧ tx (rdSt tx len s).2.1.2.2.1 = nI 59 then rdL tx len n (tokN tx len (rdSt tx len s).2.1, (rdSt tx len s).2.2) else (nI (rdSt tx len s).2.1.2.2.1, (rdSt tx len s).2)) else (nI (rdSt tx len s).2.1.2.2.1, (rdSt tx len s).2)).1 = (if (rdSt ty len s2).1 = true then (if (rdSt ty len s2).2.1.2.1 = 0 then (-1, (rdSt ty len s2).2) else if (rdSt ty len s2).2.1.2.1 = nI 3 ∧ ty (rdSt ty len s2).2.1.2.2.1 = nI 59 then rdL ty len n (tokN ty len (rdSt ty len s2).2.1, (rdSt ty len s2).2.2) else (nI (rdSt ty len s2).2.1.2.2.1, (rdSt ty len s2).2)) else (nI (rdSt ty len s2).2.1.2.2.1, (rdSt ty len s2).2)).1
    generalize rdSt tx len s = a at *
    generalize rdSt ty len s2 = b at *
    rw [← e1, ← t2, ← t3]
    by_cases c1 : a.1 = true
    · rw [if_pos c1, if_pos c1]
      by_cases c2 : a.2.1.2.1 = 0
      · rw [if_pos c2, if_pos c2]
      · rw [if_neg c2, if_neg c2]
        by_cases c3 : a.2.1.2.1 = nI 3
        · rw [← hq _ (hw2.1.2 c3)]
          by_cases c4 : a.2.1.2.1 = nI 3 ∧ tx a.2.1.2.2.1 = nI 59
          · rw [if_pos c4, if_pos c4]
            exact sim_L hq n _ _ ⟨tok_sim hq t1, e2.2.1, e2.2.2.1, e2.2.2.2.1, e2.2.2.2.2⟩ ⟨T3.tok hw2.1.1.1, hw2.2⟩
          · rw [if_neg c4, if_neg c4]
        · rw [if_neg (fun q => c3 q.1), if_neg (fun q => c3 q.1)]
    · rw [if_neg c1, if_neg c1]
end SIM
/-- the places of the invalid texts -/
def plW : List Nat := [0, 6, 9, 7, 9, 4, 8, 20, 10, 5, 16, 14, 15, 8, 8, 6, 6, 0, 42]
set_option maxRecDepth 100000 in
theorem wrong_c : ∀ j, j < 19 → (rdL (txB (strN (19 + j))) (strN (19 + j)).length 400 (tokN (txB (strN (19 + j))) (strN (19 + j)).length (0, nI 0, 0, nI 0), (nI 0, nI 0, nI 0, nI 0), zDef zNil, (0, fun _ _ => 0))).1 = nI (plW.getD j 0) := by decide +kernel
theorem wrong_R {buf : Nat → Int32} {j : Nat} {R : Int32 × PS} (hj : j < 19) (hb : ∀ q, q < (strN (19 + j)).length → buf q = txB (strN (19 + j)) q) (h : PrC buf (strN (19 + j)).length R) : R.1 = nI (plW.getD j 0) := by
  obtain ⟨tx, kd, n0, nm, Z, Rm, h1, rfl⟩ := h
  rw [← wrong_c j hj]
  have hq : ∀ q, q < (strN (19 + j)).length → tx q = txB (strN (19 + j)) q := fun q hq => (h1 q hq).trans (hb q hq)
  exact sim_L hq 400 _ _ ⟨tok_sim hq rfl, rfl, rfl, rfl, rfl⟩ ⟨T3.tok (Nat.zero_le _), Nat.zero_le _, Nat.zero_le _⟩
theorem plW_ne : ∀ j, j < 19 → ¬ nI (plW.getD j 0) = -1 := by decide
