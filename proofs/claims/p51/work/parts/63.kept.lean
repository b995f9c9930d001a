/-! 63: what stays true of the rows, whatever is called -/
def StOk (S : StV) : Prop := within9 S.2.2.2.2.2 (-10000000) (nI 10000000) = true
/-- what is carried of a book's rows (WfS and WfB come with the ledger) -/
def Inv3 (Z : SV) (S : StV) : Prop := Rng Z S ∧ SldOk S ∧ StOk S
theorem Inv3.ste {Z : SV} {S S2 : StV} (h : Inv3 Z S) (e : StE S S2) : Inv3 Z S2 := by
  obtain ⟨⟨h1, h2, h3, h4⟩, h5, h6⟩ := h
  obtain ⟨e1, e2, e3, e4, e5, e6, e7, e8, e9⟩ := e
  refine ⟨⟨fun k hk => ?_, fun k hk => ?_, fun k hk => ?_, fun q hq => ?_⟩, fun k hk => ?_, ?_⟩
  · rw [e1] at hk
    rw [e2 0 k hk, e2 1 k hk, e2 2 k hk, e2 3 k hk, e2 4 k hk]; exact h1 k hk
  · rw [e3] at hk
    rw [e4 0 k hk, e4 1 k hk, e4 2 k hk]; exact h2 k hk
  · rw [e5] at hk
    rw [e6 0 k hk, e6 1 k hk, e6 2 k hk, e6 3 k hk, e6 4 k hk, e6 5 k hk]; exact h3 k hk
  · rw [e7] at hq
    rw [e9 q hq]; exact h4 q hq
  · rw [e5] at hk
    rw [e6 4 k hk, e6 1 k hk]; exact h5 k hk
  · unfold StOk
    rw [e8]; exact h6
/-- the same rows, as far as a book holds them -/
def StB (S S2 : StV) : Prop := S2.1.1 = S.1.1 ∧ (∀ q, q < 7 → ∀ j, j < S.1.1 → S2.1.2 q j = S.1.2 q j) ∧ S2.2.1.1 = S.2.1.1 ∧ (∀ q, q < 3 → ∀ j, j < S.2.1.1 → S2.2.1.2 q j = S.2.1.2 q j) ∧ S2.2.2.1.1 = S.2.2.1.1 ∧ (∀ q, q < 6 → ∀ j, j < S.2.2.1.1 → S2.2.2.1.2 q j = S.2.2.1.2 q j) ∧ S2.2.2.2.2.1 = S.2.2.2.2.1 ∧ S2.2.2.2.2.2 = S.2.2.2.2.2 ∧ ∀ j, j < S.2.2.2.2.1 → S2.2.2.2.1 j = S.2.2.2.1 j
theorem StE.b {S S2 : StV} (e : StE S S2) : StB S S2 := by
  obtain ⟨e1, e2, e3, e4, e5, e6, e7, e8, e9⟩ := e
  exact ⟨e1, fun q _ j hj => e2 q j hj, e3, fun q _ j hj => e4 q j hj, e5, fun q _ j hj => e6 q j hj, e7, e8, e9⟩
theorem StB.rf (S : StV) : StB S S := (StE.refl S).b
theorem asC_lt : ∀ i, i < 5 → asC i < 6 := by decide
theorem BkW.stb {cy : Nat → ClassId} {A : AH} {g : Nat} {L : BL} {S S2 : StV} {Z : SV} (h : BkW cy A g L S Z) (e : StB S S2) : BkW cy A g L S2 Z := by
  obtain ⟨⟨a1, a2, a3, a4, a5, a6, a7⟩, d1, d2⟩ := h
  obtain ⟨e1, e2, e3, e4, e5, e6, e7, e8, e9⟩ := e
  have hn : ∀ t, t < 5 → bN S2 Z t = bN S Z t := fun t ht => by
    rcases (show t = 0 ∨ t = 1 ∨ t = 2 ∨ t = 3 ∨ t = 4 by omega) with rfl | rfl | rfl | rfl | rfl
    · rfl
    · exact e3
    · exact e1
    · exact e5
    · exact e7
  refine ⟨⟨?_, fun t ht => ?_, a3, fun j hj => ?_, fun j hj => ?_, fun j hj => ?_, fun j hj => ?_⟩, d1, fun t t1 t3 i j hi hj => ?_⟩
  · rw [a1]; unfold bkO; rw [e8]
  · rw [hn t ht]; exact a2 t ht
  · rw [e3] at hj
    exact RwA.cong (a4 j hj) (fun i hi => (e4 i hi j hj).symm)
  · rw [e1] at hj
    exact RwA.cong (a5 j hj) (fun i hi => (e2 i hi j hj).symm)
  · rw [e5] at hj
    exact RwA.cong (a6 j hj) (fun i hi => (e6 (asC i) (asC_lt i hi) j hj).symm)
  · rw [e7] at hj
    rw [e9 j hj]; exact a7 j hj
  · rw [hn t (by omega)] at hi hj
    exact d2 t t1 t3 i j hi hj
theorem Foot.stb {g : Nat} {L : BL} {S S2 : StV} {Z : SV} {q : Nat} (e : StB S S2) (h : Foot g L S2 Z q) : Foot g L S Z q := by
  obtain ⟨e1, e2, e3, e4, e5, e6, e7, e8, e9⟩ := e
  rcases h with h | h | ⟨t, j, h1, h2, h3, h4⟩
  · exact Or.inl h
  · exact Or.inr (Or.inl h)
  · refine Or.inr (Or.inr ⟨t, j, h1, h2, ?_, h4⟩)
    rcases (show t = 1 ∨ t = 2 ∨ t = 3 by omega) with rfl | rfl | rfl
    · exact Nat.lt_of_lt_of_eq h3 e3
    · exact Nat.lt_of_lt_of_eq h3 e1
    · exact Nat.lt_of_lt_of_eq h3 e5
theorem isErr_c (E : String) : isErr (ecode E) = true := by
  unfold ecode
  split
  · decide
  · split
    · decide
    · decide
theorem isErr_N {n : Nat} (h : n < 2 ^ 31) : isErr (nI n) = false := by
  unfold isErr
  rw [Bool.and_eq_false_iff]
  left
  rw [decide_eq_false_iff_not, Int32.le_iff_toInt_le, nI_toInt h]
  have : (-1000000001 : Int32).toInt = -1000000001 := by decide
  omega
theorem isErr_in {x : Int32} {a b : Nat} (h : inN x a b) (hb : b < 2 ^ 31) : isErr x = false := by
  obtain ⟨n, -, h2, rfl⟩ := h
  exact isErr_N (by omega)
theorem ltNN {x : Int32} {n : Nat} (h : ¬ ¬ (0 ≤ x ∧ x < nI n)) (hn : n < 2 ^ 31) : x.toNatClampNeg < n := by
  obtain ⟨i, h1, rfl⟩ := ix_of (Classical.not_not.mp h) hn
  rw [nI_clamp (by omega)]; exact h1
theorem inN_w {x : Int32} {lo hi : Nat} (h : within9 x (nI lo) (nI hi) = true) (hh : hi < 2 ^ 31) (hl : lo ≤ hi) : inN x lo hi := by
  obtain ⟨n, h1, h2, h3⟩ := w9_N hh (by omega) h
  exact ⟨n, h1, h2, h3⟩
theorem inN_dn {x : Int32} (h : isDN x = true) : x = -1 ∨ inN x 0 359 := by
  unfold isDN at h
  rw [Bool.or_eq_true, decide_eq_true_eq] at h
  exact h.imp id (fun q => inN_w q (by decide) (by decide))
theorem and3b {a b c : Bool} (h : (a && (b && c)) = true) : a = true ∧ b = true ∧ c = true := by
  rw [Bool.and_eq_true, Bool.and_eq_true] at h; exact h
theorem rs_at (R : RV) (c i : Nat) (v : Int32) (q k : Nat) : (rSet R c i v).2 q k = if q = c ∧ k = i then v else R.2 q k := by
  show (if q = c then upd (R.2 c) i v else R.2 q) k = _
  by_cases h : q = c
  · subst h
    rw [if_pos rfl]
    show (if k = i then v else R.2 q k) = _
    by_cases h2 : k = i
    · rw [if_pos h2, if_pos ⟨rfl, h2⟩]
    · rw [if_neg h2, if_neg (fun x => h2 x.2)]
  · rw [if_neg h, if_neg (fun x => h x.1)]
/-- what a change that answers keeps, and that its answer is no code of an exception -/
def KpQ (Z : SV) (S9 : StV) (y9 : Value) : Prop := Inv3 Z S9 ∧ ∃ v, y9 = .int v ∧ isErr v = false
section KPS
variable {Z : SV} {S S9 : StV} {V : LV} {y9 : Value}
theorem kp_setStart {ba : Int32} (hi : Inv3 Z S) (hw : WfS S) (ho : ocStart V ba = .inr y9) (hV : vS V = S) (hR : S9 = (S.1, S.2.1, S.2.2.1, S.2.2.2.1, S.2.2.2.2.1, ba)) : KpQ Z S9 y9 := by
  subst hR
  unfold ocStart at ho
  split at ho
  · rename_i hd
    obtain rfl := Sum.inr.inj ho
    refine ⟨⟨hi.1, hi.2.1, hd⟩, _, rfl, ?_⟩
    have h := hi.2.2
    unfold StOk within9 at h
    rw [hV]
    rw [Bool.and_eq_true, decide_eq_true_eq] at h
    unfold isErr
    rw [Bool.and_eq_false_iff]
    left
    rw [decide_eq_false_iff_not]
    have h1 := h.1
    rw [Int32.le_iff_toInt_le] at h1 ⊢
    have e1 : (-10000000 : Int32).toInt = -10000000 := by decide
    have e2 : (-1000000001 : Int32).toInt = -1000000001 := by decide
    omega
  · cases ho
theorem kp_pay {x dy : Int32} (hi : Inv3 Z S) (hw : WfS S) (ho : ocPay V x dy = .inr y9) (hV : vS V = S) (hR : S9 = (rSet S.1 4 x.toNatClampNeg dy, S.2)) : KpQ Z S9 y9 := by
  subst hR
  unfold ocPay at ho
  rw [hV] at ho
  split at ho
  · cases ho
  · rename_i hx
    split at ho
    · rename_i hd
      split at ho
      · obtain rfl := Sum.inr.inj ho
        have hi9 := ltNN (n := S.1.1) hx (by have := hw.1; omega)
        generalize x.toNatClampNeg = i at *
        refine ⟨⟨⟨fun k hk => ?_, hi.1.2⟩, hi.2.1, hi.2.2⟩, _, rfl, ?_⟩
        · obtain ⟨a1, a2, a3, a4, a5⟩ := hi.1.1 k hk
          refine ⟨a1, a2, a3, a4, ?_⟩
          show (rSet S.1 4 i dy).2 4 k = -1 ∨ inN ((rSet S.1 4 i dy).2 4 k) 0 359
          rw [rs_at]
          by_cases h : k = i
          · rw [if_pos ⟨rfl, h⟩]; exact inN_dn hd
          · rw [if_neg (fun q => h q.2)]; exact a5
        · rcases (hi.1.1 i hi9).2.2.2.2 with h | h
          · rw [h]; decide
          · exact isErr_in h (by decide)
      · cases ho
    · cases ho
theorem kp_cancel {x : Int32} (hi : Inv3 Z S) (hw : WfS S) (ho : ocCan V x = .inr y9) (hV : vS V = S) (hR : S9 = (rSet S.1 5 x.toNatClampNeg (nI 1), S.2)) : KpQ Z S9 y9 := by
  subst hR
  unfold ocCan at ho
  rw [hV] at ho
  split at ho
  · cases ho
  · rename_i hx
    split at ho
    · obtain rfl := Sum.inr.inj ho
      have hi9 := ltNN (n := S.1.1) hx (by have := hw.1; omega)
      exact ⟨⟨⟨fun k hk => hi.1.1 k hk, hi.1.2⟩, hi.2.1, hi.2.2⟩, _, rfl, isErr_in (hi.1.1 _ hi9).2.2.1 (by decide)⟩
    · cases ho
theorem kp_addEntry {kd cg am iv pd v6 : Int32} (hi : Inv3 Z S) (hw : WfS S) (ho : ocAddE V kd cg am iv pd = .inr y9) (hV : vS V = S) (hR : S9.1.1 = S.1.1 + 1 ∧ (∀ q j, j < S.1.1 → S9.1.2 q j = S.1.2 q j) ∧ (S9.1.2 0 S.1.1 = kd ∧ S9.1.2 1 S.1.1 = cg ∧ S9.1.2 2 S.1.1 = am ∧ S9.1.2 3 S.1.1 = iv ∧ S9.1.2 4 S.1.1 = pd ∧ S9.1.2 5 S.1.1 = 0 ∧ S9.1.2 6 S.1.1 = v6) ∧ S9.2 = S.2) : KpQ Z S9 y9 := by
  obtain ⟨E9, S29⟩ := S9
  obtain ⟨e1, e2, ⟨f0, f1, f2, f3, f4, -⟩, e4⟩ := hR
  obtain rfl : S29 = S.2 := e4
  dsimp only at e1 e2 f0 f1 f2 f3 f4
  unfold ocAddE at ho
  rw [hV] at ho
  split at ho
  · rename_i hx
    split at ho
    · rename_i hn
      obtain rfl := Sum.inr.inj ho
      obtain ⟨x1, x2, x34⟩ := and3b hx
      obtain ⟨x3, x4, x5⟩ := and3b x34
      refine ⟨⟨⟨fun k hk => ?_, hi.1.2⟩, hi.2.1, hi.2.2⟩, _, rfl, isErr_N (by omega)⟩
      have hk : k < E9.1 := hk
      show inN (E9.2 0 k) 0 3 ∧ inN (E9.2 1 k) 0 9 ∧ inN (E9.2 2 k) 1 10000000 ∧ inN (E9.2 3 k) 0 359 ∧ (E9.2 4 k = -1 ∨ inN (E9.2 4 k) 0 359)
      by_cases hkn : k = S.1.1
      · subst hkn
        rw [f0, f1, f2, f3, f4]
        exact ⟨inN_w x1 (by decide) (by decide), inN_w x2 (by decide) (by decide), inN_w x3 (by decide) (by decide), inN_w x4 (by decide) (by decide), inN_dn x5⟩
      · rw [e2 0 k (by omega), e2 1 k (by omega), e2 2 k (by omega), e2 3 k (by omega), e2 4 k (by omega)]
        exact hi.1.1 k (by omega)
    · cases ho
  · cases ho
theorem kp_addRoom {ar : Int32} (hi : Inv3 Z S) (hw : WfS S) (ho : ocAddR V ar = .inr y9) (hV : vS V = S) (hR : S9.1 = S.1 ∧ (S9.2.1.1 = S.2.1.1 + 1 ∧ (∀ q j, j < S.2.1.1 → S9.2.1.2 q j = S.2.1.2 q j) ∧ (S9.2.1.2 0 S.2.1.1 = ar ∧ S9.2.1.2 1 S.2.1.1 = -1 ∧ S9.2.1.2 2 S.2.1.1 = -1)) ∧ S9.2.2 = S.2.2) : KpQ Z S9 y9 := by
  obtain ⟨E9, R9, S29⟩ := S9
  obtain ⟨e0, ⟨e1, e2, f0, f1, f2⟩, e4⟩ := hR
  obtain rfl : E9 = S.1 := e0
  obtain rfl : S29 = S.2.2 := e4
  dsimp only at e1 e2 f0 f1 f2
  unfold ocAddR at ho
  rw [hV] at ho
  split at ho
  · rename_i hx
    split at ho
    · rename_i hn
      obtain rfl := Sum.inr.inj ho
      refine ⟨⟨⟨hi.1.1, fun k hk => ?_, hi.1.2.2⟩, hi.2.1, hi.2.2⟩, _, rfl, isErr_N (by omega)⟩
      have hk : k < R9.1 := hk
      show inN (R9.2 0 k) 1 500 ∧ (R9.2 1 k = -1 ∨ ∃ a b, a ≤ b ∧ b ≤ 359 ∧ R9.2 1 k = nI a ∧ R9.2 2 k = nI b)
      by_cases hkn : k = S.2.1.1
      · subst hkn
        rw [f0, f1]
        exact ⟨inN_w hx (by decide) (by decide), Or.inl rfl⟩
      · rw [e2 0 k (by omega), e2 1 k (by omega), e2 2 k (by omega)]
        exact hi.1.2.1 k (by omega)
    · cases ho
  · cases ho
theorem kp_setOffice {x f9 t9 : Int32} (hi : Inv3 Z S) (hw : WfS S) (ho : ocOff V x f9 t9 = .inr y9) (hV : vS V = S) (hR : S9 = (S.1, rSet (rSet S.2.1 1 x.toNatClampNeg f9) 2 x.toNatClampNeg (if f9 = -1 then -1 else t9), S.2.2)) : KpQ Z S9 y9 := by
  subst hR
  unfold ocOff at ho
  rw [hV] at ho
  split at ho
  · cases ho
  · rename_i hx
    split at ho
    · rename_i hd
      obtain rfl := Sum.inr.inj ho
      have hi9 := ltNN (n := S.2.1.1) hx (by have := hw.2.1; omega)
      generalize x.toNatClampNeg = i at *
      refine ⟨⟨⟨hi.1.1, fun k hk => ?_, hi.1.2.2⟩, hi.2.1, hi.2.2⟩, _, rfl, ?_⟩
      · have hk : k < S.2.1.1 := hk
        obtain ⟨a1, a2⟩ := hi.1.2.1 k hk
        refine ⟨a1, ?_⟩
        show (rSet (rSet S.2.1 1 i f9) 2 i (if f9 = -1 then -1 else t9)).2 1 k = -1 ∨ ∃ a b, a ≤ b ∧ b ≤ 359 ∧ (rSet (rSet S.2.1 1 i f9) 2 i (if f9 = -1 then -1 else t9)).2 1 k = nI a ∧ (rSet (rSet S.2.1 1 i f9) 2 i (if f9 = -1 then -1 else t9)).2 2 k = nI b
        rw [rs_at, rs_at, rs_at, rs_at, if_neg (fun q => absurd q.1 (by decide))]
        by_cases h : k = i
        · rw [if_pos ⟨rfl, h⟩, if_pos ⟨rfl, h⟩]
          by_cases hf : f9 = -1
          · exact Or.inl hf
          · rw [if_neg hf]
            rw [Bool.or_eq_true, decide_eq_true_eq, Bool.and_eq_true] at hd
            obtain ⟨d1, d2⟩ := hd.resolve_left hf
            obtain ⟨a, -, b1, rfl⟩ := inN_w d1 (by decide) (by decide)
            obtain ⟨b, b2, b3, rfl⟩ := inN_w d2 (by decide) b1
            exact Or.inr ⟨a, b, b2, b3, rfl, rfl⟩
        · rw [if_neg (fun q => h q.2), if_neg (fun q => h q.2), if_neg (fun q => absurd q.1 (by decide))]
          exact a2
      · rcases (hi.1.2.1 i hi9).2 with h | h
        · rw [rDays_no h]; decide
        · rw [off_days h]
          obtain ⟨a, b, h1, h2, h3, h4⟩ := h
          rw [h3, h4, pk_sub h1, nI_add]
          exact isErr_N (by omega)
    · cases ho
theorem kp_addAsset {pr dy li : Int32} (hi : Inv3 Z S) (hw : WfS S) (ho : ocAddA V pr dy li = .inr y9) (hV : vS V = S) (hR : S9.1 = S.1 ∧ S9.2.1 = S.2.1 ∧ (S9.2.2.1.1 = S.2.2.1.1 + 1 ∧ (∀ q j, j < S.2.2.1.1 → S9.2.2.1.2 q j = S.2.2.1.2 q j) ∧ (S9.2.2.1.2 0 S.2.2.1.1 = pr ∧ S9.2.2.1.2 1 S.2.2.1.1 = dy ∧ S9.2.2.1.2 2 S.2.2.1.1 = li ∧ S9.2.2.1.2 3 S.2.2.1.1 = sSort Z pr ∧ S9.2.2.1.2 4 S.2.2.1.1 = -1 ∧ S9.2.2.1.2 5 S.2.2.1.1 = -1)) ∧ S9.2.2.2 = S.2.2.2) : KpQ Z S9 y9 := by
  obtain ⟨E9, R9, A9, S29⟩ := S9
  obtain ⟨e0, e00, ⟨e1, e2, f0, f1, f2, f3, f4, f5⟩, e4⟩ := hR
  obtain rfl : E9 = S.1 := e0
  obtain rfl : R9 = S.2.1 := e00
  obtain rfl : S29 = S.2.2.2 := e4
  dsimp only at e1 e2 f0 f1 f2 f3 f4 f5
  unfold ocAddA at ho
  rw [hV] at ho
  split at ho
  · rename_i hx
    split at ho
    · rename_i hn
      obtain rfl := Sum.inr.inj ho
      obtain ⟨x1, x2, x3⟩ := and3b hx
      refine ⟨⟨⟨hi.1.1, hi.1.2.1, fun k hk => ?_, hi.1.2.2.2⟩, fun k hk => ?_, hi.2.2⟩, _, rfl, isErr_N (by omega)⟩
      · have hk : k < A9.1 := hk
        show inN (A9.2 0 k) 1 5000000 ∧ inN (A9.2 1 k) 0 359 ∧ inN (A9.2 2 k) 1 120 ∧ A9.2 3 k = sSort Z (A9.2 0 k) ∧ (A9.2 4 k = -1 ∨ inN (A9.2 4 k) 0 359 ∧ inN (A9.2 5 k) 0 5000000)
        by_cases hkn : k = S.2.2.1.1
        · subst hkn
          rw [f0, f1, f2, f3, f4]
          exact ⟨inN_w x1 (by decide) (by decide), inN_w x2 (by decide) (by decide), inN_w x3 (by decide) (by decide), rfl, Or.inl rfl⟩
        · rw [e2 0 k (by omega), e2 1 k (by omega), e2 2 k (by omega), e2 3 k (by omega), e2 4 k (by omega), e2 5 k (by omega)]
          exact hi.1.2.2.1 k (by omega)
      · have hk : k < A9.1 := hk
        show A9.2 4 k = -1 ∨ ∃ d sd, A9.2 1 k = nI d ∧ A9.2 4 k = nI sd ∧ d ≤ sd ∧ sd ≤ 359
        by_cases hkn : k = S.2.2.1.1
        · subst hkn
          exact Or.inl f4
        · rw [e2 1 k (by omega), e2 4 k (by omega)]
          exact hi.2.1 k (by omega)
    · cases ho
  · cases ho
theorem kp_sellAsset {x dy pr : Int32} (hi : Inv3 Z S) (hw : WfS S) (ho : ocSell V x dy pr = .inr y9) (hV : vS V = S) (hR : S9 = (S.1, S.2.1, rSet (rSet S.2.2.1 4 x.toNatClampNeg dy) 5 x.toNatClampNeg pr, S.2.2.2)) : KpQ Z S9 y9 := by
  subst hR
  unfold ocSell at ho
  rw [hV] at ho
  split at ho
  · cases ho
  · rename_i hx
    split at ho
    · rename_i hd
      split at ho
      · obtain rfl := Sum.inr.inj ho
        have hi9 := ltNN (n := S.2.2.1.1) hx (by have := hw.2.2.1; omega)
        generalize x.toNatClampNeg = i at *
        rw [Bool.and_eq_true] at hd
        obtain ⟨d0, -, hd0, e0⟩ := (hi.1.2.2.1 i hi9).2.1
        have d1 : within9 dy (S.2.2.1.2 1 i) (nI 359) = true := hd.1
        rw [e0] at d1
        obtain ⟨d2, h8, h9, rfl⟩ := inN_w d1 (by decide) hd0
        refine ⟨⟨⟨hi.1.1, hi.1.2.1, fun k hk => ?_, hi.1.2.2.2⟩, fun k hk => ?_, hi.2.2⟩, _, rfl, ?_⟩
        · have hk : k < S.2.2.1.1 := hk
          obtain ⟨a1, a2, a3, a4, a5⟩ := hi.1.2.2.1 k hk
          refine ⟨a1, a2, a3, a4, ?_⟩
          show (rSet (rSet S.2.2.1 4 i (nI d2)) 5 i pr).2 4 k = -1 ∨ inN ((rSet (rSet S.2.2.1 4 i (nI d2)) 5 i pr).2 4 k) 0 359 ∧ inN ((rSet (rSet S.2.2.1 4 i (nI d2)) 5 i pr).2 5 k) 0 5000000
          rw [rs_at, rs_at, rs_at, rs_at, if_neg (fun q => absurd q.1 (by decide))]
          by_cases h : k = i
          · subst h
            rw [if_pos ⟨rfl, rfl⟩, if_pos ⟨rfl, rfl⟩]
            exact Or.inr ⟨⟨d2, by omega, h9, rfl⟩, inN_w hd.2 (by decide) (by decide)⟩
          · rw [if_neg (fun q => h q.2), if_neg (fun q => h q.2), if_neg (fun q => absurd q.1 (by decide))]
            exact a5
        · have hk : k < S.2.2.1.1 := hk
          show (rSet (rSet S.2.2.1 4 i (nI d2)) 5 i pr).2 4 k = -1 ∨ ∃ d sd, (rSet (rSet S.2.2.1 4 i (nI d2)) 5 i pr).2 1 k = nI d ∧ (rSet (rSet S.2.2.1 4 i (nI d2)) 5 i pr).2 4 k = nI sd ∧ d ≤ sd ∧ sd ≤ 359
          have e4 : (rSet (rSet S.2.2.1 4 i (nI d2)) 5 i pr).2 4 k = if k = i then nI d2 else S.2.2.1.2 4 k := by
            rw [rs_at, rs_at]
            by_cases h : k = i <;> simp [h]
          have e1 : (rSet (rSet S.2.2.1 4 i (nI d2)) 5 i pr).2 1 k = S.2.2.1.2 1 k := by
            rw [rs_at, rs_at, if_neg (fun q => absurd q.1 (by decide)), if_neg (fun q => absurd q.1 (by decide))]
          rw [e4, e1]
          by_cases h : k = i
          · subst h
            rw [if_pos rfl]
            exact Or.inr ⟨d0, d2, e0, rfl, h8, h9⟩
          · rw [if_neg h]
            exact hi.2.1 k hk
        · obtain ⟨pp, dd, li, ss, so, hN⟩ := asset_N hi.1 hi9
          have hp := hN.2.1
          have hl := hN.2.2.2.1
          rw [pk_div (by omega) (by decide) (by decide)]
          by_cases h30 : 30 ≤ d2
          · rw [pk_sub (by omega), hN.val (by omega)]
            split
            · decide
            · rw [hN.wu (by omega), pk_sub (wN_le hl)]
              exact isErr_N (by omega)
          · rw [show d2 / 30 = 0 by omega, hN.val_m]; decide
      · cases ho
    · cases ho
theorem cqAmt_N (hg : Rng Z S) (hgz : RngZ Z) (hw : WfS S) (h4 : S.2.2.2.2.1 < 4) (hV : vS V = S) (hVZ : vZ V = Z) : inN (cqAmt V) 0 1000000000 := by
  obtain ⟨t, ht, e⟩ := sTgt_N hgz hg hw (q := S.2.2.2.2.1) (by omega)
  obtain ⟨a, ha, e2⟩ := sumL_N (f := fun i => (S.2.2.2.1 i).toInt64) (M := 1000000000) S.2.2.2.2.1 (fun i hi => by
    obtain ⟨n, -, n2, n3⟩ := hg.2.2.2 i hi
    exact ⟨n, n2, by show (S.2.2.2.1 i).toInt64 = _; rw [n3, nI_l (by omega)]⟩)
  have e3 : sPre S = lN a := e2
  have hD := due_N (t := t) (s := a) ht (by omega)
  refine ⟨t - a, by omega, by omega, ?_⟩
  unfold cqAmt
  rw [hV, hVZ, e, e3, hD, lN_i]
theorem kp_closeQuarter (hi : Inv3 Z S) (hgz : RngZ Z) (hw : WfS S) (ho : ocClose V = .inr y9) (hV : vS V = S) (hVZ : vZ V = Z) (hR : S9 = (S.1, S.2.1, S.2.2.1, upd S.2.2.2.1 S.2.2.2.2.1 (cqAmt V), S.2.2.2.2.1 + 1, S.2.2.2.2.2)) : KpQ Z S9 y9 := by
  subst hR
  unfold ocClose at ho
  split at ho
  · rename_i hn
    rw [hV] at hn
    obtain rfl := Sum.inr.inj ho
    have hA := cqAmt_N hi.1 hgz hw hn hV hVZ
    refine ⟨⟨⟨hi.1.1, hi.1.2.1, hi.1.2.2.1, fun q hq => ?_⟩, hi.2.1, hi.2.2⟩, _, rfl, isErr_in hA (by decide)⟩
    have hq : q < S.2.2.2.2.1 + 1 := hq
    show inN (if q = S.2.2.2.2.1 then cqAmt V else S.2.2.2.1 q) 0 1000000000
    by_cases h : q = S.2.2.2.2.1
    · rw [if_pos h]; exact hA
    · rw [if_neg h]
      exact hi.1.2.2.2 q (by omega)
  · cases ho
end KPS
/-! the rows added to the book and those that the class adds -/
theorem stb_addE {S S9 : StV} {kd cg am iv pd fl : Int32} (hR : S9.1.1 = S.1.1 + 1 ∧ (∀ q j, j < S.1.1 → S9.1.2 q j = S.1.2 q j) ∧ (S9.1.2 0 S.1.1 = kd ∧ S9.1.2 1 S.1.1 = cg ∧ S9.1.2 2 S.1.1 = am ∧ S9.1.2 3 S.1.1 = iv ∧ S9.1.2 4 S.1.1 = pd ∧ S9.1.2 5 S.1.1 = 0 ∧ S9.1.2 6 S.1.1 = fl) ∧ S9.2 = S.2) : StB (addRow S.1 (entH kd cg am iv pd fl), S.2) S9 := by
  obtain ⟨E9, S29⟩ := S9
  obtain ⟨e1, e2, ⟨f0, f1, f2, f3, f4, f5, f6⟩, e4⟩ := hR
  obtain rfl : S29 = S.2 := e4
  dsimp only at e1 e2 f0 f1 f2 f3 f4 f5 f6
  refine ⟨e1, fun q hq j hj => ?_, rfl, fun _ _ _ _ => rfl, rfl, fun _ _ _ _ => rfl, rfl, rfl, fun _ _ => rfl⟩
  have hj : j < S.1.1 + 1 := hj
  show E9.2 q j = (addRow S.1 (entH kd cg am iv pd fl)).2 q j
  by_cases h : j = S.1.1
  · subst h
    rw [addRow_at]
    rcases (show q = 0 ∨ q = 1 ∨ q = 2 ∨ q = 3 ∨ q = 4 ∨ q = 5 ∨ q = 6 by omega) with rfl | rfl | rfl | rfl | rfl | rfl | rfl
    · exact f0
    · exact f1
    · exact f2
    · exact f3
    · exact f4
    · exact f5
    · exact f6
  · rw [addRow_ne (by omega)]; exact e2 q j (by omega)
theorem stb_addR {S S9 : StV} {ar : Int32} (hR : S9.1 = S.1 ∧ (S9.2.1.1 = S.2.1.1 + 1 ∧ (∀ q j, j < S.2.1.1 → S9.2.1.2 q j = S.2.1.2 q j) ∧ (S9.2.1.2 0 S.2.1.1 = ar ∧ S9.2.1.2 1 S.2.1.1 = -1 ∧ S9.2.1.2 2 S.2.1.1 = -1)) ∧ S9.2.2 = S.2.2) : StB (S.1, addRow S.2.1 (roomH ar), S.2.2) S9 := by
  obtain ⟨E9, R9, S29⟩ := S9
  obtain ⟨e0, ⟨e1, e2, f0, f1, f2⟩, e4⟩ := hR
  obtain rfl : E9 = S.1 := e0
  obtain rfl : S29 = S.2.2 := e4
  dsimp only at e1 e2 f0 f1 f2
  refine ⟨rfl, fun _ _ _ _ => rfl, e1, fun q hq j hj => ?_, rfl, fun _ _ _ _ => rfl, rfl, rfl, fun _ _ => rfl⟩
  have hj : j < S.2.1.1 + 1 := hj
  show R9.2 q j = (addRow S.2.1 (roomH ar)).2 q j
  by_cases h : j = S.2.1.1
  · subst h
    rw [addRow_at]
    rcases (show q = 0 ∨ q = 1 ∨ q = 2 by omega) with rfl | rfl | rfl
    · exact f0
    · exact f1
    · exact f2
  · rw [addRow_ne (by omega)]; exact e2 q j (by omega)
theorem stb_addA {S S9 : StV} {pr dy li so : Int32} (hR : S9.1 = S.1 ∧ S9.2.1 = S.2.1 ∧ (S9.2.2.1.1 = S.2.2.1.1 + 1 ∧ (∀ q j, j < S.2.2.1.1 → S9.2.2.1.2 q j = S.2.2.1.2 q j) ∧ (S9.2.2.1.2 0 S.2.2.1.1 = pr ∧ S9.2.2.1.2 1 S.2.2.1.1 = dy ∧ S9.2.2.1.2 2 S.2.2.1.1 = li ∧ S9.2.2.1.2 3 S.2.2.1.1 = so ∧ S9.2.2.1.2 4 S.2.2.1.1 = -1 ∧ S9.2.2.1.2 5 S.2.2.1.1 = -1)) ∧ S9.2.2.2 = S.2.2.2) : StB (S.1, S.2.1, addRow S.2.2.1 (astH pr dy li so), S.2.2.2) S9 := by
  obtain ⟨E9, R9, A9, S29⟩ := S9
  obtain ⟨e0, e00, ⟨e1, e2, f0, f1, f2, f3, f4, f5⟩, e4⟩ := hR
  obtain rfl : E9 = S.1 := e0
  obtain rfl : R9 = S.2.1 := e00
  obtain rfl : S29 = S.2.2.2 := e4
  dsimp only at e1 e2 f0 f1 f2 f3 f4 f5
  refine ⟨rfl, fun _ _ _ _ => rfl, rfl, fun _ _ _ _ => rfl, e1, fun q hq j hj => ?_, rfl, rfl, fun _ _ => rfl⟩
  have hj : j < S.2.2.1.1 + 1 := hj
  show A9.2 q j = (addRow S.2.2.1 (astH pr dy li so)).2 q j
  by_cases h : j = S.2.2.1.1
  · subst h
    rw [addRow_at]
    rcases (show q = 0 ∨ q = 1 ∨ q = 2 ∨ q = 3 ∨ q = 4 ∨ q = 5 by omega) with rfl | rfl | rfl | rfl | rfl | rfl
    · exact f0
    · exact f1
    · exact f2
    · exact f3
    · exact f4
    · exact f5
  · rw [addRow_ne (by omega)]; exact e2 q j (by omega)
