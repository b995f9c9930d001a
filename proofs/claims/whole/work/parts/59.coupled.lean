/-! 59: each change keeps the two coupled -/
theorem rs_at (R : RV) (c i : Nat) (v : Int32) (q k : Nat) : (rSet R c i v).2 q k = if q = c ∧ k = i then v else R.2 q k := by
  show (if q = c then upd (R.2 c) i v else R.2 q) k = _
  by_cases h : q = c
  · subst h
    rw [if_pos rfl]
    by_cases h2 : k = i
    · subst h2; rw [pk_us, if_pos ⟨rfl, rfl⟩]
    · rw [pk_un h2, if_neg (fun x => h2 x.2)]
  · rw [if_neg h, if_neg (fun x => h x.1)]
theorem inN_of {x : Int32} {lo hi : Nat} (h : within9 x (nI lo) (nI hi) = true) (hh : hi < 2 ^ 31) (hl : lo ≤ hi) : inN x lo hi := by
  unfold within9 at h
  rw [Bool.and_eq_true, decide_eq_true_eq, decide_eq_true_eq, Int32.le_iff_toInt_le, Int32.le_iff_toInt_le, nI_toInt (by omega), nI_toInt (by omega)] at h
  have hx := wi_of (x := x) (n := hi) (by
    unfold within9
    rw [Bool.and_eq_true, decide_eq_true_eq, decide_eq_true_eq, Int32.le_iff_toInt_le, Int32.le_iff_toInt_le, nI_toInt (by omega), nI_toInt (by omega)]
    omega) hh
  obtain ⟨i, h1, rfl⟩ := hx
  rw [nI_toInt (by omega)] at h
  exact ⟨i, by omega, h1, rfl⟩
theorem inN_dn {x : Int32} (h : isDN x = true) : x = -1 ∨ inN x 0 359 := by
  unfold isDN at h
  rw [Bool.or_eq_true, decide_eq_true_eq] at h
  exact h.imp id (fun q => inN_of q (by decide) (by decide))
section CHS
variable {Z : SV} {S S9 : StV} {V : LV} {r : Nat → Int32} {y9 : Value}
theorem ch_setStart {ba : Int32} (hc : CplR Z S r) (hg : Rng Z S) (hw : WfS S) (hz : Z.1 ≤ 5) (hR : S9 = (S.1, S.2.1, S.2.2.1, S.2.2.2.1, S.2.2.2.2.1, ba)) : CplR Z S9 (upd r 0 ba) ∧ Rng Z S9 := by
  subst hR
  obtain ⟨h0, h1, h2, h3, h4, h5⟩ := hc.out
  exact ⟨CplR.mk pk_us (h1.fr hz fun q _ _ => pk_un (by omega)) (h2.fr hw.2.1 fun q _ _ => pk_un (by omega)) (h3.fr hw.1 fun q _ _ => pk_un (by omega)) (h4.fr hw.2.2.1 fun q _ _ => pk_un (by omega)) (h5.fr hw.2.2.2.1 fun q _ _ => pk_un (by omega)), hg⟩
theorem ix_lt {x : Int32} {n : Nat} (h : ¬ ¬ (0 ≤ x ∧ x < nI n)) (hn : n < 2 ^ 31) : x.toNatClampNeg < n := by
  obtain ⟨i, h1, rfl⟩ := ix_of (Classical.not_not.mp h) hn
  rw [nI_clamp (by omega)]; exact h1
theorem ch_pay {x dy : Int32} (hc : CplR Z S r) (hg : Rng Z S) (hw : WfS S) (hz : Z.1 ≤ 5) (ho : ocPay (V9 Z S) x dy = .inr y9) (hR : S9 = (rSet S.1 4 x.toNatClampNeg dy, S.2)) : CplR Z S9 (upd r (36 + 7 * x.toNatClampNeg + 4) dy) ∧ Rng Z S9 := by
  subst hR
  obtain ⟨h0, h1, h2, h3, h4, h5⟩ := hc.out
  simp only [ocPay] at ho
  split at ho
  · cases ho
  · rename_i hx
    split at ho
    · rename_i hd
      have hi := ix_lt hx (by have := hw.1; show S.1.1 < _; omega)
      generalize x.toNatClampNeg = i at *
      have hi : i < S.1.1 := hi
      have h60 := hw.1
      refine ⟨CplR.mk (Eq.trans (pk_un (by omega)) h0) (h1.fr hz fun q _ _ => pk_un (by omega)) (h2.fr hw.2.1 fun q _ _ => pk_un (by omega)) ⟨(pk_un (by omega)).trans h3.1, fun k hk q hq => ?_⟩ (h4.fr hw.2.2.1 fun q _ _ => pk_un (by omega)) (h5.fr hw.2.2.2.1 fun q _ _ => pk_un (by omega)), fun k hk => ?_, hg.2⟩
      · show upd r _ dy _ = (rSet S.1 4 i dy).2 q k
        rw [rs_at]
        by_cases h : q = 4 ∧ k = i
        · obtain ⟨rfl, rfl⟩ := h
          rw [if_pos (show _ ∧ _ from ⟨rfl, rfl⟩)]; exact pk_us
        · rw [if_neg h, pk_un (by omega)]; exact h3.2 k hk q hq
      · obtain ⟨a1, a2, a3, a4, a5⟩ := hg.1 k hk
        refine ⟨a1, a2, a3, a4, ?_⟩
        show (rSet S.1 4 i dy).2 4 k = -1 ∨ inN ((rSet S.1 4 i dy).2 4 k) 0 359
        rw [rs_at]
        by_cases h : k = i
        · rw [if_pos ⟨rfl, h⟩]; exact inN_dn hd
        · rw [if_neg (fun q => h q.2)]; exact a5
    · cases ho
theorem ch_cancel {x : Int32} (hc : CplR Z S r) (hg : Rng Z S) (hw : WfS S) (hz : Z.1 ≤ 5) (ho : ocCan (V9 Z S) x = .inr y9) (hR : S9 = (rSet S.1 5 x.toNatClampNeg (nI 1), S.2)) : CplR Z S9 (upd r (36 + 7 * x.toNatClampNeg + 5) (nI 1)) ∧ Rng Z S9 := by
  subst hR
  obtain ⟨h0, h1, h2, h3, h4, h5⟩ := hc.out
  simp only [ocCan] at ho
  split at ho
  · cases ho
  · rename_i hx
    have hi := ix_lt hx (by have := hw.1; show S.1.1 < _; omega)
    generalize x.toNatClampNeg = i at *
    have hi : i < S.1.1 := hi
    have h60 := hw.1
    refine ⟨CplR.mk (Eq.trans (pk_un (by omega)) h0) (h1.fr hz fun q _ _ => pk_un (by omega)) (h2.fr hw.2.1 fun q _ _ => pk_un (by omega)) ⟨(pk_un (by omega)).trans h3.1, fun k hk q hq => ?_⟩ (h4.fr hw.2.2.1 fun q _ _ => pk_un (by omega)) (h5.fr hw.2.2.2.1 fun q _ _ => pk_un (by omega)), fun k hk => hg.1 k hk, hg.2⟩
    show upd r _ (nI 1) _ = (rSet S.1 5 i (nI 1)).2 q k
    rw [rs_at]
    by_cases h : q = 5 ∧ k = i
    · obtain ⟨rfl, rfl⟩ := h
      rw [if_pos (show _ ∧ _ from ⟨rfl, rfl⟩)]; exact pk_us
    · rw [if_neg h, pk_un (by omega)]; exact h3.2 k hk q hq
theorem and3 {a b c : Bool} (h : (a && (b && c)) = true) : a = true ∧ b = true ∧ c = true := by
  rw [Bool.and_eq_true, Bool.and_eq_true] at h; exact h
theorem ch_addEntry {kd cg am iv pd v6 : Int32} (hc : CplR Z S r) (hg : Rng Z S) (hw : WfS S) (hz : Z.1 ≤ 5) (ho : ocAddE (V9 Z S) kd cg am iv pd = .inr y9) (hR : S9.1.1 = S.1.1 + 1 ∧ (∀ q j, j < S.1.1 → S9.1.2 q j = S.1.2 q j) ∧ (S9.1.2 0 S.1.1 = kd ∧ S9.1.2 1 S.1.1 = cg ∧ S9.1.2 2 S.1.1 = am ∧ S9.1.2 3 S.1.1 = iv ∧ S9.1.2 4 S.1.1 = pd ∧ S9.1.2 5 S.1.1 = 0 ∧ S9.1.2 6 S.1.1 = v6) ∧ S9.2 = S.2) : CplR Z S9 (upd (upd (upd (upd (upd (upd (upd (upd r (36 + 7 * S.1.1) kd) (36 + 7 * S.1.1 + 1) cg) (36 + 7 * S.1.1 + 2) am) (36 + 7 * S.1.1 + 3) iv) (36 + 7 * S.1.1 + 4) pd) (36 + 7 * S.1.1 + 5) (nI 0)) (36 + 7 * S.1.1 + 6) v6) 35 (nI (S.1.1 + 1))) ∧ Rng Z S9 := by
  obtain ⟨E9, S29⟩ := S9
  obtain ⟨e1, e2, ⟨f0, f1, f2, f3, f4, f5, f6⟩, e4⟩ := hR
  obtain rfl : S29 = S.2 := e4
  dsimp only at e1 e2 f0 f1 f2 f3 f4 f5 f6
  obtain ⟨h0, h1, h2, h3, h4, h5⟩ := hc.out
  simp only [ocAddE] at ho
  split at ho
  · rename_i hx
    split at ho
    · rename_i hn
      have hn : S.1.1 < 60 := hn
      have hx2 := and3 hx
      have hx3 := and3 hx2.2.2
      have x1 := hx2.1
      have x2 := hx2.2.1
      obtain ⟨x3, x4, x5⟩ := hx3
      refine ⟨CplR.mk (Eq.trans (by ((repeat (refine (pk_un (by omega)).trans ?_)); rfl)) h0) (h1.fr hz fun q _ _ => by ((repeat (refine (pk_un (by omega)).trans ?_)); rfl)) (h2.fr hw.2.1 fun q _ _ => by ((repeat (refine (pk_un (by omega)).trans ?_)); rfl)) ⟨?_, fun k hk q hq => ?_⟩ (h4.fr hw.2.2.1 fun q _ _ => by ((repeat (refine (pk_un (by omega)).trans ?_)); rfl)) (h5.fr hw.2.2.2.1 fun q _ _ => by ((repeat (refine (pk_un (by omega)).trans ?_)); rfl)), fun k hk => ?_, hg.2⟩
      · show upd _ 35 _ 35 = nI E9.1
        rw [pk_us, e1]
      · have hk : k < E9.1 := hk
        show _ = E9.2 q k
        by_cases hkn : k = S.1.1
        · subst hkn
          match q, hq with
          | 0, _ => rw [f0]; repeat (first | exact pk_us | refine (pk_un (by omega)).trans ?_)
          | 1, _ => rw [f1]; repeat (first | exact pk_us | refine (pk_un (by omega)).trans ?_)
          | 2, _ => rw [f2]; repeat (first | exact pk_us | refine (pk_un (by omega)).trans ?_)
          | 3, _ => rw [f3]; repeat (first | exact pk_us | refine (pk_un (by omega)).trans ?_)
          | 4, _ => rw [f4]; repeat (first | exact pk_us | refine (pk_un (by omega)).trans ?_)
          | 5, _ => rw [f5]; repeat (first | exact pk_us | refine (pk_un (by omega)).trans ?_)
          | 6, _ => rw [f6]; repeat (first | exact pk_us | refine (pk_un (by omega)).trans ?_)
          | q + 7, h => exact absurd h (by omega)
        · rw [e2 q k (by omega)]
          iterate 8 (refine (pk_un (by omega)).trans ?_)
          exact h3.2 k (by omega) q hq
      · have hk : k < E9.1 := hk
        show inN (E9.2 0 k) 0 3 ∧ inN (E9.2 1 k) 0 9 ∧ inN (E9.2 2 k) 1 10000000 ∧ inN (E9.2 3 k) 0 359 ∧ (E9.2 4 k = -1 ∨ inN (E9.2 4 k) 0 359)
        by_cases hkn : k = S.1.1
        · subst hkn
          rw [f0, f1, f2, f3, f4]
          exact ⟨inN_of x1 (by decide) (by decide), inN_of x2 (by decide) (by decide), inN_of x3 (by decide) (by decide), inN_of x4 (by decide) (by decide), inN_dn x5⟩
        · rw [e2 0 k (by omega), e2 1 k (by omega), e2 2 k (by omega), e2 3 k (by omega), e2 4 k (by omega)]
          exact hg.1 k (by omega)
    · cases ho
  · cases ho
theorem ch_addRoom {ar : Int32} (hc : CplR Z S r) (hg : Rng Z S) (hw : WfS S) (hz : Z.1 ≤ 5) (ho : ocAddR (V9 Z S) ar = .inr y9) (hR : S9.1 = S.1 ∧ (S9.2.1.1 = S.2.1.1 + 1 ∧ (∀ q j, j < S.2.1.1 → S9.2.1.2 q j = S.2.1.2 q j) ∧ (S9.2.1.2 0 S.2.1.1 = ar ∧ S9.2.1.2 1 S.2.1.1 = -1 ∧ S9.2.1.2 2 S.2.1.1 = -1)) ∧ S9.2.2 = S.2.2) : CplR Z S9 (upd (upd (upd (upd r (17 + 3 * S.2.1.1) ar) (17 + 3 * S.2.1.1 + 1) (-1)) (17 + 3 * S.2.1.1 + 2) (-1)) 16 (nI (S.2.1.1 + 1))) ∧ Rng Z S9 := by
  obtain ⟨E9, R9, S29⟩ := S9
  obtain ⟨e0, ⟨e1, e2, f0, f1, f2⟩, e4⟩ := hR
  obtain rfl : E9 = S.1 := e0
  obtain rfl : S29 = S.2.2 := e4
  dsimp only at e1 e2 f0 f1 f2
  obtain ⟨h0, h1, h2, h3, h4, h5⟩ := hc.out
  simp only [ocAddR] at ho
  split at ho
  · rename_i hx
    split at ho
    · rename_i hn
      have hn : S.2.1.1 < 6 := hn
      refine ⟨CplR.mk (Eq.trans (by ((repeat (refine (pk_un (by omega)).trans ?_)); rfl)) h0) (h1.fr hz fun q _ _ => by ((repeat (refine (pk_un (by omega)).trans ?_)); rfl)) ⟨?_, fun k hk q hq => ?_⟩ (h3.fr hw.1 fun q _ _ => by ((repeat (refine (pk_un (by omega)).trans ?_)); rfl)) (h4.fr hw.2.2.1 fun q _ _ => by ((repeat (refine (pk_un (by omega)).trans ?_)); rfl)) (h5.fr hw.2.2.2.1 fun q _ _ => by ((repeat (refine (pk_un (by omega)).trans ?_)); rfl)), hg.1, fun k hk => ?_, hg.2.2⟩
      · show upd _ 16 _ 16 = nI R9.1
        rw [pk_us, e1]
      · have hk : k < R9.1 := hk
        show _ = R9.2 q k
        by_cases hkn : k = S.2.1.1
        · subst hkn
          match q, hq with
          | 0, _ => rw [f0]; repeat (first | exact pk_us | refine (pk_un (by omega)).trans ?_)
          | 1, _ => rw [f1]; repeat (first | exact pk_us | refine (pk_un (by omega)).trans ?_)
          | 2, _ => rw [f2]; repeat (first | exact pk_us | refine (pk_un (by omega)).trans ?_)
          | q + 3, h => exact absurd h (by omega)
        · rw [e2 q k (by omega)]
          iterate 4 (refine (pk_un (by omega)).trans ?_)
          exact h2.2 k (by omega) q hq
      · have hk : k < R9.1 := hk
        show inN (R9.2 0 k) 1 500 ∧ (R9.2 1 k = -1 ∨ ∃ a b, a ≤ b ∧ b ≤ 359 ∧ R9.2 1 k = nI a ∧ R9.2 2 k = nI b)
        by_cases hkn : k = S.2.1.1
        · subst hkn
          rw [f0, f1]
          exact ⟨inN_of hx (by decide) (by decide), Or.inl rfl⟩
        · rw [e2 0 k (by omega), e2 1 k (by omega), e2 2 k (by omega)]
          exact hg.2.1 k (by omega)
    · cases ho
  · cases ho
theorem ch_setOffice {x f9 t9 : Int32} (hc : CplR Z S r) (hg : Rng Z S) (hw : WfS S) (hz : Z.1 ≤ 5) (ho : ocOff (V9 Z S) x f9 t9 = .inr y9) (hR : S9 = (S.1, rSet (rSet S.2.1 1 x.toNatClampNeg f9) 2 x.toNatClampNeg (if f9 = -1 then -1 else t9), S.2.2)) : CplR Z S9 (upd (upd r (17 + 3 * x.toNatClampNeg + 1) f9) (17 + 3 * x.toNatClampNeg + 2) (if f9 = -1 then -1 else t9)) ∧ Rng Z S9 := by
  subst hR
  obtain ⟨h0, h1, h2, h3, h4, h5⟩ := hc.out
  simp only [ocOff] at ho
  split at ho
  · cases ho
  · rename_i hx
    split at ho
    · rename_i hd
      have hi := ix_lt hx (by have := hw.2.1; show S.2.1.1 < _; omega)
      generalize x.toNatClampNeg = i at *
      have hi : i < S.2.1.1 := hi
      have h60 := hw.2.1
      refine ⟨CplR.mk (Eq.trans ((pk_un (by omega)).trans (pk_un (by omega))) h0) (h1.fr hz fun q _ _ => (pk_un (by omega)).trans (pk_un (by omega))) ⟨((pk_un (by omega)).trans (pk_un (by omega))).trans h2.1, fun k hk q hq => ?_⟩ (h3.fr hw.1 fun q _ _ => (pk_un (by omega)).trans (pk_un (by omega))) (h4.fr hw.2.2.1 fun q _ _ => (pk_un (by omega)).trans (pk_un (by omega))) (h5.fr hw.2.2.2.1 fun q _ _ => (pk_un (by omega)).trans (pk_un (by omega))), hg.1, fun k hk => ?_, hg.2.2⟩
      · have hk : k < S.2.1.1 := hk
        show upd (upd r _ f9) _ _ _ = (rSet (rSet S.2.1 1 i f9) 2 i _).2 q k
        rw [rs_at, rs_at]
        by_cases h : q = 2 ∧ k = i
        · obtain ⟨rfl, rfl⟩ := h
          rw [if_pos (show _ ∧ _ from ⟨rfl, rfl⟩)]; exact pk_us
        · rw [if_neg h, pk_un (by omega)]
          by_cases h7 : q = 1 ∧ k = i
          · obtain ⟨rfl, rfl⟩ := h7
            rw [if_pos (show _ ∧ _ from ⟨rfl, rfl⟩)]; exact pk_us
          · rw [if_neg h7, pk_un (by omega)]
            exact h2.2 k hk q hq
      · have hk : k < S.2.1.1 := hk
        obtain ⟨a1, a2⟩ := hg.2.1 k hk
        refine ⟨a1, ?_⟩
        show (rSet (rSet S.2.1 1 i f9) 2 i (if f9 = -1 then -1 else t9)).2 1 k = -1 ∨ ∃ a b, a ≤ b ∧ b ≤ 359 ∧ (rSet (rSet S.2.1 1 i f9) 2 i (if f9 = -1 then -1 else t9)).2 1 k = nI a ∧ (rSet (rSet S.2.1 1 i f9) 2 i (if f9 = -1 then -1 else t9)).2 2 k = nI b
        rw [rs_at, rs_at, rs_at, rs_at, if_neg (fun q => absurd q.1 (by decide))]
        by_cases h : k = i
        · rw [if_pos ⟨rfl, h⟩, if_pos ⟨rfl, h⟩]
          by_cases hf : f9 = -1
          · exact Or.inl hf
          · rw [if_neg hf]
            rw [Bool.or_eq_true, decide_eq_true_eq, Bool.and_eq_true] at hd
            obtain ⟨d1, d2⟩ := hd.resolve_left hf
            obtain ⟨a, -, b1, rfl⟩ := inN_of d1 (by decide) (by decide)
            obtain ⟨b, b2, b3, rfl⟩ := inN_of d2 (by decide) b1
            exact Or.inr ⟨a, b, b2, b3, rfl, rfl⟩
        · rw [if_neg (fun q => h q.2), if_neg (fun q => h q.2), if_neg (fun q => absurd q.1 (by decide))]
          exact a2
    · cases ho
theorem ch_addAsset {pr dy li : Int32} (hc : CplR Z S r) (hg : Rng Z S) (hw : WfS S) (hz : Z.1 ≤ 5) (ho : ocAddA (V9 Z S) pr dy li = .inr y9) (hR : S9.1 = S.1 ∧ S9.2.1 = S.2.1 ∧ (S9.2.2.1.1 = S.2.2.1.1 + 1 ∧ (∀ q j, j < S.2.2.1.1 → S9.2.2.1.2 q j = S.2.2.1.2 q j) ∧ (S9.2.2.1.2 0 S.2.2.1.1 = pr ∧ S9.2.2.1.2 1 S.2.2.1.1 = dy ∧ S9.2.2.1.2 2 S.2.2.1.1 = li ∧ S9.2.2.1.2 3 S.2.2.1.1 = sSort Z pr ∧ S9.2.2.1.2 4 S.2.2.1.1 = -1 ∧ S9.2.2.1.2 5 S.2.2.1.1 = -1)) ∧ S9.2.2.2 = S.2.2.2) : CplR Z S9 (upd (upd (upd (upd (upd (upd r (457 + 5 * S.2.2.1.1) pr) (457 + 5 * S.2.2.1.1 + 1) dy) (457 + 5 * S.2.2.1.1 + 2) li) (457 + 5 * S.2.2.1.1 + 3) (-1)) (457 + 5 * S.2.2.1.1 + 4) (-1)) 456 (nI (S.2.2.1.1 + 1))) ∧ Rng Z S9 := by
  obtain ⟨E9, R9, A9, S29⟩ := S9
  obtain ⟨e0, e00, ⟨e1, e2, f0, f1, f2, f3, f4, f5⟩, e4⟩ := hR
  obtain rfl : E9 = S.1 := e0
  obtain rfl : R9 = S.2.1 := e00
  obtain rfl : S29 = S.2.2.2 := e4
  dsimp only at e1 e2 f0 f1 f2 f3 f4 f5
  obtain ⟨h0, h1, h2, h3, h4, h5⟩ := hc.out
  simp only [ocAddA] at ho
  split at ho
  · rename_i hx
    split at ho
    · rename_i hn
      have hn : S.2.2.1.1 < 12 := hn
      obtain ⟨x1, x2, x3⟩ := and3 hx
      refine ⟨CplR.mk (Eq.trans (by ((repeat (refine (pk_un (by omega)).trans ?_)); rfl)) h0) (h1.fr hz fun q _ _ => by ((repeat (refine (pk_un (by omega)).trans ?_)); rfl)) (h2.fr hw.2.1 fun q _ _ => by ((repeat (refine (pk_un (by omega)).trans ?_)); rfl)) (h3.fr hw.1 fun q _ _ => by ((repeat (refine (pk_un (by omega)).trans ?_)); rfl)) ⟨?_, fun k hk q hq => ?_⟩ (h5.fr hw.2.2.2.1 fun q _ _ => by ((repeat (refine (pk_un (by omega)).trans ?_)); rfl)), hg.1, hg.2.1, fun k hk => ?_, hg.2.2.2⟩
      · show upd _ 456 _ 456 = nI A9.1
        rw [pk_us, e1]
      · have hk : k < A9.1 := hk
        show _ = A9.2 _ k
        by_cases hkn : k = S.2.2.1.1
        · subst hkn
          match q, hq with
          | 0, _ => refine Eq.trans ?_ f0.symm; repeat (first | exact pk_us | refine (pk_un (by omega)).trans ?_)
          | 1, _ => refine Eq.trans ?_ f1.symm; repeat (first | exact pk_us | refine (pk_un (by omega)).trans ?_)
          | 2, _ => refine Eq.trans ?_ f2.symm; repeat (first | exact pk_us | refine (pk_un (by omega)).trans ?_)
          | 3, _ => refine Eq.trans ?_ f4.symm; repeat (first | exact pk_us | refine (pk_un (by omega)).trans ?_)
          | 4, _ => refine Eq.trans ?_ f5.symm; repeat (first | exact pk_us | refine (pk_un (by omega)).trans ?_)
          | q + 5, h => exact absurd h (by omega)
        · rw [e2 _ k (by omega)]
          iterate 6 (refine (pk_un (by omega)).trans ?_)
          exact h4.2 k (by omega) q hq
      · have hk : k < A9.1 := hk
        show inN (A9.2 0 k) 1 5000000 ∧ inN (A9.2 1 k) 0 359 ∧ inN (A9.2 2 k) 1 120 ∧ A9.2 3 k = sSort Z (A9.2 0 k) ∧ (A9.2 4 k = -1 ∨ inN (A9.2 4 k) 0 359 ∧ inN (A9.2 5 k) 0 5000000)
        by_cases hkn : k = S.2.2.1.1
        · subst hkn
          rw [f0, f1, f2, f3, f4]
          exact ⟨inN_of x1 (by decide) (by decide), inN_of x2 (by decide) (by decide), inN_of x3 (by decide) (by decide), rfl, Or.inl rfl⟩
        · rw [e2 0 k (by omega), e2 1 k (by omega), e2 2 k (by omega), e2 3 k (by omega), e2 4 k (by omega), e2 5 k (by omega)]
          exact hg.2.2.1 k (by omega)
    · cases ho
  · cases ho
theorem ch_sellAsset {x dy pr : Int32} (hc : CplR Z S r) (hg : Rng Z S) (hw : WfS S) (hz : Z.1 ≤ 5) (ho : ocSell (V9 Z S) x dy pr = .inr y9) (hR : S9 = (S.1, S.2.1, rSet (rSet S.2.2.1 4 x.toNatClampNeg dy) 5 x.toNatClampNeg pr, S.2.2.2)) : CplR Z S9 (upd (upd r (457 + 5 * x.toNatClampNeg + 3) dy) (457 + 5 * x.toNatClampNeg + 4) pr) ∧ Rng Z S9 := by
  subst hR
  obtain ⟨h0, h1, h2, h3, h4, h5⟩ := hc.out
  simp only [ocSell] at ho
  split at ho
  · cases ho
  · rename_i hx
    split at ho
    · rename_i hd
      have hi := ix_lt hx (by have := hw.2.2.1; show S.2.2.1.1 < _; omega)
      generalize x.toNatClampNeg = i at *
      have hi : i < S.2.2.1.1 := hi
      have h60 := hw.2.2.1
      rw [Bool.and_eq_true] at hd
      refine ⟨CplR.mk (Eq.trans ((pk_un (by omega)).trans (pk_un (by omega))) h0) (h1.fr hz fun q _ _ => (pk_un (by omega)).trans (pk_un (by omega))) (h2.fr hw.2.1 fun q _ _ => (pk_un (by omega)).trans (pk_un (by omega))) (h3.fr hw.1 fun q _ _ => (pk_un (by omega)).trans (pk_un (by omega))) ⟨((pk_un (by omega)).trans (pk_un (by omega))).trans h4.1, fun k hk q hq => ?_⟩ (h5.fr hw.2.2.2.1 fun q _ _ => (pk_un (by omega)).trans (pk_un (by omega))), hg.1, hg.2.1, fun k hk => ?_, hg.2.2.2⟩
      · have hk : k < S.2.2.1.1 := hk
        show upd (upd r _ dy) _ _ _ = (rSet (rSet S.2.2.1 4 i dy) 5 i _).2 _ k
        rw [rs_at, rs_at]
        by_cases h3 : q < 3
        · rw [if_pos h3, if_neg (by omega), if_neg (by omega), pk_un (by omega), pk_un (by omega)]
          have := h4.2 k hk q hq
          rw [if_pos h3] at this
          exact this
        · rw [if_neg h3]
          by_cases h : q + 1 = 5 ∧ k = i
          · obtain ⟨hq5, rfl⟩ := h
            obtain rfl : q = 4 := by omega
            rw [if_pos (show _ ∧ _ from ⟨rfl, rfl⟩)]; exact pk_us
          · rw [if_neg h, pk_un (by omega)]
            by_cases h7 : q + 1 = 4 ∧ k = i
            · obtain ⟨hq5, rfl⟩ := h7
              obtain rfl : q = 3 := by omega
              rw [if_pos (show _ ∧ _ from ⟨rfl, rfl⟩)]; exact pk_us
            · rw [if_neg h7, pk_un (by omega)]
              have := h4.2 k hk q hq
              rw [if_neg h3] at this
              exact this
      · have hk : k < S.2.2.1.1 := hk
        obtain ⟨a1, a2, a3, a4, a5⟩ := hg.2.2.1 k hk
        refine ⟨a1, a2, a3, a4, ?_⟩
        show (rSet (rSet S.2.2.1 4 i dy) 5 i pr).2 4 k = -1 ∨ inN ((rSet (rSet S.2.2.1 4 i dy) 5 i pr).2 4 k) 0 359 ∧ inN ((rSet (rSet S.2.2.1 4 i dy) 5 i pr).2 5 k) 0 5000000
        rw [rs_at, rs_at, rs_at, rs_at, if_neg (fun q => absurd q.1 (by decide))]
        by_cases h : k = i
        · subst h
          rw [if_pos ⟨rfl, rfl⟩, if_pos ⟨rfl, rfl⟩]
          obtain ⟨d0, -, hd0, e0⟩ := a2
          have d1 : within9 dy (S.2.2.1.2 1 k) (nI 359) = true := hd.1
          rw [e0] at d1
          obtain ⟨d2, h8, h9, rfl⟩ := inN_of d1 (by decide) hd0
          exact Or.inr ⟨⟨d2, by omega, h9, rfl⟩, inN_of hd.2 (by decide) (by decide)⟩
        · rw [if_neg (fun q => h q.2), if_neg (fun q => h q.2), if_neg (fun q => absurd q.1 (by decide))]
          exact a5
    · cases ho
theorem cqAmt_N (hg : Rng Z S) (hgz : RngZ Z) (hw : WfS S) (h4 : S.2.2.2.2.1 < 4) : inN (cqAmt (V9 Z S)) 0 1000000000 := by
  obtain ⟨t, ht, e⟩ := sTgt_N hgz hg hw (q := S.2.2.2.2.1) (by omega)
  obtain ⟨a, ha, e2⟩ := sumL_N (f := fun i => (S.2.2.2.1 i).toInt64) (M := 1000000000) S.2.2.2.2.1 (fun i hi => by
    obtain ⟨n, -, n2, n3⟩ := hg.2.2.2 i hi
    exact ⟨n, n2, by show (S.2.2.2.1 i).toInt64 = _; rw [n3, nI_l (by omega)]⟩)
  have e3 : sPre S = lN a := e2
  have hD := due_N (t := t) (s := a) ht (by omega)
  refine ⟨t - a, by omega, by omega, ?_⟩
  show (if sTgt Z (nI S.2.2.2.2.1) (sProf S (nI S.2.2.2.2.1)) - sPre S < 0 then 0 else sTgt Z (nI S.2.2.2.2.1) (sProf S (nI S.2.2.2.2.1)) - sPre S).toInt32 = _
  rw [e, e3, hD, lN_i]
theorem ch_closeQuarter (hc : CplR Z S r) (hg : Rng Z S) (hgz : RngZ Z) (hw : WfS S) (hz : Z.1 ≤ 5) (ho : ocClose (V9 Z S) = .inr y9) (hR : S9 = (S.1, S.2.1, S.2.2.1, upd S.2.2.2.1 S.2.2.2.2.1 (cqAmt (V9 Z S)), S.2.2.2.2.1 + 1, S.2.2.2.2.2)) : CplR Z S9 (upd (upd r (518 + S.2.2.2.2.1) (cqAmt (V9 Z S))) 517 (nI (S.2.2.2.2.1 + 1))) ∧ Rng Z S9 := by
  subst hR
  obtain ⟨h0, h1, h2, h3, h4, h5⟩ := hc.out
  simp only [ocClose] at ho
  split at ho
  · rename_i hn
    have hn : S.2.2.2.2.1 < 4 := hn
    have hA := cqAmt_N hg hgz hw hn
    refine ⟨CplR.mk (Eq.trans ((pk_un (by omega)).trans (pk_un (by omega))) h0) (h1.fr hz fun q _ _ => (pk_un (by omega)).trans (pk_un (by omega))) (h2.fr hw.2.1 fun q _ _ => (pk_un (by omega)).trans (pk_un (by omega))) (h3.fr hw.1 fun q _ _ => (pk_un (by omega)).trans (pk_un (by omega))) (h4.fr hw.2.2.1 fun q _ _ => (pk_un (by omega)).trans (pk_un (by omega))) ⟨pk_us, fun q hq => ?_⟩, hg.1, hg.2.1, hg.2.2.1, fun q hq => ?_⟩
    · have hq : q < S.2.2.2.2.1 + 1 := hq
      refine (pk_un (by omega)).trans ?_
      show upd r _ _ _ = upd S.2.2.2.1 S.2.2.2.2.1 _ q
      by_cases h : q = S.2.2.2.2.1
      · subst h
        rw [pk_us, pk_us]
      · rw [pk_un (by omega), pk_un h]
        exact h5.2 q (by omega)
    · have hq : q < S.2.2.2.2.1 + 1 := hq
      show inN (upd S.2.2.2.1 S.2.2.2.2.1 _ q) 0 1000000000
      by_cases h : q = S.2.2.2.2.1
      · subst h
        rw [pk_us]; exact hA
      · rw [pk_un h]
        exact hg.2.2.2 q (by omega)
  · cases ho
end CHS
section ICH
variable {cy : Nat → ClassId} {A A1 A3 : AH} {W : LW} {f f2 : MF} {mb rd r sv hy rd2 r9 : Nat → Int32} {g : Nat → Int64}
theorem INV.ch (h : INV cy A W f mb rd r sv hy) {R9 : StV → Prop} (hc : ChP cy A W R9 A1) (hM : MOff (upA A1 238 (.inl (cy 1, 1, .inr (.inl g)))) A3) (hD : MdA cy A3 (fN (nI 0, f.2) (recN f.2.2.1)) mb rd r9 sv (recH hy f.2.2.1 r)) (hk : ∀ S9, R9 S9 → CplR (vZ W.1) S9 r9 ∧ Rng (vZ W.1) S9) : ∃ W9, INV cy A3 W9 (fN (nI 0, f.2) (recN f.2.2.1)) mb rd r9 sv (recH hy f.2.2.1 r) := by
  obtain ⟨hL0, hD0, ⟨⟨p1, p2, p3⟩, ⟨q1, q2⟩, ⟨s1, s2⟩, t1, t2⟩, hO⟩ := h
  obtain ⟨hf, S2, S9, hE, hR, hL⟩ := hc
  obtain ⟨k1, k2⟩ := hk S9 hR
  have hz : (vZ W.1).1 ≤ 5 := hL0.1.2.2.2.2
  have hwS := hL0.1.2.2.1
  have hH := hL0.2.2.2.2.2.1.2
  refine ⟨_, hL.fr fun k hk => (hM k (Or.inl hk)).trans (upA_ne (by omega)), hD, ⟨⟨k1, k2, p3⟩, ⟨q1, q2⟩, ⟨s1, s2⟩, ?_, ?_⟩, ?_⟩
  · show recN f.2.2.1 = (remK W.2.2.2 S2).2.1
    rw [t1]; exact recN_eq hH.2.1 S2
  · show CplH (vZ W.1) (remK W.2.2.2 S2) (recH hy f.2.2.1 r)
    rw [t1]; exact t2.rem hH (hE.wf hwS) hz (p1.ste hE) (p2.ste hE)
  · exact (OutA.o8 (hO.fr fun k hk => hf k (by omega))).fr fun k hk => hM k (Or.inr hk)
end ICH
