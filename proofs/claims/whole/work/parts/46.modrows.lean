/-! 46: the reference: what a text says -/
/-- a state in which nothing was entered -/
abbrev S0 (Z : SV) (Rm : RV) : StV := ((0, fun _ _ => 0), Rm, (0, fun _ _ => 0), fun _ => 0, 0, Z.2.1 0)
abbrev RdC (rr : Nat → Int32) (Z : SV) (Rm : RV) : Prop := CplR Z (S0 Z Rm) rr
/-- the told bits -/
def tdN (b0 b1 b2 b3 : Bool) : Int32 := (if b0 then 1 else 0) + (if b1 then 2 else 0) + (if b2 then 4 else 0) + (if b3 then 8 else 0)
def TdC (td : Int32) (fl : FL4) : Prop := ∃ b0 b1 b2 b3 : Bool, td = tdN b0 b1 b2 b3 ∧ fl = (bI b0, bI b1, bI b2, bI b3)
theorem bI_N (q : Bool) : bI q = nI (if q then 1 else 0) := by cases q <;> decide
/-- what a text may say -/
def RgP (Z : SV) (Rm : RV) : Prop := Rng Z (S0 Z Rm) ∧ RngZ Z ∧ Z.1 ≤ 5 ∧ Rm.1 ≤ 6
theorem tkV_t {tk : TK} {lo hi : Int32} (h : numOk tk lo hi = true) : tkV tk lo hi = tk.2.2.2 := if_pos h
theorem tkS_t {tx : Nat → Int32} {len : Nat} {tk : TK} {lo hi : Int32} (h : numOk tk lo hi = true) : tkS tx len tk lo hi = tokN tx len tk := if_pos h
theorem tkV_f {tk : TK} {lo hi : Int32} (h : numOk tk lo hi = false) : tkV tk lo hi = -1 := if_neg (by rw [h]; decide)
theorem tkS_f {tx : Nat → Int32} {len : Nat} {tk : TK} {lo hi : Int32} (h : numOk tk lo hi = false) : tkS tx len tk lo hi = tk := if_neg (by rw [h]; decide)
theorem numOk_w {tk : TK} {lo hi : Int32} (h : numOk tk lo hi = true) : lo ≤ tk.2.2.2 ∧ tk.2.2.2 ≤ hi := by
  unfold numOk within9 at h
  simp only [Bool.and_eq_true, decide_eq_true_eq] at h
  exact h.2
theorem numOk_ne {tk : TK} {lo hi : Int32} (h : numOk tk lo hi = true) (hlo : 0 ≤ lo) : ¬ tk.2.2.2 = -1 := by
  intro q
  have := (numOk_w h).1
  rw [q] at this
  exact absurd (Int32.le_trans hlo this) (by decide)
theorem numOk_N {tk : TK} {a b : Nat} (h : numOk tk (nI a) (nI b) = true) (hb : b < 2 ^ 31) (hab : a ≤ b) : inN tk.2.2.2 a b := by
  obtain ⟨h1, h2⟩ := numOk_w h
  obtain ⟨n, hn, e⟩ := nI_of (x := tk.2.2.2) (Int32.not_lt.mpr (Int32.le_trans (nI_pos' (by omega)) h1))
  rw [e] at h1 h2
  exact ⟨n, (nI_leI (by omega) hn).mp h1, (nI_leI hn hb).mp h2, e⟩
theorem isW_len {tx : Nat → Int32} {tk : TK} {j : Nat} (h : isW tx tk j = true) : tk.1 - tk.2.2.1 = (sB j).length := by
  unfold isW at h
  rw [Bool.and_eq_true, Bool.and_eq_true, decide_eq_true_eq, decide_eq_true_eq] at h
  exact h.2.1
theorem isW_ex {tx : Nat → Int32} {tk : TK} {j k : Nat} (h : isW tx tk j = true) (hl : ¬ (sB j).length = (sB k).length) : ¬ isW tx tk k = true := fun q => hl ((isW_len h).symm.trans (isW_len q))
theorem RdC.z {rr : Nat → Int32} {Z : SV} {Rm : RV} (h : RdC rr Z Rm) (q : Nat) (hq : q < 5) (v : Int32) : RdC (upd rr q v) (zSet Z q v) Rm := by
  obtain ⟨c0, ⟨c1, c2, c3, c4, c5⟩, cb, ⟨c16, cr⟩, ⟨c35, ce⟩, ⟨c456, ca⟩, c517, cp⟩ := h
  have hz : ∀ j, j < 5 → rr j = Z.2.1 j → upd rr q v j = (zSet Z q v).2.1 j := by
    intro j hj e
    by_cases hjq : j = q
    · subst hjq; rw [pk_us, zSet_at]
    · rw [pk_un hjq, e]; exact (if_neg hjq).symm
  refine ⟨hz 0 (by decide) c0, ⟨hz 1 (by decide) c1, hz 2 (by decide) c2, hz 3 (by decide) c3, hz 4 (by decide) c4, (pk_un (by omega)).trans c5⟩, fun k hk => ⟨(pk_un (by omega)).trans (cb k hk).1, (pk_un (by omega)).trans (cb k hk).2⟩, ⟨(pk_un (by omega)).trans c16, fun k hk q2 hq2 => (pk_un (by omega)).trans (cr k hk q2 hq2)⟩, ⟨(pk_un (by omega)).trans c35, fun k hk => absurd hk (Nat.not_lt_zero _)⟩, ⟨(pk_un (by omega)).trans c456, fun k hk => absurd hk (Nat.not_lt_zero _)⟩, (pk_un (by omega)).trans c517, fun k hk => absurd hk (Nat.not_lt_zero _)⟩
theorem RdC.b {rr : Nat → Int32} {Z : SV} {Rm : RV} (h : RdC rr Z Rm) (hz : Z.1 ≤ 4) (a b : Int32) : RdC (upd (upd (upd rr (6 + 2 * Z.1) a) (6 + 2 * Z.1 + 1) b) 5 (nI (Z.1 + 1))) (zAdd Z a b) Rm := by
  obtain ⟨c0, ⟨c1, c2, c3, c4, c5⟩, cb, ⟨c16, cr⟩, ⟨c35, ce⟩, ⟨c456, ca⟩, c517, cp⟩ := h
  have hn : ∀ j, j ≠ 5 → (j < 6 ∨ 16 ≤ j) → upd (upd (upd rr (6 + 2 * Z.1) a) (6 + 2 * Z.1 + 1) b) 5 (nI (Z.1 + 1)) j = rr j := by
    intro j h1 h2
    rw [pk_un h1, pk_un (by omega), pk_un (by omega)]
  refine ⟨(hn 0 (by omega) (by omega)).trans c0, ⟨(hn 1 (by omega) (by omega)).trans c1, (hn 2 (by omega) (by omega)).trans c2, (hn 3 (by omega) (by omega)).trans c3, (hn 4 (by omega) (by omega)).trans c4, pk_us⟩, ?_, ⟨(hn 16 (by omega) (by omega)).trans c16, fun k hk q hq => (hn _ (by omega) (by omega)).trans (cr k hk q hq)⟩, ⟨(hn 35 (by omega) (by omega)).trans c35, fun k hk => absurd hk (Nat.not_lt_zero _)⟩, ⟨(hn 456 (by omega) (by omega)).trans c456, fun k hk => absurd hk (Nat.not_lt_zero _)⟩, (hn 517 (by omega) (by omega)).trans c517, fun k hk => absurd hk (Nat.not_lt_zero _)⟩
  intro k hk
  have hk1 : k < Z.1 + 1 := hk
  show _ = upd (Z.2.2 0) Z.1 a k ∧ _ = upd (Z.2.2 1) Z.1 b k
  by_cases e : k = Z.1
  · subst e
    rw [pk_un (by omega), pk_un (by omega), pk_us, pk_us, pk_un (by omega), show 7 + 2 * Z.1 = 6 + 2 * Z.1 + 1 by omega, pk_us, pk_us]
    exact ⟨rfl, rfl⟩
  · rw [pk_un e, pk_un e, pk_un (by omega), pk_un (by omega), pk_un (by omega), pk_un (by omega), pk_un (by omega), pk_un (by omega)]
    exact cb k (by omega)
theorem RdC.r {rr : Nat → Int32} {Z : SV} {Rm : RV} (h : RdC rr Z Rm) (hz : Rm.1 ≤ 5) (hz5 : Z.1 ≤ 5) {a f t : Int32} {r2 : Nat → Int32} (h1 : r2 (17 + 3 * Rm.1) = a) (h2 : r2 (17 + 3 * Rm.1 + 1) = f) (h3 : r2 (17 + 3 * Rm.1 + 2) = t) (h4 : ∀ j, j ≠ 17 + 3 * Rm.1 → j ≠ 17 + 3 * Rm.1 + 1 → j ≠ 17 + 3 * Rm.1 + 2 → r2 j = rr j) : RdC (upd r2 16 (nI (Rm.1 + 1))) Z (rAdd Rm a f t) := by
  obtain ⟨c0, ⟨c1, c2, c3, c4, c5⟩, cb, ⟨c16, cr⟩, ⟨c35, ce⟩, ⟨c456, ca⟩, c517, cp⟩ := h
  have hn : ∀ j, (j < 16 ∨ 35 ≤ j) → upd r2 16 (nI (Rm.1 + 1)) j = rr j := by
    intro j h2
    rw [pk_un (by omega), h4 j (by omega) (by omega) (by omega)]
  refine ⟨(hn 0 (by omega)).trans c0, ⟨(hn 1 (by omega)).trans c1, (hn 2 (by omega)).trans c2, (hn 3 (by omega)).trans c3, (hn 4 (by omega)).trans c4, (hn 5 (by omega)).trans c5⟩, fun k hk => ⟨(hn _ (by omega)).trans (cb k hk).1, (hn _ (by omega)).trans (cb k hk).2⟩, ⟨pk_us, ?_⟩, ⟨(hn 35 (by omega)).trans c35, fun k hk => absurd hk (Nat.not_lt_zero _)⟩, ⟨(hn 456 (by omega)).trans c456, fun k hk => absurd hk (Nat.not_lt_zero _)⟩, (hn 517 (by omega)).trans c517, fun k hk => absurd hk (Nat.not_lt_zero _)⟩
  intro k hk q hq
  have hk1 : k < Rm.1 + 1 := hk
  rw [pk_un (by omega)]
  by_cases e : k = Rm.1
  · subst e
    rcases (show q = 0 ∨ q = 1 ∨ q = 2 by omega) with rfl | rfl | rfl
    · show _ = upd (Rm.2 0) Rm.1 a Rm.1; rw [pk_us]; exact h1
    · show _ = upd (Rm.2 1) Rm.1 f Rm.1; rw [pk_us]; exact h2
    · show _ = upd (Rm.2 2) Rm.1 t Rm.1; rw [pk_us]; exact h3
  · rw [h4 _ (by omega) (by omega) (by omega)]
    refine (cr k (by show k < Rm.1; omega) q hq).trans ?_
    rcases (show q = 0 ∨ q = 1 ∨ q = 2 by omega) with rfl | rfl | rfl
    · show Rm.2 0 k = upd (Rm.2 0) Rm.1 a k; rw [pk_un e]
    · show Rm.2 1 k = upd (Rm.2 1) Rm.1 f k; rw [pk_un e]
    · show Rm.2 2 k = upd (Rm.2 2) Rm.1 t k; rw [pk_un e]
theorem RgP.z {Z : SV} {Rm : RV} (h : RgP Z Rm) (q : Nat) (v : Int32) (h3 : q = 3 → inN v 0 100) (h4 : q = 4 → inN v 0 900) : RgP (zSet Z q v) Rm := by
  obtain ⟨⟨g1, g2, g3, g4⟩, ⟨z1, z2, z3, z4⟩, h5, h6⟩ := h
  refine ⟨⟨fun k hk => absurd hk (Nat.not_lt_zero _), g2, fun k hk => absurd hk (Nat.not_lt_zero _), fun k hk => absurd hk (Nat.not_lt_zero _)⟩, ⟨z1, z2, ?_, ?_⟩, h5, h6⟩
  · show inN (if 3 = q then v else Z.2.1 3) 0 100
    split
    · exact h3 (by omega)
    · exact z3
  · show inN (if 4 = q then v else Z.2.1 4) 0 900
    split
    · exact h4 (by omega)
    · exact z4
theorem lastL_N {Z : SV} (hgz : RngZ Z) : ∃ n, n ≤ 99999999 ∧ lastL Z = nI n ∧ (Z.1 = 0 → n = 0) ∧ ∀ j, j + 1 = Z.1 → Z.2.2 0 j = nI n := by
  unfold lastL
  by_cases h : Z.1 = 0
  · exact ⟨0, by decide, by rw [if_pos h], fun _ => rfl, fun j hj => by omega⟩
  · obtain ⟨n, -, h2, h3⟩ := (hgz.1 (Z.1 - 1) (by omega)).1
    exact ⟨n, h2, by rw [if_neg h, h3], fun q => absurd q h, fun j hj => by rw [show j = Z.1 - 1 by omega, h3]⟩
theorem RgP.b {Z : SV} {Rm : RV} (h : RgP Z Rm) (hz : Z.1 ≤ 4) {a b : Int32} {n x : Nat} (hl : lastL Z = nI n) (hl2 : ∀ j, j + 1 = Z.1 → Z.2.2 0 j = nI n) (ha : a = nI x) (h1 : n + 1 ≤ x) (h2 : x ≤ 99999999) (hb : inN b 0 900) : RgP (zAdd Z a b) Rm := by
  obtain ⟨⟨g1, g2, g3, g4⟩, ⟨z1, z2, z3, z4⟩, h5, h6⟩ := h
  refine ⟨⟨fun k hk => absurd hk (Nat.not_lt_zero _), g2, fun k hk => absurd hk (Nat.not_lt_zero _), fun k hk => absurd hk (Nat.not_lt_zero _)⟩, ⟨?_, ?_, z3, z4⟩, by show Z.1 + 1 ≤ 5; omega, h6⟩
  · intro k hk
    have hk1 : k < Z.1 + 1 := hk
    show inN (upd (Z.2.2 0) Z.1 a k) 1 99999999 ∧ inN (upd (Z.2.2 1) Z.1 b k) 0 900
    by_cases e : k = Z.1
    · subst e; rw [pk_us, pk_us]; exact ⟨⟨x, by omega, h2, ha⟩, hb⟩
    · rw [pk_un e, pk_un e]; exact z1 k (by omega)
  · intro k hk
    have hk1 : k + 1 < Z.1 + 1 := hk
    show ∃ a' b', upd (Z.2.2 0) Z.1 a k = nI a' ∧ upd (Z.2.2 0) Z.1 a (k + 1) = nI b' ∧ a' < b' ∧ b' ≤ 99999999
    by_cases e : k + 1 = Z.1
    · rw [pk_un (by omega), e, pk_us]
      exact ⟨n, x, hl2 k e, ha, by omega, h2⟩
    · rw [pk_un (by omega), pk_un (by omega)]
      exact z2 k (by omega)
theorem RgP.r {Z : SV} {Rm : RV} (h : RgP Z Rm) (hz : Rm.1 ≤ 5) {a f t : Int32} (h1 : inN a 1 500) (h2 : f = -1 ∨ ∃ x y, x ≤ y ∧ y ≤ 359 ∧ f = nI x ∧ t = nI y) : RgP Z (rAdd Rm a f t) := by
  obtain ⟨⟨g1, g2, g3, g4⟩, hz2, h5, h6⟩ := h
  refine ⟨⟨fun k hk => absurd hk (Nat.not_lt_zero _), ?_, fun k hk => absurd hk (Nat.not_lt_zero _), fun k hk => absurd hk (Nat.not_lt_zero _)⟩, hz2, h5, by show Rm.1 + 1 ≤ 6; omega⟩
  intro k hk
  have hk1 : k < Rm.1 + 1 := hk
  show inN (upd (Rm.2 0) Rm.1 a k) 1 500 ∧ (upd (Rm.2 1) Rm.1 f k = -1 ∨ ∃ x y, x ≤ y ∧ y ≤ 359 ∧ upd (Rm.2 1) Rm.1 f k = nI x ∧ upd (Rm.2 2) Rm.1 t k = nI y)
  by_cases e : k = Rm.1
  · subst e; rw [pk_us, pk_us, pk_us]; exact ⟨h1, h2⟩
  · rw [pk_un e, pk_un e, pk_un e]; exact g2 k (by show k < Rm.1; omega)
/-- how a statement of a text was read -/
def RES (cy : Nat → ClassId) (A : AH) (th : Int32) (len en : Nat) (sv : Int32) (mb tx : Nat → Int32) (R : Bool × PS) : Prop := ∃ td rr, (R.1 = true ∧ MS cy A th len (-1) en sv mb tx R.2.1 td rr ∧ TdC td R.2.2.1 ∧ RdC rr R.2.2.2.1 R.2.2.2.2 ∧ RgP R.2.2.2.1 R.2.2.2.2) ∨ (R.1 = false ∧ ∃ tk, MS cy A th len (nI R.2.1.2.2.1) en sv mb tx tk td rr)
theorem RES.bad {cy : Nat → ClassId} {A : AH} {th : Int32} {len en : Nat} {sv : Int32} {mb tx : Nat → Int32} {R : Bool × PS} {td : Int32} {rr : Nat → Int32} {tk : TK} {w : Nat} (h1 : R.1 = false) (h2 : R.2.1.2.2.1 = w) (h : MS cy A th len (nI w) en sv mb tx tk td rr) : RES cy A th len en sv mb tx R := by
  subst h2; exact ⟨td, rr, Or.inr ⟨h1, tk, h⟩⟩
theorem RES.good {cy : Nat → ClassId} {A : AH} {th : Int32} {len en : Nat} {sv : Int32} {mb tx : Nat → Int32} {R : Bool × PS} {td : Int32} {rr : Nat → Int32} {s2 : PS} (e : R = (true, s2)) (h : MS cy A th len (-1) en sv mb tx s2.1 td rr) (hT : TdC td s2.2.1) (hC : RdC rr s2.2.2.1 s2.2.2.2) (hg : RgP s2.2.2.1 s2.2.2.2) : RES cy A th len en sv mb tx R := by
  subst e; exact ⟨td, rr, Or.inl ⟨rfl, h, hT, hC, hg⟩⟩
def mZ (rr : Nat → Int32) : Nat → Nat → Int32
  | 0 => rr
  | n + 1 => upd (mZ rr n) n (nI 0)
theorem mZ_0 (rr : Nat → Int32) : ∀ n j, j < n → mZ rr n j = nI 0
  | n + 1, j, h => by
    rw [mZ]
    by_cases e : j = n
    · subst e; rw [pk_us]
    · rw [pk_un e]; exact mZ_0 rr n j (by omega)
def mB (rr : Nat → Int32) : Nat → Int32 := upd (upd (upd (upd (mZ rr 522) 1 (nI 80000)) 2 (nI 100000)) 3 (nI 5)) 4 (nI 420)
theorem mB_C (rr : Nat → Int32) (Z : SV) (Rm : RV) : RdC (mB rr) (zDef Z) (0, Rm.2) := by
  have h0 : ∀ j, j < 522 → (j = 0 ∨ 5 ≤ j) → mB rr j = nI 0 := by
    intro j hj h
    unfold mB
    rw [pk_un (by omega), pk_un (by omega), pk_un (by omega), pk_un (by omega)]
    exact mZ_0 rr 522 j hj
  have e1 : mB rr 1 = nI 80000 := by unfold mB; rw [pk_un (by decide), pk_un (by decide), pk_un (by decide), pk_us]
  have e2 : mB rr 2 = nI 100000 := by unfold mB; rw [pk_un (by decide), pk_un (by decide), pk_us]
  have e3 : mB rr 3 = nI 5 := by unfold mB; rw [pk_un (by decide), pk_us]
  have e4 : mB rr 4 = nI 420 := by unfold mB; rw [pk_us]
  exact ⟨h0 0 (by decide) (by decide), ⟨e1, e2, e3, e4, h0 5 (by decide) (by decide)⟩, fun k hk => absurd hk (Nat.not_lt_zero _), ⟨h0 16 (by decide) (by decide), fun k hk => absurd hk (Nat.not_lt_zero _)⟩, ⟨h0 35 (by decide) (by decide), fun k hk => absurd hk (Nat.not_lt_zero _)⟩, ⟨h0 456 (by decide) (by decide), fun k hk => absurd hk (Nat.not_lt_zero _)⟩, h0 517 (by decide) (by decide), fun k hk => absurd hk (Nat.not_lt_zero _)⟩
theorem mB_R (Z : SV) (Rm : RV) : RgP (zDef Z) (0, Rm.2) := ⟨⟨fun k hk => absurd hk (Nat.not_lt_zero _), fun k hk => absurd hk (Nat.not_lt_zero _), fun k hk => absurd hk (Nat.not_lt_zero _), fun k hk => absurd hk (Nat.not_lt_zero _)⟩, ⟨fun k hk => absurd hk (Nat.not_lt_zero _), fun k hk => absurd hk (Nat.not_lt_zero _), ⟨5, by decide, by decide, rfl⟩, ⟨420, by decide, by decide, rfl⟩⟩, Nat.zero_le _, Nat.zero_le _⟩
set_option maxRecDepth 100000 in
set_option maxHeartbeats 400000 in
theorem lp_X8_begin (l : Launch) (D : va_G) (cy : Nat → ClassId) (B : Nat) (od : Nat → Option Nat) {p : Program} {e : Env} {s : State} {m : MethodId} {args : Array Value} {below : List Frame} {meth : Method} {c : Code} {A : AH} {z : Nat} {th at9 fr kd wr : Int32} {num : Int64} {len en : Nat} {td sv : Int32} {rr : Nat → Int32} (hM : A 231 = some (mP th len at9 fr kd wr num en td sv))  (X : Cx p s m args meth c D cy B od cX8_begin 2 tX8_begin RX8 none) : ∀ (k i : Nat), 0 ≤ i → i ≤ 522 → 522 - i < k → G p l e rmX8_begin s m args below meth c D B od 2 tX8_begin (FinQ false D B od (fun v A' z' => z' = z ∧ (fun v A' => v = none ∧ A' = upA (upA A 233 (.inl (cy 0, 522, .inl (mB rr)))) 231 (mP th len at9 fr kd wr num en (nI 0) sv)) v A') (fun _ _ => True) args s below rmX8_begin.cells rmX8_begin.slots) 0 0 (upA A 233 (.inl (cy 0, 522, .inl (mZ rr i)))) z 2 [some (.ref 231), some (.int (nI i))] [] := by
  intro k
  induction k with
  | zero => intro i _ _ h; omega
  | succ k ih =>
    intro i  hlo hi hk
    have hrd : upA A 233 (.inl (cy 0, 522, .inl (mZ rr i))) 233 = some (.inl (cy 0, 522, .inl (mZ rr i))) := upA_eq
    refine g_iload_n X rfl rfl ?_
    refine g_sipush X rfl (v := nI 522) (by decide) ?_
    first | refine g_ic_geN X rfl (by omega) (by omega) (fun h1 => ?_) (fun h1 => ?_) | refine g_icmp_ge X rfl (fun h1 => ?_) (fun h1 => ?_)
    · refine g_aload_n X rfl rfl ?_
      refine g_get X rfl flX8_13 (ci := 8) rfl (by (repeat (first | exact hM | exact upA_eq | refine (upA_ne (by omega)).trans ?_))) rfl ?_
      refine g_iconst X rfl (v := nI 1) (by decide) ?_
      refine g_ldc X rfl kcX8_118 ?_
      refine g_iastN X rfl (by (repeat (first | exact upA_eq | refine (upA_ne (by omega)).trans ?_))) (by omega) (by decide) ?_
      first | rw [upA_up] | skip
      refine g_aload_n X rfl rfl ?_
      refine g_get X rfl flX8_13 (ci := 8) rfl (by (repeat (first | exact hM | exact upA_eq | refine (upA_ne (by omega)).trans ?_))) rfl ?_
      refine g_iconst X rfl (v := nI 2) (by decide) ?_
      refine g_ldc X rfl kcX8_119 ?_
      refine g_iastN X rfl (by (repeat (first | exact upA_eq | refine (upA_ne (by omega)).trans ?_))) (by omega) (by decide) ?_
      first | rw [upA_up] | skip
      refine g_aload_n X rfl rfl ?_
      refine g_get X rfl flX8_13 (ci := 8) rfl (by (repeat (first | exact hM | exact upA_eq | refine (upA_ne (by omega)).trans ?_))) rfl ?_
      refine g_iconst X rfl (v := nI 3) (by decide) ?_
      refine g_iconst X rfl (v := nI 5) (by decide) ?_
      refine g_iastN X rfl (by (repeat (first | exact upA_eq | refine (upA_ne (by omega)).trans ?_))) (by omega) (by decide) ?_
      first | rw [upA_up] | skip
      refine g_aload_n X rfl rfl ?_
      refine g_get X rfl flX8_13 (ci := 8) rfl (by (repeat (first | exact hM | exact upA_eq | refine (upA_ne (by omega)).trans ?_))) rfl ?_
      refine g_iconst X rfl (v := nI 4) (by decide) ?_
      refine g_sipush X rfl (v := nI 420) (by decide) ?_
      refine g_iastN X rfl (by (repeat (first | exact upA_eq | refine (upA_ne (by omega)).trans ?_))) (by omega) (by decide) ?_
      first | rw [upA_up] | skip
      refine g_aload_n X rfl rfl ?_
      refine g_iconst X rfl (v := nI 0) (by decide) ?_
      refine g_put X rfl flX8_120 rfl (ci := 8) rfl (by (repeat (first | exact hM | exact upA_eq | refine (upA_ne (by omega)).trans ?_))) (Nat.le_of_ble_eq_true rfl) (by first | rfl | exact bI_nar _) (by first | rfl | decide) ?_
      refine g_vret X rfl rfl (Nat.le_of_ble_eq_true rfl) (Nat.le_of_ble_eq_true rfl) ⟨rfl, ?_⟩
      exact ⟨rfl, by rw [show i = 522 by omega]; rfl⟩
    · refine g_aload_n X rfl rfl ?_
      refine g_get X rfl flX8_13 (ci := 8) rfl (by (repeat (first | exact hM | exact upA_eq | refine (upA_ne (by omega)).trans ?_))) rfl ?_
      refine g_iload_n X rfl rfl ?_
      refine g_iconst X rfl (v := nI 0) (by decide) ?_
      refine g_iastN X rfl (by (repeat (first | exact upA_eq | refine (upA_ne (by omega)).trans ?_))) (by omega) (by decide) ?_
      first | rw [upA_up] | skip
      refine g_iinc1 X rfl rfl (by decide) ?_
      refine g_goto X rfl ?_
      exact ih (i + 1) (by omega) (by omega) (by omega)
set_option maxRecDepth 100000 in
set_option maxHeartbeats 400000 in
theorem cm_X8_begin (l : Launch) (D : va_G) (cy : Nat → ClassId) (B : Nat) (od : Nat → Option Nat) {A : AH} {th at9 fr kd wr : Int32} {num : Int64} {len en : Nat} {td sv : Int32} {rr : Nat → Int32} (hM : A 231 = some (mP th len at9 fr kd wr num en td sv)) (hrd : A 233 = some (.inl (cy 0, 522, .inl rr)))  : CM l D cy B od yX8_begin cX8_begin 2 none rmX8_begin [.ref 231] A (fun v A' => v = none ∧ A' = upA (upA A 233 (.inl (cy 0, 522, .inl (mB rr)))) 231 (mP th len at9 fr kd wr num en (nI 0) sv)) := by
  intro z
  refine CT.of (by decide) tX8_begin okX8_begin (Nat.le_of_ble_eq_true rfl) (q0 := tX8_begin[0]) rfl rfl ?_
  intro p e s m args below meth c X _
  refine g_iconst X rfl (v := nI 0) (by decide) ?_
  refine g_istore_n X rfl (by decide) ?_
  refine G.cast (A2 := upA A 233 (.inl (cy 0, 522, .inl (mZ rr 0)))) (upA_same hrd).symm ?_
  exact lp_X8_begin l D cy B od hM X 523 0 (by omega) (by omega) (by omega)
set_option maxRecDepth 100000 in
set_option maxHeartbeats 400000 in
theorem cm_X8_readBracket (l : Launch) (D : va_G) (cy : Nat → ClassId) (B : Nat) (od : Nat → Option Nat) {A : AH} {th at9 fr kd wr : Int32} {num : Int64} {len en : Nat} {td sv : Int32} {rr : Nat → Int32} (hM : A 231 = some (mP th len at9 fr kd wr num en td sv)) (hrd : A 233 = some (.inl (cy 0, 522, .inl rr))) {n9 : Nat} {a9 b9 : Int32} (h5 : rr 5 = nI n9) (hn : n9 ≤ 4) : CM l D cy B od yX8_readBracket cX8_readBracket 4 none rmX8_readBracket [.ref 231, .int a9, .int b9] A (fun v A' => v = none ∧ A' = upA A 233 (.inl (cy 0, 522, .inl (upd (upd (upd rr (6 + 2 * n9) a9) (6 + 2 * n9 + 1) b9) 5 (nI (n9 + 1)))))) := by
  intro z
  refine CT.of (by decide) tX8_readBracket okX8_readBracket (Nat.le_of_ble_eq_true rfl) (q0 := tX8_readBracket[0]) rfl rfl ?_
  intro p e s m args below meth c X _
  refine g_bipush X rfl (v := nI 6) (by decide) ?_
  refine g_iconst X rfl (v := nI 2) (by decide) ?_
  refine g_aload_n X rfl rfl ?_
  refine g_get X rfl flX8_13 (ci := 8) rfl (by (repeat (first | exact hM | exact upA_eq | refine (upA_ne (by omega)).trans ?_))) rfl ?_
  refine g_iconst X rfl (v := nI 5) (by decide) ?_
  refine g_ialdN X rfl (by (repeat (first | exact hrd | exact upA_eq | refine (upA_ne (by omega)).trans ?_))) (by omega) (by decide) ?_
  rw [h5]
  refine g_imul X rfl ?_
  refine g_iadd X rfl ?_
  rw [pk_mul, nI_add]
  refine g_istore_n X rfl (by decide) ?_
  refine g_aload_n X rfl rfl ?_
  refine g_get X rfl flX8_13 (ci := 8) rfl (by (repeat (first | exact hM | exact upA_eq | refine (upA_ne (by omega)).trans ?_))) rfl ?_
  refine g_iload_n X rfl rfl ?_
  refine g_iload_n X rfl rfl ?_
  refine g_iastN X rfl (by (repeat (first | exact hrd | exact upA_eq | refine (upA_ne (by omega)).trans ?_))) (by omega) (by decide) ?_
  first | rw [upA_up] | skip
  refine g_aload_n X rfl rfl ?_
  refine g_get X rfl flX8_13 (ci := 8) rfl (by (repeat (first | exact hM | exact upA_eq | refine (upA_ne (by omega)).trans ?_))) rfl ?_
  refine g_iload_n X rfl rfl ?_
  refine g_iconst X rfl (v := nI 1) (by decide) ?_
  refine g_iadd X rfl ?_
  rw [nI_add]
  refine g_iload_n X rfl rfl ?_
  refine g_iastN X rfl (by (repeat (first | exact hrd | exact upA_eq | refine (upA_ne (by omega)).trans ?_))) (by omega) (by decide) ?_
  first | rw [upA_up] | skip
  refine g_aload_n X rfl rfl ?_
  refine g_get X rfl flX8_13 (ci := 8) rfl (by (repeat (first | exact hM | exact upA_eq | refine (upA_ne (by omega)).trans ?_))) rfl ?_
  refine g_iconst X rfl (v := nI 5) (by decide) ?_
  refine g_dup2 X rfl rfl rfl ?_
  refine g_ialdN X rfl upA_eq (by omega) (by decide) ?_
  rw [show upd (upd rr (6 + 2 * n9) a9) (6 + 2 * n9 + 1) b9 5 = nI n9 by rw [pk_un (by omega), pk_un (by omega), h5]]
  refine g_iconst X rfl (v := nI 1) (by decide) ?_
  refine g_iadd X rfl ?_
  rw [nI_add]
  refine g_iastN X rfl (by (repeat (first | exact hrd | exact upA_eq | refine (upA_ne (by omega)).trans ?_))) (by omega) (by decide) ?_
  first | rw [upA_up] | skip
  refine g_vret X rfl rfl (Nat.le_of_ble_eq_true rfl) (Nat.le_of_ble_eq_true rfl) ⟨rfl, ?_⟩
  exact ⟨rfl, rfl⟩
set_option maxRecDepth 100000 in
set_option maxHeartbeats 400000 in
theorem cm_X8_bracketStatement (l : Launch) (D : va_G) (cy : Nat → ClassId) (B : Nat) (od : Nat → Option Nat) {A : AH} {th : Int32} {len en : Nat} {td sv : Int32} {mb tx rr : Nat → Int32} {u : PS} (hS : MS cy A th len (-1) en sv mb tx u.1 td rr) (hT : TdC td u.2.1) (hC : RdC rr u.2.2.1 u.2.2.2) (hg : RgP u.2.2.1 u.2.2.2)  : CM l D cy B od yX8_bracketStatement cX8_bracketStatement 4 none rmX8_bracketStatement [.ref 231] A (fun v A' => v = none ∧ MFr A A' ∧ RES cy A' th len en sv mb tx (rdBracket tx len u)) := by
  intro z
  refine CT.of (by decide) tX8_bracketStatement okX8_bracketStatement (Nat.le_of_ble_eq_true rfl) (q0 := tX8_bracketStatement[0]) rfl rfl ?_
  intro p e s m args below meth c X _
  obtain ⟨num, hM, hX, hrd, hT3, hNk⟩ := id hS
  have hT1 := hT3.1.1
  have hT2 := hT3.1.2
  obtain ⟨hb, hlen, hal, hpos⟩ := id hX
  obtain ⟨c0, ⟨c1, c2, c3, c4, c5⟩, cb, ⟨c16, cr⟩, -⟩ := id hC
  obtain ⟨hg1, hgz, hz5, hr6⟩ := id hg
  obtain ⟨nl, hl1, hln, hl0, hlj⟩ := lastL_N hgz
  refine g_aload_n X rfl rfl ?_
  refine g_get X rfl flX8_13 (ci := 8) rfl (by (repeat (first | exact hM | exact upA_eq | refine (upA_ne (by omega)).trans ?_))) rfl ?_
  refine g_iconst X rfl (v := nI 5) (by decide) ?_
  refine g_ialdN X rfl (by (repeat (first | exact hrd | exact upA_eq | refine (upA_ne (by omega)).trans ?_))) (by omega) (by decide) ?_
  rw [c5]
  refine g_istore_n X rfl (by decide) ?_
  refine g_iload_n X rfl rfl ?_
  refine g_iconst X rfl (v := nI 5) (by decide) ?_
  first | refine g_ic_neN X rfl (by omega) (by omega) (fun h1 => ?_) (fun h1 => ?_) | refine g_icmp_ne X rfl (fun h1 => ?_) (fun h1 => ?_)
  · refine g_aload_n X rfl rfl ?_
    refine g_mV X rfl lcX8_step lmX8_115 lsX8_step (cm_X8_step l D cy B od (nm := u.1.2.2.2) hM hX hT3.1.1) (ci := 8) (by (repeat (first | exact hM | exact upA_eq | refine (upA_ne (by omega)).trans ?_))) rfl rfl rfl (Nat.le_of_ble_eq_true rfl) ⟨⟨by decide, by decide⟩, rfl, rfl⟩ ⟨Nat.le_of_ble_eq_true rfl, Nat.le_of_ble_eq_true rfl⟩ (fun v2 A2 q2 => ?_)
    obtain ⟨rfl, n9, tk9, hn9, e9, rfl⟩ := q2
    have hS1 := hS.step e9 hn9
    have hF1 := (MFr.refl A).m (x := mP th len (nI tk9.1) (nI tk9.2.2.1) tk9.2.1 (-1) n9 en td sv)
    obtain ⟨num1, hM, hX, hrd, hT3, hNk⟩ := id hS1
    have hT1 := hT3.1.1
    have hT2 := hT3.1.2
    refine g_iload_n X rfl rfl ?_
    refine g_if_ne X rfl (fun h3 => ?_) (fun h3 => ?_)
    · rw [nI_eq0 (by omega)] at h3
      have hz9 : 0 < u.2.2.1.1 := by omega
      refine g_aload_n X rfl rfl ?_
      refine g_get X rfl flX8_13 (ci := 8) rfl (by (repeat (first | exact hM | exact upA_eq | refine (upA_ne (by omega)).trans ?_))) rfl ?_
      refine g_bipush X rfl (v := nI 6) (by decide) ?_
      refine g_iconst X rfl (v := nI 2) (by decide) ?_
      refine g_iload_n X rfl rfl ?_
      refine g_imul X rfl ?_
      refine g_iadd X rfl ?_
      refine g_iconst X rfl (v := nI 2) (by decide) ?_
      refine g_isub X rfl ?_
      rw [pk_mul, nI_add, pk_sub (by omega)]
      refine g_ialdN X rfl (by (repeat (first | exact hrd | exact upA_eq | refine (upA_ne (by omega)).trans ?_))) (by omega) (by decide) ?_
      rw [show 6 + 2 * u.2.2.1.1 - 2 = 6 + 2 * (u.2.2.1.1 - 1) by omega, (cb (u.2.2.1.1 - 1) (by omega)).1, show u.2.2.1.2.2 0 (u.2.2.1.1 - 1) = lastL u.2.2.1 from (if_neg (by omega)).symm]
      refine g_iconst X rfl (v := nI 1) (by decide) ?_
      refine g_iadd X rfl ?_
      first | rw [show nI 1 = lastL u.2.2.1 + nI 1 by rw [hln, hl0 (by assumption)]; decide] | skip
      refine g_istore_n X rfl (by decide) ?_
      refine g_aload_n X rfl rfl ?_
      refine g_iload_n X rfl rfl ?_
      refine g_ldc X rfl kcX8_123 ?_
      refine g_mV X rfl lcX8_takeNumber lmX8_124 lsX8_takeNumber (cm_X8_takeNumber l D cy B od hS1 (by rw [hln, nI_add]; exact nI_pos' (by omega))) (ci := 8) (by (repeat (first | exact hM | exact upA_eq | refine (upA_ne (by omega)).trans ?_))) rfl rfl rfl (Nat.le_of_ble_eq_true rfl) ⟨⟨by decide, by decide⟩, rfl, rfl⟩ ⟨Nat.le_of_ble_eq_true rfl, Nat.le_of_ble_eq_true rfl⟩ (fun v4 A4 q4 => ?_)
      rcases q4 with ⟨hok, rfl, hF2, hS2⟩ | ⟨hok, rfl, hF2, hS2⟩
      · obtain ⟨num2, hM, -, hrd, -⟩ := id hS2
        refine g_istore_n X rfl (by decide) ?_
        refine g_aload_n X rfl rfl ?_
        refine g_iload_n X rfl rfl ?_
        refine g_aload_n X rfl rfl ?_
        refine g_iconst X rfl (v := nI 0) (by decide) ?_
        refine g_sipush X rfl (v := nI 900) (by decide) ?_
        refine g_mV X rfl lcX8_takeNumber lmX8_124 lsX8_takeNumber (cm_X8_takeNumber l D cy B od hS2 (lo := nI 0) (by decide)) (ci := 8) (by (repeat (first | exact hM | exact upA_eq | refine (upA_ne (by omega)).trans ?_))) rfl rfl rfl (Nat.le_of_ble_eq_true rfl) ⟨⟨by decide, by decide⟩, rfl, rfl⟩ ⟨Nat.le_of_ble_eq_true rfl, Nat.le_of_ble_eq_true rfl⟩ (fun v5 A5 q5 => ?_)
        rcases q5 with ⟨hok2, rfl, hF3, hS3⟩ | ⟨hok2, rfl, hF3, hS3⟩
        · obtain ⟨num3, hM, -, hrd, -⟩ := id hS3
          refine g_mV X rfl lcX8_readBracket lmX8_33 lsX8_readBracket (cm_X8_readBracket l D cy B od hM hrd c5 (by omega)) (ci := 8) (by (repeat (first | exact hM | exact upA_eq | refine (upA_ne (by omega)).trans ?_))) rfl rfl rfl (Nat.le_of_ble_eq_true rfl) ⟨⟨by decide, by decide⟩, rfl, rfl⟩ ⟨Nat.le_of_ble_eq_true rfl, Nat.le_of_ble_eq_true rfl⟩ (fun v6 A6 q6 => ?_)
          obtain ⟨rfl, rfl⟩ := q6
          refine g_vret X rfl rfl (Nat.le_of_ble_eq_true rfl) (Nat.le_of_ble_eq_true rfl) ⟨rfl, ?_⟩
          obtain ⟨x9, hx1, hx2, hx3⟩ := numOk_N (a := nl + 1) (b := 99999999) (by rw [← nI_add, ← hln]; exact hok) (by decide) (by have := (numOk_w hok); rw [hln, nI_add] at this; obtain ⟨y, hy, ey⟩ := nI_of (x := (tokN tx len u.1).2.2.2) (Int32.not_lt.mpr (Int32.le_trans (nI_pos' (by omega)) this.1)); rw [ey] at this; have h7 := (nI_leI (by omega) hy).mp this.1; have h8 := (nI_leI hy (by decide)).mp this.2; omega)
          have hb9 := numOk_N (a := 0) (b := 900) hok2 (by decide) (by decide)
          exact ⟨rfl, ((hF1.trans hF2).trans hF3).r, RES.good (s2 := (tokN tx len (tokN tx len (tokN tx len u.1)), u.2.1, zAdd u.2.2.1 (tokN tx len u.1).2.2.2 (tokN tx len (tokN tx len u.1)).2.2.2, u.2.2.2)) (by rw [rdBracket, if_neg (show ¬ 5 ≤ u.2.2.1.1 by omega), if_neg (by rw [tkV_t hok]; exact numOk_ne hok (by rw [hln, nI_add]; exact nI_pos' (by omega))), rdBr2, tkS_t hok, if_neg (by rw [tkV_t hok2]; exact numOk_ne hok2 (by decide)), tkV_t hok, tkV_t hok2, tkS_t hok2]) hS3.r hT (hC.b (by omega) _ _) (hg.b (by omega) hln hlj hx3 hx1 hx2 hb9)⟩
        · obtain ⟨num3, hM, -, hrd, -⟩ := id hS3
          refine g_mV X rfl lcX8_readBracket lmX8_33 lsX8_readBracket (cm_X8_readBracket l D cy B od hM hrd c5 (by omega)) (ci := 8) (by (repeat (first | exact hM | exact upA_eq | refine (upA_ne (by omega)).trans ?_))) rfl rfl rfl (Nat.le_of_ble_eq_true rfl) ⟨⟨by decide, by decide⟩, rfl, rfl⟩ ⟨Nat.le_of_ble_eq_true rfl, Nat.le_of_ble_eq_true rfl⟩ (fun v7 A7 q7 => ?_)
          obtain ⟨rfl, rfl⟩ := q7
          refine g_vret X rfl rfl (Nat.le_of_ble_eq_true rfl) (Nat.le_of_ble_eq_true rfl) ⟨rfl, ?_⟩
          exact ⟨rfl, ((hF1.trans hF2).trans hF3).r, RES.bad (by rw [rdBracket, if_neg (show ¬ 5 ≤ u.2.2.1.1 by omega), if_neg (by rw [tkV_t hok]; exact numOk_ne hok (by rw [hln, nI_add]; exact nI_pos' (by omega))), rdBr2, tkS_t hok, if_pos (tkV_f hok2)]) (by rw [rdBracket, if_neg (show ¬ 5 ≤ u.2.2.1.1 by omega), if_neg (by rw [tkV_t hok]; exact numOk_ne hok (by rw [hln, nI_add]; exact nI_pos' (by omega))), rdBr2, tkS_t hok, if_pos (tkV_f hok2), tkS_f hok2]) hS3.r⟩
      · have hwb : ¬ nI (tokN tx len u.1).2.2.1 < 0 := nI_pos (by omega)
        obtain ⟨num2, hM, -, hrd, -⟩ := id hS2
        refine g_istore_n X rfl (by decide) ?_
        refine g_aload_n X rfl rfl ?_
        refine g_iload_n X rfl rfl ?_
        refine g_aload_n X rfl rfl ?_
        refine g_iconst X rfl (v := nI 0) (by decide) ?_
        refine g_sipush X rfl (v := nI 900) (by decide) ?_
        refine g_mV X rfl lcX8_takeNumber lmX8_124 lsX8_takeNumber (cm_X8_takeNumberB l D cy B od hS2 hwb) (ci := 8) (by (repeat (first | exact hM | exact upA_eq | refine (upA_ne (by omega)).trans ?_))) rfl rfl rfl (Nat.le_of_ble_eq_true rfl) ⟨⟨by decide, by decide⟩, rfl, rfl⟩ ⟨Nat.le_of_ble_eq_true rfl, Nat.le_of_ble_eq_true rfl⟩ (fun v8 A8 q8 => ?_)
        obtain ⟨rfl, e8⟩ := q8
        have e8 := e8.symm
        subst e8
        refine g_mV X rfl lcX8_readBracket lmX8_33 lsX8_readBracket (cm_X8_readBracket l D cy B od hM hrd c5 (by omega)) (ci := 8) (by (repeat (first | exact hM | exact upA_eq | refine (upA_ne (by omega)).trans ?_))) rfl rfl rfl (Nat.le_of_ble_eq_true rfl) ⟨⟨by decide, by decide⟩, rfl, rfl⟩ ⟨Nat.le_of_ble_eq_true rfl, Nat.le_of_ble_eq_true rfl⟩ (fun v9 A9 q9 => ?_)
        obtain ⟨rfl, rfl⟩ := q9
        refine g_vret X rfl rfl (Nat.le_of_ble_eq_true rfl) (Nat.le_of_ble_eq_true rfl) ⟨rfl, ?_⟩
        exact ⟨rfl, (hF1.trans hF2).r, RES.bad (by rw [rdBracket, if_neg (show ¬ 5 ≤ u.2.2.1.1 by omega), if_pos (tkV_f hok)]) (by rw [rdBracket, if_neg (show ¬ 5 ≤ u.2.2.1.1 by omega), if_pos (tkV_f hok), tkS_f hok]) hS2.r⟩
    · rw [nI_eq0 (by omega)] at h3
      refine g_iconst X rfl (v := nI 1) (by decide) ?_
      refine g_goto X rfl ?_
      first | rw [show nI 1 = lastL u.2.2.1 + nI 1 by rw [hln, hl0 (by assumption)]; decide] | skip
      refine g_istore_n X rfl (by decide) ?_
      refine g_aload_n X rfl rfl ?_
      refine g_iload_n X rfl rfl ?_
      refine g_ldc X rfl kcX8_123 ?_
      refine g_mV X rfl lcX8_takeNumber lmX8_124 lsX8_takeNumber (cm_X8_takeNumber l D cy B od hS1 (by rw [hln, nI_add]; exact nI_pos' (by omega))) (ci := 8) (by (repeat (first | exact hM | exact upA_eq | refine (upA_ne (by omega)).trans ?_))) rfl rfl rfl (Nat.le_of_ble_eq_true rfl) ⟨⟨by decide, by decide⟩, rfl, rfl⟩ ⟨Nat.le_of_ble_eq_true rfl, Nat.le_of_ble_eq_true rfl⟩ (fun v10 A10 q10 => ?_)
      rcases q10 with ⟨hok, rfl, hF2, hS2⟩ | ⟨hok, rfl, hF2, hS2⟩
      · obtain ⟨num2, hM, -, hrd, -⟩ := id hS2
        refine g_istore_n X rfl (by decide) ?_
        refine g_aload_n X rfl rfl ?_
        refine g_iload_n X rfl rfl ?_
        refine g_aload_n X rfl rfl ?_
        refine g_iconst X rfl (v := nI 0) (by decide) ?_
        refine g_sipush X rfl (v := nI 900) (by decide) ?_
        refine g_mV X rfl lcX8_takeNumber lmX8_124 lsX8_takeNumber (cm_X8_takeNumber l D cy B od hS2 (lo := nI 0) (by decide)) (ci := 8) (by (repeat (first | exact hM | exact upA_eq | refine (upA_ne (by omega)).trans ?_))) rfl rfl rfl (Nat.le_of_ble_eq_true rfl) ⟨⟨by decide, by decide⟩, rfl, rfl⟩ ⟨Nat.le_of_ble_eq_true rfl, Nat.le_of_ble_eq_true rfl⟩ (fun v11 A11 q11 => ?_)
        rcases q11 with ⟨hok2, rfl, hF3, hS3⟩ | ⟨hok2, rfl, hF3, hS3⟩
        · obtain ⟨num3, hM, -, hrd, -⟩ := id hS3
          refine g_mV X rfl lcX8_readBracket lmX8_33 lsX8_readBracket (cm_X8_readBracket l D cy B od hM hrd c5 (by omega)) (ci := 8) (by (repeat (first | exact hM | exact upA_eq | refine (upA_ne (by omega)).trans ?_))) rfl rfl rfl (Nat.le_of_ble_eq_true rfl) ⟨⟨by decide, by decide⟩, rfl, rfl⟩ ⟨Nat.le_of_ble_eq_true rfl, Nat.le_of_ble_eq_true rfl⟩ (fun v12 A12 q12 => ?_)
          obtain ⟨rfl, rfl⟩ := q12
          refine g_vret X rfl rfl (Nat.le_of_ble_eq_true rfl) (Nat.le_of_ble_eq_true rfl) ⟨rfl, ?_⟩
          obtain ⟨x9, hx1, hx2, hx3⟩ := numOk_N (a := nl + 1) (b := 99999999) (by rw [← nI_add, ← hln]; exact hok) (by decide) (by have := (numOk_w hok); rw [hln, nI_add] at this; obtain ⟨y, hy, ey⟩ := nI_of (x := (tokN tx len u.1).2.2.2) (Int32.not_lt.mpr (Int32.le_trans (nI_pos' (by omega)) this.1)); rw [ey] at this; have h7 := (nI_leI (by omega) hy).mp this.1; have h8 := (nI_leI hy (by decide)).mp this.2; omega)
          have hb9 := numOk_N (a := 0) (b := 900) hok2 (by decide) (by decide)
          exact ⟨rfl, ((hF1.trans hF2).trans hF3).r, RES.good (s2 := (tokN tx len (tokN tx len (tokN tx len u.1)), u.2.1, zAdd u.2.2.1 (tokN tx len u.1).2.2.2 (tokN tx len (tokN tx len u.1)).2.2.2, u.2.2.2)) (by rw [rdBracket, if_neg (show ¬ 5 ≤ u.2.2.1.1 by omega), if_neg (by rw [tkV_t hok]; exact numOk_ne hok (by rw [hln, nI_add]; exact nI_pos' (by omega))), rdBr2, tkS_t hok, if_neg (by rw [tkV_t hok2]; exact numOk_ne hok2 (by decide)), tkV_t hok, tkV_t hok2, tkS_t hok2]) hS3.r hT (hC.b (by omega) _ _) (hg.b (by omega) hln hlj hx3 hx1 hx2 hb9)⟩
        · obtain ⟨num3, hM, -, hrd, -⟩ := id hS3
          refine g_mV X rfl lcX8_readBracket lmX8_33 lsX8_readBracket (cm_X8_readBracket l D cy B od hM hrd c5 (by omega)) (ci := 8) (by (repeat (first | exact hM | exact upA_eq | refine (upA_ne (by omega)).trans ?_))) rfl rfl rfl (Nat.le_of_ble_eq_true rfl) ⟨⟨by decide, by decide⟩, rfl, rfl⟩ ⟨Nat.le_of_ble_eq_true rfl, Nat.le_of_ble_eq_true rfl⟩ (fun v13 A13 q13 => ?_)
          obtain ⟨rfl, rfl⟩ := q13
          refine g_vret X rfl rfl (Nat.le_of_ble_eq_true rfl) (Nat.le_of_ble_eq_true rfl) ⟨rfl, ?_⟩
          exact ⟨rfl, ((hF1.trans hF2).trans hF3).r, RES.bad (by rw [rdBracket, if_neg (show ¬ 5 ≤ u.2.2.1.1 by omega), if_neg (by rw [tkV_t hok]; exact numOk_ne hok (by rw [hln, nI_add]; exact nI_pos' (by omega))), rdBr2, tkS_t hok, if_pos (tkV_f hok2)]) (by rw [rdBracket, if_neg (show ¬ 5 ≤ u.2.2.1.1 by omega), if_neg (by rw [tkV_t hok]; exact numOk_ne hok (by rw [hln, nI_add]; exact nI_pos' (by omega))), rdBr2, tkS_t hok, if_pos (tkV_f hok2), tkS_f hok2]) hS3.r⟩
      · have hwb : ¬ nI (tokN tx len u.1).2.2.1 < 0 := nI_pos (by omega)
        obtain ⟨num2, hM, -, hrd, -⟩ := id hS2
        refine g_istore_n X rfl (by decide) ?_
        refine g_aload_n X rfl rfl ?_
        refine g_iload_n X rfl rfl ?_
        refine g_aload_n X rfl rfl ?_
        refine g_iconst X rfl (v := nI 0) (by decide) ?_
        refine g_sipush X rfl (v := nI 900) (by decide) ?_
        refine g_mV X rfl lcX8_takeNumber lmX8_124 lsX8_takeNumber (cm_X8_takeNumberB l D cy B od hS2 hwb) (ci := 8) (by (repeat (first | exact hM | exact upA_eq | refine (upA_ne (by omega)).trans ?_))) rfl rfl rfl (Nat.le_of_ble_eq_true rfl) ⟨⟨by decide, by decide⟩, rfl, rfl⟩ ⟨Nat.le_of_ble_eq_true rfl, Nat.le_of_ble_eq_true rfl⟩ (fun v14 A14 q14 => ?_)
        obtain ⟨rfl, e8⟩ := q14
        have e8 := e8.symm
        subst e8
        refine g_mV X rfl lcX8_readBracket lmX8_33 lsX8_readBracket (cm_X8_readBracket l D cy B od hM hrd c5 (by omega)) (ci := 8) (by (repeat (first | exact hM | exact upA_eq | refine (upA_ne (by omega)).trans ?_))) rfl rfl rfl (Nat.le_of_ble_eq_true rfl) ⟨⟨by decide, by decide⟩, rfl, rfl⟩ ⟨Nat.le_of_ble_eq_true rfl, Nat.le_of_ble_eq_true rfl⟩ (fun v15 A15 q15 => ?_)
        obtain ⟨rfl, rfl⟩ := q15
        refine g_vret X rfl rfl (Nat.le_of_ble_eq_true rfl) (Nat.le_of_ble_eq_true rfl) ⟨rfl, ?_⟩
        exact ⟨rfl, (hF1.trans hF2).r, RES.bad (by rw [rdBracket, if_neg (show ¬ 5 ≤ u.2.2.1.1 by omega), if_pos (tkV_f hok)]) (by rw [rdBracket, if_neg (show ¬ 5 ≤ u.2.2.1.1 by omega), if_pos (tkV_f hok), tkS_f hok]) hS2.r⟩
  · refine g_aload_n X rfl rfl ?_
    refine g_mV X rfl lcX8_fail lmX8_112 lsX8_fail (cm_X8_fail l D cy B od (mb := mb) (tx := tx) hM rfl) (ci := 8) (by (repeat (first | exact hM | exact upA_eq | refine (upA_ne (by omega)).trans ?_))) rfl rfl rfl (Nat.le_of_ble_eq_true rfl) ⟨⟨by decide, by decide⟩, rfl, rfl⟩ ⟨Nat.le_of_ble_eq_true rfl, Nat.le_of_ble_eq_true rfl⟩ (fun v16 A16 q16 => ?_)
    obtain ⟨rfl, rfl⟩ := q16
    refine g_vret X rfl rfl (Nat.le_of_ble_eq_true rfl) (Nat.le_of_ble_eq_true rfl) ⟨rfl, ?_⟩
    have h5 : 5 ≤ u.2.2.1.1 := by omega
    exact ⟨rfl, (MFr.refl A).m, RES.bad (by rw [rdBracket, if_pos h5]) (by rw [rdBracket, if_pos h5]) (hS.m hT3 hNk)⟩
