/-! 24: the balance asked for -/
theorem preS_upd (f : Nat → Int64) (j : Nat) (a : Int64) : ∀ d, preS (vp_updL f j (f j + a)) d = if j ≤ d then preS f d + a else preS f d
  | 0 => by
    unfold preS
    by_cases e : j = 0
    · subst e; rw [pk_uLs]; rfl
    · rw [pk_uLn (fun q => e q.symm), if_neg (by omega)]
  | d + 1 => by
    rw [preS, preS_upd f j a d]
    by_cases e : j = d + 1
    · subst e
      rw [pk_uLs, if_neg (by omega), if_pos (by omega), preS]
      grind
    · rw [pk_uLn (fun q => e q.symm)]
      by_cases h : j ≤ d
      · rw [if_pos h, if_pos (by omega), preS]
        grind
      · rw [if_neg h, if_neg (by omega), preS]
def dIn (dy : Int32) (d : Nat) : Bool := decide (0 ≤ dy) && decide (dy ≤ nI d)
theorem preS_move (f : Nat → Int64) (dy am : Int32) {d : Nat} (hd : d < 360) : preS (bMove f dy am) d = if dIn dy d = true then preS f d + am.toInt64 else preS f d := by
  unfold bMove
  by_cases h : 0 ≤ dy ∧ dy < nI 360
  · rw [if_pos h, preS_upd]
    obtain ⟨j, hj, rfl⟩ := ix_of h (by decide)
    rw [nI_clamp (by omega)]
    by_cases h2 : j ≤ d
    · rw [if_pos h2, if_pos (by unfold dIn; rw [Bool.and_eq_true, decide_eq_true_eq, decide_eq_true_eq]; exact ⟨h.1, nI_le h2 (by omega)⟩)]
    · rw [if_neg h2, if_neg (by unfold dIn; rw [Bool.and_eq_true, decide_eq_true_eq, decide_eq_true_eq]; exact fun q => h2 ((nI_leI (by omega) (by omega)).mp q.2))]
  · rw [if_neg h, if_neg]
    unfold dIn
    rw [Bool.and_eq_true, decide_eq_true_eq, decide_eq_true_eq]
    intro q
    exact h ⟨q.1, Int32.lt_of_le_of_lt q.2 (nI_lt hd (by decide))⟩
def cE (E : EV) (d : Nat) : Nat → Int64
  | 0 => 0
  | n + 1 => if eCnt E n = true ∧ dIn (E.2 4 n) d = true then cE E d n + (if E.2 0 n = 0 then E.2 2 n else -E.2 2 n).toInt64 else cE E d n
theorem preS_bE (E : EV) (f : Nat → Int64) {d : Nat} (hd : d < 360) : ∀ n, preS (bE E f n) d = preS f d + cE E d n
  | 0 => by unfold bE cE; grind
  | n + 1 => by
    have ih := preS_bE E f hd n
    unfold bE cE
    by_cases h : eCnt E n = true
    · rw [if_pos h, preS_move _ _ _ hd, ih]
      by_cases h2 : dIn (E.2 4 n) d = true
      · rw [if_pos h2, if_pos (show eCnt E n = true ∧ dIn (E.2 4 n) d = true from ⟨h, h2⟩)]; grind
      · rw [if_neg h2, if_neg (fun q => h2 q.2)]
    · rw [if_neg h, if_neg (fun q => h q.1), ih]
def cA1 (As : RV) (d n : Nat) : Int64 := if dIn (As.2 1 n) d = true then (-As.2 0 n).toInt64 else 0
def cA2 (As : RV) (d n : Nat) : Int64 := if ¬ As.2 4 n = -1 ∧ dIn (As.2 4 n) d = true then (As.2 5 n).toInt64 else 0
def cA (As : RV) (d : Nat) : Nat → Int64
  | 0 => 0
  | n + 1 => cA As d n + cA1 As d n + cA2 As d n
theorem preS_bA (As : RV) (f : Nat → Int64) {d : Nat} (hd : d < 360) : ∀ n, preS (bA As f n) d = preS f d + cA As d n
  | 0 => by unfold bA cA; grind
  | n + 1 => by
    have ih := preS_bA As f hd n
    have i1 : preS (bA1 As (bA As f n) n) d = preS f d + (cA As d n + cA1 As d n) := by
      unfold bA1 cA1
      rw [preS_move _ _ _ hd, ih]
      split <;> grind
    unfold bA cA
    unfold cA2
    by_cases h : As.2 4 n = -1
    · rw [if_pos h, if_neg (fun q => q.1 h), i1]; grind
    · rw [if_neg h, preS_move _ _ _ hd, i1]
      by_cases h2 : dIn (As.2 4 n) d = true
      · rw [if_pos h2, if_pos ⟨h, h2⟩]; grind
      · rw [if_neg h2, if_neg (fun q => h2 q.2)]; grind
def cQ (pp : Nat → Int32) (d : Nat) : Nat → Int64
  | 0 => 0
  | n + 1 => cQ pp d n + (if dIn ((nI n + nI 1) * nI 90 - nI 1) d = true then (-pp n).toInt64 else 0)
theorem preS_bQ (pp : Nat → Int32) (f : Nat → Int64) {d : Nat} (hd : d < 360) : ∀ n, preS (bQ pp f n) d = preS f d + cQ pp d n
  | 0 => by unfold bQ cQ; grind
  | n + 1 => by
    have ih := preS_bQ pp f hd n
    unfold bQ cQ
    rw [preS_move _ _ _ hd, ih]
    split <;> grind
theorem preS_0 {f : Nat → Int64} : ∀ d, (∀ j, j ≤ d → f j = 0) → preS f d = 0
  | 0, h => h 0 (Nat.le_refl _)
  | d + 1, h => by
    rw [preS, preS_0 d (fun j hj => h j (by omega)), h (d + 1) (by omega)]
    rfl
/-- the balance at the end of a day -/
def balC (S : StV) (d : Nat) : Int64 := S.2.2.2.2.2.toInt64 + cE S.1 d S.1.1 + cA S.2.2.1 d S.2.2.1.1 + cQ S.2.2.2.1 d S.2.2.2.2.1
theorem bal_eq (S : StV) (f : Nat → Int64) {d : Nat} (hd : d < 360) : bPre (bSum S (bZ f 360)) 360 d = balC S d := by
  unfold bPre
  rw [if_pos hd]
  unfold bSum balC
  rw [preS_bQ _ _ hd, preS_bA _ _ hd, preS_bE _ _ hd, preS_move _ _ _ hd, preS_0 d (fun j hj => bZ_0 f 360 j (by omega)), if_pos (by unfold dIn; rw [Bool.and_eq_true, decide_eq_true_eq, decide_eq_true_eq]; exact ⟨nI_pos' (by decide), nI_le (by omega) (by omega)⟩)]
  grind
def lowN (h : Nat → Int64) : Nat → Nat
  | 0 => 0
  | n + 1 => if h (n + 1) < h (lowN h n) then n + 1 else lowN h n
theorem lowN_le (h : Nat → Int64) : ∀ n, lowN h n ≤ n
  | 0 => Nat.le_refl _
  | n + 1 => by have := lowN_le h n; unfold lowN; split <;> omega
def ocBal (V : LV) (x : Int32) : OC := if within9 x (nI 0) (nI 359) then .inr (.long (balC (vS V) x.toNatClampNeg)) else .inl eIAE
set_option maxRecDepth 100000 in
set_option maxHeartbeats 400000 in
theorem cp_X7_balance (l : Launch) (D : va_G) (cy : Nat → ClassId) (B : Nat) (od : Nat → Option Nat) (hl9 : l.stackTraces = false) {A : AH} {W : LW} (hW : LedA cy A W) {x : Int32} : CP l D cy B od yX7_balance cX7_balance 2 (some .long) rmX7_balance [.ref 0, .int x] A (ocBal W.1 x) (fun A' => SameOff A A' 0 231 ∧ LedA cy A' W) (fun A' => A' = A) := by
  intro z
  refine CX.of (by decide) tX7_balance okX7_balance (Nat.le_of_ble_eq_true rfl) (q0 := tX7_balance[0]) rfl rfl ?_
  intro p e s m args below meth c X hnt
  obtain ⟨hV, hwb, ⟨Rm, hRm, hRn⟩, ⟨hb, hbl⟩, ⟨hv9, hvw, hvb⟩, ⟨hH9, hHw⟩, ⟨fb, hbal⟩, hrd⟩ := id hW
  obtain ⟨hL, hs9, hw, hS9, hsn⟩ := id hV
  obtain ⟨hS, hS0, hS1⟩ := id hS9
  obtain ⟨hs, hE9, hR9, hA9, hp⟩ := id hs9
  obtain ⟨hE, hE0, hE1, hE2, hE3, hE4, hE5, hE6⟩ := id hE9
  obtain ⟨hR, hR0, hR1, hR2⟩ := id hR9
  obtain ⟨hA, hA0, hA1, hA2, hA3, hA4, hA5⟩ := id hA9
  obtain ⟨w1, w2, w3, w4, w5⟩ := id hw
  refine g_iload_n X rfl rfl ?_
  refine g_iconst X rfl (v := nI 0) (by decide) ?_
  refine g_sipush X rfl (v := nI 359) (by decide) ?_
  refine g_rS X rfl lcX7_within lmX7_74 stX7_within (cr_X7_within l D cy B od) rfl rfl (Nat.le_of_ble_eq_true rfl) ⟨⟨by decide, by decide⟩, rfl, rfl⟩ ⟨Nat.le_of_ble_eq_true rfl, Nat.le_of_ble_eq_true rfl⟩ ?_
  refine g_req X hnt rfl lcX7_requireArgument lmX7_78 stX7_requireArgument (cq_X7_requireArgument l D cy B od hl9) rfl rfl (Nat.le_of_ble_eq_true rfl) ⟨by decide, by decide⟩ ⟨Nat.le_of_ble_eq_true rfl, Nat.le_of_ble_eq_true rfl⟩ (Nat.le_of_ble_eq_true rfl) (Nat.le_of_ble_eq_true rfl) (fun h1 => ?_) (fun h1 => ?_)
  · exact ⟨by first | (simp_all [ocBal, nI_eq, bI_0, bI_n0]; done) | (simp_all [ocBal, nI_eq, bI_0, bI_n0, nI_0, n10]; done) | (simp_all [ocBal, nI_eq, bI_0, bI_n0, nI_0, n10, ← Int32.not_le]; done) | (simp_all [ocBal, nI_eq, bI_0, bI_n0, ← Int64.not_le]; done) | (simp_all [ocBal, nI_eq, bI_0, bI_n0, nI_0, n10, ← Int64.not_le, ← Int32.not_le]; done), rfl⟩
  obtain ⟨i9, hi9, e9⟩ := wi_of (bI_n0.mp h1) (by omega)
  subst e9
  have hcl := nI_clamp (n := i9) (by omega)
  have hi360 : i9 < 360 := by omega
  have hoc : ocBal W.1 (nI i9) = .inr (.long (balC (vS W.1) i9)) := by first | (simp_all [ocBal, nI_eq, bI_0, bI_n0]; done) | (simp_all [ocBal, nI_eq, bI_0, bI_n0, nI_0, n10]; done) | (simp_all [ocBal, nI_eq, bI_0, bI_n0, nI_0, n10, ← Int32.not_le]; done) | (simp_all [ocBal, nI_eq, bI_0, bI_n0, ← Int64.not_le]; done) | (simp_all [ocBal, nI_eq, bI_0, bI_n0, nI_0, n10, ← Int64.not_le, ← Int32.not_le]; done)
  refine g_aload_n X rfl rfl ?_
  refine g_get X rfl flX7_30 (ci := 7) rfl (by (repeat (first | exact hL | exact upA_eq | refine (upA_ne (by omega)).trans ?_))) rfl ?_
  refine g_aload_n X rfl rfl ?_
  refine g_get X rfl flX7_44 (ci := 7) rfl (by (repeat (first | exact hL | exact upA_eq | refine (upA_ne (by omega)).trans ?_))) rfl ?_
  refine g_mVN X rfl lcX6_fillBalances lnX7_332 lsX6_fillBalances (cm_X6_fillBalances l D cy B od hs9 hw (by omega) hbal) (ci := 6) (by (repeat (first | exact hs | exact upA_eq | refine (upA_ne (by omega)).trans ?_))) rfl rfl rfl (Nat.le_of_ble_eq_true rfl) ⟨⟨by decide, by decide⟩, rfl, rfl⟩ ⟨Nat.le_of_ble_eq_true rfl, Nat.le_of_ble_eq_true rfl⟩ (fun v2 A2 q2 => ?_)
  obtain ⟨rfl, rfl⟩ := q2
  refine g_aload_n X rfl rfl ?_
  refine g_get X rfl flX7_44 (ci := 7) rfl (by (repeat (first | exact hL | exact upA_eq | refine (upA_ne (by omega)).trans ?_))) rfl ?_
  refine g_iload_n X rfl rfl ?_
  refine g_laldN X rfl (by (repeat (first | exact hbal | exact upA_eq | refine (upA_ne (by omega)).trans ?_))) (by omega) (by decide) ?_
  refine g_lret X rfl rfl (Nat.le_of_ble_eq_true rfl) (Nat.le_of_ble_eq_true rfl) ⟨_, ?_, rfl, rfl, ?_⟩
  · rw [hoc, ← bal_eq _ fb hi360]
  · exact ⟨(SameOff.refl A 0 231).up (by omega) (by omega), hW.upBal⟩
