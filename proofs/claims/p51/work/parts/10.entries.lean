/-! 10: the entries -/
/-- entries: how many, and seven rows: kind, category, amount, invoiced, paid, cancelled, late -/
abbrev EV : Type := Nat × (Nat → Nat → Int32)
def EntA (cy : Nat → ClassId) (A : AH) (b : Nat) (E : EV) : Prop := A b = some (.inr (1, [.int (nI E.1), .ref (b + 1), .ref (b + 2), .ref (b + 3), .ref (b + 4), .ref (b + 5), .ref (b + 6), .ref (b + 7)])) ∧ A (b + 1) = some (.inl (cy 0, 60, .inl (E.2 0))) ∧ A (b + 2) = some (.inl (cy 0, 60, .inl (E.2 1))) ∧ A (b + 3) = some (.inl (cy 0, 60, .inl (E.2 2))) ∧ A (b + 4) = some (.inl (cy 0, 60, .inl (E.2 3))) ∧ A (b + 5) = some (.inl (cy 0, 60, .inl (E.2 4))) ∧ A (b + 6) = some (.inl (cy 2, 60, .inl (E.2 5))) ∧ A (b + 7) = some (.inl (cy 2, 60, .inl (E.2 6)))
def eOpen (E : EV) (i : Nat) : Bool := E.2 4 i == -1 && E.2 5 i == 0
def eCnt (E : EV) (i : Nat) : Bool := E.2 4 i != -1 && E.2 5 i == 0
def eCntIn (E : EV) (f t : Int32) (i : Nat) : Bool := eCnt E i && decide (f ≤ E.2 4 i) && decide (E.2 4 i ≤ t)
def cntN (q : Nat → Bool) : Nat → Nat
  | 0 => 0
  | n + 1 => if q n then cntN q n + 1 else cntN q n
theorem cntN_le (q : Nat → Bool) : ∀ n, cntN q n ≤ n
  | 0 => Nat.le_refl _
  | n + 1 => by have := cntN_le q n; unfold cntN; split <;> omega
def sumN (q : Nat → Bool) (f : Nat → Int64) : Nat → Int64
  | 0 => 0
  | n + 1 => if q n then sumN q f n + f n else sumN q f n
/-- the open entry invoiced first, of the first n; none is n9 -/
def oldN (E : EV) : Nat → Option Nat
  | 0 => none
  | n + 1 => if eOpen E n then (match oldN E n with | none => some n | some j => if E.2 3 n < E.2 3 j then some n else some j) else oldN E n
theorem oldN_lt (E : EV) : ∀ n j, oldN E n = some j → j < n
  | 0, j, h => by cases h
  | n + 1, j, h => by
    unfold oldN at h
    split at h
    · split at h
      · cases h; omega
      · rename_i k hk
        have := oldN_lt E n k hk
        split at h <;> cases h <;> omega
    · have := oldN_lt E n j h; omega
def oI (o : Option Nat) : Int32 := match o with | none => -1 | some j => nI j
theorem nI_nm1 {n : Nat} (h : n < 2 ^ 31) : ¬ nI n = -1 := by
  intro q
  have h2 := congrArg Int32.toInt q
  rw [nI_toInt h] at h2
  have : (-1 : Int32).toInt = -1 := by decide
  omega

set_option maxRecDepth 100000 in
set_option maxHeartbeats 400000 in
theorem cr_X1_isOpen (l : Launch) (D : va_G) (cy : Nat → ClassId) (B : Nat) (od : Nat → Option Nat) {A : AH} {b : Nat} {E : EV} (hE9 : EntA cy A b E) {i : Nat} (hi : i < 60) : CR l D cy B od yX1_isOpen cX1_isOpen 2 (some .boolean) rmX1_isOpen [.ref b, .int (nI i)] A (.int (bI (eOpen E i))) := by
  intro z
  refine CT.of (by decide) tX1_isOpen okX1_isOpen (Nat.le_of_ble_eq_true rfl) (q0 := tX1_isOpen[0]) rfl rfl ?_
  intro p e s m args below meth c X _
  obtain ⟨hE, hE0, hE1, hE2, hE3, hE4, hE5, hE6⟩ := hE9
  refine g_aload_n X rfl rfl ?_
  refine g_get X rfl flX1_24 (ci := 1) rfl hE rfl ?_
  refine g_iload_n X rfl rfl ?_
  refine g_ialdN X rfl hE4 (by omega) (by decide) ?_
  refine g_iconst X rfl (v := (-1)) (by decide) ?_
  first | refine g_ic_neN X rfl (by omega) (by omega) (fun h1 => ?_) (fun h1 => ?_) | refine g_icmp_ne X rfl (fun h1 => ?_) (fun h1 => ?_)
  · refine g_iconst X rfl (v := nI 0) (by decide) ?_
    refine g_iret X rfl rfl (by first | rfl | exact bI_nar _ | decide) (Nat.le_refl _) (Nat.le_refl _) ⟨?_, rfl, rfl⟩
    first | exact bR0 (by simp_all [eOpen, ← Int32.not_le, ← Int64.not_le]) | exact bR1 (by simp_all [eOpen, ← Int32.not_le, ← Int64.not_le])
  · refine g_aload_n X rfl rfl ?_
    refine g_get X rfl flX1_27 (ci := 1) rfl hE rfl ?_
    refine g_iload_n X rfl rfl ?_
    refine g_zaldN X rfl hE5 (by omega) (by decide) ?_
    first | refine g_if_neB X rfl (fun h2 => ?_) (fun h2 => ?_) | refine g_if_ne X rfl (fun h2 => ?_) (fun h2 => ?_)
    · refine g_iconst X rfl (v := nI 0) (by decide) ?_
      refine g_iret X rfl rfl (by first | rfl | exact bI_nar _ | decide) (Nat.le_refl _) (Nat.le_refl _) ⟨?_, rfl, rfl⟩
      first | exact bR0 (by simp_all [eOpen, ← Int32.not_le, ← Int64.not_le]) | exact bR1 (by simp_all [eOpen, ← Int32.not_le, ← Int64.not_le])
    · refine g_iconst X rfl (v := nI 1) (by decide) ?_
      refine g_goto X rfl ?_
      refine g_iret X rfl rfl (by first | rfl | exact bI_nar _ | decide) (Nat.le_refl _) (Nat.le_refl _) ⟨?_, rfl, rfl⟩
      first | exact bR0 (by simp_all [eOpen, ← Int32.not_le, ← Int64.not_le]) | exact bR1 (by simp_all [eOpen, ← Int32.not_le, ← Int64.not_le])
set_option maxRecDepth 100000 in
set_option maxHeartbeats 400000 in
theorem cr_X1_counts (l : Launch) (D : va_G) (cy : Nat → ClassId) (B : Nat) (od : Nat → Option Nat) {A : AH} {b : Nat} {E : EV} (hE9 : EntA cy A b E) {i : Nat} (hi : i < 60) : CR l D cy B od yX1_counts cX1_counts 2 (some .boolean) rmX1_counts [.ref b, .int (nI i)] A (.int (bI (eCnt E i))) := by
  intro z
  refine CT.of (by decide) tX1_counts okX1_counts (Nat.le_of_ble_eq_true rfl) (q0 := tX1_counts[0]) rfl rfl ?_
  intro p e s m args below meth c X _
  obtain ⟨hE, hE0, hE1, hE2, hE3, hE4, hE5, hE6⟩ := hE9
  refine g_aload_n X rfl rfl ?_
  refine g_get X rfl flX1_24 (ci := 1) rfl hE rfl ?_
  refine g_iload_n X rfl rfl ?_
  refine g_ialdN X rfl hE4 (by omega) (by decide) ?_
  refine g_iconst X rfl (v := (-1)) (by decide) ?_
  first | refine g_ic_eqN X rfl (by omega) (by omega) (fun h1 => ?_) (fun h1 => ?_) | refine g_icmp_eq X rfl (fun h1 => ?_) (fun h1 => ?_)
  · refine g_iconst X rfl (v := nI 0) (by decide) ?_
    refine g_iret X rfl rfl (by first | rfl | exact bI_nar _ | decide) (Nat.le_refl _) (Nat.le_refl _) ⟨?_, rfl, rfl⟩
    first | exact bR0 (by simp_all [eCnt, ← Int32.not_le, ← Int64.not_le]) | exact bR1 (by simp_all [eCnt, ← Int32.not_le, ← Int64.not_le])
  · refine g_aload_n X rfl rfl ?_
    refine g_get X rfl flX1_27 (ci := 1) rfl hE rfl ?_
    refine g_iload_n X rfl rfl ?_
    refine g_zaldN X rfl hE5 (by omega) (by decide) ?_
    first | refine g_if_neB X rfl (fun h2 => ?_) (fun h2 => ?_) | refine g_if_ne X rfl (fun h2 => ?_) (fun h2 => ?_)
    · refine g_iconst X rfl (v := nI 0) (by decide) ?_
      refine g_iret X rfl rfl (by first | rfl | exact bI_nar _ | decide) (Nat.le_refl _) (Nat.le_refl _) ⟨?_, rfl, rfl⟩
      first | exact bR0 (by simp_all [eCnt, ← Int32.not_le, ← Int64.not_le]) | exact bR1 (by simp_all [eCnt, ← Int32.not_le, ← Int64.not_le])
    · refine g_iconst X rfl (v := nI 1) (by decide) ?_
      refine g_goto X rfl ?_
      refine g_iret X rfl rfl (by first | rfl | exact bI_nar _ | decide) (Nat.le_refl _) (Nat.le_refl _) ⟨?_, rfl, rfl⟩
      first | exact bR0 (by simp_all [eCnt, ← Int32.not_le, ← Int64.not_le]) | exact bR1 (by simp_all [eCnt, ← Int32.not_le, ← Int64.not_le])
set_option maxRecDepth 100000 in
set_option maxHeartbeats 400000 in
theorem cr_X1_countsWithin (l : Launch) (D : va_G) (cy : Nat → ClassId) (B : Nat) (od : Nat → Option Nat) {A : AH} {b : Nat} {E : EV} (hE9 : EntA cy A b E) {i : Nat} (hi : i < 60) {f t : Int32} : CR l D cy B od yX1_countsWithin cX1_countsWithin 4 (some .boolean) rmX1_countsWithin [.ref b, .int (nI i), .int f, .int t] A (.int (bI (eCntIn E f t i))) := by
  intro z
  refine CT.of (by decide) tX1_countsWithin okX1_countsWithin (Nat.le_of_ble_eq_true rfl) (q0 := tX1_countsWithin[0]) rfl rfl ?_
  intro p e s m args below meth c X _
  obtain ⟨hE, hE0, hE1, hE2, hE3, hE4, hE5, hE6⟩ := hE9
  refine g_aload_n X rfl rfl ?_
  refine g_iload_n X rfl rfl ?_
  refine g_rV X rfl lcX1_counts lmX1_38 lsX1_counts (cr_X1_counts l D cy B od (E := E) (i := i) ⟨hE, hE0, hE1, hE2, hE3, hE4, hE5, hE6⟩ (by omega)) (ci := 1) hE rfl rfl rfl (by decide) ⟨⟨by decide, by decide⟩, rfl, rfl⟩ ⟨Nat.zero_le _, Nat.zero_le _⟩ ?_
  first | refine g_if_eqB X rfl (fun h1 => ?_) (fun h1 => ?_) | refine g_if_eq X rfl (fun h1 => ?_) (fun h1 => ?_)
  · refine g_iconst X rfl (v := nI 0) (by decide) ?_
    refine g_iret X rfl rfl (by first | rfl | exact bI_nar _ | decide) (Nat.le_refl _) (Nat.le_refl _) ⟨?_, rfl, rfl⟩
    first | exact bR0 (by simp_all [eCntIn, ← Int32.not_le, ← Int64.not_le]) | exact bR1 (by simp_all [eCntIn, ← Int32.not_le, ← Int64.not_le])
  · refine g_aload_n X rfl rfl ?_
    refine g_get X rfl flX1_24 (ci := 1) rfl hE rfl ?_
    refine g_iload_n X rfl rfl ?_
    refine g_ialdN X rfl hE4 (by omega) (by decide) ?_
    refine g_iload_n X rfl rfl ?_
    refine g_icmp_lt X rfl (fun h2 => ?_) (fun h2 => ?_)
    · refine g_iconst X rfl (v := nI 0) (by decide) ?_
      refine g_iret X rfl rfl (by first | rfl | exact bI_nar _ | decide) (Nat.le_refl _) (Nat.le_refl _) ⟨?_, rfl, rfl⟩
      first | exact bR0 (by simp_all [eCntIn, ← Int32.not_le, ← Int64.not_le]) | exact bR1 (by simp_all [eCntIn, ← Int32.not_le, ← Int64.not_le])
    · refine g_aload_n X rfl rfl ?_
      refine g_get X rfl flX1_24 (ci := 1) rfl hE rfl ?_
      refine g_iload_n X rfl rfl ?_
      refine g_ialdN X rfl hE4 (by omega) (by decide) ?_
      refine g_iload_n X rfl rfl ?_
      refine g_icmp_gt X rfl (fun h3 => ?_) (fun h3 => ?_)
      · refine g_iconst X rfl (v := nI 0) (by decide) ?_
        refine g_iret X rfl rfl (by first | rfl | exact bI_nar _ | decide) (Nat.le_refl _) (Nat.le_refl _) ⟨?_, rfl, rfl⟩
        first | exact bR0 (by simp_all [eCntIn, ← Int32.not_le, ← Int64.not_le]) | exact bR1 (by simp_all [eCntIn, ← Int32.not_le, ← Int64.not_le])
      · refine g_iconst X rfl (v := nI 1) (by decide) ?_
        refine g_goto X rfl ?_
        refine g_iret X rfl rfl (by first | rfl | exact bI_nar _ | decide) (Nat.le_refl _) (Nat.le_refl _) ⟨?_, rfl, rfl⟩
        first | exact bR0 (by simp_all [eCntIn, ← Int32.not_le, ← Int64.not_le]) | exact bR1 (by simp_all [eCntIn, ← Int32.not_le, ← Int64.not_le])
set_option maxRecDepth 100000 in
set_option maxHeartbeats 400000 in
theorem lp_X1_openOnes (l : Launch) (D : va_G) (cy : Nat → ClassId) (B : Nat) (od : Nat → Option Nat) {p : Program} {e : Env} {s : State} {m : MethodId} {args : Array Value} {below : List Frame} {meth : Method} {c : Code} {A : AH} {z : Nat} {b : Nat} {E : EV} (hE9 : EntA cy A b E) (hn : E.1 ≤ 60) (X : Cx p s m args meth c D cy B od cX1_openOnes 3 tX1_openOnes RX1 (some .int)) : ∀ (k i : Nat), 0 ≤ i → i ≤ E.1 → E.1 - i < k → G p l e rmX1_openOnes s m args below meth c D B od 3 tX1_openOnes (FinQ false D B od (fun v A' z' => v = some (.int (nI (cntN (eOpen E) E.1))) ∧ A' = A ∧ z' = z) (fun _ _ => True) args s below 0 0) 0 0 A z 4 [some (.ref b), some (.int (nI (cntN (eOpen E) i))), some (.int (nI i))] [] := by
  obtain ⟨hE, hE0, hE1, hE2, hE3, hE4, hE5, hE6⟩ := hE9
  intro k
  induction k with
  | zero => intro i _ _ h; omega
  | succ k ih =>
    intro i hlo hi hk
    have hc9 := cntN_le (eOpen E) i
    refine g_iload_n X rfl rfl ?_
    refine g_aload_n X rfl rfl ?_
    refine g_get X rfl flX1_34 (ci := 1) rfl hE rfl ?_
    first | refine g_ic_geN X rfl (by omega) (by omega) (fun h1 => ?_) (fun h1 => ?_) | refine g_icmp_ge X rfl (fun h1 => ?_) (fun h1 => ?_)
    · refine g_iload_n X rfl rfl ?_
      refine g_iret X rfl rfl (by first | rfl | exact bI_nar _ | decide) (Nat.le_refl _) (Nat.le_refl _) ⟨?_, rfl, rfl⟩
      rw [show i = E.1 by omega]
    · refine g_aload_n X rfl rfl ?_
      refine g_iload_n X rfl rfl ?_
      refine g_rV X rfl lcX1_isOpen lmX1_42 lsX1_isOpen (cr_X1_isOpen l D cy B od (E := E) (i := i) ⟨hE, hE0, hE1, hE2, hE3, hE4, hE5, hE6⟩ (by omega)) (ci := 1) hE rfl rfl rfl (by decide) ⟨⟨by decide, by decide⟩, rfl, rfl⟩ ⟨Nat.zero_le _, Nat.zero_le _⟩ ?_
      first | refine g_if_eqB X rfl (fun h2 => ?_) (fun h2 => ?_) | refine g_if_eq X rfl (fun h2 => ?_) (fun h2 => ?_)
      · refine g_iinc1 X rfl rfl (by decide) ?_
        refine g_goto X rfl ?_
        have K9 := ih (i + 1) (by omega) (by omega) (by omega)
        first | (rw [show cntN (eOpen E) (i + 1) = cntN (eOpen E) i + 1 by rw [cntN, if_pos (by simp_all)]] at K9; exact K9) | (rw [show cntN (eOpen E) (i + 1) = cntN (eOpen E) i by rw [cntN, if_neg (by simp_all)]] at K9; exact K9)
      · refine g_iinc1 X rfl rfl (by decide) ?_
        refine g_iinc1 X rfl rfl (by decide) ?_
        refine g_goto X rfl ?_
        have K9 := ih (i + 1) (by omega) (by omega) (by omega)
        first | (rw [show cntN (eOpen E) (i + 1) = cntN (eOpen E) i + 1 by rw [cntN, if_pos (by simp_all)]] at K9; exact K9) | (rw [show cntN (eOpen E) (i + 1) = cntN (eOpen E) i by rw [cntN, if_neg (by simp_all)]] at K9; exact K9)
set_option maxRecDepth 100000 in
set_option maxHeartbeats 400000 in
theorem cr_X1_openOnes (l : Launch) (D : va_G) (cy : Nat → ClassId) (B : Nat) (od : Nat → Option Nat) {A : AH} {b : Nat} {E : EV} (hE9 : EntA cy A b E) (hn : E.1 ≤ 60) : CR l D cy B od yX1_openOnes cX1_openOnes 3 (some .int) rmX1_openOnes [.ref b] A (.int (nI (cntN (eOpen E) E.1))) := by
  intro z
  refine CT.of (by decide) tX1_openOnes okX1_openOnes (Nat.le_of_ble_eq_true rfl) (q0 := tX1_openOnes[0]) rfl rfl ?_
  intro p e s m args below meth c X _
  refine g_iconst X rfl (v := nI 0) (by decide) ?_
  refine g_istore_n X rfl (by decide) ?_
  refine g_iconst X rfl (v := nI 0) (by decide) ?_
  refine g_istore_n X rfl (by decide) ?_
  exact lp_X1_openOnes l D cy B od hE9 hn X (E.1 + 1) 0 (by omega) (by omega) (by omega)
set_option maxRecDepth 100000 in
set_option maxHeartbeats 400000 in
theorem lp_X1_cancelledOnes (l : Launch) (D : va_G) (cy : Nat → ClassId) (B : Nat) (od : Nat → Option Nat) {p : Program} {e : Env} {s : State} {m : MethodId} {args : Array Value} {below : List Frame} {meth : Method} {c : Code} {A : AH} {z : Nat} {b : Nat} {E : EV} (hE9 : EntA cy A b E) (hn : E.1 ≤ 60) (X : Cx p s m args meth c D cy B od cX1_cancelledOnes 3 tX1_cancelledOnes RX1 (some .int)) : ∀ (k i : Nat), 0 ≤ i → i ≤ E.1 → E.1 - i < k → G p l e rmX1_cancelledOnes s m args below meth c D B od 3 tX1_cancelledOnes (FinQ false D B od (fun v A' z' => v = some (.int (nI (cntN (fun i => !(E.2 5 i == 0)) E.1))) ∧ A' = A ∧ z' = z) (fun _ _ => True) args s below 0 0) 0 0 A z 4 [some (.ref b), some (.int (nI (cntN (fun i => !(E.2 5 i == 0)) i))), some (.int (nI i))] [] := by
  obtain ⟨hE, hE0, hE1, hE2, hE3, hE4, hE5, hE6⟩ := hE9
  intro k
  induction k with
  | zero => intro i _ _ h; omega
  | succ k ih =>
    intro i hlo hi hk
    have hc9 := cntN_le (fun i => !(E.2 5 i == 0)) i
    refine g_iload_n X rfl rfl ?_
    refine g_aload_n X rfl rfl ?_
    refine g_get X rfl flX1_34 (ci := 1) rfl hE rfl ?_
    first | refine g_ic_geN X rfl (by omega) (by omega) (fun h1 => ?_) (fun h1 => ?_) | refine g_icmp_ge X rfl (fun h1 => ?_) (fun h1 => ?_)
    · refine g_iload_n X rfl rfl ?_
      refine g_iret X rfl rfl (by first | rfl | exact bI_nar _ | decide) (Nat.le_refl _) (Nat.le_refl _) ⟨?_, rfl, rfl⟩
      rw [show i = E.1 by omega]
    · refine g_aload_n X rfl rfl ?_
      refine g_get X rfl flX1_27 (ci := 1) rfl hE rfl ?_
      refine g_iload_n X rfl rfl ?_
      refine g_zaldN X rfl hE5 (by omega) (by decide) ?_
      first | refine g_if_eqB X rfl (fun h2 => ?_) (fun h2 => ?_) | refine g_if_eq X rfl (fun h2 => ?_) (fun h2 => ?_)
      · refine g_iinc1 X rfl rfl (by decide) ?_
        refine g_goto X rfl ?_
        have K9 := ih (i + 1) (by omega) (by omega) (by omega)
        first | (rw [show cntN (fun i => !(E.2 5 i == 0)) (i + 1) = cntN (fun i => !(E.2 5 i == 0)) i + 1 by rw [cntN, if_pos (by simp_all)]] at K9; exact K9) | (rw [show cntN (fun i => !(E.2 5 i == 0)) (i + 1) = cntN (fun i => !(E.2 5 i == 0)) i by rw [cntN, if_neg (by simp_all)]] at K9; exact K9)
      · refine g_iinc1 X rfl rfl (by decide) ?_
        refine g_iinc1 X rfl rfl (by decide) ?_
        refine g_goto X rfl ?_
        have K9 := ih (i + 1) (by omega) (by omega) (by omega)
        first | (rw [show cntN (fun i => !(E.2 5 i == 0)) (i + 1) = cntN (fun i => !(E.2 5 i == 0)) i + 1 by rw [cntN, if_pos (by simp_all)]] at K9; exact K9) | (rw [show cntN (fun i => !(E.2 5 i == 0)) (i + 1) = cntN (fun i => !(E.2 5 i == 0)) i by rw [cntN, if_neg (by simp_all)]] at K9; exact K9)
set_option maxRecDepth 100000 in
set_option maxHeartbeats 400000 in
theorem cr_X1_cancelledOnes (l : Launch) (D : va_G) (cy : Nat → ClassId) (B : Nat) (od : Nat → Option Nat) {A : AH} {b : Nat} {E : EV} (hE9 : EntA cy A b E) (hn : E.1 ≤ 60) : CR l D cy B od yX1_cancelledOnes cX1_cancelledOnes 3 (some .int) rmX1_cancelledOnes [.ref b] A (.int (nI (cntN (fun i => !(E.2 5 i == 0)) E.1))) := by
  intro z
  refine CT.of (by decide) tX1_cancelledOnes okX1_cancelledOnes (Nat.le_of_ble_eq_true rfl) (q0 := tX1_cancelledOnes[0]) rfl rfl ?_
  intro p e s m args below meth c X _
  refine g_iconst X rfl (v := nI 0) (by decide) ?_
  refine g_istore_n X rfl (by decide) ?_
  refine g_iconst X rfl (v := nI 0) (by decide) ?_
  refine g_istore_n X rfl (by decide) ?_
  exact lp_X1_cancelledOnes l D cy B od hE9 hn X (E.1 + 1) 0 (by omega) (by omega) (by omega)
set_option maxRecDepth 100000 in
set_option maxHeartbeats 400000 in
theorem lp_X1_lateOnes (l : Launch) (D : va_G) (cy : Nat → ClassId) (B : Nat) (od : Nat → Option Nat) {p : Program} {e : Env} {s : State} {m : MethodId} {args : Array Value} {below : List Frame} {meth : Method} {c : Code} {A : AH} {z : Nat} {b : Nat} {E : EV} (hE9 : EntA cy A b E) (hn : E.1 ≤ 60) (X : Cx p s m args meth c D cy B od cX1_lateOnes 3 tX1_lateOnes RX1 (some .int)) : ∀ (k i : Nat), 0 ≤ i → i ≤ E.1 → E.1 - i < k → G p l e rmX1_lateOnes s m args below meth c D B od 3 tX1_lateOnes (FinQ false D B od (fun v A' z' => v = some (.int (nI (cntN (fun i => !(E.2 6 i == 0)) E.1))) ∧ A' = A ∧ z' = z) (fun _ _ => True) args s below 0 0) 0 0 A z 4 [some (.ref b), some (.int (nI (cntN (fun i => !(E.2 6 i == 0)) i))), some (.int (nI i))] [] := by
  obtain ⟨hE, hE0, hE1, hE2, hE3, hE4, hE5, hE6⟩ := hE9
  intro k
  induction k with
  | zero => intro i _ _ h; omega
  | succ k ih =>
    intro i hlo hi hk
    have hc9 := cntN_le (fun i => !(E.2 6 i == 0)) i
    refine g_iload_n X rfl rfl ?_
    refine g_aload_n X rfl rfl ?_
    refine g_get X rfl flX1_34 (ci := 1) rfl hE rfl ?_
    first | refine g_ic_geN X rfl (by omega) (by omega) (fun h1 => ?_) (fun h1 => ?_) | refine g_icmp_ge X rfl (fun h1 => ?_) (fun h1 => ?_)
    · refine g_iload_n X rfl rfl ?_
      refine g_iret X rfl rfl (by first | rfl | exact bI_nar _ | decide) (Nat.le_refl _) (Nat.le_refl _) ⟨?_, rfl, rfl⟩
      rw [show i = E.1 by omega]
    · refine g_aload_n X rfl rfl ?_
      refine g_get X rfl flX1_31 (ci := 1) rfl hE rfl ?_
      refine g_iload_n X rfl rfl ?_
      refine g_zaldN X rfl hE6 (by omega) (by decide) ?_
      first | refine g_if_eqB X rfl (fun h2 => ?_) (fun h2 => ?_) | refine g_if_eq X rfl (fun h2 => ?_) (fun h2 => ?_)
      · refine g_iinc1 X rfl rfl (by decide) ?_
        refine g_goto X rfl ?_
        have K9 := ih (i + 1) (by omega) (by omega) (by omega)
        first | (rw [show cntN (fun i => !(E.2 6 i == 0)) (i + 1) = cntN (fun i => !(E.2 6 i == 0)) i + 1 by rw [cntN, if_pos (by simp_all)]] at K9; exact K9) | (rw [show cntN (fun i => !(E.2 6 i == 0)) (i + 1) = cntN (fun i => !(E.2 6 i == 0)) i by rw [cntN, if_neg (by simp_all)]] at K9; exact K9)
      · refine g_iinc1 X rfl rfl (by decide) ?_
        refine g_iinc1 X rfl rfl (by decide) ?_
        refine g_goto X rfl ?_
        have K9 := ih (i + 1) (by omega) (by omega) (by omega)
        first | (rw [show cntN (fun i => !(E.2 6 i == 0)) (i + 1) = cntN (fun i => !(E.2 6 i == 0)) i + 1 by rw [cntN, if_pos (by simp_all)]] at K9; exact K9) | (rw [show cntN (fun i => !(E.2 6 i == 0)) (i + 1) = cntN (fun i => !(E.2 6 i == 0)) i by rw [cntN, if_neg (by simp_all)]] at K9; exact K9)
set_option maxRecDepth 100000 in
set_option maxHeartbeats 400000 in
theorem cr_X1_lateOnes (l : Launch) (D : va_G) (cy : Nat → ClassId) (B : Nat) (od : Nat → Option Nat) {A : AH} {b : Nat} {E : EV} (hE9 : EntA cy A b E) (hn : E.1 ≤ 60) : CR l D cy B od yX1_lateOnes cX1_lateOnes 3 (some .int) rmX1_lateOnes [.ref b] A (.int (nI (cntN (fun i => !(E.2 6 i == 0)) E.1))) := by
  intro z
  refine CT.of (by decide) tX1_lateOnes okX1_lateOnes (Nat.le_of_ble_eq_true rfl) (q0 := tX1_lateOnes[0]) rfl rfl ?_
  intro p e s m args below meth c X _
  refine g_iconst X rfl (v := nI 0) (by decide) ?_
  refine g_istore_n X rfl (by decide) ?_
  refine g_iconst X rfl (v := nI 0) (by decide) ?_
  refine g_istore_n X rfl (by decide) ?_
  exact lp_X1_lateOnes l D cy B od hE9 hn X (E.1 + 1) 0 (by omega) (by omega) (by omega)
set_option maxRecDepth 100000 in
set_option maxHeartbeats 400000 in
theorem lp_X1_sumPaid (l : Launch) (D : va_G) (cy : Nat → ClassId) (B : Nat) (od : Nat → Option Nat) {p : Program} {e : Env} {s : State} {m : MethodId} {args : Array Value} {below : List Frame} {meth : Method} {c : Code} {A : AH} {z : Nat} {b : Nat} {E : EV} (hE9 : EntA cy A b E) (hn : E.1 ≤ 60) {kd f t : Int32} (X : Cx p s m args meth c D cy B od cX1_sumPaid 7 tX1_sumPaid RX1 (some .long)) : ∀ (k i : Nat), 0 ≤ i → i ≤ E.1 → E.1 - i < k → G p l e rmX1_sumPaid s m args below meth c D B od 7 tX1_sumPaid (FinQ false D B od (fun v A' z' => v = some (.long (sumN (fun i => E.2 0 i == kd && eCntIn E f t i) (fun i => (E.2 2 i).toInt64) E.1)) ∧ A' = A ∧ z' = z) (fun _ _ => True) args s below 0 0) 0 0 A z 4 [some (.ref b), some (.int kd), some (.int f), some (.int t), some (.long (sumN (fun i => E.2 0 i == kd && eCntIn E f t i) (fun i => (E.2 2 i).toInt64) i)), none, some (.int (nI i))] [] := by
  obtain ⟨hE, hE0, hE1, hE2, hE3, hE4, hE5, hE6⟩ := hE9
  intro k
  induction k with
  | zero => intro i _ _ h; omega
  | succ k ih =>
    intro i hlo hi hk
    refine g_iload X rfl rfl ?_
    refine g_aload_n X rfl rfl ?_
    refine g_get X rfl flX1_34 (ci := 1) rfl hE rfl ?_
    first | refine g_ic_geN X rfl (by omega) (by omega) (fun h1 => ?_) (fun h1 => ?_) | refine g_icmp_ge X rfl (fun h1 => ?_) (fun h1 => ?_)
    · refine g_lload X rfl rfl ?_
      refine g_lret X rfl rfl (Nat.le_refl _) (Nat.le_refl _) ⟨?_, rfl, rfl⟩
      rw [show i = E.1 by omega]
    · refine g_aload_n X rfl rfl ?_
      refine g_get X rfl flX1_9 (ci := 1) rfl hE rfl ?_
      refine g_iload X rfl rfl ?_
      refine g_ialdN X rfl hE0 (by omega) (by decide) ?_
      refine g_iload_n X rfl rfl ?_
      first | refine g_ic_neN X rfl (by omega) (by omega) (fun h2 => ?_) (fun h2 => ?_) | refine g_icmp_ne X rfl (fun h2 => ?_) (fun h2 => ?_)
      · refine g_iinc1 X rfl rfl (by decide) ?_
        refine g_goto X rfl ?_
        have K9 := ih (i + 1) (by omega) (by omega) (by omega)
        first | (rw [show sumN (fun i => E.2 0 i == kd && eCntIn E f t i) (fun i => (E.2 2 i).toInt64) (i + 1) = sumN (fun i => E.2 0 i == kd && eCntIn E f t i) (fun i => (E.2 2 i).toInt64) i + (fun i => (E.2 2 i).toInt64) i by rw [sumN, if_pos (by simp_all)]] at K9; exact K9) | (rw [show sumN (fun i => E.2 0 i == kd && eCntIn E f t i) (fun i => (E.2 2 i).toInt64) (i + 1) = sumN (fun i => E.2 0 i == kd && eCntIn E f t i) (fun i => (E.2 2 i).toInt64) i by rw [sumN, if_neg (by simp_all)]] at K9; exact K9)
      · refine g_aload_n X rfl rfl ?_
        refine g_iload X rfl rfl ?_
        refine g_iload_n X rfl rfl ?_
        refine g_iload_n X rfl rfl ?_
        refine g_rV X rfl lcX1_countsWithin lmX1_45 lsX1_countsWithin (cr_X1_countsWithin l D cy B od (E := E) (i := i) ⟨hE, hE0, hE1, hE2, hE3, hE4, hE5, hE6⟩ (by omega)) (ci := 1) hE rfl rfl rfl (by decide) ⟨⟨by decide, by decide⟩, rfl, rfl⟩ ⟨Nat.zero_le _, Nat.zero_le _⟩ ?_
        first | refine g_if_eqB X rfl (fun h3 => ?_) (fun h3 => ?_) | refine g_if_eq X rfl (fun h3 => ?_) (fun h3 => ?_)
        · refine g_iinc1 X rfl rfl (by decide) ?_
          refine g_goto X rfl ?_
          have K9 := ih (i + 1) (by omega) (by omega) (by omega)
          first | (rw [show sumN (fun i => E.2 0 i == kd && eCntIn E f t i) (fun i => (E.2 2 i).toInt64) (i + 1) = sumN (fun i => E.2 0 i == kd && eCntIn E f t i) (fun i => (E.2 2 i).toInt64) i + (fun i => (E.2 2 i).toInt64) i by rw [sumN, if_pos (by simp_all)]] at K9; exact K9) | (rw [show sumN (fun i => E.2 0 i == kd && eCntIn E f t i) (fun i => (E.2 2 i).toInt64) (i + 1) = sumN (fun i => E.2 0 i == kd && eCntIn E f t i) (fun i => (E.2 2 i).toInt64) i by rw [sumN, if_neg (by simp_all)]] at K9; exact K9)
        · refine g_lload X rfl rfl ?_
          refine g_aload_n X rfl rfl ?_
          refine g_get X rfl flX1_18 (ci := 1) rfl hE rfl ?_
          refine g_iload X rfl rfl ?_
          refine g_ialdN X rfl hE2 (by omega) (by decide) ?_
          refine g_i2l X rfl ?_
          refine g_ladd X rfl ?_
          refine g_lstore X rfl (by decide) ?_
          refine g_iinc1 X rfl rfl (by decide) ?_
          refine g_goto X rfl ?_
          have K9 := ih (i + 1) (by omega) (by omega) (by omega)
          first | (rw [show sumN (fun i => E.2 0 i == kd && eCntIn E f t i) (fun i => (E.2 2 i).toInt64) (i + 1) = sumN (fun i => E.2 0 i == kd && eCntIn E f t i) (fun i => (E.2 2 i).toInt64) i + (fun i => (E.2 2 i).toInt64) i by rw [sumN, if_pos (by simp_all)]] at K9; exact K9) | (rw [show sumN (fun i => E.2 0 i == kd && eCntIn E f t i) (fun i => (E.2 2 i).toInt64) (i + 1) = sumN (fun i => E.2 0 i == kd && eCntIn E f t i) (fun i => (E.2 2 i).toInt64) i by rw [sumN, if_neg (by simp_all)]] at K9; exact K9)
set_option maxRecDepth 100000 in
set_option maxHeartbeats 400000 in
theorem cr_X1_sumPaid (l : Launch) (D : va_G) (cy : Nat → ClassId) (B : Nat) (od : Nat → Option Nat) {A : AH} {b : Nat} {E : EV} (hE9 : EntA cy A b E) (hn : E.1 ≤ 60) {kd f t : Int32} : CR l D cy B od yX1_sumPaid cX1_sumPaid 7 (some .long) rmX1_sumPaid [.ref b, .int kd, .int f, .int t] A (.long (sumN (fun i => E.2 0 i == kd && eCntIn E f t i) (fun i => (E.2 2 i).toInt64) E.1)) := by
  intro z
  refine CT.of (by decide) tX1_sumPaid okX1_sumPaid (Nat.le_of_ble_eq_true rfl) (q0 := tX1_sumPaid[0]) rfl rfl ?_
  intro p e s m args below meth c X _
  refine g_lconst X rfl (v := 0) (by decide) ?_
  refine g_lstore X rfl (by decide) ?_
  refine g_iconst X rfl (v := nI 0) (by decide) ?_
  refine g_istore X rfl (by decide) ?_
  exact lp_X1_sumPaid l D cy B od hE9 hn X (E.1 + 1) 0 (by omega) (by omega) (by omega)
set_option maxRecDepth 100000 in
set_option maxHeartbeats 400000 in
theorem old_s1 {E : EV} {i : Nat} (h : eOpen E i = false) : oldN E (i + 1) = oldN E i := by rw [oldN, if_neg (by rw [h]; decide)]
theorem old_s2 {E : EV} {i : Nat} (h : eOpen E i = true) (h2 : oldN E i = none) : oldN E (i + 1) = some i := by rw [oldN, if_pos h, h2]
theorem old_s3 {E : EV} {i j : Nat} (h : eOpen E i = true) (h2 : oldN E i = some j) (h3 : E.2 3 i < E.2 3 j) : oldN E (i + 1) = some i := by rw [oldN, if_pos h, h2]; dsimp only; rw [if_pos h3]
theorem old_s4 {E : EV} {i j : Nat} (h : eOpen E i = true) (h2 : oldN E i = some j) (h3 : ¬ E.2 3 i < E.2 3 j) : oldN E (i + 1) = some j := by rw [oldN, if_pos h, h2]; dsimp only; rw [if_neg h3]
