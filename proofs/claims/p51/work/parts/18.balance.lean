/-! 18: the balance day by day -/
theorem G.cast {p : Program} {l : Launch} {e : Env} {R : Room} {s : State} {m : MethodId} {args : Array Value} {below : List Frame} {meth : Method} {c : Code} {D : va_G} {B : Nat} {od : Nat → Option Nat} {nL : Nat} {tab : List PT} {F : State → Prop} {cells slots : Nat} {A A2 : AH} {z i : Nat} {lv : List (Option Value)} {st : List Value} (h : A = A2) (k : G p l e R s m args below meth c D B od nL tab F cells slots A2 z i lv st) : G p l e R s m args below meth c D B od nL tab F cells slots A z i lv st := h ▸ k
abbrev bX (cy : Nat → ClassId) (g : Nat → Int64) : va_E := .inl (cy 1, 360, .inr (.inl g))
def bMove (f : Nat → Int64) (dy am : Int32) : Nat → Int64 := if 0 ≤ dy ∧ dy < nI 360 then vp_updL f dy.toNatClampNeg (f dy.toNatClampNeg + am.toInt64) else f
theorem StA.up {cy : Nat → ClassId} {A : AH} {a b : Nat} {S : StV} {x : va_E} (h : StA cy A b S) (hd : a < b ∨ b + 21 ≤ a) : StA cy (upA A a x) b S := h.same (fun k h1 h2 => upA_ne (by omega))
def bE (E : EV) (f : Nat → Int64) : Nat → Nat → Int64
  | 0 => f
  | n + 1 => if eCnt E n = true then bMove (bE E f n) (E.2 4 n) (if E.2 0 n = 0 then E.2 2 n else -E.2 2 n) else bE E f n
def bA1 (As : RV) (f : Nat → Int64) (n : Nat) : Nat → Int64 := bMove f (As.2 1 n) (-As.2 0 n)
def bA (As : RV) (f : Nat → Int64) : Nat → Nat → Int64
  | 0 => f
  | n + 1 => if As.2 4 n = -1 then bA1 As (bA As f n) n else bMove (bA1 As (bA As f n) n) (As.2 4 n) (As.2 5 n)
def bQ (pp : Nat → Int32) (f : Nat → Int64) : Nat → Nat → Int64
  | 0 => f
  | n + 1 => bMove (bQ pp f n) ((nI n + nI 1) * nI 90 - nI 1) (-pp n)
def preS (f : Nat → Int64) : Nat → Int64
  | 0 => f 0
  | n + 1 => f (n + 1) + preS f n
def bPre (f : Nat → Int64) (i : Nat) : Nat → Int64 := fun d => if d < i then preS f d else f d
theorem bPre_1 (f : Nat → Int64) : bPre f 1 = f := by
  funext d
  unfold bPre
  split
  · rename_i h
    have : d = 0 := by omega
    subst this; rfl
  · rfl
theorem bPre_s (f : Nat → Int64) (i : Nat) (h : 1 ≤ i) : vp_updL (bPre f i) i (bPre f i i + bPre f i (i - 1)) = bPre f (i + 1) := by
  obtain ⟨j, rfl⟩ : ∃ j, i = j + 1 := ⟨i - 1, by omega⟩
  funext d
  unfold vp_updL
  by_cases e : d = j + 1
  · subst e
    rw [if_pos rfl]
    unfold bPre
    rw [if_neg (by omega), if_pos (by omega), if_pos (by omega), show j + 1 - 1 = j by omega]
    rfl
  · rw [if_neg e]
    unfold bPre
    by_cases h2 : d < j + 1
    · rw [if_pos h2, if_pos (by omega)]
    · rw [if_neg h2, if_neg (by omega)]
/-- the days' balances: every move laid, then summed up -/
def bSum (S : StV) (f : Nat → Int64) : Nat → Int64 := bQ S.2.2.2.1 (bA S.2.2.1 (bE S.1 (bMove f (nI 0) S.2.2.2.2.2) S.1.1) S.2.2.1.1) S.2.2.2.2.1
set_option maxRecDepth 100000 in
set_option maxHeartbeats 400000 in
theorem cm_X6_move (l : Launch) (D : va_G) (cy : Nat → ClassId) (B : Nat) (od : Nat → Option Nat) {A : AH} {a : Nat} {f : Nat → Int64} (ha : A a = some (bX cy f)) {dy am : Int32} : CM l D cy B od yX6_move cX6_move 3 none rmX6_move [.ref a, .int dy, .int am] A (fun v A' => v = none ∧ A' = upA A a (bX cy (bMove f dy am))) := by
  intro z
  refine CT.of (by decide) tX6_move okX6_move (Nat.le_of_ble_eq_true rfl) (q0 := tX6_move[0]) rfl rfl ?_
  intro p e s m args below meth c X _
  refine g_iload_n X rfl rfl ?_
  refine g_if_lt X rfl (fun h1 => ?_) (fun h1 => ?_)
  · refine g_vret X rfl rfl (Nat.le_of_ble_eq_true rfl) (Nat.le_of_ble_eq_true rfl) ⟨rfl, ?_⟩
    first | exact ⟨rfl, by rw [bMove, if_pos ⟨by assumption, by assumption⟩, nI_clamp (by omega)]⟩ | exact ⟨rfl, by rw [bMove, if_neg (by intro q; simp_all [← Int32.not_le, ← Int32.not_lt]), upA_same ha]⟩
  · refine g_iload_n X rfl rfl ?_
    refine g_aload_n X rfl rfl ?_
    refine g_alen X rfl (t0 := 1) (x := .inr f) rfl (by (repeat (first | exact ha | exact upA_eq | refine (upA_ne (by omega)).trans ?_))) ?_
    refine g_icmp_ge X rfl (fun h2 => ?_) (fun h2 => ?_)
    · refine g_vret X rfl rfl (Nat.le_of_ble_eq_true rfl) (Nat.le_of_ble_eq_true rfl) ⟨rfl, ?_⟩
      first | exact ⟨rfl, by rw [bMove, if_pos ⟨by assumption, by assumption⟩, nI_clamp (by omega)]⟩ | exact ⟨rfl, by rw [bMove, if_neg (by intro q; simp_all [← Int32.not_le, ← Int32.not_lt]), upA_same ha]⟩
    · have g1 : 0 ≤ dy := Int32.not_lt.mp h1
      have g2 : dy < nI 360 := Int32.not_le.mp h2
      obtain ⟨j, hj, rfl⟩ := ix_of (n := 360) ⟨g1, g2⟩ (by decide)
      refine g_aload_n X rfl rfl ?_
      refine g_iload_n X rfl rfl ?_
      refine g_dup2 X rfl rfl rfl ?_
      refine g_laldN X rfl (by (repeat (first | exact ha | exact upA_eq | refine (upA_ne (by omega)).trans ?_))) (by omega) (by decide) ?_
      refine g_iload_n X rfl rfl ?_
      refine g_i2l X rfl ?_
      refine g_ladd X rfl ?_
      refine g_lastN X rfl (by (repeat (first | exact ha | exact upA_eq | refine (upA_ne (by omega)).trans ?_))) (by omega) (by decide) ?_
      refine g_vret X rfl rfl (Nat.le_of_ble_eq_true rfl) (Nat.le_of_ble_eq_true rfl) ⟨rfl, ?_⟩
      first | exact ⟨rfl, by rw [bMove, if_pos ⟨by assumption, by assumption⟩, nI_clamp (by omega)]⟩ | exact ⟨rfl, by rw [bMove, if_neg (by intro q; simp_all [← Int32.not_le, ← Int32.not_lt]), upA_same ha]⟩
set_option maxRecDepth 100000 in
set_option maxHeartbeats 400000 in
theorem lp_X6_fb5 (l : Launch) (D : va_G) (cy : Nat → ClassId) (B : Nat) (od : Nat → Option Nat) {p : Program} {e : Env} {s : State} {m : MethodId} {args : Array Value} {below : List Frame} {meth : Method} {c : Code} {A : AH} {z : Nat} {a b : Nat} {S : StV} (h0 : StA cy A b S) (hw : WfS S) (hd : a < b ∨ b + 21 ≤ a) {f0 : Nat → Int64} (X : Cx p s m args meth c D cy B od cX6_fillBalances 4 tX6_fillBalances RX6 none) : ∀ (k i : Nat) (o0 : Option Value), 1 ≤ i → i ≤ 360 → 360 - i < k → G p l e rmX6_fillBalances s m args below meth c D B od 4 tX6_fillBalances (FinQ false D B od (fun v A' z' => z' = z ∧ (fun v A' => v = none ∧ A' = upA A a (bX cy (bPre (bSum S f0) 360))) v A') (fun _ _ => True) args s below rmX6_fillBalances.cells rmX6_fillBalances.slots) 0 0 (upA A a (bX cy (bPre (bSum S f0) i))) z 119 [some (.ref b), some (.ref a), some (.int (nI i)), o0] [] := by
  intro k
  induction k with
  | zero => intro i _ _ _ h; omega
  | succ k ih =>
    intro i o0 hlo hi hk
    have hs9 := StA.up (x := bX cy (bPre (bSum S f0) i)) h0 hd
    obtain ⟨hs, hE9, hR9, hA9, hp⟩ := id hs9
    obtain ⟨hE, hE0, hE1, hE2, hE3, hE4, hE5, hE6⟩ := id hE9
    obtain ⟨hR, hR0, hR1, hR2⟩ := id hR9
    obtain ⟨hA, hA0, hA1, hA2, hA3, hA4, hA5⟩ := id hA9
    obtain ⟨w1, w2, w3, w4, w5⟩ := id hw
    have ha : upA A a (bX cy (bPre (bSum S f0) i)) a = some (bX cy (bPre (bSum S f0) i)) := upA_eq
    refine g_iload_n X rfl rfl ?_
    refine g_aload_n X rfl rfl ?_
    refine g_alen X rfl (t0 := 1) (x := .inr _) rfl (by (repeat (first | exact ha | exact upA_eq | refine (upA_ne (by omega)).trans ?_))) ?_
    first | refine g_ic_geN X rfl (by omega) (by omega) (fun h1 => ?_) (fun h1 => ?_) | refine g_icmp_ge X rfl (fun h1 => ?_) (fun h1 => ?_)
    · refine g_vret X rfl rfl (Nat.le_of_ble_eq_true rfl) (Nat.le_of_ble_eq_true rfl) ⟨rfl, ?_⟩
      exact ⟨rfl, by rw [show i = 360 by omega]⟩
    · refine g_aload_n X rfl rfl ?_
      refine g_iload_n X rfl rfl ?_
      refine g_dup2 X rfl rfl rfl ?_
      refine g_laldN X rfl (by (repeat (first | exact ha | exact upA_eq | refine (upA_ne (by omega)).trans ?_))) (by omega) (by decide) ?_
      refine g_aload_n X rfl rfl ?_
      refine g_iload_n X rfl rfl ?_
      refine g_iconst X rfl (v := nI 1) (by decide) ?_
      refine g_isub X rfl ?_
      rw [pk_sub hlo]
      refine g_laldN X rfl (by (repeat (first | exact ha | exact upA_eq | refine (upA_ne (by omega)).trans ?_))) (by omega) (by decide) ?_
      refine g_ladd X rfl ?_
      refine g_lastN X rfl (by (repeat (first | exact ha | exact upA_eq | refine (upA_ne (by omega)).trans ?_))) (by omega) (by decide) ?_
      rw [upA_up]
      refine g_iinc1 X rfl rfl (by decide) ?_
      refine g_goto X rfl ?_
      have K9 := ih (i + 1) o0 (by omega) (by omega) (by omega)
      rw [← bPre_s _ _ hlo] at K9
      exact K9
set_option maxRecDepth 100000 in
set_option maxHeartbeats 400000 in
theorem lp_X6_fb4 (l : Launch) (D : va_G) (cy : Nat → ClassId) (B : Nat) (od : Nat → Option Nat) {p : Program} {e : Env} {s : State} {m : MethodId} {args : Array Value} {below : List Frame} {meth : Method} {c : Code} {A : AH} {z : Nat} {a b : Nat} {S : StV} (h0 : StA cy A b S) (hw : WfS S) (hd : a < b ∨ b + 21 ≤ a) {f0 f3 : Nat → Int64} (hf : bQ S.2.2.2.1 f3 S.2.2.2.2.1 = bSum S f0) (X : Cx p s m args meth c D cy B od cX6_fillBalances 4 tX6_fillBalances RX6 none) : ∀ (k i : Nat) (o0 : Option Value), 0 ≤ i → i ≤ S.2.2.2.2.1 → S.2.2.2.2.1 - i < k → G p l e rmX6_fillBalances s m args below meth c D B od 4 tX6_fillBalances (FinQ false D B od (fun v A' z' => z' = z ∧ (fun v A' => v = none ∧ A' = upA A a (bX cy (bPre (bSum S f0) 360))) v A') (fun _ _ => True) args s below rmX6_fillBalances.cells rmX6_fillBalances.slots) 0 0 (upA A a (bX cy (bQ S.2.2.2.1 f3 i))) z 97 [some (.ref b), some (.ref a), some (.int (nI i)), o0] [] := by
  intro k
  induction k with
  | zero => intro i _ _ _ h; omega
  | succ k ih =>
    intro i o0 hlo hi hk
    have hs9 := StA.up (x := bX cy (bQ S.2.2.2.1 f3 i)) h0 hd
    obtain ⟨hs, hE9, hR9, hA9, hp⟩ := id hs9
    obtain ⟨hE, hE0, hE1, hE2, hE3, hE4, hE5, hE6⟩ := id hE9
    obtain ⟨hR, hR0, hR1, hR2⟩ := id hR9
    obtain ⟨hA, hA0, hA1, hA2, hA3, hA4, hA5⟩ := id hA9
    obtain ⟨w1, w2, w3, w4, w5⟩ := id hw
    have ha : upA A a (bX cy (bQ S.2.2.2.1 f3 i)) a = some (bX cy (bQ S.2.2.2.1 f3 i)) := upA_eq
    refine g_iload_n X rfl rfl ?_
    refine g_aload_n X rfl rfl ?_
    refine g_get X rfl flX6_48 (ci := 6) rfl (by (repeat (first | exact hs | exact upA_eq | refine (upA_ne (by omega)).trans ?_))) rfl ?_
    first | refine g_ic_geN X rfl (by omega) (by omega) (fun h1 => ?_) (fun h1 => ?_) | refine g_icmp_ge X rfl (fun h1 => ?_) (fun h1 => ?_)
    · refine g_iconst X rfl (v := nI 1) (by decide) ?_
      refine g_istore_n X rfl (by decide) ?_
      refine G.cast (A2 := upA A a (bX cy (bPre (bSum S f0) 1))) (by rw [show bQ S.2.2.2.1 f3 i = bPre (bSum S f0) 1 from by rw [bPre_1, ← hf, show S.2.2.2.2.1 = i by omega]]) ?_
      exact lp_X6_fb5 l D cy B od h0 hw hd (f0 := f0) X 361 1 o0 (by omega) (by omega) (by omega)
    · refine g_aload_n X rfl rfl ?_
      refine g_iload_n X rfl rfl ?_
      refine g_iconst X rfl (v := nI 1) (by decide) ?_
      refine g_iadd X rfl ?_
      refine g_bipush X rfl (v := nI 90) (by decide) ?_
      refine g_imul X rfl ?_
      refine g_iconst X rfl (v := nI 1) (by decide) ?_
      refine g_isub X rfl ?_
      refine g_aload_n X rfl rfl ?_
      refine g_get X rfl flX6_32 (ci := 6) rfl (by (repeat (first | exact hs | exact upA_eq | refine (upA_ne (by omega)).trans ?_))) rfl ?_
      refine g_iload_n X rfl rfl ?_
      refine g_ialdN X rfl (by (repeat (first | exact hp | exact upA_eq | refine (upA_ne (by omega)).trans ?_))) (by omega) (by decide) ?_
      refine g_ineg X rfl ?_
      refine g_mS X rfl lcX6_move lmX6_113 stX6_move (cm_X6_move l D cy B od ha) rfl rfl (Nat.le_of_ble_eq_true rfl) ⟨⟨by decide, by decide⟩, rfl, rfl⟩ ⟨Nat.le_of_ble_eq_true rfl, Nat.le_of_ble_eq_true rfl⟩ (fun v2 A2 q2 => ?_)
      obtain ⟨rfl, rfl⟩ := q2
      rw [upA_up]
      have hs9 := StA.up (x := bX cy (bQ S.2.2.2.1 f3 i)) h0 hd
      obtain ⟨hs, hE9, hR9, hA9, hp⟩ := id hs9
      obtain ⟨hE, hE0, hE1, hE2, hE3, hE4, hE5, hE6⟩ := id hE9
      obtain ⟨hR, hR0, hR1, hR2⟩ := id hR9
      obtain ⟨hA, hA0, hA1, hA2, hA3, hA4, hA5⟩ := id hA9
      obtain ⟨w1, w2, w3, w4, w5⟩ := id hw
      have ha : upA A a (bX cy (bQ S.2.2.2.1 f3 i)) a = some (bX cy (bQ S.2.2.2.1 f3 i)) := upA_eq
      refine g_iinc1 X rfl rfl (by decide) ?_
      refine g_goto X rfl ?_
      exact ih (i + 1) o0 (by omega) (by omega) (by omega)
set_option maxRecDepth 100000 in
set_option maxHeartbeats 400000 in
theorem lp_X6_fb3 (l : Launch) (D : va_G) (cy : Nat → ClassId) (B : Nat) (od : Nat → Option Nat) {p : Program} {e : Env} {s : State} {m : MethodId} {args : Array Value} {below : List Frame} {meth : Method} {c : Code} {A : AH} {z : Nat} {a b : Nat} {S : StV} (h0 : StA cy A b S) (hw : WfS S) (hd : a < b ∨ b + 21 ≤ a) {f0 f2 : Nat → Int64} (hf : bQ S.2.2.2.1 (bA S.2.2.1 f2 S.2.2.1.1) S.2.2.2.2.1 = bSum S f0) (X : Cx p s m args meth c D cy B od cX6_fillBalances 4 tX6_fillBalances RX6 none) : ∀ (k i : Nat) (o0 : Option Value), 0 ≤ i → i ≤ S.2.2.1.1 → S.2.2.1.1 - i < k → G p l e rmX6_fillBalances s m args below meth c D B od 4 tX6_fillBalances (FinQ false D B od (fun v A' z' => z' = z ∧ (fun v A' => v = none ∧ A' = upA A a (bX cy (bPre (bSum S f0) 360))) v A') (fun _ _ => True) args s below rmX6_fillBalances.cells rmX6_fillBalances.slots) 0 0 (upA A a (bX cy (bA S.2.2.1 f2 i))) z 56 [some (.ref b), some (.ref a), some (.int (nI i)), o0] [] := by
  intro k
  induction k with
  | zero => intro i _ _ _ h; omega
  | succ k ih =>
    intro i o0 hlo hi hk
    have hs9 := StA.up (x := bX cy (bA S.2.2.1 f2 i)) h0 hd
    obtain ⟨hs, hE9, hR9, hA9, hp⟩ := id hs9
    obtain ⟨hE, hE0, hE1, hE2, hE3, hE4, hE5, hE6⟩ := id hE9
    obtain ⟨hR, hR0, hR1, hR2⟩ := id hR9
    obtain ⟨hA, hA0, hA1, hA2, hA3, hA4, hA5⟩ := id hA9
    obtain ⟨w1, w2, w3, w4, w5⟩ := id hw
    have ha : upA A a (bX cy (bA S.2.2.1 f2 i)) a = some (bX cy (bA S.2.2.1 f2 i)) := upA_eq
    refine g_iload_n X rfl rfl ?_
    refine g_aload_n X rfl rfl ?_
    refine g_get X rfl flX6_28 (ci := 6) rfl (by (repeat (first | exact hs | exact upA_eq | refine (upA_ne (by omega)).trans ?_))) rfl ?_
    refine g_get X rfl flX6_40 (ci := 0) rfl (by (repeat (first | exact hA | exact upA_eq | refine (upA_ne (by omega)).trans ?_))) rfl ?_
    first | refine g_ic_geN X rfl (by omega) (by omega) (fun h1 => ?_) (fun h1 => ?_) | refine g_icmp_ge X rfl (fun h1 => ?_) (fun h1 => ?_)
    · refine g_iconst X rfl (v := nI 0) (by decide) ?_
      refine g_istore_n X rfl (by decide) ?_
      refine G.cast (A2 := upA A a (bX cy (bQ S.2.2.2.1 (bA S.2.2.1 f2 S.2.2.1.1) 0))) (by rw [show bA S.2.2.1 f2 i = bQ S.2.2.2.1 (bA S.2.2.1 f2 S.2.2.1.1) 0 from by rw [show i = S.2.2.1.1 by omega]; rfl]) ?_
      exact lp_X6_fb4 l D cy B od h0 hw hd (f0 := f0) hf X (S.2.2.2.2.1 + 1) 0 o0 (by omega) (by omega) (by omega)
    · refine g_aload_n X rfl rfl ?_
      refine g_aload_n X rfl rfl ?_
      refine g_get X rfl flX6_28 (ci := 6) rfl (by (repeat (first | exact hs | exact upA_eq | refine (upA_ne (by omega)).trans ?_))) rfl ?_
      refine g_get X rfl flX6_117 (ci := 0) rfl (by (repeat (first | exact hA | exact upA_eq | refine (upA_ne (by omega)).trans ?_))) rfl ?_
      refine g_iload_n X rfl rfl ?_
      refine g_ialdN X rfl (by (repeat (first | exact hA1 | exact upA_eq | refine (upA_ne (by omega)).trans ?_))) (by omega) (by decide) ?_
      refine g_aload_n X rfl rfl ?_
      refine g_get X rfl flX6_28 (ci := 6) rfl (by (repeat (first | exact hs | exact upA_eq | refine (upA_ne (by omega)).trans ?_))) rfl ?_
      refine g_get X rfl flX6_120 (ci := 0) rfl (by (repeat (first | exact hA | exact upA_eq | refine (upA_ne (by omega)).trans ?_))) rfl ?_
      refine g_iload_n X rfl rfl ?_
      refine g_ialdN X rfl (by (repeat (first | exact hA0 | exact upA_eq | refine (upA_ne (by omega)).trans ?_))) (by omega) (by decide) ?_
      refine g_ineg X rfl ?_
      refine g_mS X rfl lcX6_move lmX6_113 stX6_move (cm_X6_move l D cy B od ha) rfl rfl (Nat.le_of_ble_eq_true rfl) ⟨⟨by decide, by decide⟩, rfl, rfl⟩ ⟨Nat.le_of_ble_eq_true rfl, Nat.le_of_ble_eq_true rfl⟩ (fun v2 A2 q2 => ?_)
      obtain ⟨rfl, rfl⟩ := q2
      rw [upA_up]
      have hs9 := StA.up (x := bX cy (bA1 S.2.2.1 (bA S.2.2.1 f2 i) i)) h0 hd
      obtain ⟨hs, hE9, hR9, hA9, hp⟩ := id hs9
      obtain ⟨hE, hE0, hE1, hE2, hE3, hE4, hE5, hE6⟩ := id hE9
      obtain ⟨hR, hR0, hR1, hR2⟩ := id hR9
      obtain ⟨hA, hA0, hA1, hA2, hA3, hA4, hA5⟩ := id hA9
      obtain ⟨w1, w2, w3, w4, w5⟩ := id hw
      have ha : upA A a (bX cy (bA1 S.2.2.1 (bA S.2.2.1 f2 i) i)) a = some (bX cy (bA1 S.2.2.1 (bA S.2.2.1 f2 i) i)) := upA_eq
      refine g_aload_n X rfl rfl ?_
      refine g_get X rfl flX6_28 (ci := 6) rfl (by (repeat (first | exact hs | exact upA_eq | refine (upA_ne (by omega)).trans ?_))) rfl ?_
      refine g_get X rfl flX6_123 (ci := 0) rfl (by (repeat (first | exact hA | exact upA_eq | refine (upA_ne (by omega)).trans ?_))) rfl ?_
      refine g_iload_n X rfl rfl ?_
      refine g_ialdN X rfl (by (repeat (first | exact hA4 | exact upA_eq | refine (upA_ne (by omega)).trans ?_))) (by omega) (by decide) ?_
      refine g_iconst X rfl (v := (-1)) (by decide) ?_
      refine g_icmp_eq X rfl (fun h3 => ?_) (fun h3 => ?_)
      · refine g_iinc1 X rfl rfl (by decide) ?_
        refine g_goto X rfl ?_
        have K9 := ih (i + 1) o0 (by omega) (by omega) (by omega)
        first | (rw [show bA S.2.2.1 f2 (i + 1) = bA1 S.2.2.1 (bA S.2.2.1 f2 i) i by rw [bA, if_pos (by assumption)]] at K9; exact K9) | (rw [show bA S.2.2.1 f2 (i + 1) = bMove (bA1 S.2.2.1 (bA S.2.2.1 f2 i) i) (S.2.2.1.2 4 i) (S.2.2.1.2 5 i) by rw [bA, if_neg (by assumption)]] at K9; exact K9)
      · refine g_aload_n X rfl rfl ?_
        refine g_aload_n X rfl rfl ?_
        refine g_get X rfl flX6_28 (ci := 6) rfl (by (repeat (first | exact hs | exact upA_eq | refine (upA_ne (by omega)).trans ?_))) rfl ?_
        refine g_get X rfl flX6_123 (ci := 0) rfl (by (repeat (first | exact hA | exact upA_eq | refine (upA_ne (by omega)).trans ?_))) rfl ?_
        refine g_iload_n X rfl rfl ?_
        refine g_ialdN X rfl (by (repeat (first | exact hA4 | exact upA_eq | refine (upA_ne (by omega)).trans ?_))) (by omega) (by decide) ?_
        refine g_aload_n X rfl rfl ?_
        refine g_get X rfl flX6_28 (ci := 6) rfl (by (repeat (first | exact hs | exact upA_eq | refine (upA_ne (by omega)).trans ?_))) rfl ?_
        refine g_get X rfl flX6_126 (ci := 0) rfl (by (repeat (first | exact hA | exact upA_eq | refine (upA_ne (by omega)).trans ?_))) rfl ?_
        refine g_iload_n X rfl rfl ?_
        refine g_ialdN X rfl (by (repeat (first | exact hA5 | exact upA_eq | refine (upA_ne (by omega)).trans ?_))) (by omega) (by decide) ?_
        refine g_mS X rfl lcX6_move lmX6_113 stX6_move (cm_X6_move l D cy B od ha) rfl rfl (Nat.le_of_ble_eq_true rfl) ⟨⟨by decide, by decide⟩, rfl, rfl⟩ ⟨Nat.le_of_ble_eq_true rfl, Nat.le_of_ble_eq_true rfl⟩ (fun v4 A4 q4 => ?_)
        obtain ⟨rfl, rfl⟩ := q4
        rw [upA_up]
        refine g_iinc1 X rfl rfl (by decide) ?_
        refine g_goto X rfl ?_
        have K9 := ih (i + 1) o0 (by omega) (by omega) (by omega)
        first | (rw [show bA S.2.2.1 f2 (i + 1) = bA1 S.2.2.1 (bA S.2.2.1 f2 i) i by rw [bA, if_pos (by assumption)]] at K9; exact K9) | (rw [show bA S.2.2.1 f2 (i + 1) = bMove (bA1 S.2.2.1 (bA S.2.2.1 f2 i) i) (S.2.2.1.2 4 i) (S.2.2.1.2 5 i) by rw [bA, if_neg (by assumption)]] at K9; exact K9)
set_option maxRecDepth 100000 in
set_option maxHeartbeats 400000 in
theorem lp_X6_fb2 (l : Launch) (D : va_G) (cy : Nat → ClassId) (B : Nat) (od : Nat → Option Nat) {p : Program} {e : Env} {s : State} {m : MethodId} {args : Array Value} {below : List Frame} {meth : Method} {c : Code} {A : AH} {z : Nat} {a b : Nat} {S : StV} (h0 : StA cy A b S) (hw : WfS S) (hd : a < b ∨ b + 21 ≤ a) {f0 f1 : Nat → Int64} (hf : bQ S.2.2.2.1 (bA S.2.2.1 (bE S.1 f1 S.1.1) S.2.2.1.1) S.2.2.2.2.1 = bSum S f0) (X : Cx p s m args meth c D cy B od cX6_fillBalances 4 tX6_fillBalances RX6 none) : ∀ (k i : Nat) (o0 : Option Value), 0 ≤ i → i ≤ S.1.1 → S.1.1 - i < k → G p l e rmX6_fillBalances s m args below meth c D B od 4 tX6_fillBalances (FinQ false D B od (fun v A' z' => z' = z ∧ (fun v A' => v = none ∧ A' = upA A a (bX cy (bPre (bSum S f0) 360))) v A') (fun _ _ => True) args s below rmX6_fillBalances.cells rmX6_fillBalances.slots) 0 0 (upA A a (bX cy (bE S.1 f1 i))) z 19 [some (.ref b), some (.ref a), some (.int (nI i)), o0] [] := by
  intro k
  induction k with
  | zero => intro i _ _ _ h; omega
  | succ k ih =>
    intro i o0 hlo hi hk
    have hs9 := StA.up (x := bX cy (bE S.1 f1 i)) h0 hd
    obtain ⟨hs, hE9, hR9, hA9, hp⟩ := id hs9
    obtain ⟨hE, hE0, hE1, hE2, hE3, hE4, hE5, hE6⟩ := id hE9
    obtain ⟨hR, hR0, hR1, hR2⟩ := id hR9
    obtain ⟨hA, hA0, hA1, hA2, hA3, hA4, hA5⟩ := id hA9
    obtain ⟨w1, w2, w3, w4, w5⟩ := id hw
    have ha : upA A a (bX cy (bE S.1 f1 i)) a = some (bX cy (bE S.1 f1 i)) := upA_eq
    refine g_iload_n X rfl rfl ?_
    refine g_aload_n X rfl rfl ?_
    refine g_get X rfl flX6_12 (ci := 6) rfl (by (repeat (first | exact hs | exact upA_eq | refine (upA_ne (by omega)).trans ?_))) rfl ?_
    refine g_get X rfl flX6_36 (ci := 1) rfl (by (repeat (first | exact hE | exact upA_eq | refine (upA_ne (by omega)).trans ?_))) rfl ?_
    first | refine g_ic_geN X rfl (by omega) (by omega) (fun h1 => ?_) (fun h1 => ?_) | refine g_icmp_ge X rfl (fun h1 => ?_) (fun h1 => ?_)
    · refine g_iconst X rfl (v := nI 0) (by decide) ?_
      refine g_istore_n X rfl (by decide) ?_
      refine G.cast (A2 := upA A a (bX cy (bA S.2.2.1 (bE S.1 f1 S.1.1) 0))) (by rw [show bE S.1 f1 i = bA S.2.2.1 (bE S.1 f1 S.1.1) 0 from by rw [show i = S.1.1 by omega]; rfl]) ?_
      exact lp_X6_fb3 l D cy B od h0 hw hd (f0 := f0) hf X (S.2.2.1.1 + 1) 0 _ (by omega) (by omega) (by omega)
    · refine g_aload_n X rfl rfl ?_
      refine g_get X rfl flX6_12 (ci := 6) rfl (by (repeat (first | exact hs | exact upA_eq | refine (upA_ne (by omega)).trans ?_))) rfl ?_
      refine g_iload_n X rfl rfl ?_
      refine g_rVN X rfl lcX1_counts lnX6_69 lsX1_counts (cr_X1_counts l D cy B od hE9 (by omega)) (ci := 1) (by (repeat (first | exact hE | exact upA_eq | refine (upA_ne (by omega)).trans ?_))) rfl rfl rfl (Nat.le_of_ble_eq_true rfl) ⟨⟨by decide, by decide⟩, rfl, rfl⟩ ⟨Nat.le_of_ble_eq_true rfl, Nat.le_of_ble_eq_true rfl⟩ ?_
      first | refine g_if_eqB X rfl (fun h2 => ?_) (fun h2 => ?_) | refine g_if_eq X rfl (fun h2 => ?_) (fun h2 => ?_)
      · refine g_iinc1 X rfl rfl (by decide) ?_
        refine g_goto X rfl ?_
        have K9 := fun u0 => ih (i + 1) u0 (by omega) (by omega) (by omega)
        first | (rw [show bE S.1 f1 (i + 1) = bE S.1 f1 i by rw [bE, if_neg (by simp_all)]] at K9; exact K9 _) | (rw [show bE S.1 f1 (i + 1) = bMove (bE S.1 f1 i) (S.1.2 4 i) (if S.1.2 0 i = 0 then S.1.2 2 i else -S.1.2 2 i) by rw [bE, if_pos (by assumption)]] at K9; first | (rw [if_pos (by assumption)] at K9; exact K9 _) | (rw [if_neg (by assumption)] at K9; exact K9 _))
      · refine g_aload_n X rfl rfl ?_
        refine g_get X rfl flX6_12 (ci := 6) rfl (by (repeat (first | exact hs | exact upA_eq | refine (upA_ne (by omega)).trans ?_))) rfl ?_
        refine g_get X rfl flX6_76 (ci := 1) rfl (by (repeat (first | exact hE | exact upA_eq | refine (upA_ne (by omega)).trans ?_))) rfl ?_
        refine g_iload_n X rfl rfl ?_
        refine g_ialdN X rfl (by (repeat (first | exact hE2 | exact upA_eq | refine (upA_ne (by omega)).trans ?_))) (by omega) (by decide) ?_
        refine g_istore_n X rfl (by decide) ?_
        refine g_aload_n X rfl rfl ?_
        refine g_aload_n X rfl rfl ?_
        refine g_get X rfl flX6_12 (ci := 6) rfl (by (repeat (first | exact hs | exact upA_eq | refine (upA_ne (by omega)).trans ?_))) rfl ?_
        refine g_get X rfl flX6_79 (ci := 1) rfl (by (repeat (first | exact hE | exact upA_eq | refine (upA_ne (by omega)).trans ?_))) rfl ?_
        refine g_iload_n X rfl rfl ?_
        refine g_ialdN X rfl (by (repeat (first | exact hE4 | exact upA_eq | refine (upA_ne (by omega)).trans ?_))) (by omega) (by decide) ?_
        refine g_aload_n X rfl rfl ?_
        refine g_get X rfl flX6_12 (ci := 6) rfl (by (repeat (first | exact hs | exact upA_eq | refine (upA_ne (by omega)).trans ?_))) rfl ?_
        refine g_get X rfl flX6_73 (ci := 1) rfl (by (repeat (first | exact hE | exact upA_eq | refine (upA_ne (by omega)).trans ?_))) rfl ?_
        refine g_iload_n X rfl rfl ?_
        refine g_ialdN X rfl (by (repeat (first | exact hE0 | exact upA_eq | refine (upA_ne (by omega)).trans ?_))) (by omega) (by decide) ?_
        refine g_if_ne X rfl (fun h3 => ?_) (fun h3 => ?_)
        · refine g_iload_n X rfl rfl ?_
          refine g_ineg X rfl ?_
          refine g_mS X rfl lcX6_move lmX6_113 stX6_move (cm_X6_move l D cy B od ha) rfl rfl (Nat.le_of_ble_eq_true rfl) ⟨⟨by decide, by decide⟩, rfl, rfl⟩ ⟨Nat.le_of_ble_eq_true rfl, Nat.le_of_ble_eq_true rfl⟩ (fun v4 A4 q4 => ?_)
          obtain ⟨rfl, rfl⟩ := q4
          rw [upA_up]
          refine g_iinc1 X rfl rfl (by decide) ?_
          refine g_goto X rfl ?_
          have K9 := fun u0 => ih (i + 1) u0 (by omega) (by omega) (by omega)
          first | (rw [show bE S.1 f1 (i + 1) = bE S.1 f1 i by rw [bE, if_neg (by simp_all)]] at K9; exact K9 _) | (rw [show bE S.1 f1 (i + 1) = bMove (bE S.1 f1 i) (S.1.2 4 i) (if S.1.2 0 i = 0 then S.1.2 2 i else -S.1.2 2 i) by rw [bE, if_pos (by assumption)]] at K9; first | (rw [if_pos (by assumption)] at K9; exact K9 _) | (rw [if_neg (by assumption)] at K9; exact K9 _))
        · refine g_iload_n X rfl rfl ?_
          refine g_goto X rfl ?_
          refine g_mS X rfl lcX6_move lmX6_113 stX6_move (cm_X6_move l D cy B od ha) rfl rfl (Nat.le_of_ble_eq_true rfl) ⟨⟨by decide, by decide⟩, rfl, rfl⟩ ⟨Nat.le_of_ble_eq_true rfl, Nat.le_of_ble_eq_true rfl⟩ (fun v5 A5 q5 => ?_)
          obtain ⟨rfl, rfl⟩ := q5
          rw [upA_up]
          refine g_iinc1 X rfl rfl (by decide) ?_
          refine g_goto X rfl ?_
          have K9 := fun u0 => ih (i + 1) u0 (by omega) (by omega) (by omega)
          first | (rw [show bE S.1 f1 (i + 1) = bE S.1 f1 i by rw [bE, if_neg (by simp_all)]] at K9; exact K9 _) | (rw [show bE S.1 f1 (i + 1) = bMove (bE S.1 f1 i) (S.1.2 4 i) (if S.1.2 0 i = 0 then S.1.2 2 i else -S.1.2 2 i) by rw [bE, if_pos (by assumption)]] at K9; first | (rw [if_pos (by assumption)] at K9; exact K9 _) | (rw [if_neg (by assumption)] at K9; exact K9 _))
def bZ (f : Nat → Int64) : Nat → Nat → Int64
  | 0 => f
  | n + 1 => vp_updL (bZ f n) n 0
theorem bZ_0 (f : Nat → Int64) : ∀ n j, j < n → bZ f n j = 0
  | n + 1, j, h => by
    unfold bZ vp_updL
    split
    · rfl
    · exact bZ_0 f n j (by omega)
set_option maxRecDepth 100000 in
set_option maxHeartbeats 400000 in
theorem lp_X6_fb1 (l : Launch) (D : va_G) (cy : Nat → ClassId) (B : Nat) (od : Nat → Option Nat) {p : Program} {e : Env} {s : State} {m : MethodId} {args : Array Value} {below : List Frame} {meth : Method} {c : Code} {A : AH} {z : Nat} {a b : Nat} {S : StV} (h0 : StA cy A b S) (hw : WfS S) (hd : a < b ∨ b + 21 ≤ a) {f : Nat → Int64} (X : Cx p s m args meth c D cy B od cX6_fillBalances 4 tX6_fillBalances RX6 none) : ∀ (k i : Nat) (o0 : Option Value), 0 ≤ i → i ≤ 360 → 360 - i < k → G p l e rmX6_fillBalances s m args below meth c D B od 4 tX6_fillBalances (FinQ false D B od (fun v A' z' => z' = z ∧ (fun v A' => v = none ∧ A' = upA A a (bX cy (bPre (bSum S (bZ f 360)) 360))) v A') (fun _ _ => True) args s below rmX6_fillBalances.cells rmX6_fillBalances.slots) 0 0 (upA A a (bX cy (bZ f i))) z 2 [some (.ref b), some (.ref a), some (.int (nI i)), o0] [] := by
  intro k
  induction k with
  | zero => intro i _ _ _ h; omega
  | succ k ih =>
    intro i o0 hlo hi hk
    have hs9 := StA.up (x := bX cy (bZ f i)) h0 hd
    obtain ⟨hs, hE9, hR9, hA9, hp⟩ := id hs9
    obtain ⟨hE, hE0, hE1, hE2, hE3, hE4, hE5, hE6⟩ := id hE9
    obtain ⟨hR, hR0, hR1, hR2⟩ := id hR9
    obtain ⟨hA, hA0, hA1, hA2, hA3, hA4, hA5⟩ := id hA9
    obtain ⟨w1, w2, w3, w4, w5⟩ := id hw
    have ha : upA A a (bX cy (bZ f i)) a = some (bX cy (bZ f i)) := upA_eq
    refine g_iload_n X rfl rfl ?_
    refine g_aload_n X rfl rfl ?_
    refine g_alen X rfl (t0 := 1) (x := .inr _) rfl (by (repeat (first | exact ha | exact upA_eq | refine (upA_ne (by omega)).trans ?_))) ?_
    first | refine g_ic_geN X rfl (by omega) (by omega) (fun h1 => ?_) (fun h1 => ?_) | refine g_icmp_ge X rfl (fun h1 => ?_) (fun h1 => ?_)
    · refine g_aload_n X rfl rfl ?_
      refine g_iconst X rfl (v := nI 0) (by decide) ?_
      refine g_aload_n X rfl rfl ?_
      refine g_get X rfl flX6_54 (ci := 6) rfl (by (repeat (first | exact hs | exact upA_eq | refine (upA_ne (by omega)).trans ?_))) rfl ?_
      refine g_mS X rfl lcX6_move lmX6_113 stX6_move (cm_X6_move l D cy B od ha) rfl rfl (Nat.le_of_ble_eq_true rfl) ⟨⟨by decide, by decide⟩, rfl, rfl⟩ ⟨Nat.le_of_ble_eq_true rfl, Nat.le_of_ble_eq_true rfl⟩ (fun v2 A2 q2 => ?_)
      obtain ⟨rfl, rfl⟩ := q2
      rw [upA_up]
      refine g_iconst X rfl (v := nI 0) (by decide) ?_
      refine g_istore_n X rfl (by decide) ?_
      refine G.cast (A2 := upA A a (bX cy (bE S.1 (bMove (bZ f 360) (nI 0) S.2.2.2.2.2) 0))) (by rw [show bMove (bZ f i) (nI 0) S.2.2.2.2.2 = bE S.1 (bMove (bZ f 360) (nI 0) S.2.2.2.2.2) 0 from by rw [show i = 360 by omega]; rfl]) ?_
      exact lp_X6_fb2 l D cy B od h0 hw hd (f0 := bZ f 360) (f1 := bMove (bZ f 360) (nI 0) S.2.2.2.2.2) rfl X (S.1.1 + 1) 0 _ (by omega) (by omega) (by omega)
    · refine g_aload_n X rfl rfl ?_
      refine g_iload_n X rfl rfl ?_
      refine g_lconst X rfl (v := 0) (by decide) ?_
      refine g_lastN X rfl (by (repeat (first | exact ha | exact upA_eq | refine (upA_ne (by omega)).trans ?_))) (by omega) (by decide) ?_
      rw [upA_up]
      refine g_iinc1 X rfl rfl (by decide) ?_
      refine g_goto X rfl ?_
      exact ih (i + 1) o0 (by omega) (by omega) (by omega)
set_option maxRecDepth 100000 in
set_option maxHeartbeats 400000 in
theorem cm_X6_fillBalances (l : Launch) (D : va_G) (cy : Nat → ClassId) (B : Nat) (od : Nat → Option Nat) {A : AH} {a b : Nat} {S : StV} (h0 : StA cy A b S) (hw : WfS S) (hd : a < b ∨ b + 21 ≤ a) {f : Nat → Int64} (ha : A a = some (bX cy f)) : CM l D cy B od yX6_fillBalances cX6_fillBalances 4 none rmX6_fillBalances [.ref b, .ref a] A (fun v A' => v = none ∧ A' = upA A a (bX cy (bPre (bSum S (bZ f 360)) 360))) := by
  intro z
  refine CT.of (by decide) tX6_fillBalances okX6_fillBalances (Nat.le_of_ble_eq_true rfl) (q0 := tX6_fillBalances[0]) rfl rfl ?_
  intro p e s m args below meth c X _
  refine g_iconst X rfl (v := nI 0) (by decide) ?_
  refine g_istore_n X rfl (by decide) ?_
  refine G.cast (A2 := upA A a (bX cy (bZ f 0))) (upA_same ha).symm ?_
  exact lp_X6_fb1 l D cy B od h0 hw hd (f := f) X 361 0 _ (by omega) (by omega) (by omega)
