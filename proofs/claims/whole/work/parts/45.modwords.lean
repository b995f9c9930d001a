/-! 45: the reference: words and numbers of a text -/
/-- the reference in front of a token: all but the token, the told bits and the row that is read -/
def MS (cy : Nat → ClassId) (A : AH) (th : Int32) (len : Nat) (wr : Int32) (en : Nat) (sv : Int32) (mb tx : Nat → Int32) (tk : TK) (td : Int32) (rr : Nat → Int32) : Prop := ∃ num : Int64, A 231 = some (mP th len (nI tk.1) (nI tk.2.2.1) tk.2.1 wr num en td sv) ∧ TX cy A len mb tx ∧ A 233 = some (.inl (cy 0, 522, .inl rr)) ∧ T3 len tk ∧ NumK num tk
def MFr (A A' : AH) : Prop := ∀ k, k ≠ 231 → k ≠ 233 → A' k = A k
theorem MFr.refl (A : AH) : MFr A A := fun _ _ _ => rfl
theorem MFr.m {A A' : AH} {x : va_E} (h : MFr A A') : MFr A (upA A' 231 x) := fun k h1 h2 => (upA_ne h1).trans (h k h1 h2)
theorem MFr.r {A A' : AH} {x : va_E} (h : MFr A A') : MFr A (upA A' 233 x) := fun k h1 h2 => (upA_ne h2).trans (h k h1 h2)
theorem MFr.trans {A A' A2 : AH} (h : MFr A A') (h2 : MFr A' A2) : MFr A A2 := fun k h3 h4 => (h2 k h3 h4).trans (h k h3 h4)
theorem MS.m {cy : Nat → ClassId} {A : AH} {th : Int32} {len : Nat} {wr wr2 : Int32} {en : Nat} {sv : Int32} {mb tx : Nat → Int32} {tk tk2 : TK} {td td2 : Int32} {rr : Nat → Int32} {n : Int64} (h : MS cy A th len wr en sv mb tx tk td rr) (h2 : T3 len tk2) (hn : NumK n tk2) : MS cy (upA A 231 (mP th len (nI tk2.1) (nI tk2.2.2.1) tk2.2.1 wr2 n en td2 sv)) th len wr2 en sv mb tx tk2 td2 rr := by
  obtain ⟨num, hM, hX, hr, -⟩ := h
  exact ⟨n, upA_eq, hX.up (by decide), (upA_ne (by decide)).trans hr, h2, hn⟩
theorem MS.r {cy : Nat → ClassId} {A : AH} {th : Int32} {len : Nat} {wr : Int32} {en : Nat} {sv : Int32} {mb tx : Nat → Int32} {tk : TK} {td : Int32} {rr rr2 : Nat → Int32} (h : MS cy A th len wr en sv mb tx tk td rr) : MS cy (upA A 233 (.inl (cy 0, 522, .inl rr2))) th len wr en sv mb tx tk td rr2 := by
  obtain ⟨num, hM, hX, hr, h1, h2⟩ := h
  exact ⟨num, (upA_ne (by decide)).trans hM, hX.up (by decide), upA_eq, h1, h2⟩
theorem MS.step {cy : Nat → ClassId} {A : AH} {th : Int32} {len : Nat} {wr : Int32} {en : Nat} {sv : Int32} {mb tx : Nat → Int32} {tk tk2 : TK} {td : Int32} {rr : Nat → Int32} {n : Int64} (h : MS cy A th len wr en sv mb tx tk td rr) (e : tk2 = tokAt tx len (scan (spR tx) len tk.1) tk.2.2.2) (hn : NumK n tk2) : MS cy (upA A 231 (mP th len (nI tk2.1) (nI tk2.2.2.1) tk2.2.1 wr n en td sv)) th len wr en sv mb tx (tokN tx len tk) td rr := by
  have e2 : tk2 = tokN tx len tk := e
  subst e2
  have h3 : T3 len tk := by obtain ⟨_, _, _, _, h3, _⟩ := h; exact h3
  exact h.m (T3.tok h3.1.1) hn
theorem numOk_t {tk : TK} {lo hi : Int32} (h : tk.2.1 = nI 2) (h2 : within9 tk.2.2.2 lo hi = true) : numOk tk lo hi = true := by
  unfold numOk; rw [h, h2]; decide
theorem numOk_f1 {tk : TK} {lo hi : Int32} (h : ¬ tk.2.1 = nI 2) : numOk tk lo hi = false := by
  unfold numOk; rw [decide_eq_false h]; rfl
theorem numOk_f2 {tk : TK} {lo hi : Int32} (h : within9 tk.2.2.2 lo hi = false) : numOk tk lo hi = false := by
  unfold numOk; rw [h, Bool.and_false]
theorem numOk_f3 {tk : TK} {lo hi : Int32} {n : Int64} (hn : NumK n tk) (h : tk.2.1 = nI 2) (h8 : 8 < tk.1 - tk.2.2.1) (hlo : 0 ≤ lo) : numOk tk lo hi = false := by
  rcases hn h with ⟨-, h2⟩ | ⟨h2, -⟩
  · refine numOk_f2 ?_
    rw [h2]; unfold within9
    rw [decide_eq_false, Bool.false_and]
    rw [Int32.not_le]
    exact Int32.lt_of_lt_of_le (by decide) hlo
  · omega
theorem ext9 {f : Nat → Int32} {L : List Int32} {a i : Nat} (h : ∀ q, q < i → f (a + q) = L.getD q 0) (h2 : f (a + i) = L.getD i 0) : ∀ q, q < i + 1 → f (a + q) = L.getD q 0 := by
  intro q hq
  by_cases e : q = i
  · subst e; exact h2
  · exact h q (by omega)
theorem num_at {tk : TK} {n : Int64} (hn : NumK n tk) (h : tk.2.1 = nI 2) (h8 : tk.1 - tk.2.2.1 ≤ 8) : n = tk.2.2.2.toInt64 := by
  rcases hn h with ⟨h2, -⟩ | ⟨-, h2⟩
  · omega
  · exact h2
theorem G.lv9 {p : Program} {l : Launch} {e : Env} {R : Room} {s : State} {m : MethodId} {args : Array Value} {below : List Frame} {meth : Method} {c : Code} {D : va_G} {B : Nat} {od : Nat → Option Nat} {nL : Nat} {tab : List PT} {F : State → Prop} {cells slots : Nat} {A : AH} {z i : Nat} {lv lv2 : List (Option Value)} {st : List Value} (h : lv = lv2) (k : G p l e R s m args below meth c D B od nL tab F cells slots A z i lv st) : G p l e R s m args below meth c D B od nL tab F cells slots A z i lv2 st := h ▸ k
set_option maxRecDepth 100000 in
set_option maxHeartbeats 400000 in
theorem lp_X8_isWord (l : Launch) (D : va_G) (cy : Nat → ClassId) (B : Nat) (od : Nat → Option Nat) {p : Program} {e : Env} {s : State} {m : MethodId} {args : Array Value} {below : List Frame} {meth : Method} {c : Code} {A : AH} {z : Nat} {th wr : Int32} {len en : Nat} {td sv : Int32} {mb tx rr : Nat → Int32} {tk : TK} (hS : MS cy A th len wr en sv mb tx tk td rr) {j : Nat} (hj : j < 19) (hg : decide (wr < 0) = true) (hq1 : tk.2.1 = nI 1) (hq2 : tk.1 - tk.2.2.1 = (sB j).length) (X : Cx p s m args meth c D cy B od cX8_isWord 4 tX8_isWord RX8 (some .boolean)) : ∀ (k i : Nat) (b9 : Bool) (_ : (b9 = true ∧ ∀ q, q < i → tx (tk.2.2.1 + q) = (sB j).getD q 0) ∨ (b9 = false ∧ ∃ q, q < (sB j).length ∧ ¬ tx (tk.2.2.1 + q) = (sB j).getD q 0)), 0 ≤ i → i ≤ (sB j).length → (sB j).length - i < k → G p l e rmX8_isWord s m args below meth c D B od 4 tX8_isWord (FinQ false D B od (fun v A' z' => z' = z ∧ (fun v A' => v = some (.int (bI (decide (wr < 0) && isW tx tk j))) ∧ A' = A) v A') (fun _ _ => True) args s below rmX8_isWord.cells rmX8_isWord.slots) 0 0 A z 21 [some (.ref 231), some (.ref (1000000 + j)), some (.int (bI b9)), some (.int (nI i))] [] := by
  intro k
  induction k with
  | zero => intro i _ _ _ _ h; omega
  | succ k ih =>
    intro i b9 hb9 hlo hi hk
    obtain ⟨num, hM, hX, hrd, hT3, hNk⟩ := id hS
    have hT1 := hT3.1.1
    have hT2 := hT3.1.2
    obtain ⟨hb, hlen, hal, hpos⟩ := id hX
    have hb0 := sB_len j hj
    refine g_iload_n X rfl rfl ?_
    first | refine g_if_eqB X rfl (fun h1 => ?_) (fun h1 => ?_) | refine g_if_eq X rfl (fun h1 => ?_) (fun h1 => ?_)
    · refine g_iload_n X rfl rfl ?_
      refine g_iret X rfl rfl (by first | rfl | exact bI_nar _ | decide) (Nat.le_of_ble_eq_true rfl) (Nat.le_of_ble_eq_true rfl) ⟨rfl, ?_⟩
      refine ⟨?_, rfl⟩
      rcases hb9 with ⟨e9, hb9⟩ | ⟨e9, q9, hb9, hb8⟩
      · subst e9
        first | exact absurd h1 (by decide) | rw [show (decide (wr < 0) && isW tx tk j) = true by rw [hg, Bool.true_and]; unfold isW; rw [Bool.and_eq_true, Bool.and_eq_true, decide_eq_true_eq, decide_eq_true_eq, allR]; exact ⟨hq1, hq2, fun q hq => decide_eq_true (hb9 q (by omega))⟩]
      · subst e9
        rw [show (decide (wr < 0) && isW tx tk j) = false by rw [hg, Bool.true_and, ← Bool.not_eq_true]; unfold isW; rw [Bool.and_eq_true, Bool.and_eq_true, decide_eq_true_eq, decide_eq_true_eq, allR]; exact fun z => hb8 (of_decide_eq_true (z.2.2 q9 hb9))]
    · refine g_iload_n X rfl rfl ?_
      refine g_aload_n X rfl rfl ?_
      refine g_rVO X hj rfl lcJ0_length_8abf5 lmX8_103 lsJ0_length_8abf5 rfl (cr_J0_length_8abf5 l D cy B od hj) rfl rfl (Nat.le_of_ble_eq_true rfl) ⟨⟨by decide, by decide⟩, rfl, rfl⟩ ⟨Nat.le_of_ble_eq_true rfl, Nat.le_of_ble_eq_true rfl⟩ ?_
      first | refine g_ic_geN X rfl (by omega) (by omega) (fun h2 => ?_) (fun h2 => ?_) | refine g_icmp_ge X rfl (fun h2 => ?_) (fun h2 => ?_)
      · refine g_iload_n X rfl rfl ?_
        refine g_iret X rfl rfl (by first | rfl | exact bI_nar _ | decide) (Nat.le_of_ble_eq_true rfl) (Nat.le_of_ble_eq_true rfl) ⟨rfl, ?_⟩
        refine ⟨?_, rfl⟩
        rcases hb9 with ⟨e9, hb9⟩ | ⟨e9, q9, hb9, hb8⟩
        · subst e9
          first | exact absurd h1 (by decide) | rw [show (decide (wr < 0) && isW tx tk j) = true by rw [hg, Bool.true_and]; unfold isW; rw [Bool.and_eq_true, Bool.and_eq_true, decide_eq_true_eq, decide_eq_true_eq, allR]; exact ⟨hq1, hq2, fun q hq => decide_eq_true (hb9 q (by omega))⟩]
        · subst e9
          rw [show (decide (wr < 0) && isW tx tk j) = false by rw [hg, Bool.true_and, ← Bool.not_eq_true]; unfold isW; rw [Bool.and_eq_true, Bool.and_eq_true, decide_eq_true_eq, decide_eq_true_eq, allR]; exact fun z => hb8 (of_decide_eq_true (z.2.2 q9 hb9))]
      · refine g_aload_n X rfl rfl ?_
        refine g_get X rfl flX8_9 (ci := 8) rfl (by (repeat (first | exact hM | exact upA_eq | refine (upA_ne (by omega)).trans ?_))) rfl ?_
        refine g_aload_n X rfl rfl ?_
        refine g_get X rfl flX8_67 (ci := 8) rfl (by (repeat (first | exact hM | exact upA_eq | refine (upA_ne (by omega)).trans ?_))) rfl ?_
        refine g_iload_n X rfl rfl ?_
        refine g_iadd X rfl ?_
        rw [nI_add]
        refine g_ialdN X rfl (by (repeat (first | exact hb | exact upA_eq | refine (upA_ne (by omega)).trans ?_))) (by omega) (by decide) ?_
        refine g_aload_n X rfl rfl ?_
        refine g_iload_n X rfl rfl ?_
        refine g_rVO X hj rfl lcJ0_charAt_5068e lmX8_108 lsJ0_charAt_5068e rfl (cr_J0_charAt_5068e l D cy B od hj (by omega)) rfl rfl (Nat.le_of_ble_eq_true rfl) ⟨⟨by decide, by decide⟩, rfl, rfl⟩ ⟨Nat.le_of_ble_eq_true rfl, Nat.le_of_ble_eq_true rfl⟩ ?_
        have hq : mb (tk.2.2.1 + i) = tx (tk.2.2.1 + i) := hal _ (by have := hT3.1.1; omega)
        refine g_icmp_ne X rfl (fun h3 => ?_) (fun h3 => ?_)
        · refine g_iconst X rfl (v := nI 0) (by decide) ?_
          refine g_istore_n X rfl (by decide) ?_
          refine g_iinc1 X rfl rfl (by decide) ?_
          refine g_goto X rfl ?_
          have K9 := ih (i + 1) false (Or.inr ⟨rfl, i, by omega, by rw [← hq]; assumption⟩) (by omega) (by omega) (by omega)
          rw [show bI false = nI 0 by decide] at K9
          exact K9
        · refine g_iconst X rfl (v := nI 1) (by decide) ?_
          refine g_goto X rfl ?_
          refine g_istore_n X rfl (by decide) ?_
          refine g_iinc1 X rfl rfl (by decide) ?_
          refine g_goto X rfl ?_
          have K9 := ih (i + 1) true (Or.inl ⟨rfl, ext9 (hb9.resolve_right (fun z => by rw [h1] at z; exact absurd z.1 (by decide))).2 (by rw [← hq]; first | assumption | (apply Classical.not_not.mp; assumption))⟩) (by omega) (by omega) (by omega)
          rw [show bI true = nI 1 by decide] at K9
          exact K9
set_option maxRecDepth 100000 in
set_option maxHeartbeats 400000 in
theorem cm_X8_isWord (l : Launch) (D : va_G) (cy : Nat → ClassId) (B : Nat) (od : Nat → Option Nat) {A : AH} {th wr : Int32} {len en : Nat} {td sv : Int32} {mb tx rr : Nat → Int32} {tk : TK} (hS : MS cy A th len wr en sv mb tx tk td rr) {j : Nat} (hj : j < 19)  : CM l D cy B od yX8_isWord cX8_isWord 4 (some .boolean) rmX8_isWord [.ref 231, .ref (1000000 + j)] A (fun v A' => v = some (.int (bI (decide (wr < 0) && isW tx tk j))) ∧ A' = A) := by
  intro z
  refine CT.of (by decide) tX8_isWord okX8_isWord (Nat.le_of_ble_eq_true rfl) (q0 := tX8_isWord[0]) rfl rfl ?_
  intro p e s m args below meth c X _
  obtain ⟨num, hM, hX, hrd, hT3, hNk⟩ := id hS
  have hT1 := hT3.1.1
  have hT2 := hT3.1.2
  obtain ⟨hb, hlen, hal, hpos⟩ := id hX
  have hb0 := sB_len j hj
  refine g_aload_n X rfl rfl ?_
  refine g_rV X rfl lcX8_isGood lmX8_99 lsX8_isGood (cr_X8_isGood l D cy B od (mb := mb) (tx := tx) hM) (ci := 8) (by (repeat (first | exact hM | exact upA_eq | refine (upA_ne (by omega)).trans ?_))) rfl rfl rfl (Nat.le_of_ble_eq_true rfl) ⟨⟨by decide, by decide⟩, rfl, rfl⟩ ⟨Nat.le_of_ble_eq_true rfl, Nat.le_of_ble_eq_true rfl⟩ ?_
  first | refine g_if_eqB X rfl (fun h1 => ?_) (fun h1 => ?_) | refine g_if_eq X rfl (fun h1 => ?_) (fun h1 => ?_)
  · refine g_iconst X rfl (v := nI 0) (by decide) ?_
    refine g_istore_n X rfl (by decide) ?_
    refine g_iconst X rfl (v := nI 0) (by decide) ?_
    refine g_istore_n X rfl (by decide) ?_
    refine g_iload_n X rfl rfl ?_
    refine g_if_eq X rfl (fun _ => ?_) (fun h => absurd nI_0 h) 
    refine g_iload_n X rfl rfl ?_
    refine g_iret X rfl rfl (by first | rfl | exact bI_nar _ | decide) (Nat.le_of_ble_eq_true rfl) (Nat.le_of_ble_eq_true rfl) ⟨rfl, ?_⟩
    first | exact ⟨bR0 (by rw [show decide (wr < 0) = false by assumption, Bool.false_and]), rfl⟩ | exact ⟨bR0 (by rw [show isW tx tk j = false by unfold isW; first | (rw [decide_eq_false (by assumption), Bool.false_and]; done) | (rw [decide_eq_false (p := tk.1 - tk.2.2.1 = (sB j).length) (by omega), Bool.false_and, Bool.and_false]; done), Bool.and_false]), rfl⟩
  · refine g_aload_n X rfl rfl ?_
    refine g_get X rfl flX8_77 (ci := 8) rfl (by (repeat (first | exact hM | exact upA_eq | refine (upA_ne (by omega)).trans ?_))) rfl ?_
    refine g_iconst X rfl (v := nI 1) (by decide) ?_
    refine g_icmp_ne X rfl (fun h2 => ?_) (fun h2 => ?_)
    · refine g_iconst X rfl (v := nI 0) (by decide) ?_
      refine g_istore_n X rfl (by decide) ?_
      refine g_iconst X rfl (v := nI 0) (by decide) ?_
      refine g_istore_n X rfl (by decide) ?_
      refine g_iload_n X rfl rfl ?_
      refine g_if_eq X rfl (fun _ => ?_) (fun h => absurd nI_0 h) 
      refine g_iload_n X rfl rfl ?_
      refine g_iret X rfl rfl (by first | rfl | exact bI_nar _ | decide) (Nat.le_of_ble_eq_true rfl) (Nat.le_of_ble_eq_true rfl) ⟨rfl, ?_⟩
      first | exact ⟨bR0 (by rw [show decide (wr < 0) = false by assumption, Bool.false_and]), rfl⟩ | exact ⟨bR0 (by rw [show isW tx tk j = false by unfold isW; first | (rw [decide_eq_false (by assumption), Bool.false_and]; done) | (rw [decide_eq_false (p := tk.1 - tk.2.2.1 = (sB j).length) (by omega), Bool.false_and, Bool.and_false]; done), Bool.and_false]), rfl⟩
    · refine g_aload_n X rfl rfl ?_
      refine g_get X rfl flX8_60 (ci := 8) rfl (by (repeat (first | exact hM | exact upA_eq | refine (upA_ne (by omega)).trans ?_))) rfl ?_
      refine g_aload_n X rfl rfl ?_
      refine g_get X rfl flX8_67 (ci := 8) rfl (by (repeat (first | exact hM | exact upA_eq | refine (upA_ne (by omega)).trans ?_))) rfl ?_
      refine g_isub X rfl ?_
      rw [pk_sub hT3.1.2]
      refine g_aload_n X rfl rfl ?_
      refine g_rVO X hj rfl lcJ0_length_8abf5 lmX8_103 lsJ0_length_8abf5 rfl (cr_J0_length_8abf5 l D cy B od hj) rfl rfl (Nat.le_of_ble_eq_true rfl) ⟨⟨by decide, by decide⟩, rfl, rfl⟩ ⟨Nat.le_of_ble_eq_true rfl, Nat.le_of_ble_eq_true rfl⟩ ?_
      first | refine g_ic_neN X rfl (by omega) (by omega) (fun h3 => ?_) (fun h3 => ?_) | refine g_icmp_ne X rfl (fun h3 => ?_) (fun h3 => ?_)
      · refine g_iconst X rfl (v := nI 0) (by decide) ?_
        refine g_istore_n X rfl (by decide) ?_
        refine g_iconst X rfl (v := nI 0) (by decide) ?_
        refine g_istore_n X rfl (by decide) ?_
        refine g_iload_n X rfl rfl ?_
        refine g_if_eq X rfl (fun _ => ?_) (fun h => absurd nI_0 h) 
        refine g_iload_n X rfl rfl ?_
        refine g_iret X rfl rfl (by first | rfl | exact bI_nar _ | decide) (Nat.le_of_ble_eq_true rfl) (Nat.le_of_ble_eq_true rfl) ⟨rfl, ?_⟩
        first | exact ⟨bR0 (by rw [show decide (wr < 0) = false by assumption, Bool.false_and]), rfl⟩ | exact ⟨bR0 (by rw [show isW tx tk j = false by unfold isW; first | (rw [decide_eq_false (by assumption), Bool.false_and]; done) | (rw [decide_eq_false (p := tk.1 - tk.2.2.1 = (sB j).length) (by omega), Bool.false_and, Bool.and_false]; done), Bool.and_false]), rfl⟩
      · refine g_iconst X rfl (v := nI 1) (by decide) ?_
        refine g_goto X rfl ?_
        refine g_istore_n X rfl (by decide) ?_
        refine g_iconst X rfl (v := nI 0) (by decide) ?_
        refine g_istore_n X rfl (by decide) ?_
        refine G.lv9 (lv := [some (.ref 231), some (.ref (1000000 + j)), some (.int (bI true)), some (.int (nI 0))]) (by rw [show bI true = nI 1 by decide]; rfl) ?_
        exact lp_X8_isWord l D cy B od hS hj (by assumption) (by first | assumption | (apply Classical.not_not.mp; assumption)) (by omega) X ((sB j).length + 1) 0 true (Or.inl ⟨rfl, fun q hq => absurd hq (by omega)⟩) (by omega) (by omega) (by omega)
set_option maxRecDepth 100000 in
set_option maxHeartbeats 400000 in
theorem cm_X8_takeNumber (l : Launch) (D : va_G) (cy : Nat → ClassId) (B : Nat) (od : Nat → Option Nat) {A : AH} {th : Int32} {len en : Nat} {td sv : Int32} {mb tx rr : Nat → Int32} {tk : TK} (hS : MS cy A th len (-1) en sv mb tx tk td rr) {lo hi : Int32} (hlo : 0 ≤ lo) : CM l D cy B od yX8_takeNumber cX8_takeNumber 4 (some .int) rmX8_takeNumber [.ref 231, .int lo, .int hi] A (fun v A' => (numOk tk lo hi = true ∧ v = some (.int tk.2.2.2) ∧ MFr A A' ∧ MS cy A' th len (-1) en sv mb tx (tokN tx len tk) td rr) ∨ (numOk tk lo hi = false ∧ v = some (.int lo) ∧ MFr A A' ∧ MS cy A' th len (nI tk.2.2.1) en sv mb tx tk td rr)) := by
  intro z
  refine CT.of (by decide) tX8_takeNumber okX8_takeNumber (Nat.le_of_ble_eq_true rfl) (q0 := tX8_takeNumber[0]) rfl rfl ?_
  intro p e s m args below meth c X _
  obtain ⟨num, hM, hX, hrd, hT3, hNk⟩ := id hS
  have hT1 := hT3.1.1
  have hT2 := hT3.1.2
  obtain ⟨hb, hlen, hal, hpos⟩ := id hX
  refine g_aload_n X rfl rfl ?_
  refine g_rV X rfl lcX8_isGood lmX8_99 lsX8_isGood (cr_X8_isGood l D cy B od (mb := mb) (tx := tx) hM) (ci := 8) (by (repeat (first | exact hM | exact upA_eq | refine (upA_ne (by omega)).trans ?_))) rfl rfl rfl (Nat.le_of_ble_eq_true rfl) ⟨⟨by decide, by decide⟩, rfl, rfl⟩ ⟨Nat.le_of_ble_eq_true rfl, Nat.le_of_ble_eq_true rfl⟩ ?_
  first | refine g_if_eqB X rfl (fun h1 => ?_) (fun h1 => ?_) | refine g_if_eq X rfl (fun h1 => ?_) (fun h1 => ?_)
  · exact absurd h1 (by decide)
  · refine g_aload_n X rfl rfl ?_
    refine g_get X rfl flX8_77 (ci := 8) rfl (by (repeat (first | exact hM | exact upA_eq | refine (upA_ne (by omega)).trans ?_))) rfl ?_
    refine g_iconst X rfl (v := nI 2) (by decide) ?_
    refine g_icmp_ne X rfl (fun h2 => ?_) (fun h2 => ?_)
    · refine g_aload_n X rfl rfl ?_
      refine g_mV X rfl lcX8_fail lmX8_112 lsX8_fail (cm_X8_fail l D cy B od (mb := mb) (tx := tx) hM rfl) (ci := 8) (by (repeat (first | exact hM | exact upA_eq | refine (upA_ne (by omega)).trans ?_))) rfl rfl rfl (Nat.le_of_ble_eq_true rfl) ⟨⟨by decide, by decide⟩, rfl, rfl⟩ ⟨Nat.le_of_ble_eq_true rfl, Nat.le_of_ble_eq_true rfl⟩ (fun v3 A3 q3 => ?_)
      obtain ⟨rfl, rfl⟩ := q3
      refine g_iload_n X rfl rfl ?_
      refine g_iret X rfl rfl (by first | rfl | exact bI_nar _ | decide) (Nat.le_of_ble_eq_true rfl) (Nat.le_of_ble_eq_true rfl) ⟨rfl, ?_⟩
      first | exact Or.inr ⟨numOk_f1 (by assumption), rfl, (MFr.refl A).m, hS.m hT3 hNk⟩ | exact Or.inr ⟨numOk_f3 hNk (by first | assumption | (apply Classical.not_not.mp; assumption)) (by omega) hlo, rfl, (MFr.refl A).m, hS.m hT3 hNk⟩ | exact Or.inr ⟨numOk_f2 (by assumption), rfl, (MFr.refl A).m, hS.m hT3 hNk⟩ | exact Or.inl ⟨numOk_t (by first | assumption | (apply Classical.not_not.mp; assumption)) (by assumption), rfl, (MFr.refl A).m, hS.step e9 hn9⟩
    · refine g_aload_n X rfl rfl ?_
      refine g_get X rfl flX8_60 (ci := 8) rfl (by (repeat (first | exact hM | exact upA_eq | refine (upA_ne (by omega)).trans ?_))) rfl ?_
      refine g_aload_n X rfl rfl ?_
      refine g_get X rfl flX8_67 (ci := 8) rfl (by (repeat (first | exact hM | exact upA_eq | refine (upA_ne (by omega)).trans ?_))) rfl ?_
      refine g_isub X rfl ?_
      rw [pk_sub hT3.1.2]
      refine g_bipush X rfl (v := nI 8) (by decide) ?_
      first | refine g_ic_gtN X rfl (by omega) (by omega) (fun h4 => ?_) (fun h4 => ?_) | refine g_icmp_gt X rfl (fun h4 => ?_) (fun h4 => ?_)
      · refine g_aload_n X rfl rfl ?_
        refine g_mV X rfl lcX8_fail lmX8_112 lsX8_fail (cm_X8_fail l D cy B od (mb := mb) (tx := tx) hM rfl) (ci := 8) (by (repeat (first | exact hM | exact upA_eq | refine (upA_ne (by omega)).trans ?_))) rfl rfl rfl (Nat.le_of_ble_eq_true rfl) ⟨⟨by decide, by decide⟩, rfl, rfl⟩ ⟨Nat.le_of_ble_eq_true rfl, Nat.le_of_ble_eq_true rfl⟩ (fun v5 A5 q5 => ?_)
        obtain ⟨rfl, rfl⟩ := q5
        refine g_iload_n X rfl rfl ?_
        refine g_iret X rfl rfl (by first | rfl | exact bI_nar _ | decide) (Nat.le_of_ble_eq_true rfl) (Nat.le_of_ble_eq_true rfl) ⟨rfl, ?_⟩
        first | exact Or.inr ⟨numOk_f1 (by assumption), rfl, (MFr.refl A).m, hS.m hT3 hNk⟩ | exact Or.inr ⟨numOk_f3 hNk (by first | assumption | (apply Classical.not_not.mp; assumption)) (by omega) hlo, rfl, (MFr.refl A).m, hS.m hT3 hNk⟩ | exact Or.inr ⟨numOk_f2 (by assumption), rfl, (MFr.refl A).m, hS.m hT3 hNk⟩ | exact Or.inl ⟨numOk_t (by first | assumption | (apply Classical.not_not.mp; assumption)) (by assumption), rfl, (MFr.refl A).m, hS.step e9 hn9⟩
      · refine g_aload_n X rfl rfl ?_
        refine g_get X rfl flX8_80 (ci := 8) rfl (by (repeat (first | exact hM | exact upA_eq | refine (upA_ne (by omega)).trans ?_))) rfl ?_
        have hnum := num_at hNk (by first | assumption | (apply Classical.not_not.mp; assumption)) (by omega)
        rw [hnum]
        refine g_iload_n X rfl rfl ?_
        refine g_i2l X rfl ?_
        refine g_iload_n X rfl rfl ?_
        refine g_i2l X rfl ?_
        refine g_rS X rfl lcX8_in lmX8_56 stX8_in (cr_X8_in l D cy B od) rfl rfl (Nat.le_of_ble_eq_true rfl) ⟨⟨by decide, by decide⟩, rfl, rfl⟩ ⟨Nat.le_of_ble_eq_true rfl, Nat.le_of_ble_eq_true rfl⟩ ?_
        rw [show (decide (lo.toInt64 ≤ tk.2.2.2.toInt64) && decide (tk.2.2.2.toInt64 ≤ hi.toInt64)) = within9 tk.2.2.2 lo hi from in64 rfl rfl]
        first | refine g_if_neB X rfl (fun h6 => ?_) (fun h6 => ?_) | refine g_if_ne X rfl (fun h6 => ?_) (fun h6 => ?_)
        · refine g_aload_n X rfl rfl ?_
          refine g_get X rfl flX8_80 (ci := 8) rfl (by (repeat (first | exact hM | exact upA_eq | refine (upA_ne (by omega)).trans ?_))) rfl ?_
          rw [hnum]
          refine g_l2i X rfl ?_
          rw [Int32.toInt32_toInt64]
          refine g_istore_n X rfl (by decide) ?_
          refine g_aload_n X rfl rfl ?_
          refine g_mV X rfl lcX8_step lmX8_115 lsX8_step (cm_X8_step l D cy B od (nm := tk.2.2.2) hM hX hT3.1.1) (ci := 8) (by (repeat (first | exact hM | exact upA_eq | refine (upA_ne (by omega)).trans ?_))) rfl rfl rfl (Nat.le_of_ble_eq_true rfl) ⟨⟨by decide, by decide⟩, rfl, rfl⟩ ⟨Nat.le_of_ble_eq_true rfl, Nat.le_of_ble_eq_true rfl⟩ (fun v7 A7 q7 => ?_)
          obtain ⟨rfl, n9, tk9, hn9, e9, rfl⟩ := q7
          refine g_iload_n X rfl rfl ?_
          refine g_iret X rfl rfl (by first | rfl | exact bI_nar _ | decide) (Nat.le_of_ble_eq_true rfl) (Nat.le_of_ble_eq_true rfl) ⟨rfl, ?_⟩
          first | exact Or.inr ⟨numOk_f1 (by assumption), rfl, (MFr.refl A).m, hS.m hT3 hNk⟩ | exact Or.inr ⟨numOk_f3 hNk (by first | assumption | (apply Classical.not_not.mp; assumption)) (by omega) hlo, rfl, (MFr.refl A).m, hS.m hT3 hNk⟩ | exact Or.inr ⟨numOk_f2 (by assumption), rfl, (MFr.refl A).m, hS.m hT3 hNk⟩ | exact Or.inl ⟨numOk_t (by first | assumption | (apply Classical.not_not.mp; assumption)) (by assumption), rfl, (MFr.refl A).m, hS.step e9 hn9⟩
        · refine g_aload_n X rfl rfl ?_
          refine g_mV X rfl lcX8_fail lmX8_112 lsX8_fail (cm_X8_fail l D cy B od (mb := mb) (tx := tx) hM rfl) (ci := 8) (by (repeat (first | exact hM | exact upA_eq | refine (upA_ne (by omega)).trans ?_))) rfl rfl rfl (Nat.le_of_ble_eq_true rfl) ⟨⟨by decide, by decide⟩, rfl, rfl⟩ ⟨Nat.le_of_ble_eq_true rfl, Nat.le_of_ble_eq_true rfl⟩ (fun v8 A8 q8 => ?_)
          obtain ⟨rfl, rfl⟩ := q8
          refine g_iload_n X rfl rfl ?_
          refine g_iret X rfl rfl (by first | rfl | exact bI_nar _ | decide) (Nat.le_of_ble_eq_true rfl) (Nat.le_of_ble_eq_true rfl) ⟨rfl, ?_⟩
          first | exact Or.inr ⟨numOk_f1 (by assumption), rfl, (MFr.refl A).m, hS.m hT3 hNk⟩ | exact Or.inr ⟨numOk_f3 hNk (by first | assumption | (apply Classical.not_not.mp; assumption)) (by omega) hlo, rfl, (MFr.refl A).m, hS.m hT3 hNk⟩ | exact Or.inr ⟨numOk_f2 (by assumption), rfl, (MFr.refl A).m, hS.m hT3 hNk⟩ | exact Or.inl ⟨numOk_t (by first | assumption | (apply Classical.not_not.mp; assumption)) (by assumption), rfl, (MFr.refl A).m, hS.step e9 hn9⟩
set_option maxRecDepth 100000 in
set_option maxHeartbeats 400000 in
theorem cm_X8_takeNumberB (l : Launch) (D : va_G) (cy : Nat → ClassId) (B : Nat) (od : Nat → Option Nat) {A : AH} {th wr : Int32} {len en : Nat} {td sv : Int32} {mb tx rr : Nat → Int32} {tk : TK} (hS : MS cy A th len wr en sv mb tx tk td rr) (hw : ¬ wr < 0) {lo hi : Int32} : CM l D cy B od yX8_takeNumber cX8_takeNumber 4 (some .int) rmX8_takeNumber [.ref 231, .int lo, .int hi] A (fun v A' => v = some (.int lo) ∧ A' = A) := by
  intro z
  refine CT.of (by decide) tX8_takeNumber okX8_takeNumber (Nat.le_of_ble_eq_true rfl) (q0 := tX8_takeNumber[0]) rfl rfl ?_
  intro p e s m args below meth c X _
  obtain ⟨num, hM, hX, hrd, hT3, hNk⟩ := id hS
  have hT1 := hT3.1.1
  have hT2 := hT3.1.2
  obtain ⟨hb, hlen, hal, hpos⟩ := id hX
  refine g_aload_n X rfl rfl ?_
  refine g_rV X rfl lcX8_isGood lmX8_99 lsX8_isGood (cr_X8_isGood l D cy B od (mb := mb) (tx := tx) hM) (ci := 8) (by (repeat (first | exact hM | exact upA_eq | refine (upA_ne (by omega)).trans ?_))) rfl rfl rfl (Nat.le_of_ble_eq_true rfl) ⟨⟨by decide, by decide⟩, rfl, rfl⟩ ⟨Nat.le_of_ble_eq_true rfl, Nat.le_of_ble_eq_true rfl⟩ ?_
  first | refine g_if_eqB X rfl (fun h1 => ?_) (fun h1 => ?_) | refine g_if_eq X rfl (fun h1 => ?_) (fun h1 => ?_)
  · refine g_aload_n X rfl rfl ?_
    refine g_mV X rfl lcX8_fail lmX8_112 lsX8_fail (cm_X8_failB l D cy B od (mb := mb) (tx := tx) hM hw) (ci := 8) (by (repeat (first | exact hM | exact upA_eq | refine (upA_ne (by omega)).trans ?_))) rfl rfl rfl (Nat.le_of_ble_eq_true rfl) ⟨⟨by decide, by decide⟩, rfl, rfl⟩ ⟨Nat.le_of_ble_eq_true rfl, Nat.le_of_ble_eq_true rfl⟩ (fun v2 A2 q2 => ?_)
    obtain ⟨rfl, rfl⟩ := q2
    refine g_iload_n X rfl rfl ?_
    refine g_iret X rfl rfl (by first | rfl | exact bI_nar _ | decide) (Nat.le_of_ble_eq_true rfl) (Nat.le_of_ble_eq_true rfl) ⟨rfl, ?_⟩
    exact ⟨rfl, rfl⟩
  · exact absurd (of_decide_eq_true h1) hw
set_option maxRecDepth 100000 in
set_option maxHeartbeats 400000 in
theorem cm_X8_take (l : Launch) (D : va_G) (cy : Nat → ClassId) (B : Nat) (od : Nat → Option Nat) {A : AH} {th : Int32} {len en : Nat} {td sv : Int32} {mb tx rr : Nat → Int32} {tk : TK} (hS : MS cy A th len (-1) en sv mb tx tk td rr) {lo hi : Int32} (hlo : 0 ≤ lo) {pl : Nat} (hpl : pl < 522) : CM l D cy B od yX8_take cX8_take 4 none rmX8_take [.ref 231, .int (nI pl), .int lo, .int hi] A (fun v A' => v = none ∧ MFr A A' ∧ ((numOk tk lo hi = true ∧ MS cy A' th len (-1) en sv mb tx (tokN tx len tk) td (upd rr pl tk.2.2.2)) ∨ (numOk tk lo hi = false ∧ ∃ rr2, MS cy A' th len (nI tk.2.2.1) en sv mb tx tk td rr2))) := by
  intro z
  refine CT.of (by decide) tX8_take okX8_take (Nat.le_of_ble_eq_true rfl) (q0 := tX8_take[0]) rfl rfl ?_
  intro p e s m args below meth c X _
  obtain ⟨num, hM, hX, hrd, hT3, hNk⟩ := id hS
  have hT1 := hT3.1.1
  have hT2 := hT3.1.2
  obtain ⟨hb, hlen, hal, hpos⟩ := id hX
  refine g_aload_n X rfl rfl ?_
  refine g_get X rfl flX8_13 (ci := 8) rfl hM rfl ?_
  refine g_iload_n X rfl rfl ?_
  refine g_aload_n X rfl rfl ?_
  refine g_iload_n X rfl rfl ?_
  refine g_iload_n X rfl rfl ?_
  refine g_mV X rfl lcX8_takeNumber lmX8_124 lsX8_takeNumber (cm_X8_takeNumber l D cy B od hS hlo) (ci := 8) hM rfl rfl rfl (Nat.le_of_ble_eq_true rfl) ⟨⟨by decide, by decide⟩, rfl, rfl⟩ ⟨Nat.le_of_ble_eq_true rfl, Nat.le_of_ble_eq_true rfl⟩ (fun v1 A1 q1 => ?_)
  rcases q1 with ⟨hok, rfl, hF, hS2⟩ | ⟨hok, rfl, hF, hS2⟩
  · have hrd2 : A1 233 = some (.inl (cy 0, 522, .inl rr)) := by obtain ⟨_, _, _, h, _⟩ := id hS2; exact h
    refine g_iastN X rfl hrd2 hpl (by decide) ?_
    refine g_vret X rfl rfl (Nat.le_of_ble_eq_true rfl) (Nat.le_of_ble_eq_true rfl) ⟨rfl, ?_⟩
    exact ⟨rfl, hF.r, Or.inl ⟨hok, hS2.r⟩⟩
  · have hrd2 : A1 233 = some (.inl (cy 0, 522, .inl rr)) := by obtain ⟨_, _, _, h, _⟩ := id hS2; exact h
    refine g_iastN X rfl hrd2 hpl (by decide) ?_
    refine g_vret X rfl rfl (Nat.le_of_ble_eq_true rfl) (Nat.le_of_ble_eq_true rfl) ⟨rfl, ?_⟩
    exact ⟨rfl, hF.r, Or.inr ⟨hok, _, hS2.r⟩⟩
set_option maxRecDepth 100000 in
set_option maxHeartbeats 400000 in
theorem cm_X8_takeB (l : Launch) (D : va_G) (cy : Nat → ClassId) (B : Nat) (od : Nat → Option Nat) {A : AH} {th wr : Int32} {len en : Nat} {td sv : Int32} {mb tx rr : Nat → Int32} {tk : TK} (hS : MS cy A th len wr en sv mb tx tk td rr) (hw : ¬ wr < 0) {lo hi : Int32} {pl : Nat} (hpl : pl < 522) : CM l D cy B od yX8_take cX8_take 4 none rmX8_take [.ref 231, .int (nI pl), .int lo, .int hi] A (fun v A' => v = none ∧ MFr A A' ∧ ∃ rr2, MS cy A' th len wr en sv mb tx tk td rr2) := by
  intro z
  refine CT.of (by decide) tX8_take okX8_take (Nat.le_of_ble_eq_true rfl) (q0 := tX8_take[0]) rfl rfl ?_
  intro p e s m args below meth c X _
  obtain ⟨num, hM, hX, hrd, hT3, hNk⟩ := id hS
  have hT1 := hT3.1.1
  have hT2 := hT3.1.2
  obtain ⟨hb, hlen, hal, hpos⟩ := id hX
  refine g_aload_n X rfl rfl ?_
  refine g_get X rfl flX8_13 (ci := 8) rfl (by (repeat (first | exact hM | exact upA_eq | refine (upA_ne (by omega)).trans ?_))) rfl ?_
  refine g_iload_n X rfl rfl ?_
  refine g_aload_n X rfl rfl ?_
  refine g_iload_n X rfl rfl ?_
  refine g_iload_n X rfl rfl ?_
  refine g_mV X rfl lcX8_takeNumber lmX8_124 lsX8_takeNumber (cm_X8_takeNumberB l D cy B od hS hw) (ci := 8) (by (repeat (first | exact hM | exact upA_eq | refine (upA_ne (by omega)).trans ?_))) rfl rfl rfl (Nat.le_of_ble_eq_true rfl) ⟨⟨by decide, by decide⟩, rfl, rfl⟩ ⟨Nat.le_of_ble_eq_true rfl, Nat.le_of_ble_eq_true rfl⟩ (fun v1 A1 q1 => ?_)
  obtain ⟨rfl, e8⟩ := q1
  have e8 := e8.symm
  subst e8
  refine g_iastN X rfl (by (repeat (first | exact hrd | exact upA_eq | refine (upA_ne (by omega)).trans ?_))) hpl (by decide) ?_
  refine g_vret X rfl rfl (Nat.le_of_ble_eq_true rfl) (Nat.le_of_ble_eq_true rfl) ⟨rfl, ?_⟩
  exact ⟨rfl, (MFr.refl A).r, _, hS.r⟩
set_option maxRecDepth 100000 in
set_option maxHeartbeats 400000 in
theorem cm_X8_once (l : Launch) (D : va_G) (cy : Nat → ClassId) (B : Nat) (od : Nat → Option Nat) {A : AH} {th : Int32} {len en : Nat} {td sv : Int32} {mb tx rr : Nat → Int32} {tk : TK} (hS : MS cy A th len (-1) en sv mb tx tk td rr) {j bt : Nat} (hj : j < 19) : CM l D cy B od yX8_once cX8_once 3 (some .boolean) rmX8_once [.ref 231, .ref (1000000 + j), .int (nI bt)] A (fun v A' => (isW tx tk j = false ∧ v = some (.int (nI 0)) ∧ A' = A) ∨ (isW tx tk j = true ∧ v = some (.int (nI 1)) ∧ MFr A A' ∧ ((td >>> (nI bt &&& 31) &&& nI 1 = nI 1 ∧ MS cy A' th len (nI tk.2.2.1) en sv mb tx tk (td ||| nI 1 <<< (nI bt &&& 31)) rr) ∨ (¬ td >>> (nI bt &&& 31) &&& nI 1 = nI 1 ∧ MS cy A' th len (-1) en sv mb tx (tokN tx len tk) (td ||| nI 1 <<< (nI bt &&& 31)) rr)))) := by
  intro z
  refine CT.of (by decide) tX8_once okX8_once (Nat.le_of_ble_eq_true rfl) (q0 := tX8_once[0]) rfl rfl ?_
  intro p e s m args below meth c X _
  obtain ⟨num, hM, hX, hrd, hT3, hNk⟩ := id hS
  have hT1 := hT3.1.1
  have hT2 := hT3.1.2
  obtain ⟨hb, hlen, hal, hpos⟩ := id hX
  refine g_aload_n X rfl rfl ?_
  refine g_aload_n X rfl rfl ?_
  refine g_mV X rfl lcX8_isWord lmX8_130 lsX8_isWord (cm_X8_isWord l D cy B od hS hj) (ci := 8) (by (repeat (first | exact hM | exact upA_eq | refine (upA_ne (by omega)).trans ?_))) rfl rfl rfl (Nat.le_of_ble_eq_true rfl) ⟨⟨by decide, by decide⟩, rfl, rfl⟩ ⟨Nat.le_of_ble_eq_true rfl, Nat.le_of_ble_eq_true rfl⟩ (fun v1 A1 q1 => ?_)
  obtain ⟨rfl, e8⟩ := q1
  have e8 := e8.symm
  subst e8
  rw [show decide ((-1 : Int32) < 0) = true by decide, Bool.true_and]
  first | refine g_if_neB X rfl (fun h2 => ?_) (fun h2 => ?_) | refine g_if_ne X rfl (fun h2 => ?_) (fun h2 => ?_)
  · refine g_aload_n X rfl rfl ?_
    refine g_get X rfl flX8_120 (ci := 8) rfl (by (repeat (first | exact hM | exact upA_eq | refine (upA_ne (by omega)).trans ?_))) rfl ?_
    refine g_iload_n X rfl rfl ?_
    refine g_ishr X rfl ?_
    refine g_iconst X rfl (v := nI 1) (by decide) ?_
    refine g_iand X rfl ?_
    refine g_iconst X rfl (v := nI 1) (by decide) ?_
    refine g_icmp_ne X rfl (fun h3 => ?_) (fun h3 => ?_)
    · refine g_aload_n X rfl rfl ?_
      refine g_dup X rfl rfl ?_
      refine g_get X rfl flX8_120 (ci := 8) rfl (by (repeat (first | exact hM | exact upA_eq | refine (upA_ne (by omega)).trans ?_))) rfl ?_
      refine g_iconst X rfl (v := nI 1) (by decide) ?_
      refine g_iload_n X rfl rfl ?_
      refine g_ishl X rfl ?_
      refine g_ior X rfl ?_
      refine g_put X rfl flX8_120 rfl (ci := 8) rfl (by (repeat (first | exact hM | exact upA_eq | refine (upA_ne (by omega)).trans ?_))) (Nat.le_of_ble_eq_true rfl) (by first | rfl | exact bI_nar _) (by first | rfl | decide) ?_
      first | rw [upA_up] | skip
      refine g_aload_n X rfl rfl ?_
      refine g_rV X rfl lcX8_isGood lmX8_99 lsX8_isGood (cr_X8_isGood l D cy B od (mb := mb) (tx := tx) upA_eq) (ci := 8) (by (repeat (first | exact hM | exact upA_eq | refine (upA_ne (by omega)).trans ?_))) rfl rfl rfl (Nat.le_of_ble_eq_true rfl) ⟨⟨by decide, by decide⟩, rfl, rfl⟩ ⟨Nat.le_of_ble_eq_true rfl, Nat.le_of_ble_eq_true rfl⟩ ?_
      first | refine g_if_eqB X rfl (fun h4 => ?_) (fun h4 => ?_) | refine g_if_eq X rfl (fun h4 => ?_) (fun h4 => ?_)
      · exact absurd h4 (by decide)
      · refine g_aload_n X rfl rfl ?_
        refine g_mV X rfl lcX8_step lmX8_115 lsX8_step (cm_X8_step l D cy B od (nm := tk.2.2.2) (a9 := tk.1) upA_eq (hX.up (by decide)) hT3.1.1) (ci := 8) (by (repeat (first | exact hM | exact upA_eq | refine (upA_ne (by omega)).trans ?_))) rfl rfl rfl (Nat.le_of_ble_eq_true rfl) ⟨⟨by decide, by decide⟩, rfl, rfl⟩ ⟨Nat.le_of_ble_eq_true rfl, Nat.le_of_ble_eq_true rfl⟩ (fun v5 A5 q5 => ?_)
        obtain ⟨rfl, n9, tk9, hn9, e9, rfl⟩ := q5
        have hS1 := hS.m (wr2 := -1) (td2 := td ||| nI 1 <<< (nI bt &&& 31)) hT3 hNk
        refine g_iconst X rfl (v := nI 1) (by decide) ?_
        refine g_iret X rfl rfl (by first | rfl | exact bI_nar _ | decide) (Nat.le_of_ble_eq_true rfl) (Nat.le_of_ble_eq_true rfl) ⟨rfl, ?_⟩
        first | exact Or.inr ⟨by assumption, rfl, (MFr.refl A).m, Or.inl ⟨by first | assumption | (apply Classical.not_not.mp; assumption), hS.m hT3 hNk⟩⟩ | exact Or.inr ⟨by assumption, rfl, ((MFr.refl A).m).m, Or.inr ⟨by assumption, hS1.step e9 hn9⟩⟩
    · refine g_aload_n X rfl rfl ?_
      refine g_mV X rfl lcX8_fail lmX8_112 lsX8_fail (cm_X8_fail l D cy B od (mb := mb) (tx := tx) hM rfl) (ci := 8) (by (repeat (first | exact hM | exact upA_eq | refine (upA_ne (by omega)).trans ?_))) rfl rfl rfl (Nat.le_of_ble_eq_true rfl) ⟨⟨by decide, by decide⟩, rfl, rfl⟩ ⟨Nat.le_of_ble_eq_true rfl, Nat.le_of_ble_eq_true rfl⟩ (fun v6 A6 q6 => ?_)
      obtain ⟨rfl, rfl⟩ := q6
      have hw9 : ¬ nI tk.2.2.1 < 0 := nI_pos (by have := hT3.1; omega)
      have hM := @upA_eq A 231 (mP th len (nI tk.1) (nI tk.2.2.1) tk.2.1 (nI tk.2.2.1) num en td sv)
      refine g_aload_n X rfl rfl ?_
      refine g_dup X rfl rfl ?_
      refine g_get X rfl flX8_120 (ci := 8) rfl (by (repeat (first | exact hM | exact upA_eq | refine (upA_ne (by omega)).trans ?_))) rfl ?_
      refine g_iconst X rfl (v := nI 1) (by decide) ?_
      refine g_iload_n X rfl rfl ?_
      refine g_ishl X rfl ?_
      refine g_ior X rfl ?_
      refine g_put X rfl flX8_120 rfl (ci := 8) rfl (by (repeat (first | exact hM | exact upA_eq | refine (upA_ne (by omega)).trans ?_))) (Nat.le_of_ble_eq_true rfl) (by first | rfl | exact bI_nar _) (by first | rfl | decide) ?_
      first | rw [upA_up] | skip
      refine g_aload_n X rfl rfl ?_
      refine g_rV X rfl lcX8_isGood lmX8_99 lsX8_isGood (cr_X8_isGood l D cy B od (mb := mb) (tx := tx) upA_eq) (ci := 8) (by (repeat (first | exact hM | exact upA_eq | refine (upA_ne (by omega)).trans ?_))) rfl rfl rfl (Nat.le_of_ble_eq_true rfl) ⟨⟨by decide, by decide⟩, rfl, rfl⟩ ⟨Nat.le_of_ble_eq_true rfl, Nat.le_of_ble_eq_true rfl⟩ ?_
      first | refine g_if_eqB X rfl (fun h7 => ?_) (fun h7 => ?_) | refine g_if_eq X rfl (fun h7 => ?_) (fun h7 => ?_)
      · refine g_iconst X rfl (v := nI 1) (by decide) ?_
        refine g_iret X rfl rfl (by first | rfl | exact bI_nar _ | decide) (Nat.le_of_ble_eq_true rfl) (Nat.le_of_ble_eq_true rfl) ⟨rfl, ?_⟩
        first | exact Or.inr ⟨by assumption, rfl, (MFr.refl A).m, Or.inl ⟨by first | assumption | (apply Classical.not_not.mp; assumption), hS.m hT3 hNk⟩⟩ | exact Or.inr ⟨by assumption, rfl, ((MFr.refl A).m).m, Or.inr ⟨by assumption, hS1.step e9 hn9⟩⟩
      · exact absurd (of_decide_eq_true h7) hw9
  · refine g_iconst X rfl (v := nI 0) (by decide) ?_
    refine g_iret X rfl rfl (by first | rfl | exact bI_nar _ | decide) (Nat.le_of_ble_eq_true rfl) (Nat.le_of_ble_eq_true rfl) ⟨rfl, ?_⟩
    exact Or.inl ⟨by assumption, rfl, rfl⟩
