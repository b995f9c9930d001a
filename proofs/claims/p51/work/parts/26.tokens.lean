/-! 26: the reader: tokens -/
/-- the first place from i on where f fails, or the end -/
def scan (f : Nat → Bool) (len : Nat) (i : Nat) : Nat := if i < len ∧ f i = true then scan f len (i + 1) else i
termination_by len - i
theorem scan_go {f : Nat → Bool} {len i : Nat} (h : i < len) (h2 : f i = true) : scan f len i = scan f len (i + 1) := by rw [scan, if_pos ⟨h, h2⟩]
theorem scan_no {f : Nat → Bool} {len i : Nat} (h : ¬ (i < len ∧ f i = true)) : scan f len i = i := by rw [scan, if_neg h]
theorem scan_ge (f : Nat → Bool) (len : Nat) : ∀ n i, len - i < n → i ≤ scan f len i
  | 0, i, h => by omega
  | n + 1, i, h => by
    rw [scan]
    split
    · rename_i g
      have := scan_ge f len n (i + 1) (by omega)
      omega
    · exact Nat.le_refl _
theorem scan_lo (f : Nat → Bool) (len i : Nat) : i ≤ scan f len i := scan_ge f len (len - i + 1) i (by omega)
theorem scan_le (f : Nat → Bool) (len : Nat) : ∀ n i, len - i < n → i ≤ len → scan f len i ≤ len
  | 0, i, h, _ => by omega
  | n + 1, i, h, h2 => by
    rw [scan]
    split
    · rename_i g
      exact scan_le f len n (i + 1) (by omega) (by omega)
    · exact h2
theorem scan_hi {f : Nat → Bool} {len i : Nat} (h : i ≤ len) : scan f len i ≤ len := scan_le f len (len - i + 1) i (by omega) h
theorem scan_at (f : Nat → Bool) (len : Nat) : ∀ n i, len - i < n → ¬ (scan f len i < len ∧ f (scan f len i) = true)
  | 0, i, h => by omega
  | n + 1, i, h => by
    by_cases g : i < len ∧ f i = true
    · rw [scan, if_pos g]
      exact scan_at f len n (i + 1) (by omega)
    · rw [scan_no g]
      exact g
theorem scan_in (f : Nat → Bool) (len : Nat) : ∀ n i, len - i < n → ∀ j, i ≤ j → j < scan f len i → f j = true
  | 0, i, h => by omega
  | n + 1, i, h => by
    intro j h1 h2
    by_cases g : i < len ∧ f i = true
    · rw [scan, if_pos g] at h2
      by_cases e : j = i
      · subst e; exact g.2
      · exact scan_in f len n (i + 1) (by omega) j (by omega) h2
    · rw [scan_no g] at h2
      omega
def inR (tx : Nat → Int32) (a b : Int32) (j : Nat) : Bool := decide (a ≤ tx j) && decide (tx j ≤ b)
abbrev spR (tx : Nat → Int32) : Nat → Bool := inR tx (nI 32) (nI 32)
abbrev leR (tx : Nat → Int32) : Nat → Bool := inR tx (nI 97) (nI 122)
abbrev diR (tx : Nat → Int32) : Nat → Bool := inR tx (nI 48) (nI 57)
theorem inR_t {tx : Nat → Int32} {a b : Int32} {j : Nat} (h1 : a ≤ tx j) (h2 : tx j ≤ b) : inR tx a b j = true := by unfold inR; rw [Bool.and_eq_true, decide_eq_true_eq, decide_eq_true_eq]; exact ⟨h1, h2⟩
theorem inR_n1 {tx : Nat → Int32} {a b : Int32} {j : Nat} (h : tx j < a) : ¬ inR tx a b j = true := by unfold inR; rw [Bool.and_eq_true, decide_eq_true_eq, decide_eq_true_eq]; exact fun q => absurd q.1 (Int32.not_le.mpr h)
theorem inR_n2 {tx : Nat → Int32} {a b : Int32} {j : Nat} (h : b < tx j) : ¬ inR tx a b j = true := by unfold inR; rw [Bool.and_eq_true, decide_eq_true_eq, decide_eq_true_eq]; exact fun q => absurd q.2 (Int32.not_le.mpr h)
def vD (tx : Nat → Int32) (a : Nat) : Nat → Int32
  | 0 => nI 0
  | n + 1 => vD tx a n * nI 10 + tx (a + n) - nI 48
/-- a token: position behind it, its kind, its start, its number -/
abbrev TK : Type := Nat × Int32 × Nat × Int32
def tokV (tx : Nat → Int32) (a e : Nat) : Int32 := if 8 < e - a then -1 else vD tx a (e - a)
def tokAt (tx : Nat → Int32) (len p : Nat) (nm : Int32) : TK := if len ≤ p then (p, nI 0, p, nm) else if leR tx p = true then (scan (leR tx) len p, nI 1, p, nm) else if diR tx p = true then (scan (diR tx) len p, nI 2, p, tokV tx p (scan (diR tx) len p)) else (p + 1, nI 3, p, nm)
def tokN (tx : Nat → Int32) (len : Nat) (k : TK) : TK := tokAt tx len (scan (spR tx) len k.1) k.2.2.2
abbrev FL4 : Type := Int32 × Int32 × Int32 × Int32
abbrev rdE (t len : Nat) (k : TK) (fl : FL4) : va_E := .inr (5, [.ref 3, .int (nI len), .int (nI k.1), .int k.2.1, .int (nI k.2.2.1), .int k.2.2.2, .ref t, .int fl.1, .int fl.2.1, .int fl.2.2.1, .int fl.2.2.2])
theorem tok_le {tx : Nat → Int32} {len : Nat} {k : TK} (h : k.1 ≤ len) : (tokN tx len k).1 ≤ len ∧ (tokN tx len k).2.2.1 ≤ (tokN tx len k).1 := by
  have h1 := scan_hi (f := spR tx) h
  unfold tokN tokAt
  split
  · exact ⟨h1, Nat.le_refl _⟩
  · split
    · exact ⟨scan_hi h1, scan_lo _ _ _⟩
    · split
      · exact ⟨scan_hi h1, scan_lo _ _ _⟩
      · exact ⟨by show _ + 1 ≤ len; omega, Nat.le_succ _⟩
set_option maxRecDepth 100000 in
set_option maxHeartbeats 400000 in
theorem lp_X5_endOfRun (l : Launch) (D : va_G) (cy : Nat → ClassId) (B : Nat) (od : Nat → Option Nat) {p : Program} {e : Env} {s : State} {m : MethodId} {args : Array Value} {below : List Frame} {meth : Method} {c : Code} {A : AH} {z : Nat} {t len : Nat} {tx : Nat → Int32} {k : TK} {fl : FL4} (hr : A 2 = some (rdE t len k fl)) (ht : A 3 = some (.inl (cy 0, 400, .inl tx))) (hlen : len ≤ 400) (hk : k.1 ≤ len) {a b : Int32} (X : Cx p s m args meth c D cy B od cX5_endOfRun 4 tX5_endOfRun RX5 (some .int)) : ∀ (k9 i : Nat), scan (inR tx a b) len i = scan (inR tx a b) len k.1 → k.1 ≤ i → i ≤ len → len - i < k9 → G p l e rmX5_endOfRun s m args below meth c D B od 4 tX5_endOfRun (FinQ false D B od (fun v A' z' => v = some (.int (nI (scan (inR tx a b) len k.1))) ∧ A' = A ∧ z' = z) (fun _ _ => True) args s below 0 0) 0 0 A z 3 [some (.ref 2), some (.int a), some (.int b), some (.int (nI i))] [] := by
  intro k9
  induction k9 with
  | zero => intro i _ _ _ h; omega
  | succ k9 ih =>
    intro i hsc hlo hi hk9
    refine g_iload_n X rfl rfl ?_
    refine g_aload_n X rfl rfl ?_
    refine g_get X rfl flX5_46 (ci := 5) rfl hr rfl ?_
    first | refine g_ic_geN X rfl (by omega) (by omega) (fun h1 => ?_) (fun h1 => ?_) | refine g_icmp_ge X rfl (fun h1 => ?_) (fun h1 => ?_)
    · refine g_iload_n X rfl rfl ?_
      refine g_iret X rfl rfl (by first | rfl | exact bI_nar _ | decide) (Nat.le_refl _) (Nat.le_refl _) ⟨?_, rfl, rfl⟩
      rw [← hsc, scan_no (by unfold inR; rw [Bool.and_eq_true, decide_eq_true_eq, decide_eq_true_eq]; first | omega | exact fun q => absurd q.2.1 (by first | assumption | exact Int32.not_le.mpr (by assumption)) | exact fun q => absurd q.2.2 (by first | assumption | exact Int32.not_le.mpr (by assumption)))]
    · refine g_aload_n X rfl rfl ?_
      refine g_get X rfl flX5_9 (ci := 5) rfl hr rfl ?_
      refine g_iload_n X rfl rfl ?_
      refine g_ialdN X rfl ht (by omega) (by decide) ?_
      refine g_iload_n X rfl rfl ?_
      first | refine g_ic_ltN X rfl (by omega) (by omega) (fun h2 => ?_) (fun h2 => ?_) | refine g_icmp_lt X rfl (fun h2 => ?_) (fun h2 => ?_)
      · refine g_iload_n X rfl rfl ?_
        refine g_iret X rfl rfl (by first | rfl | exact bI_nar _ | decide) (Nat.le_refl _) (Nat.le_refl _) ⟨?_, rfl, rfl⟩
        rw [← hsc, scan_no (by unfold inR; rw [Bool.and_eq_true, decide_eq_true_eq, decide_eq_true_eq]; first | omega | exact fun q => absurd q.2.1 (by first | assumption | exact Int32.not_le.mpr (by assumption)) | exact fun q => absurd q.2.2 (by first | assumption | exact Int32.not_le.mpr (by assumption)))]
      · refine g_aload_n X rfl rfl ?_
        refine g_get X rfl flX5_9 (ci := 5) rfl hr rfl ?_
        refine g_iload_n X rfl rfl ?_
        refine g_ialdN X rfl ht (by omega) (by decide) ?_
        refine g_iload_n X rfl rfl ?_
        first | refine g_ic_gtN X rfl (by omega) (by omega) (fun h3 => ?_) (fun h3 => ?_) | refine g_icmp_gt X rfl (fun h3 => ?_) (fun h3 => ?_)
        · refine g_iload_n X rfl rfl ?_
          refine g_iret X rfl rfl (by first | rfl | exact bI_nar _ | decide) (Nat.le_refl _) (Nat.le_refl _) ⟨?_, rfl, rfl⟩
          rw [← hsc, scan_no (by unfold inR; rw [Bool.and_eq_true, decide_eq_true_eq, decide_eq_true_eq]; first | omega | exact fun q => absurd q.2.1 (by first | assumption | exact Int32.not_le.mpr (by assumption)) | exact fun q => absurd q.2.2 (by first | assumption | exact Int32.not_le.mpr (by assumption)))]
        · refine g_iinc1 X rfl rfl (by decide) ?_
          refine g_goto X rfl ?_
          exact ih (i + 1) ((scan_go (by omega) (by unfold inR; rw [Bool.and_eq_true, decide_eq_true_eq, decide_eq_true_eq]; exact ⟨by first | assumption | exact Int32.not_lt.mp (by assumption), by first | assumption | exact Int32.not_lt.mp (by assumption)⟩)).symm.trans hsc) (by omega) (by omega) (by omega)
set_option maxRecDepth 100000 in
set_option maxHeartbeats 400000 in
theorem cr_X5_endOfRun (l : Launch) (D : va_G) (cy : Nat → ClassId) (B : Nat) (od : Nat → Option Nat) {A : AH} {t len : Nat} {tx : Nat → Int32} {k : TK} {fl : FL4} (hr : A 2 = some (rdE t len k fl)) (ht : A 3 = some (.inl (cy 0, 400, .inl tx))) (hlen : len ≤ 400) (hk : k.1 ≤ len) {a b : Int32} : CR l D cy B od yX5_endOfRun cX5_endOfRun 4 (some .int) rmX5_endOfRun [.ref 2, .int a, .int b] A (.int (nI (scan (inR tx a b) len k.1))) := by
  intro z
  refine CT.of (by decide) tX5_endOfRun okX5_endOfRun (Nat.le_of_ble_eq_true rfl) (q0 := tX5_endOfRun[0]) rfl rfl ?_
  intro p e s m args below meth c X _
  refine g_aload_n X rfl rfl ?_
  refine g_get X rfl flX5_65 (ci := 5) rfl hr rfl ?_
  refine g_istore_n X rfl (by decide) ?_
  exact lp_X5_endOfRun l D cy B od hr ht hlen hk X (len + 1) k.1 rfl (by omega) (by omega) (by omega)
set_option maxRecDepth 100000 in
set_option maxHeartbeats 400000 in
theorem lp_X5_valueOfDigits (l : Launch) (D : va_G) (cy : Nat → ClassId) (B : Nat) (od : Nat → Option Nat) {p : Program} {e : Env} {s : State} {m : MethodId} {args : Array Value} {below : List Frame} {meth : Method} {c : Code} {A : AH} {z : Nat} {t len : Nat} {tx : Nat → Int32} {k : TK} {fl : FL4} (hr : A 2 = some (rdE t len k fl)) (ht : A 3 = some (.inl (cy 0, 400, .inl tx))) (hlen : len ≤ 400) (hk : k.1 ≤ len) (hts : k.2.2.1 ≤ k.1) (h8 : ¬ 8 < k.1 - k.2.2.1) (X : Cx p s m args meth c D cy B od cX5_valueOfDigits 3 tX5_valueOfDigits RX5 (some .int)) : ∀ (k9 i : Nat), 0 ≤ i → i ≤ (k.1 - k.2.2.1) → (k.1 - k.2.2.1) - i < k9 → G p l e rmX5_valueOfDigits s m args below meth c D B od 3 tX5_valueOfDigits (FinQ false D B od (fun v A' z' => v = some (.int (tokV tx k.2.2.1 k.1)) ∧ A' = A ∧ z' = z) (fun _ _ => True) args s below 0 0) 0 0 A z 14 [some (.ref 2), some (.int (vD tx k.2.2.1 i)), some (.int (nI (k.2.2.1 + i)))] [] := by
  intro k9
  induction k9 with
  | zero => intro i _ _ h; omega
  | succ k9 ih =>
    intro i hlo hi hk9
    refine g_iload_n X rfl rfl ?_
    refine g_aload_n X rfl rfl ?_
    refine g_get X rfl flX5_65 (ci := 5) rfl hr rfl ?_
    first | refine g_ic_geN X rfl (by omega) (by omega) (fun h1 => ?_) (fun h1 => ?_) | refine g_icmp_ge X rfl (fun h1 => ?_) (fun h1 => ?_)
    · refine g_iload_n X rfl rfl ?_
      refine g_iret X rfl rfl (by first | rfl | exact bI_nar _ | decide) (Nat.le_refl _) (Nat.le_refl _) ⟨?_, rfl, rfl⟩
      rw [tokV, if_neg h8, show k.1 - k.2.2.1 = i by omega]
    · refine g_iload_n X rfl rfl ?_
      refine g_bipush X rfl (v := nI 10) (by decide) ?_
      refine g_imul X rfl ?_
      refine g_aload_n X rfl rfl ?_
      refine g_get X rfl flX5_9 (ci := 5) rfl hr rfl ?_
      refine g_iload_n X rfl rfl ?_
      refine g_ialdN X rfl ht (by omega) (by decide) ?_
      refine g_iadd X rfl ?_
      refine g_bipush X rfl (v := nI 48) (by decide) ?_
      refine g_isub X rfl ?_
      refine g_istore_n X rfl (by decide) ?_
      refine g_iinc1 X rfl rfl (by decide) ?_
      refine g_goto X rfl ?_
      have K9 := ih (i + 1) (by omega) (by omega) (by omega)
      exact K9
set_option maxRecDepth 100000 in
set_option maxHeartbeats 400000 in
theorem cr_X5_valueOfDigits (l : Launch) (D : va_G) (cy : Nat → ClassId) (B : Nat) (od : Nat → Option Nat) {A : AH} {t len : Nat} {tx : Nat → Int32} {k : TK} {fl : FL4} (hr : A 2 = some (rdE t len k fl)) (ht : A 3 = some (.inl (cy 0, 400, .inl tx))) (hlen : len ≤ 400) (hk : k.1 ≤ len) (hts : k.2.2.1 ≤ k.1) : CR l D cy B od yX5_valueOfDigits cX5_valueOfDigits 3 (some .int) rmX5_valueOfDigits [.ref 2] A (.int (tokV tx k.2.2.1 k.1)) := by
  intro z
  refine CT.of (by decide) tX5_valueOfDigits okX5_valueOfDigits (Nat.le_of_ble_eq_true rfl) (q0 := tX5_valueOfDigits[0]) rfl rfl ?_
  intro p e s m args below meth c X _
  refine g_aload_n X rfl rfl ?_
  refine g_get X rfl flX5_65 (ci := 5) rfl hr rfl ?_
  refine g_aload_n X rfl rfl ?_
  refine g_get X rfl flX5_33 (ci := 5) rfl hr rfl ?_
  refine g_isub X rfl ?_
  rw [pk_sub hts]
  refine g_bipush X rfl (v := nI 8) (by decide) ?_
  first | refine g_ic_leN X rfl (by omega) (by omega) (fun h1 => ?_) (fun h1 => ?_) | refine g_icmp_le X rfl (fun h1 => ?_) (fun h1 => ?_)
  · refine g_iconst X rfl (v := nI 0) (by decide) ?_
    refine g_istore_n X rfl (by decide) ?_
    refine g_aload_n X rfl rfl ?_
    refine g_get X rfl flX5_33 (ci := 5) rfl hr rfl ?_
    refine g_istore_n X rfl (by decide) ?_
    exact lp_X5_valueOfDigits l D cy B od hr ht hlen hk hts (by omega) X ((k.1 - k.2.2.1) + 1) 0 (by omega) (by omega) (by omega)
  · refine g_iconst X rfl (v := (-1)) (by decide) ?_
    refine g_iret X rfl rfl (by first | rfl | exact bI_nar _ | decide) (Nat.le_refl _) (Nat.le_refl _) ⟨?_, rfl, rfl⟩
    rw [tokV, if_pos (by omega)]
set_option maxRecDepth 100000 in
set_option maxHeartbeats 400000 in
theorem cm_X5_nextToken (l : Launch) (D : va_G) (cy : Nat → ClassId) (B : Nat) (od : Nat → Option Nat) {A : AH} {t len : Nat} {tx : Nat → Int32} {k : TK} {fl : FL4} (hr : A 2 = some (rdE t len k fl)) (ht : A 3 = some (.inl (cy 0, 400, .inl tx))) (hlen : len ≤ 400) (hk : k.1 ≤ len) : CM l D cy B od yX5_nextToken cX5_nextToken 1 none rmX5_nextToken [.ref 2] A (fun v A' => v = none ∧ A' = upA A 2 (rdE t len (tokN tx len k) fl)) := by
  intro z
  refine CT.of (by decide) tX5_nextToken okX5_nextToken (Nat.le_of_ble_eq_true rfl) (q0 := tX5_nextToken[0]) rfl rfl ?_
  intro p e s m args below meth c X _
  have hp := scan_hi (f := spR tx) hk
  refine g_aload_n X rfl rfl ?_
  refine g_aload_n X rfl rfl ?_
  refine g_bipush X rfl (v := nI 32) (by decide) ?_
  refine g_bipush X rfl (v := nI 32) (by decide) ?_
  refine g_rV X rfl lcX5_endOfRun lmX5_163 lsX5_endOfRun (cr_X5_endOfRun l D cy B od hr ht hlen hk) (ci := 5) (by (repeat (first | exact hr | exact upA_eq | refine (upA_ne (by omega)).trans ?_))) rfl rfl rfl (Nat.le_of_ble_eq_true rfl) ⟨⟨by decide, by decide⟩, rfl, rfl⟩ ⟨Nat.le_of_ble_eq_true rfl, Nat.le_of_ble_eq_true rfl⟩ ?_
  refine g_put X rfl flX5_65 rfl (ci := 5) rfl (by (repeat (first | exact hr | exact upA_eq | refine (upA_ne (by omega)).trans ?_))) (Nat.le_of_ble_eq_true rfl) (by first | rfl | exact bI_nar _) (by first | rfl | decide) ?_
  refine G.cast (A2 := upA A 2 (rdE t len ((scan (spR tx) len k.1, k.2.1, k.2.2.1, k.2.2.2)) fl)) rfl ?_
  refine g_aload_n X rfl rfl ?_
  refine g_aload_n X rfl rfl ?_
  refine g_get X rfl flX5_65 (ci := 5) rfl (by (repeat (first | exact hr | exact upA_eq | refine (upA_ne (by omega)).trans ?_))) rfl ?_
  refine g_put X rfl flX5_33 rfl (ci := 5) rfl (by (repeat (first | exact hr | exact upA_eq | refine (upA_ne (by omega)).trans ?_))) (Nat.le_of_ble_eq_true rfl) (by first | rfl | exact bI_nar _) (by first | rfl | decide) ?_
  refine G.cast (A2 := upA A 2 (rdE t len ((scan (spR tx) len k.1, k.2.1, scan (spR tx) len k.1, k.2.2.2)) fl)) upA_up ?_
  refine g_aload_n X rfl rfl ?_
  refine g_get X rfl flX5_65 (ci := 5) rfl (by (repeat (first | exact hr | exact upA_eq | refine (upA_ne (by omega)).trans ?_))) rfl ?_
  refine g_aload_n X rfl rfl ?_
  refine g_get X rfl flX5_46 (ci := 5) rfl (by (repeat (first | exact hr | exact upA_eq | refine (upA_ne (by omega)).trans ?_))) rfl ?_
  first | refine g_ic_ltN X rfl (by omega) (by omega) (fun h1 => ?_) (fun h1 => ?_) | refine g_icmp_lt X rfl (fun h1 => ?_) (fun h1 => ?_)
  · refine g_aload_n X rfl rfl ?_
    refine g_get X rfl flX5_9 (ci := 5) rfl (by (repeat (first | exact hr | exact upA_eq | refine (upA_ne (by omega)).trans ?_))) rfl ?_
    refine g_aload_n X rfl rfl ?_
    refine g_get X rfl flX5_65 (ci := 5) rfl (by (repeat (first | exact hr | exact upA_eq | refine (upA_ne (by omega)).trans ?_))) rfl ?_
    refine g_ialdN X rfl (by (repeat (first | exact ht | exact upA_eq | refine (upA_ne (by omega)).trans ?_))) (by omega) (by decide) ?_
    refine g_bipush X rfl (v := nI 97) (by decide) ?_
    first | refine g_ic_ltN X rfl (by omega) (by omega) (fun h2 => ?_) (fun h2 => ?_) | refine g_icmp_lt X rfl (fun h2 => ?_) (fun h2 => ?_)
    · have hnl : ¬ leR tx (scan (spR tx) len k.1) = true := by first | exact inR_n1 (by assumption) | exact inR_n2 (by assumption)
      refine g_aload_n X rfl rfl ?_
      refine g_get X rfl flX5_9 (ci := 5) rfl (by (repeat (first | exact hr | exact upA_eq | refine (upA_ne (by omega)).trans ?_))) rfl ?_
      refine g_aload_n X rfl rfl ?_
      refine g_get X rfl flX5_65 (ci := 5) rfl (by (repeat (first | exact hr | exact upA_eq | refine (upA_ne (by omega)).trans ?_))) rfl ?_
      refine g_ialdN X rfl (by (repeat (first | exact ht | exact upA_eq | refine (upA_ne (by omega)).trans ?_))) (by omega) (by decide) ?_
      refine g_bipush X rfl (v := nI 48) (by decide) ?_
      first | refine g_ic_ltN X rfl (by omega) (by omega) (fun h3 => ?_) (fun h3 => ?_) | refine g_icmp_lt X rfl (fun h3 => ?_) (fun h3 => ?_)
      · have hnd : ¬ diR tx (scan (spR tx) len k.1) = true := by first | exact inR_n1 (by assumption) | exact inR_n2 (by assumption)
        refine g_aload_n X rfl rfl ?_
        refine g_iconst X rfl (v := nI 3) (by decide) ?_
        refine g_put X rfl flX5_37 rfl (ci := 5) rfl (by (repeat (first | exact hr | exact upA_eq | refine (upA_ne (by omega)).trans ?_))) (Nat.le_of_ble_eq_true rfl) (by first | rfl | exact bI_nar _) (by first | rfl | decide) ?_
        refine G.cast (A2 := upA A 2 (rdE t len ((scan (spR tx) len k.1, nI 3, scan (spR tx) len k.1, k.2.2.2)) fl)) upA_up ?_
        refine g_aload_n X rfl rfl ?_
        refine g_dup X rfl rfl ?_
        refine g_get X rfl flX5_65 (ci := 5) rfl (by (repeat (first | exact hr | exact upA_eq | refine (upA_ne (by omega)).trans ?_))) rfl ?_
        refine g_iconst X rfl (v := nI 1) (by decide) ?_
        refine g_iadd X rfl ?_
        rw [nI_add]
        refine g_put X rfl flX5_65 rfl (ci := 5) rfl (by (repeat (first | exact hr | exact upA_eq | refine (upA_ne (by omega)).trans ?_))) (Nat.le_of_ble_eq_true rfl) (by first | rfl | exact bI_nar _) (by first | rfl | decide) ?_
        refine G.cast (A2 := upA A 2 (rdE t len ((scan (spR tx) len k.1 + 1, nI 3, scan (spR tx) len k.1, k.2.2.2)) fl)) upA_up ?_
        refine g_vret X rfl rfl (Nat.le_of_ble_eq_true rfl) (Nat.le_of_ble_eq_true rfl) ⟨rfl, ?_⟩
        exact ⟨rfl, by first | rw [tokN, tokAt, if_pos (by omega)] | rw [tokN, tokAt, if_neg (by omega), if_pos (inR_t (by first | assumption | exact Int32.not_lt.mp (by assumption)) (by first | assumption | exact Int32.not_lt.mp (by assumption)))] | rw [tokN, tokAt, if_neg (by omega), if_neg hnl, if_pos (inR_t (by first | assumption | exact Int32.not_lt.mp (by assumption)) (by first | assumption | exact Int32.not_lt.mp (by assumption)))] | rw [tokN, tokAt, if_neg (by omega), if_neg hnl, if_neg hnd]⟩
      · refine g_aload_n X rfl rfl ?_
        refine g_get X rfl flX5_9 (ci := 5) rfl (by (repeat (first | exact hr | exact upA_eq | refine (upA_ne (by omega)).trans ?_))) rfl ?_
        refine g_aload_n X rfl rfl ?_
        refine g_get X rfl flX5_65 (ci := 5) rfl (by (repeat (first | exact hr | exact upA_eq | refine (upA_ne (by omega)).trans ?_))) rfl ?_
        refine g_ialdN X rfl (by (repeat (first | exact ht | exact upA_eq | refine (upA_ne (by omega)).trans ?_))) (by omega) (by decide) ?_
        refine g_bipush X rfl (v := nI 57) (by decide) ?_
        first | refine g_ic_gtN X rfl (by omega) (by omega) (fun h4 => ?_) (fun h4 => ?_) | refine g_icmp_gt X rfl (fun h4 => ?_) (fun h4 => ?_)
        · have hnd : ¬ diR tx (scan (spR tx) len k.1) = true := by first | exact inR_n1 (by assumption) | exact inR_n2 (by assumption)
          refine g_aload_n X rfl rfl ?_
          refine g_iconst X rfl (v := nI 3) (by decide) ?_
          refine g_put X rfl flX5_37 rfl (ci := 5) rfl (by (repeat (first | exact hr | exact upA_eq | refine (upA_ne (by omega)).trans ?_))) (Nat.le_of_ble_eq_true rfl) (by first | rfl | exact bI_nar _) (by first | rfl | decide) ?_
          refine G.cast (A2 := upA A 2 (rdE t len ((scan (spR tx) len k.1, nI 3, scan (spR tx) len k.1, k.2.2.2)) fl)) upA_up ?_
          refine g_aload_n X rfl rfl ?_
          refine g_dup X rfl rfl ?_
          refine g_get X rfl flX5_65 (ci := 5) rfl (by (repeat (first | exact hr | exact upA_eq | refine (upA_ne (by omega)).trans ?_))) rfl ?_
          refine g_iconst X rfl (v := nI 1) (by decide) ?_
          refine g_iadd X rfl ?_
          rw [nI_add]
          refine g_put X rfl flX5_65 rfl (ci := 5) rfl (by (repeat (first | exact hr | exact upA_eq | refine (upA_ne (by omega)).trans ?_))) (Nat.le_of_ble_eq_true rfl) (by first | rfl | exact bI_nar _) (by first | rfl | decide) ?_
          refine G.cast (A2 := upA A 2 (rdE t len ((scan (spR tx) len k.1 + 1, nI 3, scan (spR tx) len k.1, k.2.2.2)) fl)) upA_up ?_
          refine g_vret X rfl rfl (Nat.le_of_ble_eq_true rfl) (Nat.le_of_ble_eq_true rfl) ⟨rfl, ?_⟩
          exact ⟨rfl, by first | rw [tokN, tokAt, if_pos (by omega)] | rw [tokN, tokAt, if_neg (by omega), if_pos (inR_t (by first | assumption | exact Int32.not_lt.mp (by assumption)) (by first | assumption | exact Int32.not_lt.mp (by assumption)))] | rw [tokN, tokAt, if_neg (by omega), if_neg hnl, if_pos (inR_t (by first | assumption | exact Int32.not_lt.mp (by assumption)) (by first | assumption | exact Int32.not_lt.mp (by assumption)))] | rw [tokN, tokAt, if_neg (by omega), if_neg hnl, if_neg hnd]⟩
        · refine g_aload_n X rfl rfl ?_
          refine g_iconst X rfl (v := nI 2) (by decide) ?_
          refine g_put X rfl flX5_37 rfl (ci := 5) rfl (by (repeat (first | exact hr | exact upA_eq | refine (upA_ne (by omega)).trans ?_))) (Nat.le_of_ble_eq_true rfl) (by first | rfl | exact bI_nar _) (by first | rfl | decide) ?_
          refine G.cast (A2 := upA A 2 (rdE t len ((scan (spR tx) len k.1, nI 2, scan (spR tx) len k.1, k.2.2.2)) fl)) upA_up ?_
          refine g_aload_n X rfl rfl ?_
          refine g_aload_n X rfl rfl ?_
          refine g_bipush X rfl (v := nI 48) (by decide) ?_
          refine g_bipush X rfl (v := nI 57) (by decide) ?_
          refine g_rV X rfl lcX5_endOfRun lmX5_163 lsX5_endOfRun (cr_X5_endOfRun l D cy B od (k := (scan (spR tx) len k.1, nI 2, scan (spR tx) len k.1, k.2.2.2)) upA_eq ((upA_ne (by decide)).trans ht) hlen hp) (ci := 5) (by (repeat (first | exact hr | exact upA_eq | refine (upA_ne (by omega)).trans ?_))) rfl rfl rfl (Nat.le_of_ble_eq_true rfl) ⟨⟨by decide, by decide⟩, rfl, rfl⟩ ⟨Nat.le_of_ble_eq_true rfl, Nat.le_of_ble_eq_true rfl⟩ ?_
          refine g_put X rfl flX5_65 rfl (ci := 5) rfl (by (repeat (first | exact hr | exact upA_eq | refine (upA_ne (by omega)).trans ?_))) (Nat.le_of_ble_eq_true rfl) (by first | rfl | exact bI_nar _) (by first | rfl | decide) ?_
          refine G.cast (A2 := upA A 2 (rdE t len ((scan (diR tx) len (scan (spR tx) len k.1), nI 2, scan (spR tx) len k.1, k.2.2.2)) fl)) upA_up ?_
          refine g_aload_n X rfl rfl ?_
          refine g_aload_n X rfl rfl ?_
          refine g_rV X rfl lcX5_valueOfDigits lmX5_166 lsX5_valueOfDigits (cr_X5_valueOfDigits l D cy B od (k := (scan (diR tx) len (scan (spR tx) len k.1), nI 2, scan (spR tx) len k.1, k.2.2.2)) upA_eq ((upA_ne (by decide)).trans ht) hlen (scan_hi hp) (scan_lo _ _ _)) (ci := 5) (by (repeat (first | exact hr | exact upA_eq | refine (upA_ne (by omega)).trans ?_))) rfl rfl rfl (Nat.le_of_ble_eq_true rfl) ⟨⟨by decide, by decide⟩, rfl, rfl⟩ ⟨Nat.le_of_ble_eq_true rfl, Nat.le_of_ble_eq_true rfl⟩ ?_
          refine g_put X rfl flX5_148 rfl (ci := 5) rfl (by (repeat (first | exact hr | exact upA_eq | refine (upA_ne (by omega)).trans ?_))) (Nat.le_of_ble_eq_true rfl) (by first | rfl | exact bI_nar _) (by first | rfl | decide) ?_
          refine G.cast (A2 := upA A 2 (rdE t len ((scan (diR tx) len (scan (spR tx) len k.1), nI 2, scan (spR tx) len k.1, tokV tx (scan (spR tx) len k.1) (scan (diR tx) len (scan (spR tx) len k.1)))) fl)) upA_up ?_
          refine g_goto X rfl ?_
          refine g_vret X rfl rfl (Nat.le_of_ble_eq_true rfl) (Nat.le_of_ble_eq_true rfl) ⟨rfl, ?_⟩
          exact ⟨rfl, by first | rw [tokN, tokAt, if_pos (by omega)] | rw [tokN, tokAt, if_neg (by omega), if_pos (inR_t (by first | assumption | exact Int32.not_lt.mp (by assumption)) (by first | assumption | exact Int32.not_lt.mp (by assumption)))] | rw [tokN, tokAt, if_neg (by omega), if_neg hnl, if_pos (inR_t (by first | assumption | exact Int32.not_lt.mp (by assumption)) (by first | assumption | exact Int32.not_lt.mp (by assumption)))] | rw [tokN, tokAt, if_neg (by omega), if_neg hnl, if_neg hnd]⟩
    · refine g_aload_n X rfl rfl ?_
      refine g_get X rfl flX5_9 (ci := 5) rfl (by (repeat (first | exact hr | exact upA_eq | refine (upA_ne (by omega)).trans ?_))) rfl ?_
      refine g_aload_n X rfl rfl ?_
      refine g_get X rfl flX5_65 (ci := 5) rfl (by (repeat (first | exact hr | exact upA_eq | refine (upA_ne (by omega)).trans ?_))) rfl ?_
      refine g_ialdN X rfl (by (repeat (first | exact ht | exact upA_eq | refine (upA_ne (by omega)).trans ?_))) (by omega) (by decide) ?_
      refine g_bipush X rfl (v := nI 122) (by decide) ?_
      first | refine g_ic_gtN X rfl (by omega) (by omega) (fun h5 => ?_) (fun h5 => ?_) | refine g_icmp_gt X rfl (fun h5 => ?_) (fun h5 => ?_)
      · have hnl : ¬ leR tx (scan (spR tx) len k.1) = true := by first | exact inR_n1 (by assumption) | exact inR_n2 (by assumption)
        refine g_aload_n X rfl rfl ?_
        refine g_get X rfl flX5_9 (ci := 5) rfl (by (repeat (first | exact hr | exact upA_eq | refine (upA_ne (by omega)).trans ?_))) rfl ?_
        refine g_aload_n X rfl rfl ?_
        refine g_get X rfl flX5_65 (ci := 5) rfl (by (repeat (first | exact hr | exact upA_eq | refine (upA_ne (by omega)).trans ?_))) rfl ?_
        refine g_ialdN X rfl (by (repeat (first | exact ht | exact upA_eq | refine (upA_ne (by omega)).trans ?_))) (by omega) (by decide) ?_
        refine g_bipush X rfl (v := nI 48) (by decide) ?_
        first | refine g_ic_ltN X rfl (by omega) (by omega) (fun h6 => ?_) (fun h6 => ?_) | refine g_icmp_lt X rfl (fun h6 => ?_) (fun h6 => ?_)
        · have hnd : ¬ diR tx (scan (spR tx) len k.1) = true := by first | exact inR_n1 (by assumption) | exact inR_n2 (by assumption)
          refine g_aload_n X rfl rfl ?_
          refine g_iconst X rfl (v := nI 3) (by decide) ?_
          refine g_put X rfl flX5_37 rfl (ci := 5) rfl (by (repeat (first | exact hr | exact upA_eq | refine (upA_ne (by omega)).trans ?_))) (Nat.le_of_ble_eq_true rfl) (by first | rfl | exact bI_nar _) (by first | rfl | decide) ?_
          refine G.cast (A2 := upA A 2 (rdE t len ((scan (spR tx) len k.1, nI 3, scan (spR tx) len k.1, k.2.2.2)) fl)) upA_up ?_
          refine g_aload_n X rfl rfl ?_
          refine g_dup X rfl rfl ?_
          refine g_get X rfl flX5_65 (ci := 5) rfl (by (repeat (first | exact hr | exact upA_eq | refine (upA_ne (by omega)).trans ?_))) rfl ?_
          refine g_iconst X rfl (v := nI 1) (by decide) ?_
          refine g_iadd X rfl ?_
          rw [nI_add]
          refine g_put X rfl flX5_65 rfl (ci := 5) rfl (by (repeat (first | exact hr | exact upA_eq | refine (upA_ne (by omega)).trans ?_))) (Nat.le_of_ble_eq_true rfl) (by first | rfl | exact bI_nar _) (by first | rfl | decide) ?_
          refine G.cast (A2 := upA A 2 (rdE t len ((scan (spR tx) len k.1 + 1, nI 3, scan (spR tx) len k.1, k.2.2.2)) fl)) upA_up ?_
          refine g_vret X rfl rfl (Nat.le_of_ble_eq_true rfl) (Nat.le_of_ble_eq_true rfl) ⟨rfl, ?_⟩
          exact ⟨rfl, by first | rw [tokN, tokAt, if_pos (by omega)] | rw [tokN, tokAt, if_neg (by omega), if_pos (inR_t (by first | assumption | exact Int32.not_lt.mp (by assumption)) (by first | assumption | exact Int32.not_lt.mp (by assumption)))] | rw [tokN, tokAt, if_neg (by omega), if_neg hnl, if_pos (inR_t (by first | assumption | exact Int32.not_lt.mp (by assumption)) (by first | assumption | exact Int32.not_lt.mp (by assumption)))] | rw [tokN, tokAt, if_neg (by omega), if_neg hnl, if_neg hnd]⟩
        · refine g_aload_n X rfl rfl ?_
          refine g_get X rfl flX5_9 (ci := 5) rfl (by (repeat (first | exact hr | exact upA_eq | refine (upA_ne (by omega)).trans ?_))) rfl ?_
          refine g_aload_n X rfl rfl ?_
          refine g_get X rfl flX5_65 (ci := 5) rfl (by (repeat (first | exact hr | exact upA_eq | refine (upA_ne (by omega)).trans ?_))) rfl ?_
          refine g_ialdN X rfl (by (repeat (first | exact ht | exact upA_eq | refine (upA_ne (by omega)).trans ?_))) (by omega) (by decide) ?_
          refine g_bipush X rfl (v := nI 57) (by decide) ?_
          first | refine g_ic_gtN X rfl (by omega) (by omega) (fun h7 => ?_) (fun h7 => ?_) | refine g_icmp_gt X rfl (fun h7 => ?_) (fun h7 => ?_)
          · have hnd : ¬ diR tx (scan (spR tx) len k.1) = true := by first | exact inR_n1 (by assumption) | exact inR_n2 (by assumption)
            refine g_aload_n X rfl rfl ?_
            refine g_iconst X rfl (v := nI 3) (by decide) ?_
            refine g_put X rfl flX5_37 rfl (ci := 5) rfl (by (repeat (first | exact hr | exact upA_eq | refine (upA_ne (by omega)).trans ?_))) (Nat.le_of_ble_eq_true rfl) (by first | rfl | exact bI_nar _) (by first | rfl | decide) ?_
            refine G.cast (A2 := upA A 2 (rdE t len ((scan (spR tx) len k.1, nI 3, scan (spR tx) len k.1, k.2.2.2)) fl)) upA_up ?_
            refine g_aload_n X rfl rfl ?_
            refine g_dup X rfl rfl ?_
            refine g_get X rfl flX5_65 (ci := 5) rfl (by (repeat (first | exact hr | exact upA_eq | refine (upA_ne (by omega)).trans ?_))) rfl ?_
            refine g_iconst X rfl (v := nI 1) (by decide) ?_
            refine g_iadd X rfl ?_
            rw [nI_add]
            refine g_put X rfl flX5_65 rfl (ci := 5) rfl (by (repeat (first | exact hr | exact upA_eq | refine (upA_ne (by omega)).trans ?_))) (Nat.le_of_ble_eq_true rfl) (by first | rfl | exact bI_nar _) (by first | rfl | decide) ?_
            refine G.cast (A2 := upA A 2 (rdE t len ((scan (spR tx) len k.1 + 1, nI 3, scan (spR tx) len k.1, k.2.2.2)) fl)) upA_up ?_
            refine g_vret X rfl rfl (Nat.le_of_ble_eq_true rfl) (Nat.le_of_ble_eq_true rfl) ⟨rfl, ?_⟩
            exact ⟨rfl, by first | rw [tokN, tokAt, if_pos (by omega)] | rw [tokN, tokAt, if_neg (by omega), if_pos (inR_t (by first | assumption | exact Int32.not_lt.mp (by assumption)) (by first | assumption | exact Int32.not_lt.mp (by assumption)))] | rw [tokN, tokAt, if_neg (by omega), if_neg hnl, if_pos (inR_t (by first | assumption | exact Int32.not_lt.mp (by assumption)) (by first | assumption | exact Int32.not_lt.mp (by assumption)))] | rw [tokN, tokAt, if_neg (by omega), if_neg hnl, if_neg hnd]⟩
          · refine g_aload_n X rfl rfl ?_
            refine g_iconst X rfl (v := nI 2) (by decide) ?_
            refine g_put X rfl flX5_37 rfl (ci := 5) rfl (by (repeat (first | exact hr | exact upA_eq | refine (upA_ne (by omega)).trans ?_))) (Nat.le_of_ble_eq_true rfl) (by first | rfl | exact bI_nar _) (by first | rfl | decide) ?_
            refine G.cast (A2 := upA A 2 (rdE t len ((scan (spR tx) len k.1, nI 2, scan (spR tx) len k.1, k.2.2.2)) fl)) upA_up ?_
            refine g_aload_n X rfl rfl ?_
            refine g_aload_n X rfl rfl ?_
            refine g_bipush X rfl (v := nI 48) (by decide) ?_
            refine g_bipush X rfl (v := nI 57) (by decide) ?_
            refine g_rV X rfl lcX5_endOfRun lmX5_163 lsX5_endOfRun (cr_X5_endOfRun l D cy B od (k := (scan (spR tx) len k.1, nI 2, scan (spR tx) len k.1, k.2.2.2)) upA_eq ((upA_ne (by decide)).trans ht) hlen hp) (ci := 5) (by (repeat (first | exact hr | exact upA_eq | refine (upA_ne (by omega)).trans ?_))) rfl rfl rfl (Nat.le_of_ble_eq_true rfl) ⟨⟨by decide, by decide⟩, rfl, rfl⟩ ⟨Nat.le_of_ble_eq_true rfl, Nat.le_of_ble_eq_true rfl⟩ ?_
            refine g_put X rfl flX5_65 rfl (ci := 5) rfl (by (repeat (first | exact hr | exact upA_eq | refine (upA_ne (by omega)).trans ?_))) (Nat.le_of_ble_eq_true rfl) (by first | rfl | exact bI_nar _) (by first | rfl | decide) ?_
            refine G.cast (A2 := upA A 2 (rdE t len ((scan (diR tx) len (scan (spR tx) len k.1), nI 2, scan (spR tx) len k.1, k.2.2.2)) fl)) upA_up ?_
            refine g_aload_n X rfl rfl ?_
            refine g_aload_n X rfl rfl ?_
            refine g_rV X rfl lcX5_valueOfDigits lmX5_166 lsX5_valueOfDigits (cr_X5_valueOfDigits l D cy B od (k := (scan (diR tx) len (scan (spR tx) len k.1), nI 2, scan (spR tx) len k.1, k.2.2.2)) upA_eq ((upA_ne (by decide)).trans ht) hlen (scan_hi hp) (scan_lo _ _ _)) (ci := 5) (by (repeat (first | exact hr | exact upA_eq | refine (upA_ne (by omega)).trans ?_))) rfl rfl rfl (Nat.le_of_ble_eq_true rfl) ⟨⟨by decide, by decide⟩, rfl, rfl⟩ ⟨Nat.le_of_ble_eq_true rfl, Nat.le_of_ble_eq_true rfl⟩ ?_
            refine g_put X rfl flX5_148 rfl (ci := 5) rfl (by (repeat (first | exact hr | exact upA_eq | refine (upA_ne (by omega)).trans ?_))) (Nat.le_of_ble_eq_true rfl) (by first | rfl | exact bI_nar _) (by first | rfl | decide) ?_
            refine G.cast (A2 := upA A 2 (rdE t len ((scan (diR tx) len (scan (spR tx) len k.1), nI 2, scan (spR tx) len k.1, tokV tx (scan (spR tx) len k.1) (scan (diR tx) len (scan (spR tx) len k.1)))) fl)) upA_up ?_
            refine g_goto X rfl ?_
            refine g_vret X rfl rfl (Nat.le_of_ble_eq_true rfl) (Nat.le_of_ble_eq_true rfl) ⟨rfl, ?_⟩
            exact ⟨rfl, by first | rw [tokN, tokAt, if_pos (by omega)] | rw [tokN, tokAt, if_neg (by omega), if_pos (inR_t (by first | assumption | exact Int32.not_lt.mp (by assumption)) (by first | assumption | exact Int32.not_lt.mp (by assumption)))] | rw [tokN, tokAt, if_neg (by omega), if_neg hnl, if_pos (inR_t (by first | assumption | exact Int32.not_lt.mp (by assumption)) (by first | assumption | exact Int32.not_lt.mp (by assumption)))] | rw [tokN, tokAt, if_neg (by omega), if_neg hnl, if_neg hnd]⟩
      · refine g_aload_n X rfl rfl ?_
        refine g_iconst X rfl (v := nI 1) (by decide) ?_
        refine g_put X rfl flX5_37 rfl (ci := 5) rfl (by (repeat (first | exact hr | exact upA_eq | refine (upA_ne (by omega)).trans ?_))) (Nat.le_of_ble_eq_true rfl) (by first | rfl | exact bI_nar _) (by first | rfl | decide) ?_
        refine G.cast (A2 := upA A 2 (rdE t len ((scan (spR tx) len k.1, nI 1, scan (spR tx) len k.1, k.2.2.2)) fl)) upA_up ?_
        refine g_aload_n X rfl rfl ?_
        refine g_aload_n X rfl rfl ?_
        refine g_bipush X rfl (v := nI 97) (by decide) ?_
        refine g_bipush X rfl (v := nI 122) (by decide) ?_
        refine g_rV X rfl lcX5_endOfRun lmX5_163 lsX5_endOfRun (cr_X5_endOfRun l D cy B od (k := (scan (spR tx) len k.1, nI 1, scan (spR tx) len k.1, k.2.2.2)) upA_eq ((upA_ne (by decide)).trans ht) hlen hp) (ci := 5) (by (repeat (first | exact hr | exact upA_eq | refine (upA_ne (by omega)).trans ?_))) rfl rfl rfl (Nat.le_of_ble_eq_true rfl) ⟨⟨by decide, by decide⟩, rfl, rfl⟩ ⟨Nat.le_of_ble_eq_true rfl, Nat.le_of_ble_eq_true rfl⟩ ?_
        refine g_put X rfl flX5_65 rfl (ci := 5) rfl (by (repeat (first | exact hr | exact upA_eq | refine (upA_ne (by omega)).trans ?_))) (Nat.le_of_ble_eq_true rfl) (by first | rfl | exact bI_nar _) (by first | rfl | decide) ?_
        refine G.cast (A2 := upA A 2 (rdE t len ((scan (leR tx) len (scan (spR tx) len k.1), nI 1, scan (spR tx) len k.1, k.2.2.2)) fl)) upA_up ?_
        refine g_goto X rfl ?_
        refine g_vret X rfl rfl (Nat.le_of_ble_eq_true rfl) (Nat.le_of_ble_eq_true rfl) ⟨rfl, ?_⟩
        exact ⟨rfl, by first | rw [tokN, tokAt, if_pos (by omega)] | rw [tokN, tokAt, if_neg (by omega), if_pos (inR_t (by first | assumption | exact Int32.not_lt.mp (by assumption)) (by first | assumption | exact Int32.not_lt.mp (by assumption)))] | rw [tokN, tokAt, if_neg (by omega), if_neg hnl, if_pos (inR_t (by first | assumption | exact Int32.not_lt.mp (by assumption)) (by first | assumption | exact Int32.not_lt.mp (by assumption)))] | rw [tokN, tokAt, if_neg (by omega), if_neg hnl, if_neg hnd]⟩
  · refine g_aload_n X rfl rfl ?_
    refine g_iconst X rfl (v := nI 0) (by decide) ?_
    refine g_put X rfl flX5_37 rfl (ci := 5) rfl (by (repeat (first | exact hr | exact upA_eq | refine (upA_ne (by omega)).trans ?_))) (Nat.le_of_ble_eq_true rfl) (by first | rfl | exact bI_nar _) (by first | rfl | decide) ?_
    refine G.cast (A2 := upA A 2 (rdE t len ((scan (spR tx) len k.1, nI 0, scan (spR tx) len k.1, k.2.2.2)) fl)) upA_up ?_
    refine g_goto X rfl ?_
    refine g_vret X rfl rfl (Nat.le_of_ble_eq_true rfl) (Nat.le_of_ble_eq_true rfl) ⟨rfl, ?_⟩
    exact ⟨rfl, by first | rw [tokN, tokAt, if_pos (by omega)] | rw [tokN, tokAt, if_neg (by omega), if_pos (inR_t (by first | assumption | exact Int32.not_lt.mp (by assumption)) (by first | assumption | exact Int32.not_lt.mp (by assumption)))] | rw [tokN, tokAt, if_neg (by omega), if_neg hnl, if_pos (inR_t (by first | assumption | exact Int32.not_lt.mp (by assumption)) (by first | assumption | exact Int32.not_lt.mp (by assumption)))] | rw [tokN, tokAt, if_neg (by omega), if_neg hnl, if_neg hnd]⟩
def numOk (k : TK) (lo hi : Int32) : Bool := decide (k.2.1 = nI 2) && within9 k.2.2.2 lo hi
def tkV (k : TK) (lo hi : Int32) : Int32 := if numOk k lo hi then k.2.2.2 else -1
def tkS (tx : Nat → Int32) (len : Nat) (k : TK) (lo hi : Int32) : TK := if numOk k lo hi then tokN tx len k else k
theorem tkS_le {tx : Nat → Int32} {len : Nat} {k : TK} {lo hi : Int32} (h : k.1 ≤ len) (h2 : k.2.2.1 ≤ k.1) : (tkS tx len k lo hi).1 ≤ len ∧ (tkS tx len k lo hi).2.2.1 ≤ (tkS tx len k lo hi).1 := by
  unfold tkS
  split
  · exact tok_le h
  · exact ⟨h, h2⟩
set_option maxRecDepth 100000 in
set_option maxHeartbeats 400000 in
theorem cm_X5_takeNumber (l : Launch) (D : va_G) (cy : Nat → ClassId) (B : Nat) (od : Nat → Option Nat) {A : AH} {t len : Nat} {tx : Nat → Int32} {k : TK} {fl : FL4} (hr : A 2 = some (rdE t len k fl)) (ht : A 3 = some (.inl (cy 0, 400, .inl tx))) (hlen : len ≤ 400) (hk : k.1 ≤ len) {lo hi : Int32} : CM l D cy B od yX5_takeNumber cX5_takeNumber 4 (some .int) rmX5_takeNumber [.ref 2, .int lo, .int hi] A (fun v A' => v = some (.int (tkV k lo hi)) ∧ A' = upA A 2 (rdE t len (tkS tx len k lo hi) fl)) := by
  intro z
  refine CT.of (by decide) tX5_takeNumber okX5_takeNumber (Nat.le_of_ble_eq_true rfl) (q0 := tX5_takeNumber[0]) rfl rfl ?_
  intro p e s m args below meth c X _
  refine g_aload_n X rfl rfl ?_
  refine g_get X rfl flX5_37 (ci := 5) rfl (by (repeat (first | exact hr | exact upA_eq | refine (upA_ne (by omega)).trans ?_))) rfl ?_
  refine g_iconst X rfl (v := nI 2) (by decide) ?_
  refine g_icmp_ne X rfl (fun h1 => ?_) (fun h1 => ?_)
  · refine g_iconst X rfl (v := (-1)) (by decide) ?_
    refine g_iret X rfl rfl (by first | rfl | exact bI_nar _ | decide) (Nat.le_of_ble_eq_true rfl) (Nat.le_of_ble_eq_true rfl) ⟨rfl, ?_⟩
    first | ((have e9 : numOk k lo hi = true := by (simp_all [numOk, bI_0, bI_n0]; done)); exact ⟨by rw [tkV, if_pos e9], by rw [tkS, if_pos e9]⟩) | ((have e9 : ¬ numOk k lo hi = true := by (simp_all [numOk, bI_0, bI_n0]; done)); exact ⟨by rw [tkV, if_neg e9], by rw [tkS, if_neg e9, upA_same hr]⟩)
  · refine g_aload_n X rfl rfl ?_
    refine g_get X rfl flX5_148 (ci := 5) rfl (by (repeat (first | exact hr | exact upA_eq | refine (upA_ne (by omega)).trans ?_))) rfl ?_
    refine g_iload_n X rfl rfl ?_
    refine g_iload_n X rfl rfl ?_
    refine g_rSN X rfl lcX7_within lnX5_151 stX7_within (cr_X7_within l D cy B od) rfl rfl (Nat.le_of_ble_eq_true rfl) ⟨⟨by decide, by decide⟩, rfl, rfl⟩ ⟨Nat.le_of_ble_eq_true rfl, Nat.le_of_ble_eq_true rfl⟩ ?_
    first | refine g_if_neB X rfl (fun h2 => ?_) (fun h2 => ?_) | refine g_if_ne X rfl (fun h2 => ?_) (fun h2 => ?_)
    · refine g_aload_n X rfl rfl ?_
      refine g_get X rfl flX5_148 (ci := 5) rfl (by (repeat (first | exact hr | exact upA_eq | refine (upA_ne (by omega)).trans ?_))) rfl ?_
      refine g_istore_n X rfl (by decide) ?_
      refine g_aload_n X rfl rfl ?_
      refine g_mV X rfl lcX5_nextToken lmX5_26 lsX5_nextToken (cm_X5_nextToken l D cy B od hr ht hlen hk) (ci := 5) (by (repeat (first | exact hr | exact upA_eq | refine (upA_ne (by omega)).trans ?_))) rfl rfl rfl (Nat.le_of_ble_eq_true rfl) ⟨⟨by decide, by decide⟩, rfl, rfl⟩ ⟨Nat.le_of_ble_eq_true rfl, Nat.le_of_ble_eq_true rfl⟩ (fun v3 A3 q3 => ?_)
      obtain ⟨rfl, rfl⟩ := q3
      refine g_iload_n X rfl rfl ?_
      refine g_iret X rfl rfl (by first | rfl | exact bI_nar _ | decide) (Nat.le_of_ble_eq_true rfl) (Nat.le_of_ble_eq_true rfl) ⟨rfl, ?_⟩
      first | ((have e9 : numOk k lo hi = true := by (simp_all [numOk, bI_0, bI_n0]; done)); exact ⟨by rw [tkV, if_pos e9], by rw [tkS, if_pos e9]⟩) | ((have e9 : ¬ numOk k lo hi = true := by (simp_all [numOk, bI_0, bI_n0]; done)); exact ⟨by rw [tkV, if_neg e9], by rw [tkS, if_neg e9, upA_same hr]⟩)
    · refine g_iconst X rfl (v := (-1)) (by decide) ?_
      refine g_iret X rfl rfl (by first | rfl | exact bI_nar _ | decide) (Nat.le_of_ble_eq_true rfl) (Nat.le_of_ble_eq_true rfl) ⟨rfl, ?_⟩
      first | ((have e9 : numOk k lo hi = true := by (simp_all [numOk, bI_0, bI_n0]; done)); exact ⟨by rw [tkV, if_pos e9], by rw [tkS, if_pos e9]⟩) | ((have e9 : ¬ numOk k lo hi = true := by (simp_all [numOk, bI_0, bI_n0]; done)); exact ⟨by rw [tkV, if_neg e9], by rw [tkS, if_neg e9, upA_same hr]⟩)
def isW (tx : Nat → Int32) (k : TK) (j : Nat) : Bool := decide (k.2.1 = nI 1) && (decide (k.1 - k.2.2.1 = (sB j).length) && (List.range (sB j).length).all (fun q => decide (tx (k.2.2.1 + q) = (sB j).getD q 0)))
theorem allR {f : Nat → Bool} {n : Nat} : (List.range n).all f = true ↔ ∀ j, j < n → f j = true := by
  rw [List.all_eq_true]
  exact ⟨fun h j hj => h j (List.mem_range.mpr hj), fun h j hj => h j (List.mem_range.mp hj)⟩
set_option maxRecDepth 100000 in
set_option maxHeartbeats 400000 in
theorem lp_X5_isWord (l : Launch) (D : va_G) (cy : Nat → ClassId) (B : Nat) (od : Nat → Option Nat) {p : Program} {e : Env} {s : State} {m : MethodId} {args : Array Value} {below : List Frame} {meth : Method} {c : Code} {A : AH} {z : Nat} {t len : Nat} {tx : Nat → Int32} {k : TK} {fl : FL4} (hr : A 2 = some (rdE t len k fl)) (ht : A 3 = some (.inl (cy 0, 400, .inl tx))) (hlen : len ≤ 400) (hk : k.1 ≤ len) (hts : k.2.2.1 ≤ k.1) {j : Nat} (hj : j < 39) (hq1 : k.2.1 = nI 1) (hq2 : k.1 - k.2.2.1 = (sB j).length) (X : Cx p s m args meth c D cy B od cX5_isWord 3 tX5_isWord RX5 (some .boolean)) : ∀ (k9 i : Nat), (∀ q, q < i → tx (k.2.2.1 + q) = (sB j).getD q 0) → 0 ≤ i → i ≤ (sB j).length → (sB j).length - i < k9 → G p l e rmX5_isWord s m args below meth c D B od 3 tX5_isWord (FinQ false D B od (fun v A' z' => v = some (.int (bI (isW tx k j))) ∧ A' = A ∧ z' = z) (fun _ _ => True) args s below 0 0) 0 0 A z 16 [some (.ref 2), some (.ref (1000000 + j)), some (.int (nI i))] [] := by
  intro k9
  induction k9 with
  | zero => intro i _ _ _ h; omega
  | succ k9 ih =>
    intro i hal hlo hi hk9
    have hb9 := sB_len j hj
    refine g_iload_n X rfl rfl ?_
    refine g_aload_n X rfl rfl ?_
    refine g_rVO X hj rfl lcJ0_length_8abf5 lmX5_155 lsJ0_length_8abf5 rfl (cr_J0_length_8abf5 l D cy B od hj) rfl rfl (Nat.le_of_ble_eq_true rfl) ⟨⟨by decide, by decide⟩, rfl, rfl⟩ ⟨Nat.le_of_ble_eq_true rfl, Nat.le_of_ble_eq_true rfl⟩ ?_
    first | refine g_ic_geN X rfl (by omega) (by omega) (fun h1 => ?_) (fun h1 => ?_) | refine g_icmp_ge X rfl (fun h1 => ?_) (fun h1 => ?_)
    · refine g_iconst X rfl (v := nI 1) (by decide) ?_
      refine g_iret X rfl rfl (by first | rfl | exact bI_nar _ | decide) (Nat.le_refl _) (Nat.le_refl _) ⟨?_, rfl, rfl⟩
      first | exact bR1 (by unfold isW; rw [Bool.and_eq_true, Bool.and_eq_true, decide_eq_true_eq, decide_eq_true_eq, allR]; exact ⟨hq1, hq2, fun q hq => decide_eq_true (hal q (by omega))⟩) | exact bR0 (by rw [← Bool.not_eq_true]; unfold isW; rw [Bool.and_eq_true, Bool.and_eq_true, decide_eq_true_eq, decide_eq_true_eq, allR]; exact fun q => absurd (of_decide_eq_true (q.2.2 i (by omega))) (by assumption))
    · refine g_aload_n X rfl rfl ?_
      refine g_get X rfl flX5_9 (ci := 5) rfl hr rfl ?_
      refine g_aload_n X rfl rfl ?_
      refine g_get X rfl flX5_33 (ci := 5) rfl hr rfl ?_
      refine g_iload_n X rfl rfl ?_
      refine g_iadd X rfl ?_
      rw [nI_add]
      refine g_ialdN X rfl ht (by omega) (by decide) ?_
      refine g_aload_n X rfl rfl ?_
      refine g_iload_n X rfl rfl ?_
      refine g_rVO X hj rfl lcJ0_charAt_5068e lmX5_159 lsJ0_charAt_5068e rfl (cr_J0_charAt_5068e l D cy B od hj (by omega)) rfl rfl (Nat.le_of_ble_eq_true rfl) ⟨⟨by decide, by decide⟩, rfl, rfl⟩ ⟨Nat.le_of_ble_eq_true rfl, Nat.le_of_ble_eq_true rfl⟩ ?_
      refine g_icmp_eq X rfl (fun h2 => ?_) (fun h2 => ?_)
      · refine g_iinc1 X rfl rfl (by decide) ?_
        refine g_goto X rfl ?_
        exact ih (i + 1) (fun q hq => by by_cases e : q = i; subst e; assumption; exact hal q (by omega)) (by omega) (by omega) (by omega)
      · refine g_iconst X rfl (v := nI 0) (by decide) ?_
        refine g_iret X rfl rfl (by first | rfl | exact bI_nar _ | decide) (Nat.le_refl _) (Nat.le_refl _) ⟨?_, rfl, rfl⟩
        first | exact bR1 (by unfold isW; rw [Bool.and_eq_true, Bool.and_eq_true, decide_eq_true_eq, decide_eq_true_eq, allR]; exact ⟨hq1, hq2, fun q hq => decide_eq_true (hal q (by omega))⟩) | exact bR0 (by rw [← Bool.not_eq_true]; unfold isW; rw [Bool.and_eq_true, Bool.and_eq_true, decide_eq_true_eq, decide_eq_true_eq, allR]; exact fun q => absurd (of_decide_eq_true (q.2.2 i (by omega))) (by assumption))
set_option maxRecDepth 100000 in
set_option maxHeartbeats 400000 in
theorem cr_X5_isWord (l : Launch) (D : va_G) (cy : Nat → ClassId) (B : Nat) (od : Nat → Option Nat) {A : AH} {t len : Nat} {tx : Nat → Int32} {k : TK} {fl : FL4} (hr : A 2 = some (rdE t len k fl)) (ht : A 3 = some (.inl (cy 0, 400, .inl tx))) (hlen : len ≤ 400) (hk : k.1 ≤ len) (hts : k.2.2.1 ≤ k.1) {j : Nat} (hj : j < 39) : CR l D cy B od yX5_isWord cX5_isWord 3 (some .boolean) rmX5_isWord [.ref 2, .ref (1000000 + j)] A (.int (bI (isW tx k j))) := by
  intro z
  refine CT.of (by decide) tX5_isWord okX5_isWord (Nat.le_of_ble_eq_true rfl) (q0 := tX5_isWord[0]) rfl rfl ?_
  intro p e s m args below meth c X _
  have hb9 := sB_len j hj
  refine g_aload_n X rfl rfl ?_
  refine g_get X rfl flX5_37 (ci := 5) rfl hr rfl ?_
  refine g_iconst X rfl (v := nI 1) (by decide) ?_
  refine g_icmp_ne X rfl (fun h1 => ?_) (fun h1 => ?_)
  · refine g_iconst X rfl (v := nI 0) (by decide) ?_
    refine g_iret X rfl rfl (by first | rfl | exact bI_nar _ | decide) (Nat.le_refl _) (Nat.le_refl _) ⟨?_, rfl, rfl⟩
    exact bR0 (by rw [← Bool.not_eq_true]; unfold isW; rw [Bool.and_eq_true, Bool.and_eq_true, decide_eq_true_eq, decide_eq_true_eq]; first | exact fun q => absurd q.1 (by assumption) | exact fun q => absurd q.2.1 (by assumption))
  · refine g_aload_n X rfl rfl ?_
    refine g_get X rfl flX5_65 (ci := 5) rfl hr rfl ?_
    refine g_aload_n X rfl rfl ?_
    refine g_get X rfl flX5_33 (ci := 5) rfl hr rfl ?_
    refine g_isub X rfl ?_
    rw [pk_sub hts]
    refine g_aload_n X rfl rfl ?_
    refine g_rVO X hj rfl lcJ0_length_8abf5 lmX5_155 lsJ0_length_8abf5 rfl (cr_J0_length_8abf5 l D cy B od hj) rfl rfl (Nat.le_of_ble_eq_true rfl) ⟨⟨by decide, by decide⟩, rfl, rfl⟩ ⟨Nat.le_of_ble_eq_true rfl, Nat.le_of_ble_eq_true rfl⟩ ?_
    first | refine g_ic_eqN X rfl (by omega) (by omega) (fun h2 => ?_) (fun h2 => ?_) | refine g_icmp_eq X rfl (fun h2 => ?_) (fun h2 => ?_)
    · refine g_iconst X rfl (v := nI 0) (by decide) ?_
      refine g_istore_n X rfl (by decide) ?_
      exact lp_X5_isWord l D cy B od hr ht hlen hk hts hj (by first | assumption | (apply Classical.not_not.mp; assumption)) (by assumption) X ((sB j).length + 1) 0 (fun q hq => absurd hq (by omega)) (by omega) (by omega) (by omega)
    · refine g_iconst X rfl (v := nI 0) (by decide) ?_
      refine g_iret X rfl rfl (by first | rfl | exact bI_nar _ | decide) (Nat.le_refl _) (Nat.le_refl _) ⟨?_, rfl, rfl⟩
      exact bR0 (by rw [← Bool.not_eq_true]; unfold isW; rw [Bool.and_eq_true, Bool.and_eq_true, decide_eq_true_eq, decide_eq_true_eq]; first | exact fun q => absurd q.1 (by assumption) | exact fun q => absurd q.2.1 (by assumption))
