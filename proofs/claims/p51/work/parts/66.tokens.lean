/-! 66: reading what stands in a list: tokens, then statement by statement -/
section LST
variable {tx : Nat → Int32} {len : Nat}
/-- from p on the text is l, to its end -/
def AtL (tx : Nat → Int32) (len p : Nat) (l : List Nat) : Prop := p + l.length = len ∧ ∀ j, j < l.length → tx (p + j) = nI (l.getD j 0)
theorem AtL.hd {p x : Nat} {l : List Nat} (h : AtL tx len p (x :: l)) : p < len ∧ tx p = nI x := by
  obtain ⟨h1, h2⟩ := h
  rw [List.length_cons] at h1
  exact ⟨by omega, h2 0 (by rw [List.length_cons]; omega)⟩
theorem AtL.tl {p x : Nat} {l : List Nat} (h : AtL tx len p (x :: l)) : AtL tx len (p + 1) l := by
  obtain ⟨h1, h2⟩ := h
  rw [List.length_cons] at h1
  refine ⟨by omega, fun j hj => ?_⟩
  have := h2 (j + 1) (by rw [List.length_cons]; omega)
  rw [show p + 1 + j = p + (j + 1) by omega, this]
  rfl
theorem AtL.app : ∀ {a b : List Nat} {p : Nat}, AtL tx len p (a ++ b) → AtL tx len (p + a.length) b
  | [], _, _, h => h
  | x :: a, b, p, h => by
    have h2 : AtL tx len p (x :: (a ++ b)) := h
    have := AtL.app h2.tl
    rw [List.length_cons, show p + (a.length + 1) = p + 1 + a.length by omega]
    exact this
theorem getD_ap0 {a b : List Nat} {j : Nat} (hj : j < a.length) : (a ++ b).getD j 0 = a.getD j 0 := by
  rw [List.getD_eq_getElem?_getD, List.getD_eq_getElem?_getD, List.getElem?_append_left hj]
theorem AtL.pre {a b : List Nat} {p : Nat} (h : AtL tx len p (a ++ b)) : p + a.length ≤ len ∧ ∀ j, j < a.length → tx (p + j) = nI (a.getD j 0) := by
  obtain ⟨h1, h2⟩ := h
  rw [List.length_append] at h1 h2
  exact ⟨by omega, fun j hj => by rw [h2 j (by omega), getD_ap0 hj]⟩
theorem scan_to {f : Nat → Bool} {q : Nat} (h2 : ¬ (q < len ∧ f q = true)) (hl : q ≤ len) : ∀ n p, q - p = n → p ≤ q → (∀ j, p ≤ j → j < q → f j = true) → scan f len p = q
  | 0, p, hn, hp, h => by
    rw [show p = q by omega]; exact scan_no h2
  | n + 1, p, hn, hp, h => by
    rw [scan_go (by omega) (h p (Nat.le_refl _) (by omega))]
    exact scan_to h2 hl n (p + 1) (by omega) (by omega) (fun j h3 h4 => h j (by omega) h4)
theorem inR_iff {p x a b : Nat} (h : tx p = nI x) (hx : x < 128) (ha : a < 128) (hb : b < 128) : inR tx (nI a) (nI b) p = true ↔ a ≤ x ∧ x ≤ b := by
  unfold inR
  rw [Bool.and_eq_true, decide_eq_true_eq, decide_eq_true_eq, h, Int32.le_iff_toInt_le, Int32.le_iff_toInt_le, nI_toInt (by omega), nI_toInt (by omega), nI_toInt (by omega)]
  omega
/-- the token at p or behind the spaces there -/
def tkA (tx : Nat → Int32) (len p : Nat) (nm : Int32) : TK := tokAt tx len (scan (spR tx) len p) nm
theorem tokN_A {k : TK} : tokN tx len k = tkA tx len k.1 k.2.2.2 := rfl
/-- no character of a run follows -/
def NoR (a b : Nat) (l : List Nat) : Prop := ∀ x l2, l = x :: l2 → x < 128 ∧ ¬ (a ≤ x ∧ x ≤ b)
theorem NoR.at {a b p : Nat} {l : List Nat} (h : NoR a b l) (hl : AtL tx len p l) (ha : a < 128) (hb : b < 128) : ¬ (p < len ∧ inR tx (nI a) (nI b) p = true) := by
  rintro ⟨h1, h2⟩
  cases l with
  | nil => have := hl.1; rw [List.length_nil] at this; omega
  | cons x l2 =>
    obtain ⟨h3, h4⟩ := h x l2 rfl
    exact h4 ((inR_iff hl.hd.2 h3 ha hb).mp h2)
theorem run_to {a b p : Nat} {w l : List Nat} (h : AtL tx len p (w ++ l)) (hw : ∀ j, j < w.length → a ≤ w.getD j 0 ∧ w.getD j 0 ≤ b) (hn : NoR a b l) (ha : a < 128) (hb : b < 128) : scan (inR tx (nI a) (nI b)) len p = p + w.length := by
  obtain ⟨h1, h2⟩ := h.pre
  refine scan_to (hn.at h.app ha hb) h1 w.length p (by omega) (by omega) (fun j h3 h4 => ?_)
  have h5 := h2 (j - p) (by omega)
  have h6 := hw (j - p) (by omega)
  rw [show p + (j - p) = j by omega] at h5
  exact (inR_iff h5 (by omega) ha hb).mpr h6
theorem tk_sp {p : Nat} {l : List Nat} {nm : Int32} (h : AtL tx len p (32 :: l)) : tkA tx len p nm = tkA tx len (p + 1) nm := by
  unfold tkA
  rw [scan_go h.hd.1 ((inR_iff h.hd.2 (by decide) (by decide) (by decide)).mpr (by decide))]
theorem tk_end {p : Nat} {nm : Int32} (h : AtL tx len p []) : tkA tx len p nm = (p, nI 0, p, nm) := by
  have h1 : p = len := h.1
  unfold tkA tokAt
  rw [scan_no (by omega), if_pos (by omega)]
theorem sp_no {p x : Nat} {l : List Nat} (h : AtL tx len p (x :: l)) (hx : x < 128) (h2 : x ≠ 32) : scan (spR tx) len p = p :=
  scan_no (fun q => by have := (inR_iff h.hd.2 hx (by decide) (by decide)).mp q.2; omega)
theorem tk_semi {p : Nat} {l : List Nat} {nm : Int32} (h : AtL tx len p (59 :: l)) : tkA tx len p nm = (p + 1, nI 3, p, nm) := by
  have h1 := h.hd.1
  unfold tkA
  rw [sp_no h (by decide) (by decide)]
  unfold tokAt
  rw [if_neg (by omega), if_neg (fun q => absurd ((inR_iff h.hd.2 (by decide) (by decide) (by decide)).mp q) (by decide)), if_neg (fun q => absurd ((inR_iff h.hd.2 (by decide) (by decide) (by decide)).mp q) (by decide))]
theorem tk_word {p : Nat} {w l : List Nat} {nm : Int32} (h : AtL tx len p (w ++ l)) (h0 : 1 ≤ w.length) (hw : ∀ j, j < w.length → 97 ≤ w.getD j 0 ∧ w.getD j 0 ≤ 122) (hn : NoR 97 122 l) : tkA tx len p nm = (p + w.length, nI 1, p, nm) := by
  obtain ⟨h1, h2⟩ := h.pre
  have h3 := h2 0 h0
  have h4 := hw 0 h0
  rw [Nat.add_zero] at h3
  have h5 : scan (spR tx) len p = p := scan_no (fun q => by have := (inR_iff h3 (by omega) (by decide) (by decide)).mp q.2; omega)
  unfold tkA tokAt
  rw [h5, if_neg (by omega), if_pos ((inR_iff h3 (by omega) (by decide) (by decide)).mpr h4), run_to h hw hn (by decide) (by decide)]
theorem decN_dig : ∀ k n, ∀ j, j < (decF k n).length → 48 ≤ (decF k n).getD j 0 ∧ (decF k n).getD j 0 ≤ 57
  | 0, n => by intro j hj; have e : j = 0 := Nat.lt_one_iff.mp hj; subst e; show 48 ≤ 48 + n % 10 ∧ 48 + n % 10 ≤ 57; omega
  | k + 1, n => by
    show ∀ j, j < (if n < 10 then [48 + n] else decF k (n / 10) ++ [48 + n % 10]).length → 48 ≤ (if n < 10 then [48 + n] else decF k (n / 10) ++ [48 + n % 10]).getD j 0 ∧ (if n < 10 then [48 + n] else decF k (n / 10) ++ [48 + n % 10]).getD j 0 ≤ 57
    by_cases h : n < 10
    · rw [if_pos h]; intro j hj; have e : j = 0 := Nat.lt_one_iff.mp hj; subst e; show 48 ≤ 48 + n ∧ 48 + n ≤ 57; omega
    · rw [if_neg h]
      intro j hj
      rw [List.length_append, List.length_cons, List.length_nil] at hj
      by_cases e : j < (decF k (n / 10)).length
      · rw [getD_ap0 e]; exact decN_dig k (n / 10) j e
      · have e2 : j = (decF k (n / 10)).length := by omega
        subst e2
        rw [List.getD_eq_getElem?_getD, List.getElem?_append_right (Nat.le_refl _), Nat.sub_self]
        show 48 ≤ 48 + n % 10 ∧ 48 + n % 10 ≤ 57
        omega
theorem vD_dec : ∀ k n, n < 10 ^ k → k ≤ 9 → ∀ p, (∀ j, j < (decN n).length → tx (p + j) = nI ((decN n).getD j 0)) → vD tx p (decN n).length = nI n
  | 0, n, h, _ => by
    intro p hp
    have e : n = 0 := by rw [Nat.pow_zero] at h; omega
    subst e
    have h0 := hp 0 (decN_pos 0)
    rw [decN_lt (by decide)] at h0 ⊢
    show vD tx p 0 * nI 10 + tx (p + 0) - nI 48 = nI 0
    rw [h0]; show nI 0 * nI 10 + nI (48 + 0) - nI 48 = nI 0; decide
  | k + 1, n, h, hk => by
    intro p hp
    by_cases h10 : n < 10
    · have h0 := hp 0 (decN_pos n)
      rw [decN_lt h10] at h0 ⊢
      show nI 0 * nI 10 + tx (p + 0) - nI 48 = nI n
      rw [h0]
      show nI 0 * nI 10 + nI (48 + n) - nI 48 = nI n
      rw [pk_mul, nI_add, pk_sub (by omega)]
      congr 1; omega
    · have h9 : n < 1000000000 := Nat.lt_of_lt_of_le h (Nat.pow_le_pow_right (by decide) (show k + 1 ≤ 9 from hk))
      have hd := decN_ge h10 h9
      rw [hd] at hp ⊢
      rw [List.length_append, List.length_cons, List.length_nil] at hp ⊢
      have ih := vD_dec k (n / 10) (by rw [Nat.div_lt_iff_lt_mul (by decide), ← Nat.pow_succ]; exact h) (by omega) p (fun j hj => by rw [hp j (by omega), getD_ap0 hj])
      show vD tx p (decN (n / 10)).length * nI 10 + tx (p + (decN (n / 10)).length) - nI 48 = nI n
      have hl := hp (decN (n / 10)).length (by omega)
      rw [List.getD_eq_getElem?_getD, List.getElem?_append_right (Nat.le_refl _), Nat.sub_self] at hl
      have hl2 : tx (p + (decN (n / 10)).length) = nI (48 + n % 10) := hl
      rw [ih, hl2, pk_mul, nI_add, pk_sub (by omega)]
      congr 1; omega
theorem tk_num {p n : Nat} {l : List Nat} {nm : Int32} (h : AtL tx len p (decN n ++ l)) (hn : n < 100000000) (hl : NoR 48 57 l) : tkA tx len p nm = (p + (decN n).length, nI 2, p, nI n) := by
  obtain ⟨h1, h2⟩ := h.pre
  have h0 := decN_pos n
  have hdig := decN_dig 9 n
  have h3 := h2 0 h0
  have h4 := hdig 0 h0
  rw [Nat.add_zero] at h3
  have h4 : 48 ≤ (decN n).getD 0 0 ∧ (decN n).getD 0 0 ≤ 57 := h4
  have h5 : scan (spR tx) len p = p := scan_no (fun q => by have := (inR_iff h3 (by omega) (by decide) (by decide)).mp q.2; omega)
  have h8 := decN_le 8 n (by decide) (by decide) hn
  unfold tkA tokAt
  rw [h5, if_neg (by omega), if_neg (fun q => by have := (inR_iff h3 (by omega) (by decide) (by decide)).mp q; omega), if_pos ((inR_iff h3 (by omega) (by decide) (by decide)).mpr h4), run_to h hdig hl (by decide) (by decide)]
  unfold tokV
  rw [if_neg (by omega), show p + (decN n).length - p = (decN n).length by omega, vD_dec 8 n hn (by decide) p h2]
/-- what follows a number: a space, a semicolon, or nothing -/
def Sep (l : List Nat) : Prop := l = [] ∨ ∃ x l2, l = x :: l2 ∧ (x = 32 ∨ x = 59)
theorem Sep.no {l : List Nat} (h : Sep l) : NoR 48 57 l := by
  intro x l2 e
  rcases h with h | ⟨y, l3, h, h2⟩
  · rw [h] at e; cases e
  · rw [h] at e; cases e; omega
theorem NoR.sp (l : List Nat) : NoR 97 122 (32 :: l) := by
  intro x l2 e
  cases e
  decide
theorem Sep.sp (l : List Nat) : Sep (32 :: l) := Or.inr ⟨32, l, rfl, Or.inl rfl⟩
theorem Sep.se (l : List Nat) : Sep (59 :: l) := Or.inr ⟨59, l, rfl, Or.inr rfl⟩
/-- a space and a number, with what follows -/
theorem num_at {p n : Nat} {l : List Nat} (h : AtL tx len p (32 :: (decN n ++ l))) (hn : n < 100000000) (hl : Sep l) : ∃ q, AtL tx len q l ∧ ∀ nm, tkA tx len p nm = (q, nI 2, p + 1, nI n) :=
  ⟨p + 1 + (decN n).length, h.tl.app, fun nm => by rw [tk_sp h, tk_num h.tl hn hl.no]⟩
theorem num_V {a b n q s : Nat} (h1 : a ≤ n) (h2 : n ≤ b) (hb : b < 2 ^ 31) : tkV (q, nI 2, s, nI n) (nI a) (nI b) = nI n ∧ tkS tx len (q, nI 2, s, nI n) (nI a) (nI b) = tkA tx len q (nI n) := by
  have e : numOk (q, nI 2, s, nI n) (nI a) (nI b) = true := by
    unfold numOk within9
    rw [Bool.and_eq_true, Bool.and_eq_true, decide_eq_true_eq, decide_eq_true_eq, decide_eq_true_eq]
    exact ⟨rfl, nI_le h1 (by omega), nI_le h2 hb⟩
  unfold tkV tkS
  rw [if_pos e, if_pos e]
  exact ⟨rfl, rfl⟩
/-- the words of statements -/
theorem w_let : ∀ j, j < 7 → 1 ≤ (strN j).length ∧ ∀ i, i < (strN j).length → 97 ≤ (strN j).getD i 0 ∧ (strN j).getD i 0 ≤ 122 := by decide
theorem w_dif : ∀ j, j < 6 → ∀ i, i < 6 → i ≠ j → (strN j).length ≠ (strN i).length := by decide
theorem isW_y {p j : Nat} {l : List Nat} {nm : Int32} (hj : j < 7) (h : AtL tx len p (strN j ++ l)) : isW tx (p + (strN j).length, nI 1, p, nm) j = true := by
  obtain ⟨h1, h2⟩ := strN_ok j (by omega)
  have h3 := h.pre.2
  unfold isW
  rw [Bool.and_eq_true, Bool.and_eq_true, decide_eq_true_eq, decide_eq_true_eq, allR]
  refine ⟨rfl, by show p + (strN j).length - p = _; omega, fun q hq => ?_⟩
  rw [decide_eq_true_eq]
  show tx (p + q) = _
  rw [h3 q (by omega), (h2 q hq).1]
  rfl
theorem isW_n {p j i : Nat} {nm : Int32} (hj : j < 6) (hi : i < 6) (hne : i ≠ j) : isW tx (p + (strN j).length, nI 1, p, nm) i = false := by
  have h9 := w_dif j hj i hi hne
  have h1 := (strN_ok i (by omega)).1
  unfold isW
  rw [decide_eq_false (show ¬ p + (strN j).length - p = (sB i).length by omega), Bool.false_and, Bool.and_false]
theorem isW_k {q p i : Nat} {nm : Int32} {kd : Int32} (h : kd ≠ nI 1) : isW tx (q, kd, p, nm) i = false := by
  unfold isW
  rw [decide_eq_false h, Bool.false_and]
/-- what reading does behind a statement -/
def finL (tx : Nat → Int32) (len n : Nat) (s : PS) : Int32 × PS := if s.1.2.1 = 0 then (-1, s) else if s.1.2.1 = nI 3 ∧ tx s.1.2.2.1 = nI 59 then rdL tx len n (tokN tx len s.1, s.2) else (nI s.1.2.2.1, s)
theorem rdL_fin {n : Nat} {s s' : PS} (h : rdSt tx len s = (true, s')) : rdL tx len (n + 1) s = finL tx len n s' := by
  show (if (rdSt tx len s).1 = true then _ else _) = _
  rw [h]
  rfl
variable {n p : Nat} {nm : Int32} {fl : FL4} {Z : SV} {R : RV}
theorem fin_semi {l : List Nat} {u : FL4 × SV × RV} (h : AtL tx len p (59 :: l)) : finL tx len n (tkA tx len p nm, u) = rdL tx len n (tkA tx len (p + 1) nm, u) := by
  unfold finL
  rw [tk_semi h]
  show (if nI 3 = 0 then _ else if nI 3 = nI 3 ∧ tx p = nI 59 then _ else _) = _
  rw [if_neg (by decide), if_pos ⟨rfl, h.hd.2⟩]
  rfl
theorem fin_end {u : FL4 × SV × RV} (h : AtL tx len p []) : finL tx len n (tkA tx len p nm, u) = (-1, ((p, nI 0, p, nm), u)) := by
  unfold finL
  rw [tk_end h]
  exact if_pos rfl
theorem fin_sp {l : List Nat} {u : FL4 × SV × RV} (h : AtL tx len p (32 :: l)) : finL tx len n (tkA tx len p nm, u) = finL tx len n (tkA tx len (p + 1) nm, u) := by rw [tk_sp h]
/-- a statement of word j -/
theorem st_word {j : Nat} {l : List Nat} (hj : j < 6) (h : AtL tx len p (strN j ++ 32 :: l)) : tkA tx len p nm = (p + (strN j).length, nI 1, p, nm) ∧ AtL tx len (p + (strN j).length) (32 :: l) := ⟨tk_word h (w_let j (by omega)).1 (w_let j (by omega)).2 (NoR.sp l), h.app⟩
theorem st_start {v : Nat} {l : List Nat} (h : AtL tx len p (strN 0 ++ 32 :: (decN v ++ l))) (hv : v ≤ 10000000) (hl : Sep l) (hf : fl.1 = 0) : ∃ q, AtL tx len q l ∧ rdL tx len (n + 1) (tkA tx len p nm, fl, Z, R) = finL tx len n (tkA tx len q (nI v), (nI 1, fl.2), zSet Z 0 (nI v), R) := by
  obtain ⟨hw, h2⟩ := st_word (nm := nm) (by decide) h
  obtain ⟨q, h3, h4⟩ := num_at h2 (by omega) hl
  refine ⟨q, h3, rdL_fin ?_⟩
  rw [hw]
  unfold rdSt
  rw [show isW tx (p + (strN 0).length, nI 1, p, nm) 0 = true from isW_y (by decide) h, if_pos rfl]
  unfold rdStart
  rw [if_neg (fun q => q hf)]
  unfold rd1
  rw [tokN_A, show tkA tx len (p + (strN 0).length) nm = _ from h4 nm, (num_V (tx := tx) (len := len) (Nat.zero_le v) hv (by decide)).1, (num_V (tx := tx) (len := len) (Nat.zero_le v) hv (by decide)).2, decide_eq_true (nI_nm1 (by omega))]
theorem st_interest {v : Nat} {l : List Nat} (h : AtL tx len p (strN 2 ++ 32 :: (decN v ++ l))) (hv : v ≤ 100) (hl : Sep l) (hf : fl.2.2.1 = 0) : ∃ q, AtL tx len q l ∧ rdL tx len (n + 1) (tkA tx len p nm, fl, Z, R) = finL tx len n (tkA tx len q (nI v), (fl.1, fl.2.1, nI 1, fl.2.2.2), zSet Z 3 (nI v), R) := by
  obtain ⟨hw, h2⟩ := st_word (nm := nm) (by decide) h
  obtain ⟨q, h3, h4⟩ := num_at h2 (by omega) hl
  refine ⟨q, h3, rdL_fin ?_⟩
  rw [hw]
  unfold rdSt
  rw [show isW tx (p + (strN 2).length, nI 1, p, nm) 2 = true from isW_y (by decide) h, isW_n (by decide) (by decide) (by decide), isW_n (by decide) (by decide) (by decide), if_neg (by decide), if_neg (by decide), if_pos rfl]
  unfold rdInterest
  rw [if_neg (fun q => q hf)]
  unfold rd1
  rw [tokN_A, show tkA tx len (p + (strN 2).length) nm = _ from h4 nm, (num_V (tx := tx) (len := len) (Nat.zero_le v) hv (by decide)).1, (num_V (tx := tx) (len := len) (Nat.zero_le v) hv (by decide)).2, decide_eq_true (nI_nm1 (by omega))]
theorem st_top {v : Nat} {l : List Nat} (h : AtL tx len p (strN 3 ++ 32 :: (decN v ++ l))) (hv : v ≤ 900) (hl : Sep l) (hf : fl.2.2.2 = 0) : ∃ q, AtL tx len q l ∧ rdL tx len (n + 1) (tkA tx len p nm, fl, Z, R) = finL tx len n (tkA tx len q (nI v), (fl.1, fl.2.1, fl.2.2.1, nI 1), zSet Z 4 (nI v), R) := by
  obtain ⟨hw, h2⟩ := st_word (nm := nm) (by decide) h
  obtain ⟨q, h3, h4⟩ := num_at h2 (by omega) hl
  refine ⟨q, h3, rdL_fin ?_⟩
  rw [hw]
  unfold rdSt
  rw [show isW tx (p + (strN 3).length, nI 1, p, nm) 3 = true from isW_y (by decide) h, isW_n (by decide) (by decide) (by decide), isW_n (by decide) (by decide) (by decide), isW_n (by decide) (by decide) (by decide), if_neg (by decide), if_neg (by decide), if_neg (by decide), if_pos rfl]
  unfold rdTop
  rw [if_neg (fun q => q hf)]
  unfold rd1
  rw [tokN_A, show tkA tx len (p + (strN 3).length) nm = _ from h4 nm, (num_V (tx := tx) (len := len) (Nat.zero_le v) hv (by decide)).1, (num_V (tx := tx) (len := len) (Nat.zero_le v) hv (by decide)).2, decide_eq_true (nI_nm1 (by omega))]
theorem st_assets {a b : Nat} {l : List Nat} (h : AtL tx len p (strN 1 ++ 32 :: (decN a ++ 32 :: (decN b ++ l)))) (hab : a ≤ b) (hb : b ≤ 1000000) (hl : Sep l) (hf : fl.2.1 = 0) : ∃ q, AtL tx len q l ∧ rdL tx len (n + 1) (tkA tx len p nm, fl, Z, R) = finL tx len n (tkA tx len q (nI b), (fl.1, nI 1, fl.2.2), zSet (zSet Z 1 (nI a)) 2 (nI b), R) := by
  obtain ⟨hw, h2⟩ := st_word (nm := nm) (by decide) h
  obtain ⟨q1, h3, h4⟩ := num_at h2 (by omega) (Sep.sp _)
  obtain ⟨q, h5, h6⟩ := num_at h3 (by omega) hl
  refine ⟨q, h5, rdL_fin ?_⟩
  rw [hw]
  unfold rdSt
  rw [show isW tx (p + (strN 1).length, nI 1, p, nm) 1 = true from isW_y (by decide) h, isW_n (by decide) (by decide) (by decide), if_neg (by decide), if_pos rfl]
  unfold rdAssets
  have e1 := num_V (tx := tx) (len := len) (q := q1) (s := p + (strN 1).length + 1) (Nat.zero_le a) (Nat.le_trans hab hb) (by decide)
  have e2 := num_V (tx := tx) (len := len) (q := q) (s := q1 + 1) hab hb (by decide)
  rw [tokN_A, show tkA tx len (p + (strN 1).length) nm = _ from h4 nm, e1.1, e1.2, h6, e2.1, e2.2]
  unfold asRes
  rw [if_neg (fun q => q hf), if_neg (nI_nm1 (by omega)), decide_eq_true (nI_nm1 (by omega))]
theorem st_bracket {a b l0 : Nat} {l : List Nat} (h : AtL tx len p (strN 4 ++ 32 :: (decN a ++ 32 :: (decN b ++ l)))) (hl0 : lastL Z = nI l0) (ha : l0 < a) (ha2 : a ≤ 99999999) (hb : b ≤ 900) (hl : Sep l) (h5 : Z.1 < 5) : ∃ q, AtL tx len q l ∧ rdL tx len (n + 1) (tkA tx len p nm, fl, Z, R) = finL tx len n (tkA tx len q (nI b), fl, zAdd Z (nI a) (nI b), R) := by
  obtain ⟨hw, h2⟩ := st_word (nm := nm) (by decide) h
  obtain ⟨q1, h3, h4⟩ := num_at h2 (by omega) (Sep.sp _)
  obtain ⟨q, h7, h6⟩ := num_at h3 (by omega) hl
  refine ⟨q, h7, rdL_fin ?_⟩
  rw [hw]
  unfold rdSt
  rw [show isW tx (p + (strN 4).length, nI 1, p, nm) 4 = true from isW_y (by decide) h, isW_n (by decide) (by decide) (by decide), isW_n (by decide) (by decide) (by decide), isW_n (by decide) (by decide) (by decide), isW_n (by decide) (by decide) (by decide), if_neg (by decide), if_neg (by decide), if_neg (by decide), if_neg (by decide), if_pos rfl]
  unfold rdBracket
  have e1 := num_V (tx := tx) (len := len) (q := q1) (s := p + (strN 4).length + 1) (show l0 + 1 ≤ a from ha) ha2 (by decide)
  have e2 := num_V (tx := tx) (len := len) (q := q) (s := q1 + 1) (Nat.zero_le b) hb (by decide)
  show (if 5 ≤ Z.1 then _ else if tkV (tokN tx len (p + (strN 4).length, nI 1, p, nm)) (lastL Z + nI 1) (nI 99999999) = -1 then _ else _) = _
  rw [if_neg (by omega), hl0, nI_add, tokN_A, show tkA tx len (p + (strN 4).length) nm = _ from h4 nm, e1.1, if_neg (nI_nm1 (by omega))]
  unfold rdBr2
  show (if tkV (tkS tx len (q1, nI 2, p + (strN 4).length + 1, nI a) (nI (l0 + 1)) (nI 99999999)) (nI 0) (nI 900) = -1 then _ else (true, (tkS tx len (tkS tx len (q1, nI 2, p + (strN 4).length + 1, nI a) (nI (l0 + 1)) (nI 99999999)) (nI 0) (nI 900), fl, zAdd Z (nI a) (tkV (tkS tx len (q1, nI 2, p + (strN 4).length + 1, nI a) (nI (l0 + 1)) (nI 99999999)) (nI 0) (nI 900)), R))) = _
  rw [e1.2, h6, e2.1, e2.2, if_neg (nI_nm1 (by omega))]
theorem sem_no {l : List Nat} (h : AtL tx len p l) (hl : l = [] ∨ ∃ l2, l = 59 :: l2) : isW tx (tkA tx len p nm) 6 = false := by
  rcases hl with rfl | ⟨l2, rfl⟩
  · rw [tk_end h]; exact isW_k (by decide)
  · rw [tk_semi h]; exact isW_k (by decide)
theorem Sep.of {l : List Nat} (hl : l = [] ∨ ∃ l2, l = 59 :: l2) : Sep l := by
  rcases hl with rfl | ⟨l2, rfl⟩
  · exact Or.inl rfl
  · exact Sep.se l2
theorem st_room {a : Nat} {l : List Nat} (h : AtL tx len p (strN 5 ++ 32 :: (decN a ++ l))) (ha : 1 ≤ a) (ha2 : a ≤ 500) (hl : l = [] ∨ ∃ l2, l = 59 :: l2) (h6 : R.1 < 6) : ∃ q, AtL tx len q l ∧ rdL tx len (n + 1) (tkA tx len p nm, fl, Z, R) = finL tx len n (tkA tx len q (nI a), fl, Z, rAdd R (nI a) (-1) (-1)) := by
  obtain ⟨hw, h2⟩ := st_word (nm := nm) (by decide) h
  obtain ⟨q, h3, h4⟩ := num_at h2 (by omega) (Sep.of hl)
  refine ⟨q, h3, rdL_fin ?_⟩
  rw [hw]
  unfold rdSt
  rw [show isW tx (p + (strN 5).length, nI 1, p, nm) 5 = true from isW_y (by decide) h, isW_n (by decide) (by decide) (by decide), isW_n (by decide) (by decide) (by decide), isW_n (by decide) (by decide) (by decide), isW_n (by decide) (by decide) (by decide), isW_n (by decide) (by decide) (by decide), if_neg (by decide), if_neg (by decide), if_neg (by decide), if_neg (by decide), if_neg (by decide), if_pos rfl]
  unfold rdRoom
  have e1 := num_V (tx := tx) (len := len) (q := q) (s := p + (strN 5).length + 1) ha ha2 (by decide)
  show (if 6 ≤ R.1 then _ else if tkV (tokN tx len (p + (strN 5).length, nI 1, p, nm)) (nI 1) (nI 500) = -1 then _ else _) = _
  rw [if_neg (by omega), tokN_A, show tkA tx len (p + (strN 5).length) nm = _ from h4 nm, e1.1, if_neg (nI_nm1 (by omega))]
  unfold rdRo2
  show (if isW tx (tkS tx len (q, nI 2, p + (strN 5).length + 1, nI a) (nI 1) (nI 500)) 6 = true then _ else (true, (tkS tx len (q, nI 2, p + (strN 5).length + 1, nI a) (nI 1) (nI 500), fl, Z, rAdd R (nI a) (-1) (-1)))) = _
  rw [e1.2, sem_no h3 hl, if_neg (by decide)]
theorem st_office {a f t : Nat} {l : List Nat} (h : AtL tx len p (strN 5 ++ 32 :: (decN a ++ 32 :: (strN 6 ++ 32 :: (decN f ++ 32 :: (decN t ++ l)))))) (ha : 1 ≤ a) (ha2 : a ≤ 500) (hft : f ≤ t) (ht : t ≤ 359) (hl : Sep l) (h6 : R.1 < 6) : ∃ q, AtL tx len q l ∧ rdL tx len (n + 1) (tkA tx len p nm, fl, Z, R) = finL tx len n (tkA tx len q (nI t), fl, Z, rAdd R (nI a) (nI f) (nI t)) := by
  obtain ⟨hw, h2⟩ := st_word (nm := nm) (by decide) h
  obtain ⟨q1, h3, h4⟩ := num_at h2 (by omega) (Sep.sp _)
  have h5 := h3.tl
  have hof : tkA tx len q1 (nI a) = (q1 + 1 + (strN 6).length, nI 1, q1 + 1, nI a) := by rw [tk_sp h3]; exact tk_word h5 (w_let 6 (by decide)).1 (w_let 6 (by decide)).2 (NoR.sp _)
  obtain ⟨q2, h7, h8⟩ := num_at h5.app (by omega) (Sep.sp _)
  obtain ⟨q, h9, h10⟩ := num_at h7 (by omega) hl
  refine ⟨q, h9, rdL_fin ?_⟩
  rw [hw]
  unfold rdSt
  rw [show isW tx (p + (strN 5).length, nI 1, p, nm) 5 = true from isW_y (by decide) h, isW_n (by decide) (by decide) (by decide), isW_n (by decide) (by decide) (by decide), isW_n (by decide) (by decide) (by decide), isW_n (by decide) (by decide) (by decide), isW_n (by decide) (by decide) (by decide), if_neg (by decide), if_neg (by decide), if_neg (by decide), if_neg (by decide), if_neg (by decide), if_pos rfl]
  unfold rdRoom
  have e1 := num_V (tx := tx) (len := len) (q := q1) (s := p + (strN 5).length + 1) ha ha2 (by decide)
  have e2 := num_V (tx := tx) (len := len) (q := q2) (s := q1 + 1 + (strN 6).length + 1) (Nat.zero_le f) (Nat.le_trans hft ht) (by decide)
  have e3 := num_V (tx := tx) (len := len) (q := q) (s := q2 + 1) hft ht (by decide)
  show (if 6 ≤ R.1 then _ else if tkV (tokN tx len (p + (strN 5).length, nI 1, p, nm)) (nI 1) (nI 500) = -1 then _ else _) = _
  rw [if_neg (by omega), tokN_A, show tkA tx len (p + (strN 5).length) nm = _ from h4 nm, e1.1, if_neg (nI_nm1 (by omega))]
  unfold rdRo2
  show (if isW tx (tkS tx len (q1, nI 2, p + (strN 5).length + 1, nI a) (nI 1) (nI 500)) 6 = true then (if tkV (tokN tx len (tkS tx len (q1, nI 2, p + (strN 5).length + 1, nI a) (nI 1) (nI 500))) (nI 0) (nI 359) = -1 then _ else rdRo3 tx len (nI a) (tkV (tokN tx len (tkS tx len (q1, nI 2, p + (strN 5).length + 1, nI a) (nI 1) (nI 500))) (nI 0) (nI 359)) (tkS tx len (tokN tx len (tkS tx len (q1, nI 2, p + (strN 5).length + 1, nI a) (nI 1) (nI 500))) (nI 0) (nI 359), fl, Z, R)) else _) = _
  rw [e1.2, hof, isW_y (by decide) h5, if_pos rfl, tokN_A, show tkA tx len (q1 + 1 + (strN 6).length) (nI a) = _ from h8 (nI a), e2.1, e2.2, if_neg (nI_nm1 (by omega))]
  unfold rdRo3
  show (if tkV (tkA tx len q2 (nI f)) (nI f) (nI 359) = -1 then _ else (true, (tkS tx len (tkA tx len q2 (nI f)) (nI f) (nI 359), fl, Z, rAdd R (nI a) (nI f) (tkV (tkA tx len q2 (nI f)) (nI f) (nI 359))))) = _
  rw [h10, e3.1, e3.2, if_neg (nI_nm1 (by omega))]
end LST
