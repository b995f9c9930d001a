/-! 67: the drawn text is read as what was drawn -/
/-- the same settings, as far as a book holds them -/
def ZtB (Z Z2 : SV) : Prop := Z2.1 = Z.1 ∧ (∀ k, 1 ≤ k → k ≤ 4 → Z2.2.1 k = Z.2.1 k) ∧ ∀ i, i < 2 → ∀ j, j < Z.1 → Z2.2.2 i j = Z.2.2 i j
theorem BkW.ztb {cy : Nat → ClassId} {A : AH} {g : Nat} {L : BL} {S : StV} {Z Z2 : SV} (h : BkW cy A g L S Z) (e : ZtB Z Z2) : BkW cy A g L S Z2 := by
  obtain ⟨⟨a1, a2, a3, a4⟩, d1, d2⟩ := h
  obtain ⟨e1, e2, e3⟩ := e
  have hn : ∀ t, t < 5 → bN S Z2 t = bN S Z t := fun t ht => by
    rcases (show t = 0 ∨ t = 1 ∨ t = 2 ∨ t = 3 ∨ t = 4 by omega) with rfl | rfl | rfl | rfl | rfl
    · exact e1
    · rfl
    · rfl
    · rfl
    · rfl
  refine ⟨⟨?_, fun t ht => ?_, fun j hj => ?_, a4⟩, d1, fun t t1 t3 i j hi hj => ?_⟩
  · rw [a1]; unfold bkO; rw [e2 1 (by decide) (by decide), e2 2 (by decide) (by decide), e2 3 (by decide) (by decide), e2 4 (by decide) (by decide)]
  · rw [hn t ht]; exact a2 t ht
  · rw [e1] at hj
    exact RwA.cong (a3 j hj) (fun i hi => (e3 i hi j hj).symm)
  · rw [hn t (by omega)] at hi hj
    exact d2 t t1 t3 i j hi hj
theorem Foot.ztb {g : Nat} {L : BL} {S : StV} {Z Z2 : SV} {q : Nat} (h : Foot g L S Z2 q) : Foot g L S Z q := by
  rcases h with h | h | ⟨t, j, h1, h2, h3, h4⟩
  · exact Or.inl h
  · exact Or.inr (Or.inl h)
  · refine Or.inr (Or.inr ⟨t, j, h1, h2, ?_, h4⟩)
    rcases (show t = 1 ∨ t = 2 ∨ t = 3 by omega) with rfl | rfl | rfl <;> exact h3
theorem RngZ.ztb {Z Z2 : SV} (h : RngZ Z) (e : ZtB Z Z2) : RngZ Z2 := by
  obtain ⟨e1, e2, e3⟩ := e
  obtain ⟨h1, h2, h3, h4⟩ := h
  refine ⟨fun k hk => ?_, fun k hk => ?_, ?_, ?_⟩
  · rw [e1] at hk
    rw [e3 0 (by decide) k hk, e3 1 (by decide) k hk]; exact h1 k hk
  · rw [e1] at hk
    rw [e3 0 (by decide) k (by omega), e3 0 (by decide) (k + 1) hk]; exact h2 k hk
  · rw [e2 3 (by decide) (by decide)]; exact h3
  · rw [e2 4 (by decide) (by decide)]; exact h4
/-- the rooms' text from the k-th on -/
def rmS (od : Nat → Option Nat) : Nat → Nat → List Nat
  | _, 0 => []
  | k, d + 1 => 59 :: (strN 5 ++ 32 :: (decN (1 + dR od k % 500) ++ (if dR od k % 3 = 0 then rmS od (k + 1) d else 32 :: (strN 6 ++ 32 :: (decN (dFr od k) ++ 32 :: (decN (dFr od k + dR od k / 180000 % (360 - dFr od k)) ++ rmS od (k + 1) d))))))
def brS (od : Nat → Option Nat) (tl : List Nat) : Nat → Nat → List Nat
  | _, 0 => tl
  | k, d + 1 => 59 :: (strN 4 ++ 32 :: (decN (dLim od (k + 1)) ++ 32 :: (decN (dB od k / 3000 % 901) ++ brS od tl (k + 1) d)))
theorem sw_12 : strN 12 = strN 0 ++ [32] := by decide
theorem sw_13 : strN 13 = 59 :: (strN 1 ++ [32]) := by decide
theorem sw_14 : strN 14 = 59 :: (strN 2 ++ [32]) := by decide
theorem sw_15 : strN 15 = 32 :: 59 :: 32 :: (strN 3 ++ [32]) := by decide
theorem sw_16 : strN 16 = 59 :: (strN 4 ++ [32]) := by decide
theorem sw_17 : strN 17 = 59 :: (strN 5 ++ [32]) := by decide
theorem sw_18 : strN 18 = 32 :: (strN 6 ++ [32]) := by decide
theorem rm_split (od : Nat → Option Nat) : ∀ d k, rmT od k ++ rmS od k d = rmT od (k + d)
  | 0, k => List.append_nil _
  | d + 1, k => by
    rw [show k + (d + 1) = k + 1 + d by omega, ← rm_split od d (k + 1)]
    by_cases h : dR od k % 3 = 0
    · rw [show rmS od k (d + 1) = 59 :: (strN 5 ++ 32 :: (decN (1 + dR od k % 500) ++ rmS od (k + 1) d)) by rw [rmS, if_pos h], show rmT od (k + 1) = rmT od k ++ strN 17 ++ decN (1 + dR od k % 500) by rw [rmT, if_pos h], sw_17]
      simp only [List.append_assoc, List.cons_append, List.nil_append, List.singleton_append]
    · rw [show rmS od k (d + 1) = 59 :: (strN 5 ++ 32 :: (decN (1 + dR od k % 500) ++ 32 :: (strN 6 ++ 32 :: (decN (dFr od k) ++ 32 :: (decN (dFr od k + dR od k / 180000 % (360 - dFr od k)) ++ rmS od (k + 1) d))))) by rw [rmS, if_neg h], show rmT od (k + 1) = rmT od k ++ strN 17 ++ decN (1 + dR od k % 500) ++ strN 18 ++ decN (dFr od k) ++ [32] ++ decN (dFr od k + dR od k / 180000 % (360 - dFr od k)) by rw [rmT, if_neg h], sw_17, sw_18]
      simp only [List.append_assoc, List.cons_append, List.nil_append, List.singleton_append]
theorem br_split (od : Nat → Option Nat) (tl : List Nat) : ∀ d k, brT od k ++ brS od tl k d = brT od (k + d) ++ tl
  | 0, k => rfl
  | d + 1, k => by
    rw [show k + (d + 1) = k + 1 + d by omega, ← br_split od tl d (k + 1)]
    rw [show brS od tl k (d + 1) = 59 :: (strN 4 ++ 32 :: (decN (dLim od (k + 1)) ++ 32 :: (decN (dB od k / 3000 % 901) ++ brS od tl (k + 1) d))) from rfl, show brT od (k + 1) = brT od k ++ strN 16 ++ decN (dLim od (k + 1)) ++ [32] ++ decN (dB od k / 3000 % 901) from rfl, sw_16]
    simp only [List.append_assoc, List.cons_append, List.nil_append, List.singleton_append]
theorem text_split (od : Nat → Option Nat) : textD od = strN 0 ++ 32 :: (decN (dX od % 500000) ++ 59 :: (strN 1 ++ 32 :: (decN (dX od / 7 % 90000) ++ 32 :: (decN (dX od / 7 % 90000 + dY od % 200000) ++ 59 :: (strN 2 ++ 32 :: (decN (dY od / 9 % 101) ++ 32 :: 59 :: 32 :: (strN 3 ++ 32 :: (decN (dX od / 500000 % 901) ++ brS od (rmS od 0 (dY od % 5)) 0 (dX od % 6))))))))) := by
  have h1 := rm_split od (dY od % 5) 0
  have h2 := br_split od (rmS od 0 (dY od % 5)) (dX od % 6) 0
  rw [Nat.zero_add] at h1 h2
  have h1 : rmS od 0 (dY od % 5) = rmT od (dY od % 5) := h1
  have h2 : brS od (rmS od 0 (dY od % 5)) 0 (dX od % 6) = brT od (dX od % 6) ++ rmS od 0 (dY od % 5) := h2
  rw [h2, h1]
  unfold textD hdT
  rw [sw_12, sw_13, sw_14, sw_15]
  simp only [List.append_assoc, List.cons_append, List.nil_append, List.singleton_append]
theorem rmS_tl (od : Nat → Option Nat) (k d : Nat) : rmS od k d = [] ∨ ∃ l2, rmS od k d = 59 :: l2 := by
  cases d with
  | zero => exact Or.inl rfl
  | succ d => exact Or.inr ⟨_, rfl⟩
theorem brS_tl (od : Nat → Option Nat) {tl : List Nat} (h : tl = [] ∨ ∃ l2, tl = 59 :: l2) (k d : Nat) : brS od tl k d = [] ∨ ∃ l2, brS od tl k d = 59 :: l2 := by
  cases d with
  | zero => exact h
  | succ d => exact Or.inr ⟨_, rfl⟩
theorem read_rooms {tx : Nat → Int32} {len : Nat} (od : Nat → Option Nat) : ∀ (d k n p : Nat) (nm : Int32) (fl : FL4) (Z : SV) (R : RV), AtL tx len p (rmS od k d) → k + d ≤ 6 → d ≤ n → R.1 = k → (∀ q, q < 3 → ∀ j, j < k → R.2 q j = dRm od q j) → ∃ kk R', finL tx len n (tkA tx len p nm, fl, Z, R) = (-1, (kk, fl, Z, R')) ∧ R'.1 = k + d ∧ ∀ q, q < 3 → ∀ j, j < k + d → R'.2 q j = dRm od q j
  | 0, k, n, p, nm, fl, Z, R, h, _, _, hR, hr => ⟨_, R, fin_end h, hR, hr⟩
  | d + 1, k, n, p, nm, fl, Z, R, h, hk, hn, hR, hr => by
    obtain ⟨n, rfl⟩ : ∃ m, n = m + 1 := ⟨n - 1, by omega⟩
    have hrow : ∀ (a f t : Int32), a = dRm od 0 k → f = dRm od 1 k → t = dRm od 2 k → ∀ q, q < 3 → ∀ j, j < k + 1 → (rAdd R a f t).2 q j = dRm od q j := by
      intro a f t ha hf ht q hq j hj
      rcases (show q = 0 ∨ q = 1 ∨ q = 2 by omega) with rfl | rfl | rfl
      · show upd (R.2 0) R.1 a j = _
        by_cases e : j = k
        · rw [e, hR, ← ha]; exact if_pos rfl
        · rw [← hr 0 (by decide) j (by omega), hR]; exact if_neg e
      · show upd (R.2 1) R.1 f j = _
        by_cases e : j = k
        · rw [e, hR, ← hf]; exact if_pos rfl
        · rw [← hr 1 (by decide) j (by omega), hR]; exact if_neg e
      · show upd (R.2 2) R.1 t j = _
        by_cases e : j = k
        · rw [e, hR, ← ht]; exact if_pos rfl
        · rw [← hr 2 (by decide) j (by omega), hR]; exact if_neg e
    rw [show finL tx len (n + 1) (tkA tx len p nm, fl, Z, R) = _ from fin_semi h]
    have h1 := h.tl
    rw [show k + (d + 1) = k + 1 + d by omega]
    by_cases hc : dR od k % 3 = 0
    · rw [if_pos hc] at h1
      obtain ⟨q, h2, h3⟩ := st_room (n := n) (nm := nm) (fl := fl) (Z := Z) (R := R) h1 (by omega) (by omega) (rmS_tl od _ _) (by omega)
      rw [h3]
      exact read_rooms od d (k + 1) n q _ fl Z _ h2 (by omega) (by omega) (by show R.1 + 1 = _; omega) (hrow _ _ _ rfl (by unfold dRm; rw [if_neg (by decide), if_pos hc]) (by unfold dRm; rw [if_neg (by decide), if_pos hc]))
    · rw [if_neg hc] at h1
      have hf : dFr od k < 360 := Nat.mod_lt _ (by decide)
      have h9 : dR od k / 180000 % (360 - dFr od k) < 360 - dFr od k := Nat.mod_lt _ (by omega)
      obtain ⟨q, h2, h3⟩ := st_office (n := n) (nm := nm) (fl := fl) (Z := Z) (R := R) h1 (by omega) (by omega) (by omega) (by omega) (Sep.of (rmS_tl od _ _)) (by omega)
      rw [h3]
      exact read_rooms od d (k + 1) n q _ fl Z _ h2 (by omega) (by omega) (by show R.1 + 1 = _; omega) (hrow _ _ _ rfl (by unfold dRm; rw [if_neg (by decide), if_neg hc, if_pos rfl]) (by unfold dRm; rw [if_neg (by decide), if_neg hc, if_neg (by decide)]))
theorem dLim_lt (od : Nat → Option Nat) (k : Nat) : dLim od k < dLim od (k + 1) := by
  show dLim od k < dLim od k + (1 + dB od k % (if k = 0 then 400000 else 3000000))
  omega
theorem read_br {tx : Nat → Int32} {len : Nat} (od : Nat → Option Nat) {tl : List Nat} (htl : tl = [] ∨ ∃ l2, tl = 59 :: l2) : ∀ (d k n p : Nat) (nm : Int32) (fl : FL4) (Z : SV) (R : RV), AtL tx len p (brS od tl k d) → k + d ≤ 5 → d ≤ n → Z.1 = k → lastL Z = nI (dLim od k) → (∀ i, i < 2 → ∀ j, j < k → Z.2.2 i j = (dZ od).2.2 i j) → ∃ q nm' Z', AtL tx len q tl ∧ finL tx len n (tkA tx len p nm, fl, Z, R) = finL tx len (n - d) (tkA tx len q nm', fl, Z', R) ∧ Z'.1 = k + d ∧ Z'.2.1 = Z.2.1 ∧ ∀ i, i < 2 → ∀ j, j < k + d → Z'.2.2 i j = (dZ od).2.2 i j
  | 0, k, n, p, nm, fl, Z, R, h, _, _, hZ, _, hr => ⟨p, nm, Z, h, rfl, hZ, rfl, hr⟩
  | d + 1, k, n, p, nm, fl, Z, R, h, hk, hn, hZ, hl, hr => by
    obtain ⟨n, rfl⟩ : ∃ m, n = m + 1 := ⟨n - 1, by omega⟩
    have hrow : ∀ i, i < 2 → ∀ j, j < k + 1 → (zAdd Z (nI (dLim od (k + 1))) (nI (dB od k / 3000 % 901))).2.2 i j = (dZ od).2.2 i j := by
      intro i hi j hj
      rcases (show i = 0 ∨ i = 1 by omega) with rfl | rfl
      · show upd (Z.2.2 0) Z.1 _ j = _
        by_cases e : j = k
        · rw [e, hZ]; exact if_pos rfl
        · rw [← hr 0 (by decide) j (by omega), hZ]; exact if_neg e
      · show upd (Z.2.2 1) Z.1 _ j = _
        by_cases e : j = k
        · rw [e, hZ]; exact if_pos rfl
        · rw [← hr 1 (by decide) j (by omega), hZ]; exact if_neg e
    rw [show finL tx len (n + 1) (tkA tx len p nm, fl, Z, R) = _ from fin_semi h]
    have h1 := h.tl
    have hlim := dLim_le od (k + 1)
    obtain ⟨q, h2, h3⟩ := st_bracket (n := n) (nm := nm) (fl := fl) (Z := Z) (R := R) h1 hl (dLim_lt od k) (by omega) (by omega) (Sep.of (brS_tl od htl _ _)) (by omega)
    obtain ⟨q2, nm2, Z2, g1, g2, g3, g4, g5⟩ := read_br od htl d (k + 1) n q _ fl _ R h2 (by omega) (by omega) (by show Z.1 + 1 = _; omega) (lastL_add _ _ _) hrow
    refine ⟨q2, nm2, Z2, g1, ?_, by omega, g4, fun i hi j hj => g5 i hi j (by omega)⟩
    rw [h3, g2, show n + 1 - (d + 1) = n - d by omega]
theorem drawn_R {od : Nat → Option Nat} {buf : Nat → Int32} {R : Int32 × PS} (hb : ∀ q, q < (textD od).length → buf q = txB (textD od) q) (h : PrC buf (textD od).length R) : R.1 = -1 ∧ ZtB (dZ od) R.2.2.2.1 ∧ R.2.2.2.1.2.1 0 = dSt od ∧ R.2.2.2.2.1 = dY od % 5 ∧ ∀ q, q < 3 → ∀ j, j < dY od % 5 → R.2.2.2.2.2 q j = dRm od q j := by
  obtain ⟨tx, kd, n0, nm, Z, Rm, h1, rfl⟩ := h
  have hA : AtL tx (textD od).length 0 (textD od) := ⟨Nat.zero_add _, fun j hj => by rw [Nat.zero_add, h1 j hj, hb j hj]; rfl⟩
  generalize (textD od).length = len at *
  rw [text_split] at hA
  rw [tokN_A]
  show (rdL tx len (399 + 1) (tkA tx len 0 nm, (nI 0, nI 0, nI 0, nI 0), zDef Z, (0, Rm.2))).1 = -1 ∧ _
  obtain ⟨q1, a1, b1⟩ := st_start (n := 399) (nm := nm) (fl := (nI 0, nI 0, nI 0, nI 0)) (Z := zDef Z) (R := (0, Rm.2)) hA (by omega) (Sep.se _) rfl
  rw [show rdL tx len 400 (tkA tx len 0 nm, (nI 0, nI 0, nI 0, nI 0), zDef Z, (0, Rm.2)) = _ from b1, show finL tx len 399 _ = _ from fin_semi a1]
  obtain ⟨q2, a2, b2⟩ := st_assets (n := 398) (nm := nI (dX od % 500000)) (fl := (nI 1, nI 0, nI 0, nI 0)) (Z := zSet (zDef Z) 0 (nI (dX od % 500000))) (R := (0, Rm.2)) a1.tl (by omega) (by omega) (Sep.se _) rfl
  rw [show rdL tx len 399 _ = _ from b2, show finL tx len 398 _ = _ from fin_semi a2]
  obtain ⟨q3, a3, b3⟩ := st_interest (n := 397) (nm := nI (dX od / 7 % 90000 + dY od % 200000)) (fl := (nI 1, nI 1, nI 0, nI 0)) (Z := zSet (zSet (zSet (zDef Z) 0 (nI (dX od % 500000))) 1 (nI (dX od / 7 % 90000))) 2 (nI (dX od / 7 % 90000 + dY od % 200000))) (R := (0, Rm.2)) a2.tl (by omega) (Sep.sp _) rfl
  rw [show rdL tx len 398 _ = _ from b3, show finL tx len 397 _ = _ from fin_sp a3, show finL tx len 397 _ = _ from fin_semi a3.tl, tk_sp a3.tl.tl]
  obtain ⟨q4, a4, b4⟩ := st_top (n := 396) (nm := nI (dY od / 9 % 101)) (fl := (nI 1, nI 1, nI 1, nI 0)) (Z := zSet (zSet (zSet (zSet (zDef Z) 0 (nI (dX od % 500000))) 1 (nI (dX od / 7 % 90000))) 2 (nI (dX od / 7 % 90000 + dY od % 200000))) 3 (nI (dY od / 9 % 101))) (R := (0, Rm.2)) a3.tl.tl.tl (by omega) (Sep.of (brS_tl od (rmS_tl od _ _) _ _)) rfl
  rw [show rdL tx len 397 _ = _ from b4]
  obtain ⟨q5, nm5, Z5, a5, b5, c5, d5, e5⟩ := read_br (tx := tx) (len := len) od (rmS_tl od 0 (dY od % 5)) (dX od % 6) 0 396 q4 (nI (dX od / 500000 % 901)) (nI 1, nI 1, nI 1, nI 1) (zSet (zSet (zSet (zSet (zSet (zDef Z) 0 (nI (dX od % 500000))) 1 (nI (dX od / 7 % 90000))) 2 (nI (dX od / 7 % 90000 + dY od % 200000))) 3 (nI (dY od / 9 % 101))) 4 (nI (dX od / 500000 % 901))) (0, Rm.2) a4 (by omega) (by omega) rfl rfl (fun i hi j hj => absurd hj (Nat.not_lt_zero _))
  rw [show finL tx len 396 _ = _ from b5]
  obtain ⟨kk, R6, a6, b6, c6⟩ := read_rooms (tx := tx) (len := len) od (dY od % 5) 0 (396 - dX od % 6) q5 nm5 (nI 1, nI 1, nI 1, nI 1) Z5 (0, Rm.2) a5 (by omega) (by omega) rfl (fun q hq j hj => absurd hj (Nat.not_lt_zero _))
  rw [show finL tx len (396 - dX od % 6) _ = _ from a6]
  rw [Nat.zero_add] at b6 c6 c5 e5
  refine ⟨rfl, ⟨c5, fun k k1 k4 => ?_, fun i hi j hj => e5 i hi j hj⟩, ?_, b6, c6⟩
  · show Z5.2.1 k = _
    rw [d5]
    rcases (show k = 1 ∨ k = 2 ∨ k = 3 ∨ k = 4 by omega) with rfl | rfl | rfl | rfl <;> rfl
  · show Z5.2.1 0 = _
    rw [d5]
    rfl
