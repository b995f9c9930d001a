/-! 41: the numbers of the year, in natural numbers -/
/-- a number from lo to hi -/
def inN (x : Int32) (lo hi : Nat) : Prop := ∃ n, lo ≤ n ∧ n ≤ hi ∧ x = nI n
def Rng (Z : SV) (S : StV) : Prop := (∀ k, k < S.1.1 → inN (S.1.2 0 k) 0 3 ∧ inN (S.1.2 1 k) 0 9 ∧ inN (S.1.2 2 k) 1 10000000 ∧ inN (S.1.2 3 k) 0 359 ∧ (S.1.2 4 k = -1 ∨ inN (S.1.2 4 k) 0 359)) ∧ (∀ k, k < S.2.1.1 → inN (S.2.1.2 0 k) 1 500 ∧ (S.2.1.2 1 k = -1 ∨ ∃ a b, a ≤ b ∧ b ≤ 359 ∧ S.2.1.2 1 k = nI a ∧ S.2.1.2 2 k = nI b)) ∧ (∀ k, k < S.2.2.1.1 → inN (S.2.2.1.2 0 k) 1 5000000 ∧ inN (S.2.2.1.2 1 k) 0 359 ∧ inN (S.2.2.1.2 2 k) 1 120 ∧ S.2.2.1.2 3 k = sSort Z (S.2.2.1.2 0 k) ∧ (S.2.2.1.2 4 k = -1 ∨ inN (S.2.2.1.2 4 k) 0 359 ∧ inN (S.2.2.1.2 5 k) 0 5000000)) ∧ ∀ q, q < S.2.2.2.2.1 → inN (S.2.2.2.1 q) 0 1000000000
def RngZ (Z : SV) : Prop := (∀ k, k < Z.1 → inN (Z.2.2 0 k) 1 99999999 ∧ inN (Z.2.2 1 k) 0 900) ∧ (∀ k, k + 1 < Z.1 → ∃ a b, Z.2.2 0 k = nI a ∧ Z.2.2 0 (k + 1) = nI b ∧ a < b ∧ b ≤ 99999999) ∧ inN (Z.2.1 3) 0 100 ∧ inN (Z.2.1 4) 0 900
theorem sub1 (a b : Nat) : nI a - nI b + nI 1 = nI (a + 1) - nI b := by
  rw [← nI_add a 1]
  grind
theorem max0N {a b : Nat} (ha : a < 2 ^ 30) (hb : b < 2 ^ 30) : (if nI 0 < nI a - nI b then nI a - nI b else nI 0) = nI (a - b) := by
  by_cases h : b < a
  · rw [pk_sub (by omega), if_pos (nI_lt (by omega) (by omega))]
  · rw [if_neg, show a - b = 0 by omega]
    intro q
    have h1 := Int32.lt_iff_toInt_lt.mp q
    rw [pk_sub_toInt ha hb, nI_toInt (by decide)] at h1
    omega
def sN (g : Nat → Nat) : Nat → Nat
  | 0 => 0
  | n + 1 => sN g n + g n
theorem sN_le {g : Nat → Nat} {M : Nat} : ∀ n, (∀ i, i < n → g i ≤ M) → sN g n ≤ n * M
  | 0, _ => by simp [sN]
  | n + 1, h => by
    have := sN_le n (fun i hi => h i (by omega))
    have := h n (by omega)
    rw [sN, Nat.add_mul]
    omega
theorem sN_mono {g h : Nat → Nat} : ∀ n, (∀ i, i < n → g i ≤ h i) → sN g n ≤ sN h n
  | 0, _ => Nat.le_refl _
  | n + 1, q => by
    have := sN_mono n (fun i hi => q i (by omega))
    have := q n (by omega)
    rw [sN, sN]
    omega
theorem sumI_N {f : Nat → Int32} {g : Nat → Nat} : ∀ n, (∀ i, i < n → f i = nI (g i)) → sumI f n = nI (sN g n)
  | 0, _ => rfl
  | n + 1, h => by rw [sumI, sumI_N n (fun i hi => h i (by omega)), h n (by omega), nI_add]; rfl
theorem sN_ge {g : Nat → Nat} : ∀ n, (∀ i, i < n → 1 ≤ g i) → n ≤ sN g n
  | 0, _ => Nat.le_refl _
  | n + 1, h => by
    have := sN_ge n (fun i hi => h i (by omega))
    have := h n (by omega)
    rw [sN]
    omega
theorem sN_mul {g : Nat → Nat} (m : Nat) : ∀ n, sN (fun i => g i * m) n = sN g n * m
  | 0 => by simp [sN]
  | n + 1 => by rw [sN, sN_mul m n, sN, Nat.add_mul]
theorem ltN {a b : Nat} (ha : a < 2 ^ 31) (hb : b < 2 ^ 31) {α : Type} (x y : α) : (if nI a < nI b then x else y) = if a < b then x else y := by
  by_cases h : a < b
  · rw [if_pos h, if_pos (nI_lt h hb)]
  · rw [if_neg h, if_neg (fun q => h ((nI_ltI ha hb).mp q))]
/-- days of use in a window -/
def dU (a b f t : Nat) : Nat := min b t + 1 - max a f
theorem mxN {a f : Nat} (ha : a < 2 ^ 30) (hf : f < 2 ^ 30) : (if nI f < nI a then nI a else nI f) = nI (max a f) := by
  rw [ltN (by omega) (by omega)]
  split
  · rw [Nat.max_eq_left (by omega)]
  · rw [Nat.max_eq_right (by omega)]
theorem mnN {b t : Nat} (hb : b < 2 ^ 30) (ht : t < 2 ^ 30) : (if nI b < nI t then nI b else nI t) = nI (min b t) := by
  rw [ltN (by omega) (by omega)]
  split
  · rw [Nat.min_eq_left (by omega)]
  · rw [Nat.min_eq_right (by omega)]
theorem rDays_N {Rm : RV} {k a b f t : Nat} (h1 : Rm.2 1 k = nI a) (h2 : Rm.2 2 k = nI b) (hb : b ≤ 359) (ha : a ≤ 359) (hf : f ≤ 400) (ht : t ≤ 400) : rDays Rm (nI f) (nI t) k = nI (dU a b f t) := by
  unfold rDays
  rw [h1, h2, mxN (by omega) (by omega), mnN (by omega) (by omega)]
  have hmx : max a f ≤ 400 := by omega
  have hmn : min b t ≤ 400 := by omega
  by_cases h : min b t < max a f
  · rw [if_pos (Or.inr (nI_lt h (by omega)))]
    unfold dU
    rw [show min b t + 1 - max a f = 0 by omega]
  · rw [if_neg, sub1, pk_sub (by omega)]
    · rfl
    · rintro (q | q)
      · exact nI_nm1 (by omega) q
      · exact h ((nI_ltI (by omega) (by omega)).mp q)
theorem rDays_no {Rm : RV} {k : Nat} {f t : Int32} (h1 : Rm.2 1 k = -1) : rDays Rm f t k = nI 0 := by
  unfold rDays
  rw [if_pos (Or.inl h1)]
theorem dU_le (a b m : Nat) : dU a b (30 * m) (30 * m + 30 - 1) ≤ 30 := by unfold dU; omega
theorem win (m : Nat) : nI m * nI 30 = nI (30 * m) ∧ nI m * nI 30 + nI 30 - nI 1 = nI (30 * m + 30 - 1) := by
  refine ⟨by rw [pk_mul, Nat.mul_comm], ?_⟩
  rw [pk_mul, nI_add, pk_sub (by omega), Nat.mul_comm]
/-- what the rooms are in numbers: area w, use u in a month -/
theorem rooms_N {Z : SV} {S : StV} (hg : Rng Z S) (hw : WfS S) : ∃ w, S.2.1.1 ≤ w ∧ w ≤ 3000 ∧ (S.2.1.1 = 0 → w = 0) ∧ sumI (S.2.1.2 0) S.2.1.1 = nI w ∧ rWhole S.2.1 = nI (30 * w) ∧ ∀ m, m ≤ 11 → ∃ u, u ≤ 30 * w ∧ rUsed S.2.1 (nI m) = nI u := by
  obtain ⟨-, hr, -⟩ := hg
  have hA : ∀ k, ∃ n, k < S.2.1.1 → 1 ≤ n ∧ n ≤ 500 ∧ S.2.1.2 0 k = nI n := by
    intro k
    by_cases h : k < S.2.1.1
    · obtain ⟨n, h1, h2, h3⟩ := (hr k h).1
      exact ⟨n, fun _ => ⟨h1, h2, h3⟩⟩
    · exact ⟨0, fun q => absurd q h⟩
  obtain ⟨g, hg⟩ := Classical.axiomOfChoice hA
  have h6 : S.2.1.1 ≤ 6 := hw.2.1
  have hs : sumI (S.2.1.2 0) S.2.1.1 = nI (sN g S.2.1.1) := sumI_N _ (fun i hi => (hg i hi).2.2)
  have hM := sN_le (M := 500) S.2.1.1 (fun i hi => (hg i hi).2.1)
  refine ⟨sN g S.2.1.1, sN_ge _ (fun i hi => (hg i hi).1), by omega, fun h => by rw [h]; rfl, hs, ?_, fun m hm => ?_⟩
  · unfold rWhole
    rw [sumI_N (g := fun i => g i * 30) _ (fun i hi => by rw [(hg i hi).2.2, pk_mul]), sN_mul, Nat.mul_comm]
  · have hD : ∀ k, ∃ d, k < S.2.1.1 → d ≤ 30 ∧ rDays S.2.1 (nI (30 * m)) (nI (30 * m + 30 - 1)) k = nI d := by
      intro k
      by_cases h : k < S.2.1.1
      · rcases (hr k h).2 with h1 | ⟨a, b, h1, h2, h3, h4⟩
        · exact ⟨0, fun _ => ⟨by omega, rDays_no h1⟩⟩
        · exact ⟨_, fun _ => ⟨dU_le a b m, rDays_N h3 h4 h2 (by omega) (by omega) (by omega)⟩⟩
      · exact ⟨0, fun q => absurd q h⟩
    obtain ⟨d, hd⟩ := Classical.axiomOfChoice hD
    refine ⟨sN (fun i => g i * d i) S.2.1.1, ?_, ?_⟩
    · have h1 := sN_mono (g := fun i => g i * d i) (h := fun i => g i * 30) S.2.1.1 (fun i hi => Nat.mul_le_mul_left _ (hd i hi).1)
      rw [sN_mul] at h1
      omega
    · unfold rUsed
      rw [(win m).2, (win m).1]
      exact sumI_N _ (fun i hi => by show S.2.1.2 0 i * rDays S.2.1 _ _ i = _; rw [(hg i hi).2.2, (hd i hi).2, pk_mul])
theorem nI_eq0 {n : Nat} (h : n < 2 ^ 31) : nI n = 0 ↔ n = 0 := by rw [← nI_0, nI_eq h (by decide)]
theorem nIl0 {n : Nat} (h : n < 2 ^ 31) : (nI n).toInt64 = 0 ↔ n = 0 := by
  rw [nI_l h]
  constructor
  · intro q
    have := congrArg Int64.toInt q
    rw [lN_toInt h] at this
    simpa using this
  · intro q; subst q; rfl
theorem below_ne {Z : SV} {S : StV} (hg : Rng Z S) (hw : WfS S) : ¬ (if S.2.1.1 = 0 then nI 1 else rWhole S.2.1).toInt64 = 0 := by
  obtain ⟨w, g1, g2, g3, g4, g5, -⟩ := rooms_N hg hw
  split
  · decide
  · rw [g5, nIl0 (by omega)]
    omega
theorem ded_eq {Z : SV} {S : StV} (hg : Rng Z S) (hw : WfS S) {am : Int32} {d : Nat} (hd : d ≤ 359) : am.toInt64 * (rUsed S.2.1 (nI (d / 30))).toInt64 / (if S.2.1.1 = 0 then nI 1 else rWhole S.2.1).toInt64 = sDed S.2.1 (nI 2) am (nI d) := by
  obtain ⟨w, g1, g2, g3, g4, g5, g6⟩ := rooms_N hg hw
  unfold sDed
  rw [if_neg (show ¬ nI 2 = nI 1 by decide), pk_div (a := d) (d := 30) (by omega) (by decide) (by decide)]
  by_cases h : S.2.1.1 = 0
  · rw [if_pos h, if_pos (Or.inr (by rw [g5, g3 h]; decide)), rUsed, h]
    show am.toInt64 * (nI 0).toInt64 / (nI 1).toInt64 = 0
    rw [show (nI 0).toInt64 = 0 by decide, Int64.mul_zero]
    decide
  · rw [if_neg h, if_neg]
    rw [g5, nIl0 (by omega)]
    rintro (q | q)
    · exact q rfl
    · omega
def dOf (S : StV) (k : Nat) : Int64 := if eCnt S.1 k = true then sDed S.2.1 (S.1.2 0 k) (S.1.2 2 k) (S.1.2 4 k) else 0
/-- what is written off of an asset up to a month, in numbers -/
def wN (p b li s so m : Nat) : Nat := if s = 1 ∨ m < b then 0 else if s = 0 ∨ li ≤ m - b + 1 ∨ so ≤ m then p else p * (m - b + 1) / li
def AsN (As : RV) (k p d li s so : Nat) : Prop := 1 ≤ p ∧ p ≤ 5000000 ∧ d ≤ 359 ∧ 1 ≤ li ∧ li ≤ 120 ∧ s ≤ 2 ∧ so ≤ 12 ∧ As.2 0 k = nI p ∧ As.2 1 k = nI d ∧ As.2 2 k = nI li ∧ As.2 3 k = nI s ∧ (As.2 4 k = -1 ∧ so = 12 ∨ ∃ sd, sd ≤ 359 ∧ As.2 4 k = nI sd ∧ so = sd / 30)
theorem asset_N {Z : SV} {S : StV} (hg : Rng Z S) {k : Nat} (hk : k < S.2.2.1.1) : ∃ p d li s so, AsN S.2.2.1 k p d li s so := by
  obtain ⟨⟨p, a1, a2, a3⟩, ⟨d, -, b2, b3⟩, ⟨li, c1, c2, c3⟩, e1, e2⟩ := hg.2.2.1 k hk
  have hs : ∃ s, s ≤ 2 ∧ S.2.2.1.2 3 k = nI s := by
    rw [e1]; unfold sSort
    split
    · exact ⟨0, by decide, rfl⟩
    · split
      · exact ⟨1, by decide, rfl⟩
      · exact ⟨2, by decide, rfl⟩
  obtain ⟨s, s1, s2⟩ := hs
  rcases e2 with e2 | ⟨⟨sd, -, f2, f3⟩, -⟩
  · exact ⟨p, d, li, s, 12, a1, a2, b2, c1, c2, s1, by decide, a3, b3, c3, s2, Or.inl ⟨e2, rfl⟩⟩
  · exact ⟨p, d, li, s, sd / 30, a1, a2, b2, c1, c2, s1, by omega, a3, b3, c3, s2, Or.inr ⟨sd, f2, f3, rfl⟩⟩
theorem AsN.bo {As : RV} {k p d li s so : Nat} (h : AsN As k p d li s so) : As.2 1 k / nI 30 = nI (d / 30) := by
  obtain ⟨a1, a2, b2, c1, c2, s1, so1, a3, b3, c3, s2, e⟩ := h
  rw [b3, pk_div (by omega) (by decide) (by decide)]
theorem AsN.so9 {As : RV} {k p d li s so : Nat} (h : AsN As k p d li s so) : (if As.2 4 k = -1 then nI 12 else As.2 4 k / nI 30) = nI so := by
  obtain ⟨a1, a2, b2, c1, c2, s1, so1, a3, b3, c3, s2, e⟩ := h
  rcases e with ⟨e1, e2⟩ | ⟨sd, e1, e2, e3⟩
  · rw [if_pos e1, e2]
  · rw [e2, if_neg (nI_nm1 (by omega)), pk_div (by omega) (by decide) (by decide), e3]
theorem AsN.sb {As : RV} {k p d li s so : Nat} (h : AsN As k p d li s so) {m : Nat} (hm : m ≤ 11) : (aSoldBy As (nI m) k = true) = (so ≤ m) := by
  obtain ⟨a1, a2, b2, c1, c2, s1, so1, a3, b3, c3, s2, e⟩ := h
  unfold aSoldBy
  rcases e with ⟨e1, e2⟩ | ⟨sd, e1, e2, e3⟩
  · rw [e1, e2]
    apply propext
    constructor
    · intro q; simp at q
    · intro q; omega
  · rw [e2, pk_div (by omega) (by decide) (by decide), Bool.and_eq_true, decide_eq_true_eq, bne_iff_ne, nI_leI (by omega) (by omega), e3]
    exact propext ⟨fun q => q.2, fun q => ⟨nI_nm1 (by omega), q⟩⟩
theorem AsN.wu {As : RV} {k p d li s so : Nat} (h : AsN As k p d li s so) {m : Nat} (hm : m ≤ 11) : aWU As k (nI m) = nI (wN p (d / 30) li s so m) := by
  obtain ⟨a1, a2, b2, c1, c2, s1, so1, a3, b3, c3, s2, e⟩ := id h
  unfold aWU wN
  rw [h.bo, s2, a3, c3, sub1]
  have q1 : (nI s = nI 1) = (s = 1) := propext (nI_eq (by omega) (by decide))
  have q0 : (nI s = 0) = (s = 0) := propext (nI_eq0 (by omega))
  have q2 : (nI (m + 1) - nI (d / 30) < nI 1) = (m < d / 30) := propext (by rw [Int32.lt_iff_toInt_lt, pk_sub_toInt (by omega) (by omega), nI_toInt (by decide)]; omega)
  simp only [h.sb hm, q1, q2, q0]
  by_cases h1 : s = 1 ∨ m < d / 30
  · rw [if_pos h1, if_pos h1]
  · have hb : p * (m - d / 30 + 1) ≤ 5000000 * 12 := Nat.mul_le_mul a2 (by omega)
    have q3 : (nI li ≤ nI (m - d / 30 + 1)) = (li ≤ m - d / 30 + 1) := propext (nI_leI (by omega) (by omega))
    rw [if_neg h1, if_neg h1, pk_sub (by omega), show m + 1 - d / 30 = m - d / 30 + 1 by omega, pk_mul, pk_div (by omega) (by omega) (by omega)]
    simp only [q3]
    split <;> rfl
theorem AsN.wm {As : RV} {k p d li s so : Nat} (h : AsN As k p d li s so) : aWU As k (nI 0 - nI 1) = nI 0 := by
  unfold aWU
  obtain ⟨a1, a2, b2, c1, c2, s1, so1, a3, b3, c3, s2, e⟩ := id h
  rw [h.bo, if_pos (Or.inr ?_)]
  rw [show nI 0 - nI 1 - nI (d / 30) + nI 1 = nI 0 - nI (d / 30) by grind, Int32.lt_iff_toInt_lt, pk_sub_toInt (by omega) (by omega), nI_toInt (by decide)]
  omega
theorem aWU_1 {As : RV} {k : Nat} {mo : Int32} (h : As.2 3 k = nI 1) : aWU As k mo = nI 0 := by rw [aWU, if_pos (Or.inl h)]
theorem wN_le {p b li s so m : Nat} (hl : 1 ≤ li) : wN p b li s so m ≤ p := by
  unfold wN
  split
  · exact Nat.zero_le _
  · split
    · exact Nat.le_refl _
    · refine Nat.div_le_of_le_mul ?_
      rw [Nat.mul_comm li p]
      exact Nat.mul_le_mul_left _ (by omega)
theorem AsN.val {As : RV} {k p d li s so : Nat} (h : AsN As k p d li s so) {m : Nat} (hm : m ≤ 11) : aVal As k (nI m) = if s = 1 ∨ m < d / 30 ∨ so ≤ m then nI 0 else nI p - aWU As k (nI m) := by
  obtain ⟨a1, a2, b2, c1, c2, s1, so1, a3, b3, c3, s2, e⟩ := id h
  unfold aVal
  rw [h.bo, s2, a3]
  simp only [h.sb hm, show (nI s = nI 1) = (s = 1) from propext (nI_eq (by omega) (by decide)), show (nI m < nI (d / 30)) = (m < d / 30) from propext (nI_ltI (by omega) (by omega))]
theorem life_N {p x li : Nat} (hp : p ≤ 5000000) (hx : x ≤ 12) (h1 : 1 ≤ li) (h2 : li ≤ 120) : (if (nI p).toInt64 < (nI p).toInt64 * (nI x).toInt64 / (nI li).toInt64 then (nI p).toInt64 else (nI p).toInt64 * (nI x).toInt64 / (nI li).toInt64).toInt32 = nI (if li ≤ x then p else p * x / li) := by
  have hb : p * x ≤ 5000000 * 12 := Nat.mul_le_mul hp hx
  have hq : p * x / li ≤ p * x := Nat.div_le_self _ _
  have h3 : (lN p < lN (p * x / li)) ↔ p < p * x / li := pk_lLT (by omega) (by omega)
  rw [nI_l (by omega), nI_l (by omega), nI_l (by omega), lN_mul, pk_lDiv (by omega) (by omega) (by omega)]
  by_cases h : li ≤ x
  · have h9 : p ≤ p * x / li := (Nat.le_div_iff_mul_le (by omega)).mpr (Nat.mul_le_mul_left _ h)
    rw [if_pos h]
    split
    · exact lN_i _
    · rename_i h4
      have h5 : ¬ p < p * x / li := fun q => h4 (h3.mpr q)
      rw [lN_i, show p * x / li = p by omega]
  · have h9 : p * x / li ≤ p := Nat.div_le_of_le_mul (by rw [Nat.mul_comm li p]; exact Nat.mul_le_mul_left _ (by omega))
    rw [if_neg h, if_neg (fun q => by have := h3.mp q; omega), lN_i]
theorem aPW_m {As : RV} : aPW As (nI 0 - nI 1) = nI 0 := by
  unfold aPW
  rw [show nI 0 - nI 1 + nI 1 = (0 : Int32) by decide, Int32.mul_zero]
  decide
theorem i2l_sub {a b : Nat} (ha : a < 2 ^ 30) (hb : b < 2 ^ 30) : (nI a - nI b).toInt64 = lN a - lN b := by
  apply Int64.toInt_inj.mp
  rw [Int32.toInt_toInt64, pk_sub_toInt ha hb, Int64.toInt_sub, pk_lT (by omega), pk_lT (by omega), Int.bmod_eq_of_le (by omega) (by omega)]
theorem sumL_0 (z0 : Int64) (f : Nat → Int64) : ∀ n, sumL z0 f n = z0 + sumL 0 f n
  | 0 => by show z0 = z0 + 0; rw [Int64.add_zero]
  | n + 1 => by rw [sumL, sumL, sumL_0 z0 f n, Int64.add_assoc]
theorem sumN_0 {q : Nat → Bool} {f : Nat → Int64} : ∀ n, (∀ i, i < n → q i = false) → sumN q f n = 0
  | 0, _ => rfl
  | n + 1, h => by rw [sumN, h n (by omega), sumN_0 n (fun i hi => h i (by omega))]; rfl
theorem sumL_z {f : Nat → Int64} : ∀ n, (∀ i, i < n → f i = 0) → sumL 0 f n = 0
  | 0, _ => rfl
  | n + 1, h => by rw [sumL, h n (by omega), sumL_z n (fun i hi => h i (by omega))]; rfl
theorem sumQ_N {q : Nat → Bool} {f : Nat → Int32} {M : Nat} : ∀ n, (∀ i, i < n → ∃ g, g ≤ M ∧ f i = nI g) → ∃ a, a ≤ n * M ∧ sumQ q f n = nI a
  | 0, _ => ⟨0, by omega, rfl⟩
  | n + 1, h => by
    obtain ⟨a, a1, a2⟩ := sumQ_N n (fun i hi => h i (by omega))
    obtain ⟨g, g1, g2⟩ := h n (by omega)
    rw [sumQ]
    split
    · exact ⟨a + g, by rw [Nat.add_mul]; omega, by rw [a2, g2, nI_add]⟩
    · exact ⟨a, by rw [Nat.add_mul]; omega, a2⟩
theorem sumN_N {q : Nat → Bool} {f : Nat → Int64} {M : Nat} : ∀ n, (∀ i, i < n → q i = true → ∃ g, g ≤ M ∧ f i = lN g) → ∃ a, a ≤ n * M ∧ sumN q f n = lN a
  | 0, _ => ⟨0, by omega, rfl⟩
  | n + 1, h => by
    obtain ⟨a, a1, a2⟩ := sumN_N n (fun i hi => h i (by omega))
    rw [sumN]
    split
    · rename_i hq
      obtain ⟨g, g1, g2⟩ := h n (by omega) hq
      exact ⟨a + g, by rw [Nat.add_mul]; omega, by rw [a2, g2, lN_add]⟩
    · exact ⟨a, by rw [Nat.add_mul]; omega, a2⟩
theorem sumL_N {f : Nat → Int64} {M : Nat} : ∀ n, (∀ i, i < n → ∃ g, g ≤ M ∧ f i = lN g) → ∃ a, a ≤ n * M ∧ sumL 0 f n = lN a
  | 0, _ => ⟨0, by omega, rfl⟩
  | n + 1, h => by
    obtain ⟨a, a1, a2⟩ := sumL_N n (fun i hi => h i (by omega))
    obtain ⟨g, g1, g2⟩ := h n (by omega)
    exact ⟨a + g, by rw [Nat.add_mul]; omega, by rw [sumL, a2, g2, lN_add]⟩
theorem aPool_N {Z : SV} {S : StV} (hg : Rng Z S) (hw : WfS S) (qu : Int32) : ∃ a, a ≤ 60000000 ∧ aPool S.2.2.1 qu = nI a := by
  have h12 : S.2.2.1.1 ≤ 12 := hw.2.2.1
  obtain ⟨a, a1, a2⟩ := sumQ_N (q := fun i => S.2.2.1.2 3 i == nI 1 && decide (S.2.2.1.2 1 i / nI 90 ≤ qu)) (f := fun i => S.2.2.1.2 0 i) (M := 5000000) S.2.2.1.1 (fun i hi => by obtain ⟨n, -, h2, h3⟩ := (hg.2.2.1 i hi).1; exact ⟨n, h2, h3⟩)
  exact ⟨a, by omega, a2⟩
theorem aPW_N {Z : SV} {S : StV} (hg : Rng Z S) (hw : WfS S) {q : Nat} (hq : q ≤ 3) : (∃ a, a ≤ 12000000 ∧ aPW S.2.2.1 (nI q) = nI a) ∧ ∃ a, a ≤ 12000000 ∧ aPW S.2.2.1 (nI q - nI 1) = nI a := by
  have h1 : ∀ q, q ≤ 3 → ∃ a, a ≤ 12000000 ∧ aPW S.2.2.1 (nI q) = nI a := by
    intro q hq
    obtain ⟨a, a1, a2⟩ := aPool_N hg hw (nI q)
    have h9 : a * (q + 1) ≤ 60000000 * 4 := Nat.mul_le_mul a1 (by omega)
    exact ⟨a * (q + 1) / 20, by omega, by rw [aPW, a2, nI_add, pk_mul, pk_div (by omega) (by decide) (by decide)]⟩
  refine ⟨h1 q hq, ?_⟩
  by_cases h : q = 0
  · subst h; exact ⟨0, by decide, aPW_m⟩
  · rw [pk_sub (by omega)]; exact h1 (q - 1) (by omega)
theorem cw {E : EV} {i pd a : Nat} (hp : E.2 4 i = nI pd) (h1 : pd ≤ 359) (ha : a ≤ 400) : eCntIn E (nI 0) (nI a - nI 1) i = (eCnt E i && decide (pd < a)) := by
  unfold eCntIn
  rw [hp, show decide (nI 0 ≤ nI pd) = true from decide_eq_true (nI_le (by omega) (by omega)), Bool.and_true]
  congr 1
  rw [decide_eq_decide, Int32.le_iff_toInt_le, pk_sub_toInt (by omega) (by omega), nI_toInt (by omega)]
  omega
theorem cwin {E : EV} {i pd a b : Nat} (hp : E.2 4 i = nI pd) (h1 : pd ≤ 359) (ha : a ≤ 400) (hb : b ≤ 400) : eCntIn E (nI a) (nI b) i = (eCnt E i && (decide (a ≤ pd) && decide (pd ≤ b))) := by
  unfold eCntIn
  rw [hp, decide_eq_decide.mpr (nI_leI (a := a) (b := pd) (by omega) (by omega)), decide_eq_decide.mpr (nI_leI (a := pd) (b := b) (by omega) (by omega)), Bool.and_assoc]
theorem cno {E : EV} {i : Nat} {f t : Int32} (h : eCnt E i = false) : eCntIn E f t i = false := by unfold eCntIn; rw [h]; rfl
theorem paid_N {Z : SV} {S : StV} (hg : Rng Z S) {n : Nat} (hn : n < S.1.1) (hc : eCnt S.1 n = true) : ∃ pd, pd ≤ 359 ∧ S.1.2 4 n = nI pd := by
  rcases (hg.1 n hn).2.2.2.2 with hp | ⟨pd, -, h1, h2⟩
  · simp [eCnt, hp] at hc
  · exact ⟨pd, h1, h2⟩
/-- what the entries of a quarter bring -/
def mEn (S : StV) (q : Nat) : Nat → Int64
  | 0 => 0
  | n + 1 => if eCntIn S.1 (nI (90 * q)) (nI (90 * q + 90 - 1)) n = true then mEn S q n + (if S.1.2 0 n = 0 then (S.1.2 2 n).toInt64 else 0) - dOf S n else mEn S q n
def tI (S : StV) (T : Int32) (n : Nat) : Int64 := sumN (fun i => S.1.2 0 i == nI 0 && eCntIn S.1 (nI 0) T i) (fun i => (S.1.2 2 i).toInt64) n
def tD (S : StV) (T : Int32) (n : Nat) : Int64 := sumN (fun i => eCntIn S.1 (nI 0) T i) (fun i => sDed S.2.1 (S.1.2 0 i) (S.1.2 2 i) (S.1.2 4 i)) n
theorem tI_s (S : StV) (T : Int32) (n : Nat) : tI S T (n + 1) = if (S.1.2 0 n == nI 0 && eCntIn S.1 (nI 0) T n) = true then tI S T n + (S.1.2 2 n).toInt64 else tI S T n := rfl
theorem tD_s (S : StV) (T : Int32) (n : Nat) : tD S T (n + 1) = if eCntIn S.1 (nI 0) T n = true then tD S T n + sDed S.2.1 (S.1.2 0 n) (S.1.2 2 n) (S.1.2 4 n) else tD S T n := rfl
theorem mEn_s (S : StV) (q n : Nat) : mEn S q (n + 1) = if eCntIn S.1 (nI (90 * q)) (nI (90 * q + 90 - 1)) n = true then mEn S q n + (if S.1.2 0 n = 0 then (S.1.2 2 n).toInt64 else 0) - dOf S n else mEn S q n := rfl
theorem en_tele {Z : SV} {S : StV} (hg : Rng Z S) {q : Nat} (hq : q ≤ 3) : ∀ n, n ≤ S.1.1 → mEn S q n = (tI S (nI ((q + 1) * 90) - nI 1) n - tD S (nI ((q + 1) * 90) - nI 1) n) - (tI S (nI (q * 90) - nI 1) n - tD S (nI (q * 90) - nI 1) n)
  | 0, _ => by show (0 : Int64) = 0 - 0 - (0 - 0); decide
  | n + 1, h => by
    have ih := en_tele hg hq n (by omega)
    rw [mEn_s, tI_s, tI_s, tD_s, tD_s]
    by_cases hc : eCnt S.1 n = true
    · obtain ⟨pd, h1, h2⟩ := paid_N hg (by omega) hc
      rw [cw h2 h1 (show (q + 1) * 90 ≤ 400 by omega), cw h2 h1 (show q * 90 ≤ 400 by omega), cwin h2 h1 (by omega) (by omega), hc, dOf, if_pos hc]
      simp only [Bool.true_and]
      have kk : (S.1.2 0 n == nI 0) = decide (S.1.2 0 n = 0) := by rw [Bool.eq_iff_iff]; simp [nI_0]
      rw [kk]
      rcases (show pd < 90 * q ∨ (90 * q ≤ pd ∧ pd ≤ 90 * q + 90 - 1) ∨ 90 * q + 90 - 1 < pd by omega) with c | c | c
      · rw [show decide (pd < (q + 1) * 90) = true from decide_eq_true (by omega), show decide (pd < q * 90) = true from decide_eq_true (by omega), show decide (90 * q ≤ pd) = false from decide_eq_false (by omega)]
        by_cases hk : S.1.2 0 n = 0
        · simp only [hk, decide_true, Bool.and_true, Bool.false_and, if_true, Bool.false_eq_true, if_false]
          grind
        · simp only [hk, decide_false, Bool.and_true, Bool.false_and, if_true, Bool.false_eq_true, if_false]
          grind
      · rw [show decide (pd < (q + 1) * 90) = true from decide_eq_true (by omega), show decide (pd < q * 90) = false from decide_eq_false (by omega), show decide (90 * q ≤ pd) = true from decide_eq_true c.1, show decide (pd ≤ 90 * q + 90 - 1) = true from decide_eq_true c.2]
        by_cases hk : S.1.2 0 n = 0
        · simp only [hk, decide_true, Bool.and_true, Bool.and_false, if_true, Bool.false_eq_true, if_false]
          grind
        · simp only [hk, decide_false, Bool.and_true, Bool.and_false, if_true, Bool.false_eq_true, if_false]
          grind
      · rw [show decide (pd < (q + 1) * 90) = false from decide_eq_false (by omega), show decide (pd < q * 90) = false from decide_eq_false (by omega), show decide (pd ≤ 90 * q + 90 - 1) = false from decide_eq_false (by omega)]
        simp only [Bool.and_false, Bool.false_eq_true, if_false]
        exact ih
    · rw [Bool.not_eq_true] at hc
      rw [cno hc, cno hc, cno hc]
      simp only [Bool.and_false, Bool.false_eq_true, if_false]
      exact ih
/-- what the assets of a quarter bring -/
def mAs (As : RV) (q : Nat) : Nat → Int64
  | 0 => 0
  | n + 1 => mAs As q n + (if ¬ As.2 4 n = -1 ∧ As.2 4 n / nI 90 = nI q then (As.2 5 n).toInt64 else 0) - (aWU As n (nI (3 * q)) - aWU As n (nI (3 * q) - nI 1)).toInt64 - (aWU As n (nI (3 * q + 1)) - aWU As n (nI (3 * q + 1) - nI 1)).toInt64 - (aWU As n (nI (3 * q + 1 + 1)) - aWU As n (nI (3 * q + 1 + 1) - nI 1)).toInt64
theorem mAs_s (As : RV) (q n : Nat) : mAs As q (n + 1) = mAs As q n + (if ¬ As.2 4 n = -1 ∧ As.2 4 n / nI 90 = nI q then (As.2 5 n).toInt64 else 0) - (aWU As n (nI (3 * q)) - aWU As n (nI (3 * q) - nI 1)).toInt64 - (aWU As n (nI (3 * q + 1)) - aWU As n (nI (3 * q + 1) - nI 1)).toInt64 - (aWU As n (nI (3 * q + 1 + 1)) - aWU As n (nI (3 * q + 1 + 1) - nI 1)).toInt64 := rfl
def tS (As : RV) (T : Int32) (n : Nat) : Int64 := sumN (fun i => As.2 4 i != -1 && (decide (nI 0 ≤ As.2 4 i) && decide (As.2 4 i ≤ T))) (fun i => (As.2 5 i).toInt64) n
theorem tS_s (As : RV) (T : Int32) (n : Nat) : tS As T (n + 1) = if (As.2 4 n != -1 && (decide (nI 0 ≤ As.2 4 n) && decide (As.2 4 n ≤ T))) = true then tS As T n + (As.2 5 n).toInt64 else tS As T n := rfl
def tW (As : RV) (M : Int32) (n : Nat) : Int64 := sumL 0 (fun i => (aWU As i M).toInt64) n
theorem tW_s (As : RV) (M : Int32) (n : Nat) : tW As M (n + 1) = tW As M n + (aWU As n M).toInt64 := rfl
theorem wu_N {Z : SV} {S : StV} (hg : Rng Z S) {n : Nat} (hn : n < S.2.2.1.1) : (∀ m, m ≤ 11 → ∃ w, w ≤ 5000000 ∧ aWU S.2.2.1 n (nI m) = nI w) ∧ ∀ m, m ≤ 11 → ∃ w, w ≤ 5000000 ∧ aWU S.2.2.1 n (nI m - nI 1) = nI w := by
  obtain ⟨p, d, li, s, so, hN⟩ := asset_N hg hn
  have h1 : ∀ m, m ≤ 11 → ∃ w, w ≤ 5000000 ∧ aWU S.2.2.1 n (nI m) = nI w := by
    intro m hm
    exact ⟨_, Nat.le_trans (wN_le hN.2.2.2.1) hN.2.1, hN.wu hm⟩
  refine ⟨h1, fun m hm => ?_⟩
  by_cases h : m = 0
  · subst h; exact ⟨0, by decide, hN.wm⟩
  · rw [pk_sub (by omega)]; exact h1 (m - 1) (by omega)
theorem as_tele {Z : SV} {S : StV} (hg : Rng Z S) {q : Nat} (hq : q ≤ 3) : ∀ n, n ≤ S.2.2.1.1 → mAs S.2.2.1 q n = (tS S.2.2.1 (nI ((q + 1) * 90) - nI 1) n - tS S.2.2.1 (nI (q * 90) - nI 1) n) - (tW S.2.2.1 (nI (3 * q + 2)) n - tW S.2.2.1 (nI (3 * q) - nI 1) n)
  | 0, _ => by show (0 : Int64) = 0 - 0 - (0 - 0); decide
  | n + 1, h => by
    have ih := as_tele hg hq n (by omega)
    obtain ⟨w0, u0, v0⟩ := (wu_N hg (n := n) (by omega)).2 (3 * q) (by omega)
    obtain ⟨w1, u1, v1⟩ := (wu_N hg (n := n) (by omega)).1 (3 * q) (by omega)
    obtain ⟨w2, u2, v2⟩ := (wu_N hg (n := n) (by omega)).1 (3 * q + 1) (by omega)
    obtain ⟨w3, u3, v3⟩ := (wu_N hg (n := n) (by omega)).1 (3 * q + 2) (by omega)
    rw [mAs_s, tS_s, tS_s, tW_s, tW_s, show 3 * q + 1 + 1 = 3 * q + 2 from rfl, pk_sub (a := 3 * q + 1) (b := 1) (by omega), pk_sub (a := 3 * q + 2) (b := 1) (by omega), show 3 * q + 1 - 1 = 3 * q by omega, show 3 * q + 2 - 1 = 3 * q + 1 by omega, v0, v1, v2, v3, i2l_sub (by omega) (by omega), i2l_sub (by omega) (by omega), i2l_sub (by omega) (by omega), nI_l (by omega), nI_l (by omega)]
    obtain ⟨p, d, li, s, so, hN⟩ := asset_N hg (k := n) (by omega)
    rcases hN.2.2.2.2.2.2.2.2.2.2.2 with ⟨e1, -⟩ | ⟨sd, f1, f2, -⟩
    · rw [e1]
      simp only [not_true_eq_false, false_and, if_false, bne_self_eq_false, Bool.false_and, Bool.false_eq_true]
      grind
    · rw [f2, pk_div (by omega) (by decide) (by decide), show (nI sd != -1) = true from bne_iff_ne.mpr (nI_nm1 (by omega)), show decide (nI 0 ≤ nI sd) = true from decide_eq_true (nI_le (by omega) (by omega)),
        show decide (nI sd ≤ nI ((q + 1) * 90) - nI 1) = decide (sd < (q + 1) * 90) from decide_eq_decide.mpr (by rw [Int32.le_iff_toInt_le, pk_sub_toInt (by omega) (by omega), nI_toInt (by omega)]; omega),
        show decide (nI sd ≤ nI (q * 90) - nI 1) = decide (sd < q * 90) from decide_eq_decide.mpr (by rw [Int32.le_iff_toInt_le, pk_sub_toInt (by omega) (by omega), nI_toInt (by omega)]; omega)]
      simp only [Bool.true_and, decide_eq_true_eq, show (¬ nI sd = -1 ∧ nI (sd / 90) = nI q) = (sd / 90 = q) from propext ⟨fun z => (nI_eq (by omega) (by omega)).mp z.2, fun z => ⟨nI_nm1 (by omega), by rw [z]⟩⟩]
      rcases (show sd / 90 < q ∨ sd / 90 = q ∨ q < sd / 90 by omega) with c | c | c
      · rw [if_neg (by omega), if_pos (by omega), if_pos (by omega)]; grind
      · rw [if_pos (by omega), if_pos (by omega), if_neg (by omega)]; grind
      · rw [if_neg (by omega), if_neg (by omega), if_neg (by omega)]; grind
theorem sProf_at {S : StV} {qu T M : Int32} (hT : (qu + nI 1) * nI 90 - nI 1 = T) (hM : (qu + nI 1) * nI 3 - nI 1 = M) : sProf S qu = tI S T S.1.1 + tS S.2.2.1 T S.2.2.1.1 - tD S T S.1.1 - ((aPW S.2.2.1 qu).toInt64 + tW S.2.2.1 M S.2.2.1.1) := by
  subst hT; subst hM
  unfold sProf sRec eSum aSoldFor aAll sDedU
  rw [sumL_0]
  rfl
theorem hi_T (q : Nat) : (nI q + nI 1) * nI 90 - nI 1 = nI ((q + 1) * 90) - nI 1 := by rw [nI_add, pk_mul]
theorem hi_M (q : Nat) : (nI q + nI 1) * nI 3 - nI 1 = nI (3 * q + 2) := by rw [nI_add, pk_mul, pk_sub (by omega), show (q + 1) * 3 - 1 = 3 * q + 2 by omega]
theorem lo_T (q : Nat) : (nI q - nI 1 + nI 1) * nI 90 - nI 1 = nI (q * 90) - nI 1 := by rw [show nI q - nI 1 + nI 1 = nI q by grind, pk_mul]
theorem lo_M (q : Nat) : (nI q - nI 1 + nI 1) * nI 3 - nI 1 = nI (3 * q) - nI 1 := by rw [show nI q - nI 1 + nI 1 = nI q by grind, pk_mul, Nat.mul_comm]
theorem prof_q {Z : SV} {S : StV} (hg : Rng Z S) (hw : WfS S) {q : Nat} (hq : q ≤ 3) : mEn S q S.1.1 + mAs S.2.2.1 q S.2.2.1.1 - (aPW S.2.2.1 (nI q) - aPW S.2.2.1 (nI q - nI 1)).toInt64 = sProf S (nI q) - sProf S (nI q - nI 1) := by
  rw [sProf_at (hi_T q) (hi_M q), sProf_at (lo_T q) (lo_M q), en_tele hg hq _ (Nat.le_refl _), as_tele hg hq _ (Nat.le_refl _)]
  obtain ⟨⟨a, a1, a2⟩, b, b1, b2⟩ := aPW_N hg hw hq
  rw [a2, b2, i2l_sub (by omega) (by omega), nI_l (by omega), nI_l (by omega)]
  grind
theorem sProf_m {Z : SV} {S : StV} (hg : Rng Z S) : sProf S (nI 0 - nI 1) = 0 := by
  rw [sProf_at (lo_T 0) (lo_M 0), aPW_m]
  have h1 : tI S (nI (0 * 90) - nI 1) S.1.1 = 0 := sumN_0 _ (fun i hi => by
    by_cases hc : eCnt S.1 i = true
    · obtain ⟨pd, q1, q2⟩ := paid_N hg hi hc
      rw [cw q2 q1 (by omega)]; simp
    · rw [cno (by simpa using hc), Bool.and_false])
  have h2 : tD S (nI (0 * 90) - nI 1) S.1.1 = 0 := sumN_0 _ (fun i hi => by
    by_cases hc : eCnt S.1 i = true
    · obtain ⟨pd, q1, q2⟩ := paid_N hg hi hc
      rw [cw q2 q1 (by omega)]; simp
    · exact cno (by simpa using hc))
  have h3 : tS S.2.2.1 (nI (0 * 90) - nI 1) S.2.2.1.1 = 0 := sumN_0 _ (fun i hi => by
    obtain ⟨p, d, li, s, so, hN⟩ := asset_N hg hi
    rcases hN.2.2.2.2.2.2.2.2.2.2.2 with ⟨e1, -⟩ | ⟨sd, f1, f2, -⟩
    · rw [e1]; rfl
    · rw [f2, show decide (nI sd ≤ nI (0 * 90) - nI 1) = false from decide_eq_false (by rw [Int32.le_iff_toInt_le, pk_sub_toInt (by omega) (by omega), nI_toInt (by omega)]; omega), Bool.and_false, Bool.and_false])
  have h4 : tW S.2.2.1 (nI (3 * 0) - nI 1) S.2.2.1.1 = 0 := sumL_z _ (fun i hi => by
    obtain ⟨p, d, li, s, so, hN⟩ := asset_N hg hi
    show (aWU S.2.2.1 i (nI 0 - nI 1)).toInt64 = 0
    rw [hN.wm]; decide)
  rw [h1, h2, h3, h4]
  decide
theorem sDed_N {Z : SV} {S : StV} (hg : Rng Z S) (hw : WfS S) {kd : Int32} {am d : Nat} (ha : am ≤ 10000000) (hd : d ≤ 359) : ∃ x, x ≤ am ∧ sDed S.2.1 kd (nI am) (nI d) = lN x := by
  obtain ⟨w, g1, g2, g3, g4, g5, g6⟩ := rooms_N hg hw
  unfold sDed
  split
  · exact ⟨am, Nat.le_refl _, nI_l (by omega)⟩
  · split
    · exact ⟨0, Nat.zero_le _, by decide⟩
    · rename_i h1 h2
      obtain ⟨u, u1, u2⟩ := g6 (d / 30) (by omega)
      have hw0 : w ≠ 0 := fun q => h2 (Or.inr (by rw [g5, q]; decide))
      have hb : am * u ≤ 10000000 * 90000 := Nat.mul_le_mul ha (by omega)
      rw [pk_div (by omega) (by decide) (by decide), u2, g5, nI_l (by omega), nI_l (by omega), nI_l (by omega), lN_mul, pk_lDiv (by omega) (by omega) (by omega)]
      exact ⟨_, Nat.div_le_of_le_mul (by rw [Nat.mul_comm (30 * w) am]; exact Nat.mul_le_mul_left _ u1), rfl⟩
/-- how large a profit can be -/
theorem sProf_N {Z : SV} {S : StV} (hg : Rng Z S) (hw : WfS S) {q : Nat} (hq : q ≤ 3) : ∃ a c, a ≤ 660000000 ∧ c ≤ 700000000 ∧ sProf S (nI q) = lN a - lN c := by
  rw [sProf_at (hi_T q) (hi_M q)]
  obtain ⟨w1, w2, w3, w4, w5⟩ := id hw
  obtain ⟨⟨a, a1, a2⟩, -⟩ := aPW_N hg hw hq
  obtain ⟨x1, y1, z1⟩ := sumN_N (q := fun i => S.1.2 0 i == nI 0 && eCntIn S.1 (nI 0) (nI ((q + 1) * 90) - nI 1) i) (f := fun i => (S.1.2 2 i).toInt64) (M := 10000000) S.1.1 (fun i hi _ => by
    obtain ⟨n, -, h2, h3⟩ := (hg.1 i hi).2.2.1
    exact ⟨n, h2, by rw [h3, nI_l (by omega)]⟩)
  obtain ⟨x2, y2, z2⟩ := sumN_N (q := fun i => eCntIn S.1 (nI 0) (nI ((q + 1) * 90) - nI 1) i) (f := fun i => sDed S.2.1 (S.1.2 0 i) (S.1.2 2 i) (S.1.2 4 i)) (M := 10000000) S.1.1 (fun i hi hc => by
    obtain ⟨n, -, h2, h3⟩ := (hg.1 i hi).2.2.1
    obtain ⟨pd, q1, q2⟩ := paid_N hg hi (by
      by_cases hc9 : eCnt S.1 i = true
      · exact hc9
      · rw [cno (by simpa using hc9)] at hc; exact absurd hc (by decide))
    obtain ⟨x, e1, e2⟩ := sDed_N hg hw (kd := S.1.2 0 i) h2 q1
    exact ⟨x, by omega, by rw [h3, q2, e2]⟩)
  obtain ⟨x3, y3, z3⟩ := sumN_N (q := fun i => S.2.2.1.2 4 i != -1 && (decide (nI 0 ≤ S.2.2.1.2 4 i) && decide (S.2.2.1.2 4 i ≤ nI ((q + 1) * 90) - nI 1))) (f := fun i => (S.2.2.1.2 5 i).toInt64) (M := 5000000) S.2.2.1.1 (fun i hi hc => by
    rcases (hg.2.2.1 i hi).2.2.2.2 with h9 | ⟨-, n, -, h2, h3⟩
    · simp [h9] at hc
    · exact ⟨n, h2, by rw [h3, nI_l (by omega)]⟩)
  obtain ⟨x4, y4, z4⟩ := sumL_N (f := fun i => (aWU S.2.2.1 i (nI (3 * q + 2))).toInt64) (M := 5000000) S.2.2.1.1 (fun i hi => by
    obtain ⟨w, h1, h2⟩ := (wu_N hg hi).1 (3 * q + 2) (by omega)
    exact ⟨w, h1, by rw [h2, nI_l (by omega)]⟩)
  refine ⟨x1 + x3, x2 + (a + x4), by omega, by omega, ?_⟩
  rw [show tI S (nI ((q + 1) * 90) - nI 1) S.1.1 = lN x1 from z1, show tD S (nI ((q + 1) * 90) - nI 1) S.1.1 = lN x2 from z2, show tS S.2.2.1 (nI ((q + 1) * 90) - nI 1) S.2.2.1.1 = lN x3 from z3, show tW S.2.2.1 (nI (3 * q + 2)) S.2.2.1.1 = lN x4 from z4, a2, nI_l (by omega), ← lN_add, ← lN_add, ← lN_add]
  grind
def mPT (S : StV) : Nat → Int64
  | 0 => 0
  | n + 1 => sProf S (nI n)
theorem mPT_s {Z : SV} {S : StV} (hg : Rng Z S) : ∀ i, mPT S i + (sProf S (nI i) - sProf S (nI i - nI 1)) = sProf S (nI i)
  | 0 => by rw [sProf_m hg, mPT]; grind
  | n + 1 => by rw [mPT, pk_sub (by omega), Nat.add_sub_cancel]; grind
def mW (As : RV) (n q : Nat) (s9 : Int64) : Nat → Int64
  | 0 => s9
  | j + 1 => mW As n q s9 j - (aWU As n (nI (3 * q + j)) - aWU As n (nI (3 * q + j) - nI 1)).toInt64
/-- what is seen of a ledger, out of a setup and a state -/
abbrev V9 (Z : SV) (S : StV) : LV := (4, 0, 0, S, Z)
def mTx (Z : SV) (am : Int64) : Nat → Int64 × Int64
  | 0 => (0, 0)
  | k + 1 => ((mTx Z am k).1 + (if 0 < (if (if k < Z.1 then (Z.2.2 0 k).toInt64 else 9223372036854775807) < am then (if k < Z.1 then (Z.2.2 0 k).toInt64 else 9223372036854775807) else am) - (mTx Z am k).2 then ((if (if k < Z.1 then (Z.2.2 0 k).toInt64 else 9223372036854775807) < am then (if k < Z.1 then (Z.2.2 0 k).toInt64 else 9223372036854775807) else am) - (mTx Z am k).2) * (if k < Z.1 then Z.2.2 1 k else Z.2.1 4).toInt64 else 0), if k < Z.1 then (Z.2.2 0 k).toInt64 else 9223372036854775807)
theorem pos_mul (x r : Int64) : (if 0 < x then x * r else 0) = (if x < 0 then 0 else x) * r := by
  by_cases h : 0 < x
  · rw [if_pos h, if_neg (Int64.lt_asymm h)]
  · rw [if_neg h]
    by_cases h2 : x < 0
    · rw [if_pos h2, Int64.zero_mul]
    · rw [if_neg h2, Int64.le_antisymm (Int64.not_lt.mp h) (Int64.not_lt.mp h2), Int64.zero_mul]
theorem mTx_at {Z : SV} {am : Int64} : ∀ k, k ≤ Z.1 → mTx Z am k = taxSt Z am k
  | 0, _ => rfl
  | k + 1, h => by
    have ih := mTx_at (Z := Z) (am := am) k (by omega)
    have hk : k < Z.1 := by omega
    rw [mTx, taxSt, ih, if_pos hk, if_pos hk, pos_mul]
theorem le_max64 (x : Int64) : ¬ (9223372036854775807 : Int64) < x := by
  rw [Int64.lt_iff_toInt_lt]
  have := Int64.toInt_lt x
  rw [show (9223372036854775807 : Int64).toInt = 9223372036854775807 by decide]
  omega
theorem mTx_top {Z : SV} {am : Int64} : (mTx Z am (Z.1 + 1)).1 = (taxSt Z am Z.1).1 + (if am - (taxSt Z am Z.1).2 < 0 then 0 else am - (taxSt Z am Z.1).2) * (Z.2.1 4).toInt64 := by
  rw [mTx, mTx_at _ (Nat.le_refl _), if_neg (Nat.lt_irrefl _), if_neg (Nat.lt_irrefl _), if_neg (le_max64 _), pos_mul]
theorem taxSt_2 {Z : SV} (hgz : RngZ Z) {am : Int64} : ∀ k, k ≤ Z.1 → ∃ b, b ≤ 99999999 ∧ (taxSt Z am k).2 = lN b
  | 0, _ => ⟨0, by decide, rfl⟩
  | k + 1, h => by
    obtain ⟨b, -, b2, b3⟩ := (hgz.1 k (by omega)).1
    exact ⟨b, b2, by rw [taxSt]; show (Z.2.2 0 k).toInt64 = lN b; rw [b3, nI_l (by omega)]⟩
theorem sub_n {am : Int64} {b : Nat} (h1 : am ≤ 0) (h2 : -(2 ^ 62) ≤ am.toInt) (hb : b ≤ 99999999) : ¬ 0 < am - lN b := by
  have h3 : am.toInt ≤ 0 := by have := Int64.le_iff_toInt_le.mp h1; simpa using this
  rw [Int64.lt_iff_toInt_lt, Int64.toInt_sub, pk_lT (by omega), Int.bmod_eq_of_le (by omega) (by omega)]
  show ¬ (0 : Int) < _
  omega
theorem neg_tax {Z : SV} (hgz : RngZ Z) {am : Int64} (h1 : am ≤ 0) (h2 : -(2 ^ 62) ≤ am.toInt) : ∀ k, k ≤ Z.1 → (taxSt Z am k).1 = 0
  | 0, _ => rfl
  | k + 1, h => by
    obtain ⟨b, b1, b2⟩ := taxSt_2 hgz (am := am) k (by omega)
    obtain ⟨x, x1, x2, x3⟩ := (hgz.1 k (by omega)).1
    have hlim : ¬ (Z.2.2 0 k).toInt64 < am := by
      rw [x3, nI_l (by omega), Int64.lt_iff_toInt_lt, pk_lT (by omega)]
      have h3 : am.toInt ≤ 0 := by have := Int64.le_iff_toInt_le.mp h1; simpa using this
      omega
    rw [taxSt]
    show (taxSt Z am k).1 + (if (if (Z.2.2 0 k).toInt64 < am then (Z.2.2 0 k).toInt64 else am) - (taxSt Z am k).2 < 0 then 0 else (if (Z.2.2 0 k).toInt64 < am then (Z.2.2 0 k).toInt64 else am) - (taxSt Z am k).2) * (Z.2.2 1 k).toInt64 = 0
    rw [neg_tax hgz h1 h2 k (by omega), if_neg hlim, ← pos_mul, b2, if_neg (sub_n h1 h2 b1)]
    decide
theorem tax_eq {Z : SV} (hgz : RngZ Z) {am : Int64} (h2 : -(2 ^ 62) ≤ am.toInt) : (mTx Z am (Z.1 + 1)).1 / 1000 = sTax Z am := by
  rw [mTx_top]
  unfold sTax
  by_cases h1 : am ≤ 0
  · obtain ⟨b, b1, b2⟩ := taxSt_2 hgz (am := am) Z.1 (Nat.le_refl _)
    rw [if_pos h1, neg_tax hgz h1 h2 _ (Nat.le_refl _), ← pos_mul, b2, if_neg (sub_n h1 h2 b1)]
    decide
  · rw [if_neg h1]
/-- what the brackets up to k take of an amount, in numbers -/
theorem taxSt_N {Z : SV} (hgz : RngZ Z) {e : Nat} (he : e < 2 ^ 40) : ∀ k, k ≤ Z.1 → ∃ s L, (taxSt Z (lN e) k) = (lN s, lN L) ∧ s ≤ 900 * min e L ∧ L ≤ 99999999 ∧ (∀ j, j + 1 = k → Z.2.2 0 j = nI L) ∧ (k = 0 → L = 0)
  | 0, _ => ⟨0, 0, rfl, by omega, by omega, fun j hj => by omega, fun _ => rfl⟩
  | k + 1, h => by
    obtain ⟨s, L, e1, e2, e3, e4, e5⟩ := taxSt_N hgz he k (by omega)
    obtain ⟨x, x1, x2, x3⟩ := (hgz.1 k (by omega)).1
    obtain ⟨r, -, r2, r3⟩ := (hgz.1 k (by omega)).2
    have hL : L < x := by
      rcases Nat.eq_zero_or_pos k with h0 | h0
      · have := e5 h0; omega
      · obtain ⟨a, b, c1, c2, c3, c4⟩ := hgz.2.1 (k - 1) (by omega)
        rw [show k - 1 + 1 = k by omega, x3] at c2
        have q1 := e4 (k - 1) (by omega)
        rw [c1] at q1
        have q2 := (nI_eq (by omega) (by omega)).mp q1
        have q3 := (nI_eq (by omega) (by omega)).mp c2
        omega
    have hmn : (if (Z.2.2 0 k).toInt64 < lN e then (Z.2.2 0 k).toInt64 else lN e) = lN (min e x) := by
      rw [x3, nI_l (by omega)]
      simp only [show (lN x < lN e) = (x < e) from propext (pk_lLT (by omega) (by omega))]
      split
      · rw [Nat.min_eq_right (by omega)]
      · rw [Nat.min_eq_left (by omega)]
    have hpt : (if lN (min e x) - lN L < 0 then 0 else lN (min e x) - lN L) = lN (min e x - L) := by
      by_cases hl : L ≤ min e x
      · rw [lN_sub hl, if_neg]
        rw [Int64.lt_iff_toInt_lt, pk_lT (by omega)]
        show ¬ ((_ : Nat) : Int) < (0 : Int)
        omega
      · rw [if_pos, show min e x - L = 0 by omega]; rfl
        rw [Int64.lt_iff_toInt_lt, Int64.toInt_sub, pk_lT (by omega), pk_lT (by omega), Int.bmod_eq_of_le (by omega) (by omega)]
        show _ < (0 : Int)
        omega
    refine ⟨s + (min e x - L) * r, x, ?_, ?_, x2, fun j hj => by rw [show j = k by omega, x3], fun q => by omega⟩
    · rw [taxSt, e1]
      show ((lN s + (if (if (Z.2.2 0 k).toInt64 < lN e then (Z.2.2 0 k).toInt64 else lN e) - lN L < 0 then 0 else (if (Z.2.2 0 k).toInt64 < lN e then (Z.2.2 0 k).toInt64 else lN e) - lN L) * (Z.2.2 1 k).toInt64), (Z.2.2 0 k).toInt64) = _
      rw [hmn, hpt, r3, nI_l (by omega), lN_mul, lN_add, x3, nI_l (by omega)]
    · have h9 : (min e x - L) * r ≤ (min e x - L) * 900 := Nat.mul_le_mul_left _ r2
      omega
theorem sTax_N {Z : SV} (hgz : RngZ Z) {e : Nat} (he : e < 2 ^ 40) : ∃ t, t ≤ e ∧ sTax Z (lN e) = lN t := by
  unfold sTax
  by_cases h1 : lN e ≤ 0
  · rw [if_pos h1]; exact ⟨0, Nat.zero_le _, rfl⟩
  · obtain ⟨s, L, e1, e2, e3, -, -⟩ := taxSt_N hgz he Z.1 (Nat.le_refl _)
    obtain ⟨r, -, r2, r3⟩ := hgz.2.2.2
    have hpt : (if lN e - lN L < 0 then 0 else lN e - lN L) = lN (e - L) := by
      by_cases hl : L ≤ e
      · rw [lN_sub hl, if_neg]
        rw [Int64.lt_iff_toInt_lt, pk_lT (by omega)]
        show ¬ ((_ : Nat) : Int) < (0 : Int)
        omega
      · rw [if_pos, show e - L = 0 by omega]; rfl
        rw [Int64.lt_iff_toInt_lt, Int64.toInt_sub, pk_lT (by omega), pk_lT (by omega), Int.bmod_eq_of_le (by omega) (by omega)]
        show _ < (0 : Int)
        omega
    have h9 : (e - L) * r ≤ (e - L) * 900 := Nat.mul_le_mul_left _ r2
    rw [if_neg h1, e1]
    show ∃ t, t ≤ e ∧ (lN s + (if lN e - lN L < 0 then 0 else lN e - lN L) * (Z.2.1 4).toInt64) / 1000 = lN t
    rw [hpt, r3, nI_l (by omega), lN_mul, lN_add, show (1000 : Int64) = lN 1000 from rfl, pk_lDiv (by omega) (by decide) (by decide)]
    exact ⟨_, by omega, rfl⟩
theorem pf_pos {a c : Nat} (ha : a ≤ 660000000) (hc : c ≤ 700000000) : (lN a - lN c < 0) = (a < c) := by
  apply propext
  rw [Int64.lt_iff_toInt_lt, Int64.toInt_sub, pk_lT (by omega), pk_lT (by omega), Int.bmod_eq_of_le (by omega) (by omega)]
  show (_ : Int) < (0 : Int) ↔ _
  omega
theorem pf_bd {a c : Nat} (ha : a ≤ 660000000) (hc : c ≤ 700000000) : -(2 ^ 31) ≤ (lN a - lN c).toInt ∧ (lN a - lN c).toInt ≤ 2 ^ 31 := by
  rw [Int64.toInt_sub, pk_lT (by omega), pk_lT (by omega), Int.bmod_eq_of_le (by omega) (by omega)]
  omega
theorem est_N {a c q : Nat} (h : c ≤ a) (hq : q ≤ 3) (ha : a ≤ 660000000) : (lN a - lN c) * 4 / (nI q + nI 1).toInt64 = lN ((a - c) * 4 / (q + 1)) := by
  rw [lN_sub h, nI_add, nI_l (by omega), show (4 : Int64) = lN 4 from rfl, lN_mul, pk_lDiv (by omega) (by omega) (by omega)]
theorem sTgt_N {Z : SV} {S : StV} (hgz : RngZ Z) (hg : Rng Z S) (hw : WfS S) {q : Nat} (hq : q ≤ 3) : ∃ t, t ≤ 660000000 ∧ sTgt Z (nI q) (sProf S (nI q)) = lN t := by
  obtain ⟨a, c, a1, c1, e⟩ := sProf_N hg hw hq
  unfold sTgt
  rw [e]
  split
  · exact ⟨0, by decide, rfl⟩
  · rename_i h
    rw [pf_pos a1 c1] at h
    have hca : c ≤ a := Nat.not_lt.mp (fun z => h (Or.inl z))
    rw [est_N hca hq a1]
    obtain ⟨t, t1, t2⟩ := sTax_N hgz (e := (a - c) * 4 / (q + 1)) (by have := Nat.div_le_self ((a - c) * 4) (q + 1); omega)
    have h9 : t * (q + 1) ≤ (a - c) * 4 := Nat.le_trans (Nat.mul_le_mul_right _ t1) (Nat.div_mul_le_self _ _)
    rw [t2, nI_add, nI_l (by omega), lN_mul, show (4 : Int64) = lN 4 from rfl, pk_lDiv (by omega) (by decide) (by decide)]
    exact ⟨_, by omega, rfl⟩
theorem due_N {t s : Nat} (ht : t ≤ 660000000) (hs : s < 2 ^ 40) : (if lN t - lN s < 0 then 0 else lN t - lN s) = lN (t - s) := by
  by_cases hl : s ≤ t
  · rw [lN_sub hl, if_neg]
    rw [Int64.lt_iff_toInt_lt, pk_lT (by omega)]
    show ¬ ((_ : Nat) : Int) < (0 : Int)
    omega
  · rw [if_pos, show t - s = 0 by omega]; rfl
    rw [Int64.lt_iff_toInt_lt, Int64.toInt_sub, pk_lT (by omega), pk_lT (by omega), Int.bmod_eq_of_le (by omega) (by omega)]
    show _ < (0 : Int)
    omega
theorem pp_N {Z : SV} {S : StV} (hgz : RngZ Z) (hg : Rng Z S) (hw : WfS S) : ∀ k, k ≤ 4 → ∃ s n, s ≤ k * 660000000 ∧ n ≤ 660000000 ∧ ppSt (V9 Z S) k = (lN s, lN n)
  | 0, _ => ⟨0, 0, by omega, by omega, rfl⟩
  | k + 1, h => by
    obtain ⟨s, n, s1, n1, e⟩ := pp_N hgz hg hw k (by omega)
    obtain ⟨t, t1, t2⟩ := sTgt_N hgz hg hw (q := k) (by omega)
    refine ⟨s + (t - s), t - s, by omega, by omega, ?_⟩
    rw [ppSt, e]
    show (lN s + (if sTgt Z (nI k) (sProf S (nI k)) - lN s < 0 then 0 else sTgt Z (nI k) (sProf S (nI k)) - lN s), (if sTgt Z (nI k) (sProf S (nI k)) - lN s < 0 then 0 else sTgt Z (nI k) (sProf S (nI k)) - lN s)) = _
    rw [t2, due_N t1 (by omega), lN_add]
/-- what was recomputed of the quarter before -/
def mAg (V : LV) : Nat → Int32
  | 0 => nI 0
  | n + 1 => (ppSt V (n + 1)).2.toInt32
theorem pp_l {Z : SV} {S : StV} (hgz : RngZ Z) (hg : Rng Z S) (hw : WfS S) {k : Nat} (hk : k ≤ 4) : (ppSt (V9 Z S) k).2.toInt32.toInt64 = (ppSt (V9 Z S) k).2 := by
  obtain ⟨s, n, s1, n1, e⟩ := pp_N hgz hg hw k hk
  rw [e]
  show (lN n).toInt32.toInt64 = lN n
  rw [lN_i, nI_l (by omega)]
