/-! 34: ranges of what a state holds, and arithmetic in them -/
/-- a number from lo to hi -/
def inN (x : Int32) (lo hi : Nat) : Prop := ∃ n, lo ≤ n ∧ n ≤ hi ∧ x = nI n
def Rng (Z : SV) (S : StV) : Prop := (∀ k, k < S.1.1 → inN (S.1.2 0 k) 0 3 ∧ inN (S.1.2 1 k) 0 9 ∧ inN (S.1.2 2 k) 1 10000000 ∧ inN (S.1.2 3 k) 0 359 ∧ (S.1.2 4 k = -1 ∨ inN (S.1.2 4 k) 0 359)) ∧ (∀ k, k < S.2.1.1 → inN (S.2.1.2 0 k) 1 500 ∧ (S.2.1.2 1 k = -1 ∨ ∃ a b, a ≤ b ∧ b ≤ 359 ∧ S.2.1.2 1 k = nI a ∧ S.2.1.2 2 k = nI b)) ∧ (∀ k, k < S.2.2.1.1 → inN (S.2.2.1.2 0 k) 1 5000000 ∧ inN (S.2.2.1.2 1 k) 0 359 ∧ inN (S.2.2.1.2 2 k) 1 120 ∧ S.2.2.1.2 3 k = sSort Z (S.2.2.1.2 0 k) ∧ (S.2.2.1.2 4 k = -1 ∨ inN (S.2.2.1.2 4 k) 0 359 ∧ inN (S.2.2.1.2 5 k) 0 5000000)) ∧ ∀ q, q < S.2.2.2.2.1 → inN (S.2.2.2.1 q) 0 1000000000
def RngZ (Z : SV) : Prop := (∀ k, k < Z.1 → inN (Z.2.2 0 k) 1 99999999 ∧ inN (Z.2.2 1 k) 0 900) ∧ (∀ k, k + 1 < Z.1 → ∃ a b, Z.2.2 0 k = nI a ∧ Z.2.2 0 (k + 1) = nI b ∧ a < b ∧ b ≤ 99999999) ∧ inN (Z.2.1 3) 0 100 ∧ inN (Z.2.1 4) 0 900
theorem sub1 (a b : Nat) : nI a - nI b + nI 1 = nI (a + 1) - nI b := by
  rw [← nI_add a 1]
  grind
theorem max0N {a b : Nat} (ha : a < 2 ^ 30) (hb : b < 2 ^ 30) : (if nI 0 < nI a - nI b then nI a - nI b else nI 0) = nI (a - b) := by
  by_cases h : b < a
  · rw [pk_sub (by omega), if_pos (nI_lt (by omega) (by omega))]
  · rw [if_neg, show a - b = 0 by omega]
    intro q
    have h1 := Int32.lt_iff_toInt_lt.mp q
    rw [pk_sub_toInt ha hb, nI_toInt (by decide)] at h1
    omega
def sN (g : Nat → Nat) : Nat → Nat
  | 0 => 0
  | n + 1 => sN g n + g n
theorem sN_le {g : Nat → Nat} {M : Nat} : ∀ n, (∀ i, i < n → g i ≤ M) → sN g n ≤ n * M
  | 0, _ => by simp [sN]
  | n + 1, h => by
    have := sN_le n (fun i hi => h i (by omega))
    have := h n (by omega)
    rw [sN, Nat.add_mul]
    omega
theorem sN_mono {g h : Nat → Nat} : ∀ n, (∀ i, i < n → g i ≤ h i) → sN g n ≤ sN h n
  | 0, _ => Nat.le_refl _
  | n + 1, q => by
    have := sN_mono n (fun i hi => q i (by omega))
    have := q n (by omega)
    rw [sN, sN]
    omega
theorem sumI_N {f : Nat → Int32} {g : Nat → Nat} : ∀ n, (∀ i, i < n → f i = nI (g i)) → sumI f n = nI (sN g n)
  | 0, _ => rfl
  | n + 1, h => by rw [sumI, sumI_N n (fun i hi => h i (by omega)), h n (by omega), nI_add]; rfl
theorem sN_ge {g : Nat → Nat} : ∀ n, (∀ i, i < n → 1 ≤ g i) → n ≤ sN g n
  | 0, _ => Nat.le_refl _
  | n + 1, h => by
    have := sN_ge n (fun i hi => h i (by omega))
    have := h n (by omega)
    rw [sN]
    omega
theorem sN_mul {g : Nat → Nat} (m : Nat) : ∀ n, sN (fun i => g i * m) n = sN g n * m
  | 0 => by simp [sN]
  | n + 1 => by rw [sN, sN_mul m n, sN, Nat.add_mul]
theorem ltN {a b : Nat} (ha : a < 2 ^ 31) (hb : b < 2 ^ 31) {α : Type} (x y : α) : (if nI a < nI b then x else y) = if a < b then x else y := by
  by_cases h : a < b
  · rw [if_pos h, if_pos (nI_lt h hb)]
  · rw [if_neg h, if_neg (fun q => h ((nI_ltI ha hb).mp q))]
/-- days of use in a window -/
def dU (a b f t : Nat) : Nat := min b t + 1 - max a f
theorem mxN {a f : Nat} (ha : a < 2 ^ 30) (hf : f < 2 ^ 30) : (if nI f < nI a then nI a else nI f) = nI (max a f) := by
  rw [ltN (by omega) (by omega)]
  split
  · rw [Nat.max_eq_left (by omega)]
  · rw [Nat.max_eq_right (by omega)]
theorem mnN {b t : Nat} (hb : b < 2 ^ 30) (ht : t < 2 ^ 30) : (if nI b < nI t then nI b else nI t) = nI (min b t) := by
  rw [ltN (by omega) (by omega)]
  split
  · rw [Nat.min_eq_left (by omega)]
  · rw [Nat.min_eq_right (by omega)]
theorem rDays_N {Rm : RV} {k a b f t : Nat} (h1 : Rm.2 1 k = nI a) (h2 : Rm.2 2 k = nI b) (hb : b ≤ 359) (ha : a ≤ 359) (hf : f ≤ 400) (ht : t ≤ 400) : rDays Rm (nI f) (nI t) k = nI (dU a b f t) := by
  unfold rDays
  rw [h1, h2, mxN (by omega) (by omega), mnN (by omega) (by omega)]
  have hmx : max a f ≤ 400 := by omega
  have hmn : min b t ≤ 400 := by omega
  by_cases h : min b t < max a f
  · rw [if_pos (Or.inr (nI_lt h (by omega)))]
    unfold dU
    rw [show min b t + 1 - max a f = 0 by omega]
  · rw [if_neg, sub1, pk_sub (by omega)]
    · rfl
    · rintro (q | q)
      · exact nI_nm1 (by omega) q
      · exact h ((nI_ltI (by omega) (by omega)).mp q)
theorem rDays_no {Rm : RV} {k : Nat} {f t : Int32} (h1 : Rm.2 1 k = -1) : rDays Rm f t k = nI 0 := by
  unfold rDays
  rw [if_pos (Or.inl h1)]
theorem dU_le (a b m : Nat) : dU a b (30 * m) (30 * m + 30 - 1) ≤ 30 := by unfold dU; omega
theorem win (m : Nat) : nI m * nI 30 = nI (30 * m) ∧ nI m * nI 30 + nI 30 - nI 1 = nI (30 * m + 30 - 1) := by
  refine ⟨by rw [pk_mul, Nat.mul_comm], ?_⟩
  rw [pk_mul, nI_add, pk_sub (by omega), Nat.mul_comm]
/-- what the rooms are in numbers: area w, use u in a month -/
theorem rooms_N {Z : SV} {S : StV} (hg : Rng Z S) (hw : WfS S) : ∃ w, S.2.1.1 ≤ w ∧ w ≤ 3000 ∧ (S.2.1.1 = 0 → w = 0) ∧ sumI (S.2.1.2 0) S.2.1.1 = nI w ∧ rWhole S.2.1 = nI (30 * w) ∧ ∀ m, m ≤ 11 → ∃ u, u ≤ 30 * w ∧ rUsed S.2.1 (nI m) = nI u := by
  obtain ⟨-, hr, -⟩ := hg
  have hA : ∀ k, ∃ n, k < S.2.1.1 → 1 ≤ n ∧ n ≤ 500 ∧ S.2.1.2 0 k = nI n := by
    intro k
    by_cases h : k < S.2.1.1
    · obtain ⟨n, h1, h2, h3⟩ := (hr k h).1
      exact ⟨n, fun _ => ⟨h1, h2, h3⟩⟩
    · exact ⟨0, fun q => absurd q h⟩
  obtain ⟨g, hg⟩ := Classical.axiomOfChoice hA
  have h6 : S.2.1.1 ≤ 6 := hw.2.1
  have hs : sumI (S.2.1.2 0) S.2.1.1 = nI (sN g S.2.1.1) := sumI_N _ (fun i hi => (hg i hi).2.2)
  have hM := sN_le (M := 500) S.2.1.1 (fun i hi => (hg i hi).2.1)
  refine ⟨sN g S.2.1.1, sN_ge _ (fun i hi => (hg i hi).1), by omega, fun h => by rw [h]; rfl, hs, ?_, fun m hm => ?_⟩
  · unfold rWhole
    rw [sumI_N (g := fun i => g i * 30) _ (fun i hi => by rw [(hg i hi).2.2, pk_mul]), sN_mul, Nat.mul_comm]
  · have hD : ∀ k, ∃ d, k < S.2.1.1 → d ≤ 30 ∧ rDays S.2.1 (nI (30 * m)) (nI (30 * m + 30 - 1)) k = nI d := by
      intro k
      by_cases h : k < S.2.1.1
      · rcases (hr k h).2 with h1 | ⟨a, b, h1, h2, h3, h4⟩
        · exact ⟨0, fun _ => ⟨by omega, rDays_no h1⟩⟩
        · exact ⟨_, fun _ => ⟨dU_le a b m, rDays_N h3 h4 h2 (by omega) (by omega) (by omega)⟩⟩
      · exact ⟨0, fun q => absurd q h⟩
    obtain ⟨d, hd⟩ := Classical.axiomOfChoice hD
    refine ⟨sN (fun i => g i * d i) S.2.1.1, ?_, ?_⟩
    · have h1 := sN_mono (g := fun i => g i * d i) (h := fun i => g i * 30) S.2.1.1 (fun i hi => Nat.mul_le_mul_left _ (hd i hi).1)
      rw [sN_mul] at h1
      omega
    · unfold rUsed
      rw [(win m).2, (win m).1]
      exact sumI_N _ (fun i hi => by show S.2.1.2 0 i * rDays S.2.1 _ _ i = _; rw [(hg i hi).2.2, (hd i hi).2, pk_mul])
theorem nI_eq0 {n : Nat} (h : n < 2 ^ 31) : nI n = 0 ↔ n = 0 := by rw [← nI_0, nI_eq h (by decide)]
theorem nIl0 {n : Nat} (h : n < 2 ^ 31) : (nI n).toInt64 = 0 ↔ n = 0 := by
  rw [nI_l h]
  constructor
  · intro q
    have := congrArg Int64.toInt q
    rw [lN_toInt h] at this
    simpa using this
  · intro q; subst q; rfl
