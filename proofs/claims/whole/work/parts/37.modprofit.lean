/-! 37: the reference: profits -/
theorem i2l_sub {a b : Nat} (ha : a < 2 ^ 30) (hb : b < 2 ^ 30) : (nI a - nI b).toInt64 = lN a - lN b := by
  apply Int64.toInt_inj.mp
  rw [Int32.toInt_toInt64, pk_sub_toInt ha hb, Int64.toInt_sub, pk_lT (by omega), pk_lT (by omega), Int.bmod_eq_of_le (by omega) (by omega)]
theorem sumL_0 (z0 : Int64) (f : Nat → Int64) : ∀ n, sumL z0 f n = z0 + sumL 0 f n
  | 0 => by show z0 = z0 + 0; rw [Int64.add_zero]
  | n + 1 => by rw [sumL, sumL, sumL_0 z0 f n, Int64.add_assoc]
theorem sumN_0 {q : Nat → Bool} {f : Nat → Int64} : ∀ n, (∀ i, i < n → q i = false) → sumN q f n = 0
  | 0, _ => rfl
  | n + 1, h => by rw [sumN, h n (by omega), sumN_0 n (fun i hi => h i (by omega))]; rfl
theorem sumL_z {f : Nat → Int64} : ∀ n, (∀ i, i < n → f i = 0) → sumL 0 f n = 0
  | 0, _ => rfl
  | n + 1, h => by rw [sumL, h n (by omega), sumL_z n (fun i hi => h i (by omega))]; rfl
theorem sumQ_N {q : Nat → Bool} {f : Nat → Int32} {M : Nat} : ∀ n, (∀ i, i < n → ∃ g, g ≤ M ∧ f i = nI g) → ∃ a, a ≤ n * M ∧ sumQ q f n = nI a
  | 0, _ => ⟨0, by omega, rfl⟩
  | n + 1, h => by
    obtain ⟨a, a1, a2⟩ := sumQ_N n (fun i hi => h i (by omega))
    obtain ⟨g, g1, g2⟩ := h n (by omega)
    rw [sumQ]
    split
    · exact ⟨a + g, by rw [Nat.add_mul]; omega, by rw [a2, g2, nI_add]⟩
    · exact ⟨a, by rw [Nat.add_mul]; omega, a2⟩
theorem sumN_N {q : Nat → Bool} {f : Nat → Int64} {M : Nat} : ∀ n, (∀ i, i < n → q i = true → ∃ g, g ≤ M ∧ f i = lN g) → ∃ a, a ≤ n * M ∧ sumN q f n = lN a
  | 0, _ => ⟨0, by omega, rfl⟩
  | n + 1, h => by
    obtain ⟨a, a1, a2⟩ := sumN_N n (fun i hi => h i (by omega))
    rw [sumN]
    split
    · rename_i hq
      obtain ⟨g, g1, g2⟩ := h n (by omega) hq
      exact ⟨a + g, by rw [Nat.add_mul]; omega, by rw [a2, g2, lN_add]⟩
    · exact ⟨a, by rw [Nat.add_mul]; omega, a2⟩
theorem sumL_N {f : Nat → Int64} {M : Nat} : ∀ n, (∀ i, i < n → ∃ g, g ≤ M ∧ f i = lN g) → ∃ a, a ≤ n * M ∧ sumL 0 f n = lN a
  | 0, _ => ⟨0, by omega, rfl⟩
  | n + 1, h => by
    obtain ⟨a, a1, a2⟩ := sumL_N n (fun i hi => h i (by omega))
    obtain ⟨g, g1, g2⟩ := h n (by omega)
    exact ⟨a + g, by rw [Nat.add_mul]; omega, by rw [sumL, a2, g2, lN_add]⟩
theorem aPool_N {Z : SV} {S : StV} (hg : Rng Z S) (hw : WfS S) (qu : Int32) : ∃ a, a ≤ 60000000 ∧ aPool S.2.2.1 qu = nI a := by
  have h12 : S.2.2.1.1 ≤ 12 := hw.2.2.1
  obtain ⟨a, a1, a2⟩ := sumQ_N (q := fun i => S.2.2.1.2 3 i == nI 1 && decide (S.2.2.1.2 1 i / nI 90 ≤ qu)) (f := fun i => S.2.2.1.2 0 i) (M := 5000000) S.2.2.1.1 (fun i hi => by obtain ⟨n, -, h2, h3⟩ := (hg.2.2.1 i hi).1; exact ⟨n, h2, h3⟩)
  exact ⟨a, by omega, a2⟩
theorem aPW_N {Z : SV} {S : StV} (hg : Rng Z S) (hw : WfS S) {q : Nat} (hq : q ≤ 3) : (∃ a, a ≤ 12000000 ∧ aPW S.2.2.1 (nI q) = nI a) ∧ ∃ a, a ≤ 12000000 ∧ aPW S.2.2.1 (nI q - nI 1) = nI a := by
  have h1 : ∀ q, q ≤ 3 → ∃ a, a ≤ 12000000 ∧ aPW S.2.2.1 (nI q) = nI a := by
    intro q hq
    obtain ⟨a, a1, a2⟩ := aPool_N hg hw (nI q)
    have h9 : a * (q + 1) ≤ 60000000 * 4 := Nat.mul_le_mul a1 (by omega)
    exact ⟨a * (q + 1) / 20, by omega, by rw [aPW, a2, nI_add, pk_mul, pk_div (by omega) (by decide) (by decide)]⟩
  refine ⟨h1 q hq, ?_⟩
  by_cases h : q = 0
  · subst h; exact ⟨0, by decide, aPW_m⟩
  · rw [pk_sub (by omega)]; exact h1 (q - 1) (by omega)
theorem cw {E : EV} {i pd a : Nat} (hp : E.2 4 i = nI pd) (h1 : pd ≤ 359) (ha : a ≤ 400) : eCntIn E (nI 0) (nI a - nI 1) i = (eCnt E i && decide (pd < a)) := by
  unfold eCntIn
  rw [hp, show decide (nI 0 ≤ nI pd) = true from decide_eq_true (nI_le (by omega) (by omega)), Bool.and_true]
  congr 1
  rw [decide_eq_decide, Int32.le_iff_toInt_le, pk_sub_toInt (by omega) (by omega), nI_toInt (by omega)]
  omega
theorem cwin {E : EV} {i pd a b : Nat} (hp : E.2 4 i = nI pd) (h1 : pd ≤ 359) (ha : a ≤ 400) (hb : b ≤ 400) : eCntIn E (nI a) (nI b) i = (eCnt E i && (decide (a ≤ pd) && decide (pd ≤ b))) := by
  unfold eCntIn
  rw [hp, decide_eq_decide.mpr (nI_leI (a := a) (b := pd) (by omega) (by omega)), decide_eq_decide.mpr (nI_leI (a := pd) (b := b) (by omega) (by omega)), Bool.and_assoc]
theorem cno {E : EV} {i : Nat} {f t : Int32} (h : eCnt E i = false) : eCntIn E f t i = false := by unfold eCntIn; rw [h]; rfl
theorem paid_N {Z : SV} {S : StV} (hg : Rng Z S) {n : Nat} (hn : n < S.1.1) (hc : eCnt S.1 n = true) : ∃ pd, pd ≤ 359 ∧ S.1.2 4 n = nI pd := by
  rcases (hg.1 n hn).2.2.2.2 with hp | ⟨pd, -, h1, h2⟩
  · simp [eCnt, hp] at hc
  · exact ⟨pd, h1, h2⟩
/-- what the entries of a quarter bring -/
def mEn (S : StV) (q : Nat) : Nat → Int64
  | 0 => 0
  | n + 1 => if eCntIn S.1 (nI (90 * q)) (nI (90 * q + 90 - 1)) n = true then mEn S q n + (if S.1.2 0 n = 0 then (S.1.2 2 n).toInt64 else 0) - dOf S n else mEn S q n
def tI (S : StV) (T : Int32) (n : Nat) : Int64 := sumN (fun i => S.1.2 0 i == nI 0 && eCntIn S.1 (nI 0) T i) (fun i => (S.1.2 2 i).toInt64) n
def tD (S : StV) (T : Int32) (n : Nat) : Int64 := sumN (fun i => eCntIn S.1 (nI 0) T i) (fun i => sDed S.2.1 (S.1.2 0 i) (S.1.2 2 i) (S.1.2 4 i)) n
theorem tI_s (S : StV) (T : Int32) (n : Nat) : tI S T (n + 1) = if (S.1.2 0 n == nI 0 && eCntIn S.1 (nI 0) T n) = true then tI S T n + (S.1.2 2 n).toInt64 else tI S T n := rfl
theorem tD_s (S : StV) (T : Int32) (n : Nat) : tD S T (n + 1) = if eCntIn S.1 (nI 0) T n = true then tD S T n + sDed S.2.1 (S.1.2 0 n) (S.1.2 2 n) (S.1.2 4 n) else tD S T n := rfl
theorem mEn_s (S : StV) (q n : Nat) : mEn S q (n + 1) = if eCntIn S.1 (nI (90 * q)) (nI (90 * q + 90 - 1)) n = true then mEn S q n + (if S.1.2 0 n = 0 then (S.1.2 2 n).toInt64 else 0) - dOf S n else mEn S q n := rfl
theorem en_tele {Z : SV} {S : StV} (hg : Rng Z S) {q : Nat} (hq : q ≤ 3) : ∀ n, n ≤ S.1.1 → mEn S q n = (tI S (nI ((q + 1) * 90) - nI 1) n - tD S (nI ((q + 1) * 90) - nI 1) n) - (tI S (nI (q * 90) - nI 1) n - tD S (nI (q * 90) - nI 1) n)
  | 0, _ => by show (0 : Int64) = 0 - 0 - (0 - 0); decide
  | n + 1, h => by
    have ih := en_tele hg hq n (by omega)
    rw [mEn_s, tI_s, tI_s, tD_s, tD_s]
    by_cases hc : eCnt S.1 n = true
    · obtain ⟨pd, h1, h2⟩ := paid_N hg (by omega) hc
      rw [cw h2 h1 (show (q + 1) * 90 ≤ 400 by omega), cw h2 h1 (show q * 90 ≤ 400 by omega), cwin h2 h1 (by omega) (by omega), hc, dOf, if_pos hc]
      simp only [Bool.true_and]
      have kk : (S.1.2 0 n == nI 0) = decide (S.1.2 0 n = 0) := by rw [Bool.eq_iff_iff]; simp [nI_0]
      rw [kk]
      rcases (show pd < 90 * q ∨ (90 * q ≤ pd ∧ pd ≤ 90 * q + 90 - 1) ∨ 90 * q + 90 - 1 < pd by omega) with c | c | c
      · rw [show decide (pd < (q + 1) * 90) = true from decide_eq_true (by omega), show decide (pd < q * 90) = true from decide_eq_true (by omega), show decide (90 * q ≤ pd) = false from decide_eq_false (by omega)]
        by_cases hk : S.1.2 0 n = 0
        · simp only [hk, decide_true, Bool.and_true, Bool.false_and, if_true, Bool.false_eq_true, if_false]
          grind
        · simp only [hk, decide_false, Bool.and_true, Bool.false_and, if_true, Bool.false_eq_true, if_false]
          grind
      · rw [show decide (pd < (q + 1) * 90) = true from decide_eq_true (by omega), show decide (pd < q * 90) = false from decide_eq_false (by omega), show decide (90 * q ≤ pd) = true from decide_eq_true c.1, show decide (pd ≤ 90 * q + 90 - 1) = true from decide_eq_true c.2]
        by_cases hk : S.1.2 0 n = 0
        · simp only [hk, decide_true, Bool.and_true, Bool.and_false, if_true, Bool.false_eq_true, if_false]
          grind
        · simp only [hk, decide_false, Bool.and_true, Bool.and_false, if_true, Bool.false_eq_true, if_false]
          grind
      · rw [show decide (pd < (q + 1) * 90) = false from decide_eq_false (by omega), show decide (pd < q * 90) = false from decide_eq_false (by omega), show decide (pd ≤ 90 * q + 90 - 1) = false from decide_eq_false (by omega)]
        simp only [Bool.and_false, Bool.false_eq_true, if_false]
        exact ih
    · rw [Bool.not_eq_true] at hc
      rw [cno hc, cno hc, cno hc]
      simp only [Bool.and_false, Bool.false_eq_true, if_false]
      exact ih
/-- what the assets of a quarter bring -/
def mAs (As : RV) (q : Nat) : Nat → Int64
  | 0 => 0
  | n + 1 => mAs As q n + (if ¬ As.2 4 n = -1 ∧ As.2 4 n / nI 90 = nI q then (As.2 5 n).toInt64 else 0) - (aWU As n (nI (3 * q)) - aWU As n (nI (3 * q) - nI 1)).toInt64 - (aWU As n (nI (3 * q + 1)) - aWU As n (nI (3 * q + 1) - nI 1)).toInt64 - (aWU As n (nI (3 * q + 1 + 1)) - aWU As n (nI (3 * q + 1 + 1) - nI 1)).toInt64
theorem mAs_s (As : RV) (q n : Nat) : mAs As q (n + 1) = mAs As q n + (if ¬ As.2 4 n = -1 ∧ As.2 4 n / nI 90 = nI q then (As.2 5 n).toInt64 else 0) - (aWU As n (nI (3 * q)) - aWU As n (nI (3 * q) - nI 1)).toInt64 - (aWU As n (nI (3 * q + 1)) - aWU As n (nI (3 * q + 1) - nI 1)).toInt64 - (aWU As n (nI (3 * q + 1 + 1)) - aWU As n (nI (3 * q + 1 + 1) - nI 1)).toInt64 := rfl
def tS (As : RV) (T : Int32) (n : Nat) : Int64 := sumN (fun i => As.2 4 i != -1 && (decide (nI 0 ≤ As.2 4 i) && decide (As.2 4 i ≤ T))) (fun i => (As.2 5 i).toInt64) n
theorem tS_s (As : RV) (T : Int32) (n : Nat) : tS As T (n + 1) = if (As.2 4 n != -1 && (decide (nI 0 ≤ As.2 4 n) && decide (As.2 4 n ≤ T))) = true then tS As T n + (As.2 5 n).toInt64 else tS As T n := rfl
def tW (As : RV) (M : Int32) (n : Nat) : Int64 := sumL 0 (fun i => (aWU As i M).toInt64) n
theorem tW_s (As : RV) (M : Int32) (n : Nat) : tW As M (n + 1) = tW As M n + (aWU As n M).toInt64 := rfl
theorem wu_N {Z : SV} {S : StV} (hg : Rng Z S) {n : Nat} (hn : n < S.2.2.1.1) : (∀ m, m ≤ 11 → ∃ w, w ≤ 5000000 ∧ aWU S.2.2.1 n (nI m) = nI w) ∧ ∀ m, m ≤ 11 → ∃ w, w ≤ 5000000 ∧ aWU S.2.2.1 n (nI m - nI 1) = nI w := by
  obtain ⟨p, d, li, s, so, hN⟩ := asset_N hg hn
  have h1 : ∀ m, m ≤ 11 → ∃ w, w ≤ 5000000 ∧ aWU S.2.2.1 n (nI m) = nI w := by
    intro m hm
    exact ⟨_, Nat.le_trans (wN_le hN.2.2.2.1) hN.2.1, hN.wu hm⟩
  refine ⟨h1, fun m hm => ?_⟩
  by_cases h : m = 0
  · subst h; exact ⟨0, by decide, hN.wm⟩
  · rw [pk_sub (by omega)]; exact h1 (m - 1) (by omega)
theorem as_tele {Z : SV} {S : StV} (hg : Rng Z S) {q : Nat} (hq : q ≤ 3) : ∀ n, n ≤ S.2.2.1.1 → mAs S.2.2.1 q n = (tS S.2.2.1 (nI ((q + 1) * 90) - nI 1) n - tS S.2.2.1 (nI (q * 90) - nI 1) n) - (tW S.2.2.1 (nI (3 * q + 2)) n - tW S.2.2.1 (nI (3 * q) - nI 1) n)
  | 0, _ => by show (0 : Int64) = 0 - 0 - (0 - 0); decide
  | n + 1, h => by
    have ih := as_tele hg hq n (by omega)
    obtain ⟨w0, u0, v0⟩ := (wu_N hg (n := n) (by omega)).2 (3 * q) (by omega)
    obtain ⟨w1, u1, v1⟩ := (wu_N hg (n := n) (by omega)).1 (3 * q) (by omega)
    obtain ⟨w2, u2, v2⟩ := (wu_N hg (n := n) (by omega)).1 (3 * q + 1) (by omega)
    obtain ⟨w3, u3, v3⟩ := (wu_N hg (n := n) (by omega)).1 (3 * q + 2) (by omega)
    rw [mAs_s, tS_s, tS_s, tW_s, tW_s, show 3 * q + 1 + 1 = 3 * q + 2 from rfl, pk_sub (a := 3 * q + 1) (b := 1) (by omega), pk_sub (a := 3 * q + 2) (b := 1) (by omega), show 3 * q + 1 - 1 = 3 * q by omega, show 3 * q + 2 - 1 = 3 * q + 1 by omega, v0, v1, v2, v3, i2l_sub (by omega) (by omega), i2l_sub (by omega) (by omega), i2l_sub (by omega) (by omega), nI_l (by omega), nI_l (by omega)]
    obtain ⟨p, d, li, s, so, hN⟩ := asset_N hg (k := n) (by omega)
    rcases hN.2.2.2.2.2.2.2.2.2.2.2 with ⟨e1, -⟩ | ⟨sd, f1, f2, -⟩
    · rw [e1]
      simp only [not_true_eq_false, false_and, if_false, bne_self_eq_false, Bool.false_and, Bool.false_eq_true]
      grind
    · rw [f2, pk_div (by omega) (by decide) (by decide), show (nI sd != -1) = true from bne_iff_ne.mpr (nI_nm1 (by omega)), show decide (nI 0 ≤ nI sd) = true from decide_eq_true (nI_le (by omega) (by omega)),
        show decide (nI sd ≤ nI ((q + 1) * 90) - nI 1) = decide (sd < (q + 1) * 90) from decide_eq_decide.mpr (by rw [Int32.le_iff_toInt_le, pk_sub_toInt (by omega) (by omega), nI_toInt (by omega)]; omega),
        show decide (nI sd ≤ nI (q * 90) - nI 1) = decide (sd < q * 90) from decide_eq_decide.mpr (by rw [Int32.le_iff_toInt_le, pk_sub_toInt (by omega) (by omega), nI_toInt (by omega)]; omega)]
      simp only [Bool.true_and, decide_eq_true_eq, show (¬ nI sd = -1 ∧ nI (sd / 90) = nI q) = (sd / 90 = q) from propext ⟨fun z => (nI_eq (by omega) (by omega)).mp z.2, fun z => ⟨nI_nm1 (by omega), by rw [z]⟩⟩]
      rcases (show sd / 90 < q ∨ sd / 90 = q ∨ q < sd / 90 by omega) with c | c | c
      · rw [if_neg (by omega), if_pos (by omega), if_pos (by omega)]; grind
      · rw [if_pos (by omega), if_pos (by omega), if_neg (by omega)]; grind
      · rw [if_neg (by omega), if_neg (by omega), if_neg (by omega)]; grind
theorem sProf_at {S : StV} {qu T M : Int32} (hT : (qu + nI 1) * nI 90 - nI 1 = T) (hM : (qu + nI 1) * nI 3 - nI 1 = M) : sProf S qu = tI S T S.1.1 + tS S.2.2.1 T S.2.2.1.1 - tD S T S.1.1 - ((aPW S.2.2.1 qu).toInt64 + tW S.2.2.1 M S.2.2.1.1) := by
  subst hT; subst hM
  unfold sProf sRec eSum aSoldFor aAll sDedU
  rw [sumL_0]
  rfl
theorem hi_T (q : Nat) : (nI q + nI 1) * nI 90 - nI 1 = nI ((q + 1) * 90) - nI 1 := by rw [nI_add, pk_mul]
theorem hi_M (q : Nat) : (nI q + nI 1) * nI 3 - nI 1 = nI (3 * q + 2) := by rw [nI_add, pk_mul, pk_sub (by omega), show (q + 1) * 3 - 1 = 3 * q + 2 by omega]
theorem lo_T (q : Nat) : (nI q - nI 1 + nI 1) * nI 90 - nI 1 = nI (q * 90) - nI 1 := by rw [show nI q - nI 1 + nI 1 = nI q by grind, pk_mul]
theorem lo_M (q : Nat) : (nI q - nI 1 + nI 1) * nI 3 - nI 1 = nI (3 * q) - nI 1 := by rw [show nI q - nI 1 + nI 1 = nI q by grind, pk_mul, Nat.mul_comm]
theorem prof_q {Z : SV} {S : StV} (hg : Rng Z S) (hw : WfS S) {q : Nat} (hq : q ≤ 3) : mEn S q S.1.1 + mAs S.2.2.1 q S.2.2.1.1 - (aPW S.2.2.1 (nI q) - aPW S.2.2.1 (nI q - nI 1)).toInt64 = sProf S (nI q) - sProf S (nI q - nI 1) := by
  rw [sProf_at (hi_T q) (hi_M q), sProf_at (lo_T q) (lo_M q), en_tele hg hq _ (Nat.le_refl _), as_tele hg hq _ (Nat.le_refl _)]
  obtain ⟨⟨a, a1, a2⟩, b, b1, b2⟩ := aPW_N hg hw hq
  rw [a2, b2, i2l_sub (by omega) (by omega), nI_l (by omega), nI_l (by omega)]
  grind
theorem sProf_m {Z : SV} {S : StV} (hg : Rng Z S) : sProf S (nI 0 - nI 1) = 0 := by
  rw [sProf_at (lo_T 0) (lo_M 0), aPW_m]
  have h1 : tI S (nI (0 * 90) - nI 1) S.1.1 = 0 := sumN_0 _ (fun i hi => by
    by_cases hc : eCnt S.1 i = true
    · obtain ⟨pd, q1, q2⟩ := paid_N hg hi hc
      rw [cw q2 q1 (by omega)]; simp
    · rw [cno (by simpa using hc), Bool.and_false])
  have h2 : tD S (nI (0 * 90) - nI 1) S.1.1 = 0 := sumN_0 _ (fun i hi => by
    by_cases hc : eCnt S.1 i = true
    · obtain ⟨pd, q1, q2⟩ := paid_N hg hi hc
      rw [cw q2 q1 (by omega)]; simp
    · exact cno (by simpa using hc))
  have h3 : tS S.2.2.1 (nI (0 * 90) - nI 1) S.2.2.1.1 = 0 := sumN_0 _ (fun i hi => by
    obtain ⟨p, d, li, s, so, hN⟩ := asset_N hg hi
    rcases hN.2.2.2.2.2.2.2.2.2.2.2 with ⟨e1, -⟩ | ⟨sd, f1, f2, -⟩
    · rw [e1]; rfl
    · rw [f2, show decide (nI sd ≤ nI (0 * 90) - nI 1) = false from decide_eq_false (by rw [Int32.le_iff_toInt_le, pk_sub_toInt (by omega) (by omega), nI_toInt (by omega)]; omega), Bool.and_false, Bool.and_false])
  have h4 : tW S.2.2.1 (nI (3 * 0) - nI 1) S.2.2.1.1 = 0 := sumL_z _ (fun i hi => by
    obtain ⟨p, d, li, s, so, hN⟩ := asset_N hg hi
    show (aWU S.2.2.1 i (nI 0 - nI 1)).toInt64 = 0
    rw [hN.wm]; decide)
  rw [h1, h2, h3, h4]
  decide
theorem sDed_N {Z : SV} {S : StV} (hg : Rng Z S) (hw : WfS S) {kd : Int32} {am d : Nat} (ha : am ≤ 10000000) (hd : d ≤ 359) : ∃ x, x ≤ am ∧ sDed S.2.1 kd (nI am) (nI d) = lN x := by
  obtain ⟨w, g1, g2, g3, g4, g5, g6⟩ := rooms_N hg hw
  unfold sDed
  split
  · exact ⟨am, Nat.le_refl _, nI_l (by omega)⟩
  · split
    · exact ⟨0, Nat.zero_le _, by decide⟩
    · rename_i h1 h2
      obtain ⟨u, u1, u2⟩ := g6 (d / 30) (by omega)
      have hw0 : w ≠ 0 := fun q => h2 (Or.inr (by rw [g5, q]; decide))
      have hb : am * u ≤ 10000000 * 90000 := Nat.mul_le_mul ha (by omega)
      rw [pk_div (by omega) (by decide) (by decide), u2, g5, nI_l (by omega), nI_l (by omega), nI_l (by omega), lN_mul, pk_lDiv (by omega) (by omega) (by omega)]
      exact ⟨_, Nat.div_le_of_le_mul (by rw [Nat.mul_comm (30 * w) am]; exact Nat.mul_le_mul_left _ u1), rfl⟩
/-- how large a profit can be -/
theorem sProf_N {Z : SV} {S : StV} (hg : Rng Z S) (hw : WfS S) {q : Nat} (hq : q ≤ 3) : ∃ a c, a ≤ 660000000 ∧ c ≤ 700000000 ∧ sProf S (nI q) = lN a - lN c := by
  rw [sProf_at (hi_T q) (hi_M q)]
  obtain ⟨w1, w2, w3, w4, w5⟩ := id hw
  obtain ⟨⟨a, a1, a2⟩, -⟩ := aPW_N hg hw hq
  obtain ⟨x1, y1, z1⟩ := sumN_N (q := fun i => S.1.2 0 i == nI 0 && eCntIn S.1 (nI 0) (nI ((q + 1) * 90) - nI 1) i) (f := fun i => (S.1.2 2 i).toInt64) (M := 10000000) S.1.1 (fun i hi _ => by
    obtain ⟨n, -, h2, h3⟩ := (hg.1 i hi).2.2.1
    exact ⟨n, h2, by rw [h3, nI_l (by omega)]⟩)
  obtain ⟨x2, y2, z2⟩ := sumN_N (q := fun i => eCntIn S.1 (nI 0) (nI ((q + 1) * 90) - nI 1) i) (f := fun i => sDed S.2.1 (S.1.2 0 i) (S.1.2 2 i) (S.1.2 4 i)) (M := 10000000) S.1.1 (fun i hi hc => by
    obtain ⟨n, -, h2, h3⟩ := (hg.1 i hi).2.2.1
    obtain ⟨pd, q1, q2⟩ := paid_N hg hi (by
      by_cases hc9 : eCnt S.1 i = true
      · exact hc9
      · rw [cno (by simpa using hc9)] at hc; exact absurd hc (by decide))
    obtain ⟨x, e1, e2⟩ := sDed_N hg hw (kd := S.1.2 0 i) h2 q1
    exact ⟨x, by omega, by rw [h3, q2, e2]⟩)
  obtain ⟨x3, y3, z3⟩ := sumN_N (q := fun i => S.2.2.1.2 4 i != -1 && (decide (nI 0 ≤ S.2.2.1.2 4 i) && decide (S.2.2.1.2 4 i ≤ nI ((q + 1) * 90) - nI 1))) (f := fun i => (S.2.2.1.2 5 i).toInt64) (M := 5000000) S.2.2.1.1 (fun i hi hc => by
    rcases (hg.2.2.1 i hi).2.2.2.2 with h9 | ⟨-, n, -, h2, h3⟩
    · simp [h9] at hc
    · exact ⟨n, h2, by rw [h3, nI_l (by omega)]⟩)
  obtain ⟨x4, y4, z4⟩ := sumL_N (f := fun i => (aWU S.2.2.1 i (nI (3 * q + 2))).toInt64) (M := 5000000) S.2.2.1.1 (fun i hi => by
    obtain ⟨w, h1, h2⟩ := (wu_N hg hi).1 (3 * q + 2) (by omega)
    exact ⟨w, h1, by rw [h2, nI_l (by omega)]⟩)
  refine ⟨x1 + x3, x2 + (a + x4), by omega, by omega, ?_⟩
  rw [show tI S (nI ((q + 1) * 90) - nI 1) S.1.1 = lN x1 from z1, show tD S (nI ((q + 1) * 90) - nI 1) S.1.1 = lN x2 from z2, show tS S.2.2.1 (nI ((q + 1) * 90) - nI 1) S.2.2.1.1 = lN x3 from z3, show tW S.2.2.1 (nI (3 * q + 2)) S.2.2.1.1 = lN x4 from z4, a2, nI_l (by omega), ← lN_add, ← lN_add, ← lN_add]
  grind
def mPT (S : StV) : Nat → Int64
  | 0 => 0
  | n + 1 => sProf S (nI n)
theorem mPT_s {Z : SV} {S : StV} (hg : Rng Z S) : ∀ i, mPT S i + (sProf S (nI i) - sProf S (nI i - nI 1)) = sProf S (nI i)
  | 0 => by rw [sProf_m hg, mPT]; grind
  | n + 1 => by rw [mPT, pk_sub (by omega), Nat.add_sub_cancel]; grind
set_option maxRecDepth 100000 in
set_option maxHeartbeats 400000 in
theorem lp_X8_entriesIn (l : Launch) (D : va_G) (cy : Nat → ClassId) (B : Nat) (od : Nat → Option Nat) {p : Program} {e : Env} {s : State} {m : MethodId} {args : Array Value} {below : List Frame} {meth : Method} {c : Code} {A : AH} {z : Nat} {f : MF} {r : Nat → Int32} {Z : SV} {S : StV} (hm : MdR cy A f r Z S) (hg : Rng Z S) {q : Nat} (hq : q ≤ 3) (X : Cx p s m args meth c D cy B od cX8_entriesIn 5 tX8_entriesIn RX8 (some .long)) : ∀ (k i : Nat), 0 ≤ i → i ≤ S.1.1 → S.1.1 - i < k → G p l e rmX8_entriesIn s m args below meth c D B od 5 tX8_entriesIn (FinQ false D B od (fun v A' z' => v = some (.long (mEn S q S.1.1)) ∧ A' = A ∧ z' = z) (fun _ _ => True) args s below 0 0) 0 0 A z 4 [some (.ref 231), some (.int (nI q)), some (.long (mEn S q i)), none, some (.int (nI i))] [] := by
  obtain ⟨hM, hn, hc, hw, hwb, hz⟩ := id hm
  obtain ⟨c0, ⟨c1, c2, c3, c4, c5⟩, cb, ⟨c16, cr⟩, ⟨c35, ce⟩, ⟨c456, ca⟩, c517, cp⟩ := id hc
  obtain ⟨w1, w2, w3, w4, w5⟩ := id hw
  intro k
  induction k with
  | zero => intro i _ _ h; omega
  | succ k ih =>
    intro i hlo hi hk
    refine g_iload X rfl rfl ?_
    refine g_aload_n X rfl rfl ?_
    refine g_get X rfl flX8_16 (ci := 8) rfl hM rfl ?_
    refine g_bipush X rfl (v := nI 35) (by decide) ?_
    refine g_ialdN X rfl hn (by omega) (by decide) ?_
    rw [c35]
    first | refine g_ic_geN X rfl (by omega) (by omega) (fun h1 => ?_) (fun h1 => ?_) | refine g_icmp_ge X rfl (fun h1 => ?_) (fun h1 => ?_)
    · refine g_lload_n X rfl rfl ?_
      refine g_lret X rfl rfl (Nat.le_refl _) (Nat.le_refl _) ⟨?_, rfl, rfl⟩
      rw [show i = S.1.1 by omega]
    · refine g_aload_n X rfl rfl ?_
      refine g_iload X rfl rfl ?_
      refine g_bipush X rfl (v := nI 90) (by decide) ?_
      refine g_iload_n X rfl rfl ?_
      refine g_imul X rfl ?_
      refine g_bipush X rfl (v := nI 90) (by decide) ?_
      refine g_iload_n X rfl rfl ?_
      refine g_imul X rfl ?_
      refine g_bipush X rfl (v := nI 90) (by decide) ?_
      refine g_iadd X rfl ?_
      refine g_iconst X rfl (v := nI 1) (by decide) ?_
      refine g_isub X rfl ?_
      rw [pk_mul, nI_add, pk_sub (by omega)]
      refine g_rV X rfl lcX8_countsIn lmX8_287 lsX8_countsIn (cr_X8_countsIn l D cy B od hm (by omega)) (ci := 8) hM rfl rfl rfl (Nat.le_of_ble_eq_true rfl) ⟨⟨by decide, by decide⟩, rfl, rfl⟩ ⟨Nat.le_of_ble_eq_true rfl, Nat.le_of_ble_eq_true rfl⟩ ?_
      first | refine g_if_neB X rfl (fun h2 => ?_) (fun h2 => ?_) | refine g_if_ne X rfl (fun h2 => ?_) (fun h2 => ?_)
      · refine g_lload_n X rfl rfl ?_
        refine g_aload_n X rfl rfl ?_
        refine g_iload X rfl rfl ?_
        refine g_iconst X rfl (v := nI 0) (by decide) ?_
        refine g_rV X rfl lcX8_entryPart lmX8_184 lsX8_entryPart (cr_X8_entryPart l D cy B od hm (by omega) (by omega)) (ci := 8) hM rfl rfl rfl (Nat.le_of_ble_eq_true rfl) ⟨⟨by decide, by decide⟩, rfl, rfl⟩ ⟨Nat.le_of_ble_eq_true rfl, Nat.le_of_ble_eq_true rfl⟩ ?_
        refine g_if_ne X rfl (fun h3 => ?_) (fun h3 => ?_)
        · refine g_lconst X rfl (v := 0) (by decide) ?_
          refine g_ladd X rfl ?_
          refine g_lstore_n X rfl (by decide) ?_
          refine g_lload_n X rfl rfl ?_
          refine g_aload_n X rfl rfl ?_
          refine g_iload X rfl rfl ?_
          refine g_rV X rfl lcX8_deductedOf lmX8_291 lsX8_deductedOf (cr_X8_deductedOf l D cy B od hm hg (by omega)) (ci := 8) hM rfl rfl rfl (Nat.le_of_ble_eq_true rfl) ⟨⟨by decide, by decide⟩, rfl, rfl⟩ ⟨Nat.le_of_ble_eq_true rfl, Nat.le_of_ble_eq_true rfl⟩ ?_
          refine g_lsub X rfl ?_
          refine g_lstore_n X rfl (by decide) ?_
          refine g_iinc1 X rfl rfl (by decide) ?_
          refine g_goto X rfl ?_
          have K9 := ih (i + 1) (by omega) (by omega) (by omega)
          first | (rw [show mEn S q (i + 1) = mEn S q i by rw [mEn, if_neg (by simp_all)]] at K9; exact K9) | (rw [show mEn S q (i + 1) = mEn S q i + (S.1.2 2 i).toInt64 - dOf S i by rw [mEn, if_pos (by simp_all), if_pos (by assumption)]] at K9; exact K9) | (rw [show mEn S q (i + 1) = mEn S q i + 0 - dOf S i by rw [mEn, if_pos (by simp_all), if_neg (by assumption)]] at K9; exact K9)
        · refine g_aload_n X rfl rfl ?_
          refine g_iload X rfl rfl ?_
          refine g_iconst X rfl (v := nI 2) (by decide) ?_
          refine g_rV X rfl lcX8_entryPart lmX8_184 lsX8_entryPart (cr_X8_entryPart l D cy B od hm (by omega) (by omega)) (ci := 8) hM rfl rfl rfl (Nat.le_of_ble_eq_true rfl) ⟨⟨by decide, by decide⟩, rfl, rfl⟩ ⟨Nat.le_of_ble_eq_true rfl, Nat.le_of_ble_eq_true rfl⟩ ?_
          refine g_i2l X rfl ?_
          refine g_goto X rfl ?_
          refine g_ladd X rfl ?_
          refine g_lstore_n X rfl (by decide) ?_
          refine g_lload_n X rfl rfl ?_
          refine g_aload_n X rfl rfl ?_
          refine g_iload X rfl rfl ?_
          refine g_rV X rfl lcX8_deductedOf lmX8_291 lsX8_deductedOf (cr_X8_deductedOf l D cy B od hm hg (by omega)) (ci := 8) hM rfl rfl rfl (Nat.le_of_ble_eq_true rfl) ⟨⟨by decide, by decide⟩, rfl, rfl⟩ ⟨Nat.le_of_ble_eq_true rfl, Nat.le_of_ble_eq_true rfl⟩ ?_
          refine g_lsub X rfl ?_
          refine g_lstore_n X rfl (by decide) ?_
          refine g_iinc1 X rfl rfl (by decide) ?_
          refine g_goto X rfl ?_
          have K9 := ih (i + 1) (by omega) (by omega) (by omega)
          first | (rw [show mEn S q (i + 1) = mEn S q i by rw [mEn, if_neg (by simp_all)]] at K9; exact K9) | (rw [show mEn S q (i + 1) = mEn S q i + (S.1.2 2 i).toInt64 - dOf S i by rw [mEn, if_pos (by simp_all), if_pos (by assumption)]] at K9; exact K9) | (rw [show mEn S q (i + 1) = mEn S q i + 0 - dOf S i by rw [mEn, if_pos (by simp_all), if_neg (by assumption)]] at K9; exact K9)
      · refine g_goto X rfl ?_
        refine g_iinc1 X rfl rfl (by decide) ?_
        refine g_goto X rfl ?_
        have K9 := ih (i + 1) (by omega) (by omega) (by omega)
        first | (rw [show mEn S q (i + 1) = mEn S q i by rw [mEn, if_neg (by simp_all)]] at K9; exact K9) | (rw [show mEn S q (i + 1) = mEn S q i + (S.1.2 2 i).toInt64 - dOf S i by rw [mEn, if_pos (by simp_all), if_pos (by assumption)]] at K9; exact K9) | (rw [show mEn S q (i + 1) = mEn S q i + 0 - dOf S i by rw [mEn, if_pos (by simp_all), if_neg (by assumption)]] at K9; exact K9)
set_option maxRecDepth 100000 in
set_option maxHeartbeats 400000 in
theorem cr_X8_entriesIn (l : Launch) (D : va_G) (cy : Nat → ClassId) (B : Nat) (od : Nat → Option Nat) {A : AH} {f : MF} {r : Nat → Int32} {Z : SV} {S : StV} (hm : MdR cy A f r Z S) (hg : Rng Z S) {q : Nat} (hq : q ≤ 3) : CR l D cy B od yX8_entriesIn cX8_entriesIn 5 (some .long) rmX8_entriesIn [.ref 231, .int (nI q)] A (.long (mEn S q S.1.1)) := by
  intro z
  refine CT.of (by decide) tX8_entriesIn okX8_entriesIn (Nat.le_of_ble_eq_true rfl) (q0 := tX8_entriesIn[0]) rfl rfl ?_
  intro p e s m args below meth c X _
  obtain ⟨hM, hn, hc, hw, hwb, hz⟩ := id hm
  obtain ⟨c0, ⟨c1, c2, c3, c4, c5⟩, cb, ⟨c16, cr⟩, ⟨c35, ce⟩, ⟨c456, ca⟩, c517, cp⟩ := id hc
  obtain ⟨w1, w2, w3, w4, w5⟩ := id hw
  refine g_lconst X rfl (v := 0) (by decide) ?_
  refine g_lstore_n X rfl (by decide) ?_
  refine g_iconst X rfl (v := nI 0) (by decide) ?_
  refine g_istore X rfl (by decide) ?_
  exact lp_X8_entriesIn l D cy B od hm hg hq X (S.1.1 + 1) 0 (by omega) (by omega) (by omega)
def mW (As : RV) (n q : Nat) (s9 : Int64) : Nat → Int64
  | 0 => s9
  | j + 1 => mW As n q s9 j - (aWU As n (nI (3 * q + j)) - aWU As n (nI (3 * q + j) - nI 1)).toInt64
set_option maxRecDepth 100000 in
set_option maxHeartbeats 400000 in
theorem lp_X8_assetsIn_in (l : Launch) (D : va_G) (cy : Nat → ClassId) (B : Nat) (od : Nat → Option Nat) {p : Program} {e : Env} {s : State} {m : MethodId} {args : Array Value} {below : List Frame} {meth : Method} {c : Code} {A : AH} {z : Nat} {f : MF} {r : Nat → Int32} {Z : SV} {S : StV} (hm : MdR cy A f r Z S) (hg : Rng Z S) {q i9 : Nat} (hq : q ≤ 3) (hi9 : i9 < S.2.2.1.1) {s9 : Int64} {b9 : Int32} {F : State → Prop} (X : Cx p s m args meth c D cy B od cX8_assetsIn 7 tX8_assetsIn RX8 (some .long)) (K : ∀ u0 u1, G p l e rmX8_assetsIn s m args below meth c D B od 7 tX8_assetsIn F 0 0 A z 4 [some (.ref 231), some (.int (nI q)), some (.long (mW S.2.2.1 i9 q s9 3)), none, some (.int (nI (i9 + 1))), u0, u1] []) : ∀ (k i : Nat), 0 ≤ i → i ≤ 3 → 3 - i < k → G p l e rmX8_assetsIn s m args below meth c D B od 7 tX8_assetsIn F 0 0 A z 42 [some (.ref 231), some (.int (nI q)), some (.long (mW S.2.2.1 i9 q s9 i)), none, some (.int (nI (i9))), some (.int b9), some (.int (nI (3 * q + i)))] [] := by
  obtain ⟨hM, hn, hc, hw, hwb, hz⟩ := id hm
  obtain ⟨c0, ⟨c1, c2, c3, c4, c5⟩, cb, ⟨c16, cr⟩, ⟨c35, ce⟩, ⟨c456, ca⟩, c517, cp⟩ := id hc
  obtain ⟨w1, w2, w3, w4, w5⟩ := id hw
  intro k
  induction k with
  | zero => intro i _ _ h; omega
  | succ k ih =>
    intro i hlo hi hk
    refine g_iload X rfl rfl ?_
    refine g_iconst X rfl (v := nI 3) (by decide) ?_
    refine g_iload_n X rfl rfl ?_
    refine g_imul X rfl ?_
    refine g_iconst X rfl (v := nI 3) (by decide) ?_
    refine g_iadd X rfl ?_
    rw [pk_mul, nI_add]
    first | refine g_ic_geN X rfl (by omega) (by omega) (fun h1 => ?_) (fun h1 => ?_) | refine g_icmp_ge X rfl (fun h1 => ?_) (fun h1 => ?_)
    · refine g_iinc1 X rfl rfl (by decide) ?_
      refine g_goto X rfl ?_
      rw [show mW S.2.2.1 i9 q s9 i = mW S.2.2.1 i9 q s9 3 by rw [show i = 3 by omega]]
      exact K _ _
    · refine g_lload_n X rfl rfl ?_
      refine g_aload_n X rfl rfl ?_
      refine g_iload X rfl rfl ?_
      refine g_iload X rfl rfl ?_
      refine g_rV X rfl lcX8_writtenIn lmX8_294 lsX8_writtenIn (cr_X8_writtenIn l D cy B od hm hg (by omega) (by omega)) (ci := 8) hM rfl rfl rfl (Nat.le_of_ble_eq_true rfl) ⟨⟨by decide, by decide⟩, rfl, rfl⟩ ⟨Nat.le_of_ble_eq_true rfl, Nat.le_of_ble_eq_true rfl⟩ ?_
      refine g_i2l X rfl ?_
      refine g_lsub X rfl ?_
      refine g_lstore_n X rfl (by decide) ?_
      refine g_iinc1 X rfl rfl (by decide) ?_
      refine g_goto X rfl ?_
      have K9 := ih (i + 1) (by omega) (by omega) (by omega)
      rw [mW, show 3 * q + (i + 1) = 3 * q + i + 1 from rfl] at K9
      exact K9
set_option maxRecDepth 100000 in
set_option maxHeartbeats 400000 in
theorem lp_X8_assetsIn (l : Launch) (D : va_G) (cy : Nat → ClassId) (B : Nat) (od : Nat → Option Nat) {p : Program} {e : Env} {s : State} {m : MethodId} {args : Array Value} {below : List Frame} {meth : Method} {c : Code} {A : AH} {z : Nat} {f : MF} {r : Nat → Int32} {Z : SV} {S : StV} (hm : MdR cy A f r Z S) (hg : Rng Z S) {q : Nat} (hq : q ≤ 3) (X : Cx p s m args meth c D cy B od cX8_assetsIn 7 tX8_assetsIn RX8 (some .long)) : ∀ (k i : Nat) (o0 o1 : Option Value), 0 ≤ i → i ≤ S.2.2.1.1 → S.2.2.1.1 - i < k → G p l e rmX8_assetsIn s m args below meth c D B od 7 tX8_assetsIn (FinQ false D B od (fun v A' z' => v = some (.long (mAs S.2.2.1 q S.2.2.1.1)) ∧ A' = A ∧ z' = z) (fun _ _ => True) args s below 0 0) 0 0 A z 4 [some (.ref 231), some (.int (nI q)), some (.long (mAs S.2.2.1 q i)), none, some (.int (nI i)), o0, o1] [] := by
  obtain ⟨hM, hn, hc, hw, hwb, hz⟩ := id hm
  obtain ⟨c0, ⟨c1, c2, c3, c4, c5⟩, cb, ⟨c16, cr⟩, ⟨c35, ce⟩, ⟨c456, ca⟩, c517, cp⟩ := id hc
  obtain ⟨w1, w2, w3, w4, w5⟩ := id hw
  intro k
  induction k with
  | zero => intro i _ _ _ _ h; omega
  | succ k ih =>
    intro i o0 o1 hlo hi hk
    refine g_iload X rfl rfl ?_
    refine g_aload_n X rfl rfl ?_
    refine g_get X rfl flX8_16 (ci := 8) rfl hM rfl ?_
    refine g_sipush X rfl (v := nI 456) (by decide) ?_
    refine g_ialdN X rfl hn (by omega) (by decide) ?_
    rw [c456]
    first | refine g_ic_geN X rfl (by omega) (by omega) (fun h1 => ?_) (fun h1 => ?_) | refine g_icmp_ge X rfl (fun h1 => ?_) (fun h1 => ?_)
    · refine g_lload_n X rfl rfl ?_
      refine g_lret X rfl rfl (Nat.le_refl _) (Nat.le_refl _) ⟨?_, rfl, rfl⟩
      rw [show i = S.2.2.1.1 by omega]
    · refine g_aload_n X rfl rfl ?_
      refine g_iload X rfl rfl ?_
      refine g_rV X rfl lcX8_isSold lmX8_235 lsX8_isSold (cr_X8_isSold l D cy B od hm (by omega)) (ci := 8) hM rfl rfl rfl (Nat.le_of_ble_eq_true rfl) ⟨⟨by decide, by decide⟩, rfl, rfl⟩ ⟨Nat.le_of_ble_eq_true rfl, Nat.le_of_ble_eq_true rfl⟩ ?_
      first | refine g_if_eqB X rfl (fun h2 => ?_) (fun h2 => ?_) | refine g_if_eq X rfl (fun h2 => ?_) (fun h2 => ?_)
      · refine g_iconst X rfl (v := nI 0) (by decide) ?_
        refine g_istore X rfl (by decide) ?_
        refine g_lload_n X rfl rfl ?_
        refine g_iload X rfl rfl ?_
        refine g_if_eq X rfl (fun _ => ?_) (fun h => absurd nI_0 h) 
        refine g_lconst X rfl (v := 0) (by decide) ?_
        refine g_ladd X rfl ?_
        refine g_lstore_n X rfl (by decide) ?_
        refine g_iconst X rfl (v := nI 3) (by decide) ?_
        refine g_iload_n X rfl rfl ?_
        refine g_imul X rfl ?_
        rw [pk_mul]
        refine g_istore X rfl (by decide) ?_
        have K9 := fun u0 u1 => ih (i + 1) u0 u1 (by omega) (by omega) (by omega)
        exact lp_X8_assetsIn_in l D cy B od hm hg hq (i9 := i) (by omega) X (by first | (rw [show mAs S.2.2.1 q (i + 1) = mW S.2.2.1 i q (mAs S.2.2.1 q i + (S.2.2.1.2 5 i).toInt64) 3 by rw [mAs, if_pos (by simp_all)]; rfl] at K9; exact fun u0 u1 => K9 u0 u1) | (rw [show mAs S.2.2.1 q (i + 1) = mW S.2.2.1 i q (mAs S.2.2.1 q i + 0) 3 by rw [mAs, if_neg (by simp_all)]; rfl] at K9; exact fun u0 u1 => K9 u0 u1)) 4 0 (by omega) (by omega) (by omega)
      · refine g_aload_n X rfl rfl ?_
        refine g_iload X rfl rfl ?_
        refine g_iconst X rfl (v := nI 3) (by decide) ?_
        refine g_rV X rfl lcX8_assetPart lmX8_229 lsX8_assetPart (cr_X8_assetPart l D cy B od hm (q := 3) (q2 := 4) (by omega) (by decide) rfl) (ci := 8) hM rfl rfl rfl (Nat.le_of_ble_eq_true rfl) ⟨⟨by decide, by decide⟩, rfl, rfl⟩ ⟨Nat.le_of_ble_eq_true rfl, Nat.le_of_ble_eq_true rfl⟩ ?_
        refine g_bipush X rfl (v := nI 90) (by decide) ?_
        refine g_idiv X rfl (by decide) ?_
        refine g_iload_n X rfl rfl ?_
        refine g_icmp_ne X rfl (fun h3 => ?_) (fun h3 => ?_)
        · refine g_iconst X rfl (v := nI 0) (by decide) ?_
          refine g_istore X rfl (by decide) ?_
          refine g_lload_n X rfl rfl ?_
          refine g_iload X rfl rfl ?_
          refine g_if_eq X rfl (fun _ => ?_) (fun h => absurd nI_0 h) 
          refine g_lconst X rfl (v := 0) (by decide) ?_
          refine g_ladd X rfl ?_
          refine g_lstore_n X rfl (by decide) ?_
          refine g_iconst X rfl (v := nI 3) (by decide) ?_
          refine g_iload_n X rfl rfl ?_
          refine g_imul X rfl ?_
          rw [pk_mul]
          refine g_istore X rfl (by decide) ?_
          have K9 := fun u0 u1 => ih (i + 1) u0 u1 (by omega) (by omega) (by omega)
          exact lp_X8_assetsIn_in l D cy B od hm hg hq (i9 := i) (by omega) X (by first | (rw [show mAs S.2.2.1 q (i + 1) = mW S.2.2.1 i q (mAs S.2.2.1 q i + (S.2.2.1.2 5 i).toInt64) 3 by rw [mAs, if_pos (by simp_all)]; rfl] at K9; exact fun u0 u1 => K9 u0 u1) | (rw [show mAs S.2.2.1 q (i + 1) = mW S.2.2.1 i q (mAs S.2.2.1 q i + 0) 3 by rw [mAs, if_neg (by simp_all)]; rfl] at K9; exact fun u0 u1 => K9 u0 u1)) 4 0 (by omega) (by omega) (by omega)
        · refine g_iconst X rfl (v := nI 1) (by decide) ?_
          refine g_goto X rfl ?_
          refine g_istore X rfl (by decide) ?_
          refine g_lload_n X rfl rfl ?_
          refine g_iload X rfl rfl ?_
          refine g_if_eq X rfl (fun h => absurd h n10) (fun _ => ?_)
          refine g_aload_n X rfl rfl ?_
          refine g_iload X rfl rfl ?_
          refine g_iconst X rfl (v := nI 4) (by decide) ?_
          refine g_rV X rfl lcX8_assetPart lmX8_229 lsX8_assetPart (cr_X8_assetPart l D cy B od hm (q := 4) (q2 := 5) (by omega) (by decide) rfl) (ci := 8) hM rfl rfl rfl (Nat.le_of_ble_eq_true rfl) ⟨⟨by decide, by decide⟩, rfl, rfl⟩ ⟨Nat.le_of_ble_eq_true rfl, Nat.le_of_ble_eq_true rfl⟩ ?_
          refine g_i2l X rfl ?_
          refine g_goto X rfl ?_
          refine g_ladd X rfl ?_
          refine g_lstore_n X rfl (by decide) ?_
          refine g_iconst X rfl (v := nI 3) (by decide) ?_
          refine g_iload_n X rfl rfl ?_
          refine g_imul X rfl ?_
          rw [pk_mul]
          refine g_istore X rfl (by decide) ?_
          have K9 := fun u0 u1 => ih (i + 1) u0 u1 (by omega) (by omega) (by omega)
          exact lp_X8_assetsIn_in l D cy B od hm hg hq (i9 := i) (by omega) X (by first | (rw [show mAs S.2.2.1 q (i + 1) = mW S.2.2.1 i q (mAs S.2.2.1 q i + (S.2.2.1.2 5 i).toInt64) 3 by rw [mAs, if_pos (by simp_all)]; rfl] at K9; exact fun u0 u1 => K9 u0 u1) | (rw [show mAs S.2.2.1 q (i + 1) = mW S.2.2.1 i q (mAs S.2.2.1 q i + 0) 3 by rw [mAs, if_neg (by simp_all)]; rfl] at K9; exact fun u0 u1 => K9 u0 u1)) 4 0 (by omega) (by omega) (by omega)
set_option maxRecDepth 100000 in
set_option maxHeartbeats 400000 in
theorem cr_X8_assetsIn (l : Launch) (D : va_G) (cy : Nat → ClassId) (B : Nat) (od : Nat → Option Nat) {A : AH} {f : MF} {r : Nat → Int32} {Z : SV} {S : StV} (hm : MdR cy A f r Z S) (hg : Rng Z S) {q : Nat} (hq : q ≤ 3) : CR l D cy B od yX8_assetsIn cX8_assetsIn 7 (some .long) rmX8_assetsIn [.ref 231, .int (nI q)] A (.long (mAs S.2.2.1 q S.2.2.1.1)) := by
  intro z
  refine CT.of (by decide) tX8_assetsIn okX8_assetsIn (Nat.le_of_ble_eq_true rfl) (q0 := tX8_assetsIn[0]) rfl rfl ?_
  intro p e s m args below meth c X _
  obtain ⟨hM, hn, hc, hw, hwb, hz⟩ := id hm
  obtain ⟨c0, ⟨c1, c2, c3, c4, c5⟩, cb, ⟨c16, cr⟩, ⟨c35, ce⟩, ⟨c456, ca⟩, c517, cp⟩ := id hc
  obtain ⟨w1, w2, w3, w4, w5⟩ := id hw
  refine g_lconst X rfl (v := 0) (by decide) ?_
  refine g_lstore_n X rfl (by decide) ?_
  refine g_iconst X rfl (v := nI 0) (by decide) ?_
  refine g_istore X rfl (by decide) ?_
  exact lp_X8_assetsIn l D cy B od hm hg hq X (S.2.2.1.1 + 1) 0 _ _ (by omega) (by omega) (by omega)
set_option maxRecDepth 100000 in
set_option maxHeartbeats 400000 in
theorem cr_X8_profitOf (l : Launch) (D : va_G) (cy : Nat → ClassId) (B : Nat) (od : Nat → Option Nat) {A : AH} {f : MF} {r : Nat → Int32} {Z : SV} {S : StV} (hm : MdR cy A f r Z S) (hg : Rng Z S) {q : Nat} (hq : q ≤ 3) : CR l D cy B od yX8_profitOf cX8_profitOf 2 (some .long) rmX8_profitOf [.ref 231, .int (nI q)] A (.long (sProf S (nI q) - sProf S (nI q - nI 1))) := by
  intro z
  refine CT.of (by decide) tX8_profitOf okX8_profitOf (Nat.le_of_ble_eq_true rfl) (q0 := tX8_profitOf[0]) rfl rfl ?_
  intro p e s m args below meth c X _
  obtain ⟨hM, hn, hc, hw, hwb, hz⟩ := id hm
  obtain ⟨c0, ⟨c1, c2, c3, c4, c5⟩, cb, ⟨c16, cr⟩, ⟨c35, ce⟩, ⟨c456, ca⟩, c517, cp⟩ := id hc
  obtain ⟨w1, w2, w3, w4, w5⟩ := id hw
  refine g_aload_n X rfl rfl ?_
  refine g_iload_n X rfl rfl ?_
  refine g_rV X rfl lcX8_entriesIn lmX8_297 lsX8_entriesIn (cr_X8_entriesIn l D cy B od hm hg hq) (ci := 8) hM rfl rfl rfl (Nat.le_of_ble_eq_true rfl) ⟨⟨by decide, by decide⟩, rfl, rfl⟩ ⟨Nat.le_of_ble_eq_true rfl, Nat.le_of_ble_eq_true rfl⟩ ?_
  refine g_aload_n X rfl rfl ?_
  refine g_iload_n X rfl rfl ?_
  refine g_rV X rfl lcX8_assetsIn lmX8_300 lsX8_assetsIn (cr_X8_assetsIn l D cy B od hm hg hq) (ci := 8) hM rfl rfl rfl (Nat.le_of_ble_eq_true rfl) ⟨⟨by decide, by decide⟩, rfl, rfl⟩ ⟨Nat.le_of_ble_eq_true rfl, Nat.le_of_ble_eq_true rfl⟩ ?_
  refine g_ladd X rfl ?_
  refine g_aload_n X rfl rfl ?_
  refine g_iload_n X rfl rfl ?_
  refine g_rV X rfl lcX8_poolOff lmX8_303 lsX8_poolOff (cr_X8_poolOff l D cy B od hm hg hq) (ci := 8) hM rfl rfl rfl (Nat.le_of_ble_eq_true rfl) ⟨⟨by decide, by decide⟩, rfl, rfl⟩ ⟨Nat.le_of_ble_eq_true rfl, Nat.le_of_ble_eq_true rfl⟩ ?_
  refine g_i2l X rfl ?_
  refine g_lsub X rfl ?_
  refine g_lret X rfl rfl (Nat.le_refl _) (Nat.le_refl _) ⟨?_, rfl, rfl⟩
  rw [prof_q hg hw hq]
set_option maxRecDepth 100000 in
set_option maxHeartbeats 400000 in
theorem lp_X8_profitsTo (l : Launch) (D : va_G) (cy : Nat → ClassId) (B : Nat) (od : Nat → Option Nat) {p : Program} {e : Env} {s : State} {m : MethodId} {args : Array Value} {below : List Frame} {meth : Method} {c : Code} {A : AH} {z : Nat} {f : MF} {r : Nat → Int32} {Z : SV} {S : StV} (hm : MdR cy A f r Z S) (hg : Rng Z S) {q : Nat} (hq : q ≤ 3) (X : Cx p s m args meth c D cy B od cX8_profitsTo 5 tX8_profitsTo RX8 (some .long)) : ∀ (k i : Nat), 0 ≤ i → i ≤ (q + 1) → (q + 1) - i < k → G p l e rmX8_profitsTo s m args below meth c D B od 5 tX8_profitsTo (FinQ false D B od (fun v A' z' => v = some (.long (sProf S (nI q))) ∧ A' = A ∧ z' = z) (fun _ _ => True) args s below 0 0) 0 0 A z 4 [some (.ref 231), some (.int (nI q)), some (.long (mPT S i)), none, some (.int (nI i))] [] := by
  obtain ⟨hM, hn, hc, hw, hwb, hz⟩ := id hm
  obtain ⟨c0, ⟨c1, c2, c3, c4, c5⟩, cb, ⟨c16, cr⟩, ⟨c35, ce⟩, ⟨c456, ca⟩, c517, cp⟩ := id hc
  obtain ⟨w1, w2, w3, w4, w5⟩ := id hw
  intro k
  induction k with
  | zero => intro i _ _ h; omega
  | succ k ih =>
    intro i hlo hi hk
    refine g_iload X rfl rfl ?_
    refine g_iload_n X rfl rfl ?_
    first | refine g_ic_gtN X rfl (by omega) (by omega) (fun h1 => ?_) (fun h1 => ?_) | refine g_icmp_gt X rfl (fun h1 => ?_) (fun h1 => ?_)
    · refine g_lload_n X rfl rfl ?_
      refine g_lret X rfl rfl (Nat.le_refl _) (Nat.le_refl _) ⟨?_, rfl, rfl⟩
      rw [show i = q + 1 by omega]; rfl
    · refine g_lload_n X rfl rfl ?_
      refine g_aload_n X rfl rfl ?_
      refine g_iload X rfl rfl ?_
      refine g_rV X rfl lcX8_profitOf lmX8_306 lsX8_profitOf (cr_X8_profitOf l D cy B od hm hg (by omega)) (ci := 8) hM rfl rfl rfl (Nat.le_of_ble_eq_true rfl) ⟨⟨by decide, by decide⟩, rfl, rfl⟩ ⟨Nat.le_of_ble_eq_true rfl, Nat.le_of_ble_eq_true rfl⟩ ?_
      refine g_ladd X rfl ?_
      refine g_lstore_n X rfl (by decide) ?_
      refine g_iinc1 X rfl rfl (by decide) ?_
      refine g_goto X rfl ?_
      have K9 := ih (i + 1) (by omega) (by omega) (by omega)
      rw [show mPT S (i + 1) = mPT S i + (sProf S (nI i) - sProf S (nI i - nI 1)) from (mPT_s hg i).symm] at K9; exact K9
set_option maxRecDepth 100000 in
set_option maxHeartbeats 400000 in
theorem cr_X8_profitsTo (l : Launch) (D : va_G) (cy : Nat → ClassId) (B : Nat) (od : Nat → Option Nat) {A : AH} {f : MF} {r : Nat → Int32} {Z : SV} {S : StV} (hm : MdR cy A f r Z S) (hg : Rng Z S) {q : Nat} (hq : q ≤ 3) : CR l D cy B od yX8_profitsTo cX8_profitsTo 5 (some .long) rmX8_profitsTo [.ref 231, .int (nI q)] A (.long (sProf S (nI q))) := by
  intro z
  refine CT.of (by decide) tX8_profitsTo okX8_profitsTo (Nat.le_of_ble_eq_true rfl) (q0 := tX8_profitsTo[0]) rfl rfl ?_
  intro p e s m args below meth c X _
  obtain ⟨hM, hn, hc, hw, hwb, hz⟩ := id hm
  obtain ⟨c0, ⟨c1, c2, c3, c4, c5⟩, cb, ⟨c16, cr⟩, ⟨c35, ce⟩, ⟨c456, ca⟩, c517, cp⟩ := id hc
  obtain ⟨w1, w2, w3, w4, w5⟩ := id hw
  refine g_lconst X rfl (v := 0) (by decide) ?_
  refine g_lstore_n X rfl (by decide) ?_
  refine g_iconst X rfl (v := nI 0) (by decide) ?_
  refine g_istore X rfl (by decide) ?_
  exact lp_X8_profitsTo l D cy B od hm hg hq X ((q + 1) + 1) 0 (by omega) (by omega) (by omega)
set_option maxRecDepth 100000 in
set_option maxHeartbeats 400000 in
theorem cr_X8_yearProfit (l : Launch) (D : va_G) (cy : Nat → ClassId) (B : Nat) (od : Nat → Option Nat) {A : AH} {f : MF} {r : Nat → Int32} {Z : SV} {S : StV} (hm : MdR cy A f r Z S) (hg : Rng Z S)  : CR l D cy B od yX8_yearProfit cX8_yearProfit 1 (some .long) rmX8_yearProfit [.ref 231] A (.long (sProf S (nI 3))) := by
  intro z
  refine CT.of (by decide) tX8_yearProfit okX8_yearProfit (Nat.le_of_ble_eq_true rfl) (q0 := tX8_yearProfit[0]) rfl rfl ?_
  intro p e s m args below meth c X _
  obtain ⟨hM, hn, hc, hw, hwb, hz⟩ := id hm
  obtain ⟨c0, ⟨c1, c2, c3, c4, c5⟩, cb, ⟨c16, cr⟩, ⟨c35, ce⟩, ⟨c456, ca⟩, c517, cp⟩ := id hc
  obtain ⟨w1, w2, w3, w4, w5⟩ := id hw
  refine g_aload_n X rfl rfl ?_
  refine g_iconst X rfl (v := nI 3) (by decide) ?_
  refine g_rV X rfl lcX8_profitsTo lmX8_309 lsX8_profitsTo (cr_X8_profitsTo l D cy B od hm hg (by omega)) (ci := 8) hM rfl rfl rfl (Nat.le_of_ble_eq_true rfl) ⟨⟨by decide, by decide⟩, rfl, rfl⟩ ⟨Nat.le_of_ble_eq_true rfl, Nat.le_of_ble_eq_true rfl⟩ ?_
  refine g_lret X rfl rfl (Nat.le_refl _) (Nat.le_refl _) ⟨?_, rfl, rfl⟩
  rfl
