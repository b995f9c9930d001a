/-! 42: the reference: shares, needed income, days -/
theorem gcd_step {a b : Nat} (hb : 0 < b) : Nat.gcd b (a % b) = Nat.gcd a b := by
  rw [Nat.gcd_comm b, ← Nat.gcd_rec, Nat.gcd_comm]
theorem gcF_N : ∀ k a b, a < 2 ^ 31 → b < 2 ^ 31 → b < 2 ^ k → ∀ m, 2 * k + 1 ≤ m → gcF m (nI a) (nI b) = nI (Nat.gcd a b)
  | 0, a, b, ha, hb, hk, m, hm => by
    obtain ⟨m, rfl⟩ : ∃ j, m = j + 1 := ⟨m - 1, by omega⟩
    have : b = 0 := by simpa using hk
    subst this
    rw [gcF, if_pos (by decide), Nat.gcd_zero_right]
  | k + 1, a, b, ha, hb, hk, m, hm => by
    obtain ⟨m, rfl⟩ : ∃ j, m = j + 1 + 1 := ⟨m - 2, by omega⟩
    by_cases h0 : b = 0
    · subst h0; rw [gcF, if_pos (by decide), Nat.gcd_zero_right]
    · have hr : a % b < b := Nat.mod_lt _ (by omega)
      rw [gcF, if_neg (fun q => h0 ((nI_eq0 hb).mp q)), pk_rem ha (by omega) hb, ← gcd_step (a := a) (b := b) (by omega)]
      by_cases h1 : a % b = 0
      · rw [h1, gcF, if_pos (by decide), Nat.gcd_zero_right]
      · have hr2 : b % (a % b) < a % b := Nat.mod_lt _ (by omega)
        have hr3 : b % (a % b) ≤ b - a % b := by rw [Nat.mod_eq_sub_mod (by omega)]; exact Nat.mod_le _ _
        have hk2 : 2 ^ (k + 1) = 2 * 2 ^ k := by rw [Nat.pow_succ]; omega
        rw [gcF, if_neg (fun q => h1 ((nI_eq0 (by omega)).mp q)), pk_rem hb (by omega) (by omega), ← gcd_step (a := b) (b := a % b) (by omega)]
        exact gcF_N k _ _ (by omega) (by omega) (by omega) m (by omega)
set_option maxRecDepth 100000 in
set_option maxHeartbeats 400000 in
theorem lp_X8_common (l : Launch) (D : va_G) (cy : Nat → ClassId) (B : Nat) (od : Nat → Option Nat) {p : Program} {e : Env} {s : State} {m : MethodId} {args : Array Value} {below : List Frame} {meth : Method} {c : Code} {A : AH} {z : Nat} {g M : Nat} (hM : M < 2 ^ 31) (X : Cx p s m args meth c D cy B od cX8_common 5 tX8_common RX8 (some .int)) : ∀ (k i : Nat) (x0 x1 : Int32) (o2 : Option Value) (a : Nat) (_ : a < 2 ^ 31) (_ : Nat.gcd a (M - i) = g), 0 ≤ i → i ≤ M → M - i < k → G p l e rmX8_common s m args below meth c D B od 5 tX8_common (FinQ false D B od (fun v A' z' => z' = z ∧ (fun v A' => v = some (.int (nI g)) ∧ A' = A) v A') (fun _ _ => True) args s below rmX8_common.cells rmX8_common.slots) 0 0 A z 4 [some (.int x0), some (.int x1), some (.int (nI a)), some (.int (nI (M - i))), o2] [] := by
  intro k
  induction k with
  | zero => intro i _ _ _ _ _ _ _ _ h; omega
  | succ k ih =>
    intro i x0 x1 o2 a ha hgc hlo hi hk
    refine g_iload_n X rfl rfl ?_
    refine g_if_eq X rfl (fun h1 => ?_) (fun h1 => ?_)
    · rw [nI_eq0 (by omega)] at h1
      refine g_iload_n X rfl rfl ?_
      refine g_iret X rfl rfl (by first | rfl | exact bI_nar _ | decide) (Nat.le_of_ble_eq_true rfl) (Nat.le_of_ble_eq_true rfl) ⟨rfl, ?_⟩
      rw [← hgc, show M - i = 0 by omega, Nat.gcd_zero_right]; exact ⟨rfl, rfl⟩
    · rw [nI_eq0 (by omega)] at h1
      refine g_iload_n X rfl rfl ?_
      refine g_iload_n X rfl rfl ?_
      refine g_irem X rfl (fun q => h1 ((nI_eq0 (by omega)).mp q)) ?_
      rw [pk_rem (by omega) (by omega) (by omega)]
      refine g_istore X rfl (by decide) ?_
      refine g_iload_n X rfl rfl ?_
      refine g_istore_n X rfl (by decide) ?_
      refine g_iload X rfl rfl ?_
      refine g_istore_n X rfl (by decide) ?_
      refine g_goto X rfl ?_
      have hr : a % (M - i) < M - i := Nat.mod_lt _ (by omega)
      have K9 := ih (M - a % (M - i)) x0 x1 (some (.int (nI (a % (M - i))))) (M - i) (by omega) (by rw [Nat.sub_sub_self (by omega), gcd_step (by omega)]; exact hgc) (by omega) (by omega) (by omega)
      rw [Nat.sub_sub_self (by omega)] at K9
      exact K9
set_option maxRecDepth 100000 in
set_option maxHeartbeats 400000 in
theorem cm_X8_common (l : Launch) (D : va_G) (cy : Nat → ClassId) (B : Nat) (od : Nat → Option Nat) {A : AH} {a b : Nat} (ha : a < 2 ^ 31) (hb : b < 2 ^ 31) : CM l D cy B od yX8_common cX8_common 5 (some .int) rmX8_common [.int (nI a), .int (nI b)] A (fun v A' => v = some (.int (nI (Nat.gcd a b))) ∧ A' = A) := by
  intro z
  refine CT.of (by decide) tX8_common okX8_common (Nat.le_of_ble_eq_true rfl) (q0 := tX8_common[0]) rfl rfl ?_
  intro p e s m args below meth c X _
  refine g_iload_n X rfl rfl ?_
  refine g_istore_n X rfl (by decide) ?_
  refine g_iload_n X rfl rfl ?_
  refine g_istore_n X rfl (by decide) ?_
  exact lp_X8_common l D cy B od (g := Nat.gcd a b) (M := b) hb X (b + 1) 0 _ _ _ a ha (by rw [Nat.sub_zero]) (by omega) (by omega) (by omega)
theorem share_oc {Z : SV} {S : StV} (hg : Rng Z S) (hw : WfS S) {i : Nat} (hi : i ≤ 11) {b9 : Int32} : ∃ u d, u ≤ 90000 ∧ 0 < d ∧ d ≤ 90000 ∧ rUsed S.2.1 (nI i) = nI u ∧ (if S.2.1.1 = 0 then nI 1 else rWhole S.2.1) = nI d ∧ 0 < Nat.gcd u d ∧ ocShare (V9 Z S) (nI i) b9 = .inr (.int ((if b9 = 0 then nI u else nI d) / nI (Nat.gcd u d))) := by
  obtain ⟨w, g1, g2, g3, g4, g5, g6⟩ := rooms_N hg hw
  obtain ⟨u, u1, u2⟩ := g6 i hi
  have hin : within9 (nI i) (nI 0) (nI 11) = true := by
    unfold within9
    rw [Bool.and_eq_true, decide_eq_true_eq, decide_eq_true_eq]
    exact ⟨nI_le (by omega) (by omega), nI_le (by omega) (by omega)⟩
  have hS : ocShare (V9 Z S) (nI i) b9 = if nI u = 0 ∨ gcF 100 (nI u) (nI (30 * w)) = 0 then .inr (.int (if b9 = 0 then nI 0 else nI 1)) else .inr (.int ((if b9 = 0 then nI u else nI (30 * w)) / gcF 100 (nI u) (nI (30 * w)))) := by
    unfold ocShare
    rw [if_pos hin]
    show (if rUsed S.2.1 (nI i) = 0 ∨ gcF 100 (rUsed S.2.1 (nI i)) (rWhole S.2.1) = 0 then _ else Sum.inr (Value.int ((if b9 = 0 then rUsed S.2.1 (nI i) else rWhole S.2.1) / gcF 100 (rUsed S.2.1 (nI i)) (rWhole S.2.1)))) = _
    rw [u2, g5]
  by_cases h0 : S.2.1.1 = 0
  · have hw0 := g3 h0
    subst hw0
    have hu : u = 0 := by omega
    subst hu
    refine ⟨0, 1, by decide, by decide, by decide, u2, by rw [if_pos h0], by decide, ?_⟩
    rw [hS, if_pos (Or.inl (by decide))]
    split <;> congr 1
  · have hd : 0 < 30 * w := by omega
    refine ⟨u, 30 * w, by omega, hd, by omega, u2, by rw [if_neg h0, g5], Nat.gcd_pos_of_pos_right _ hd, ?_⟩
    rw [hS, gcF_N 17 u (30 * w) (by omega) (by omega) (by omega) 100 (by decide)]
    have hle : Nat.gcd u (30 * w) ≤ 30 * w := Nat.gcd_le_right _ hd
    have hgp : 0 < Nat.gcd u (30 * w) := Nat.gcd_pos_of_pos_right _ hd
    by_cases hu : u = 0
    · subst hu
      rw [if_pos (Or.inl (by decide)), Nat.gcd_zero_left]
      split
      · rw [pk_div (by decide) hd (by omega), Nat.zero_div]
      · rw [pk_div (by omega) hd (by omega), Nat.div_self hd]
    · rw [if_neg]
      rw [nI_eq0 (by omega), nI_eq0 (by omega)]
      omega
set_option maxRecDepth 100000 in
set_option maxHeartbeats 400000 in
theorem cm_X8_share (l : Launch) (D : va_G) (cy : Nat → ClassId) (B : Nat) (od : Nat → Option Nat) {A : AH} {f : MF} {r : Nat → Int32} {Z : SV} {S : StV} (hm : MdR cy A f r Z S) (hg : Rng Z S) (hgz : RngZ Z) {mo b9 : Int32} : CM l D cy B od yX8_share cX8_share 6 (some .int) rmX8_share [.ref 231, .int mo, .int b9] A (fun v A' => v = some (mV (.int (nI 0)) (ocShare (V9 Z S) mo b9)) ∧ A' = upA A 231 (moE (nI (cX [eIAE] (ocShare (V9 Z S) mo b9)), f.2))) := by
  intro z
  refine CT.of (by decide) tX8_share okX8_share (Nat.le_of_ble_eq_true rfl) (q0 := tX8_share[0]) rfl rfl ?_
  intro p e s m args below meth c X _
  have hM := hm.1
  refine g_aload_n X rfl rfl ?_
  refine g_iconst X rfl (v := nI 0) (by decide) ?_
  refine g_put X rfl flX8_41 rfl (ci := 8) rfl (by (repeat (first | exact hM | exact upA_eq | refine (upA_ne (by omega)).trans ?_))) (Nat.le_of_ble_eq_true rfl) (by first | rfl | exact bI_nar _) (by first | rfl | decide) ?_
  refine G.cast (A2 := upA A 231 (moE (nI 0, f.2))) rfl ?_
  obtain ⟨A1, hA1⟩ : ∃ A1, A1 = upA A 231 (moE (nI 0, f.2)) := ⟨_, rfl⟩
  refine G.cast (A2 := A1) hA1.symm ?_
  have hm := hm.thr (nI 0)
  rw [← hA1] at hm
  obtain ⟨hM, hn, hc, hw, hwb, hz⟩ := id hm
  obtain ⟨c0, ⟨c1, c2, c3, c4, c5⟩, cb, ⟨c16, cr⟩, ⟨c35, ce⟩, ⟨c456, ca⟩, c517, cp⟩ := id hc
  obtain ⟨w1, w2, w3, w4, w5⟩ := id hw
  refine g_aload_n X rfl rfl ?_
  refine g_iload_n X rfl rfl ?_
  refine g_rS X rfl lcX8_isMonth lmX8_348 stX8_isMonth (cr_X8_isMonth l D cy B od) rfl rfl (Nat.le_of_ble_eq_true rfl) ⟨⟨by decide, by decide⟩, rfl, rfl⟩ ⟨Nat.le_of_ble_eq_true rfl, Nat.le_of_ble_eq_true rfl⟩ ?_
  refine g_iconst X rfl (v := nI 1) (by decide) ?_
  refine g_mV X rfl lcX8_fails lmX8_52 lsX8_fails (cm_X8_failsB l D cy B od (by (repeat (first | exact hM | exact upA_eq | refine (upA_ne (by omega)).trans ?_)))) (ci := 8) (by (repeat (first | exact hM | exact upA_eq | refine (upA_ne (by omega)).trans ?_))) rfl rfl rfl (Nat.le_of_ble_eq_true rfl) ⟨⟨by decide, by decide⟩, rfl, rfl⟩ ⟨Nat.le_of_ble_eq_true rfl, Nat.le_of_ble_eq_true rfl⟩ (fun v1 A1 q1 => ?_)
  rcases q1 with ⟨h1, rfl, rfl⟩ | ⟨h1, rfl, rfl⟩
  · obtain ⟨i9, hi9, e9⟩ := wi_of h1 (by decide)
    subst e9
    have hcl := nI_clamp (n := i9) (by omega)
    obtain ⟨u9, d9, hu9, hd0, hd9, hru, hrd, hgp, hoc⟩ := share_oc (b9 := b9) hg hw hi9
    refine g_if_eq X rfl (fun _ => ?_) (fun h => absurd nI_0 h) 
    refine g_aload_n X rfl rfl ?_
    refine g_iload_n X rfl rfl ?_
    refine g_rV X rfl lcX8_shareAbove lmX8_259 lsX8_shareAbove (cr_X8_shareAbove l D cy B od hm hg (by omega)) (ci := 8) (by (repeat (first | exact hM | exact upA_eq | refine (upA_ne (by omega)).trans ?_))) rfl rfl rfl (Nat.le_of_ble_eq_true rfl) ⟨⟨by decide, by decide⟩, rfl, rfl⟩ ⟨Nat.le_of_ble_eq_true rfl, Nat.le_of_ble_eq_true rfl⟩ ?_
    rw [hru]
    refine g_istore_n X rfl (by decide) ?_
    refine g_aload_n X rfl rfl ?_
    refine g_rV X rfl lcX8_shareBelow lmX8_262 lsX8_shareBelow (cr_X8_shareBelow l D cy B od hm hg) (ci := 8) (by (repeat (first | exact hM | exact upA_eq | refine (upA_ne (by omega)).trans ?_))) rfl rfl rfl (Nat.le_of_ble_eq_true rfl) ⟨⟨by decide, by decide⟩, rfl, rfl⟩ ⟨Nat.le_of_ble_eq_true rfl, Nat.le_of_ble_eq_true rfl⟩ ?_
    rw [hrd]
    refine g_istore X rfl (by decide) ?_
    refine g_iload_n X rfl rfl ?_
    refine g_iload X rfl rfl ?_
    refine g_mS X rfl lcX8_common lmX8_351 stX8_common (cm_X8_common l D cy B od (by omega) (by omega)) rfl rfl (Nat.le_of_ble_eq_true rfl) ⟨⟨by decide, by decide⟩, rfl, rfl⟩ ⟨Nat.le_of_ble_eq_true rfl, Nat.le_of_ble_eq_true rfl⟩ (fun v2 A2 q2 => ?_)
    obtain ⟨rfl, rfl⟩ := q2
    refine g_istore X rfl (by decide) ?_
    refine g_iload_n X rfl rfl ?_
    refine g_if_eq X rfl (fun h3 => ?_) (fun h3 => ?_)
    · refine g_iload_n X rfl rfl ?_
      refine g_iload X rfl rfl ?_
      refine g_idiv X rfl (fun q => absurd ((nI_eq0 (by have := Nat.gcd_le_right u9 hd0; omega)).mp q) (by omega)) ?_
      refine g_iret X rfl rfl (by first | rfl | exact bI_nar _ | decide) (Nat.le_of_ble_eq_true rfl) (Nat.le_of_ble_eq_true rfl) ⟨rfl, ?_⟩
      first | exact mR0 (by rw [hoc, if_pos (by assumption)]) hA1 | exact mR0 (by rw [hoc, if_neg (by assumption)]) hA1
    · refine g_iload X rfl rfl ?_
      refine g_goto X rfl ?_
      refine g_iload X rfl rfl ?_
      refine g_idiv X rfl (fun q => absurd ((nI_eq0 (by have := Nat.gcd_le_right u9 hd0; omega)).mp q) (by omega)) ?_
      refine g_iret X rfl rfl (by first | rfl | exact bI_nar _ | decide) (Nat.le_of_ble_eq_true rfl) (Nat.le_of_ble_eq_true rfl) ⟨rfl, ?_⟩
      first | exact mR0 (by rw [hoc, if_pos (by assumption)]) hA1 | exact mR0 (by rw [hoc, if_neg (by assumption)]) hA1
  · refine g_if_eq X rfl (fun h => absurd h n10) (fun _ => ?_)
    refine g_iconst X rfl (v := nI 0) (by decide) ?_
    refine g_iret X rfl rfl (by first | rfl | exact bI_nar _ | decide) (Nat.le_of_ble_eq_true rfl) (Nat.le_of_ble_eq_true rfl) ⟨rfl, ?_⟩
    exact mRx (E := eIAE) (by first | (simp_all [ocShare, nI_eq, vS, vZ, V9]; done) | (simp_all [ocShare, nI_eq, vS, vZ, V9, nI_0, n10]; done) | (simp_all [ocShare, nI_eq, vS, vZ, V9, nI_0, n10, ← Int32.not_le]; done) | (simp_all [ocShare, nI_eq, vS, vZ, V9, ← Int64.not_le]; done) | (simp_all [ocShare, nI_eq, vS, vZ, V9, nI_0, n10, ← Int64.not_le, ← Int32.not_le]; done)) (by decide) hA1
theorem bd_add {x y : Int64} (hx : -(2 ^ 31) ≤ x.toInt ∧ x.toInt ≤ 2 ^ 31) (hy : -(2 ^ 31) ≤ y.toInt ∧ y.toInt ≤ 2 ^ 31) : -(2 ^ 62) ≤ (x + y).toInt := by
  rw [Int64.toInt_add, Int.bmod_eq_of_le (by omega) (by omega)]
  omega
theorem bd_i {x : Int32} : -(2 ^ 31) ≤ x.toInt64.toInt ∧ x.toInt64.toInt ≤ 2 ^ 31 := by
  rw [Int32.toInt_toInt64]
  have := Int32.le_toInt x
  have := Int32.toInt_lt x
  omega
theorem bd_n {x : Nat} (h : x ≤ 10000000) : -(2 ^ 31) ≤ (-lN x).toInt ∧ (-lN x).toInt ≤ 2 ^ 31 := by
  rw [show -lN x = lN 0 - lN x by rw [show lN 0 = 0 from rfl]; grind, Int64.toInt_sub, pk_lT (by omega), pk_lT (by omega), Int.bmod_eq_of_le (by omega) (by omega)]
  omega
theorem bd_pf {Z : SV} {S : StV} (hg : Rng Z S) (hw : WfS S) : -(2 ^ 31) ≤ (sProf S (nI 3)).toInt ∧ (sProf S (nI 3)).toInt ≤ 2 ^ 31 := by
  obtain ⟨a, c, ha, hc, e⟩ := sProf_N hg hw (q := 3) (by decide)
  rw [e]; exact pf_bd ha hc
theorem left_eq {Z : SV} {S : StV} {x : Int32} {pf : Int64} : x.toInt64 - sTax Z (pf + x.toInt64) + sTax Z pf = sLeft (V9 Z S) x pf := by
  unfold sLeft sAdd
  show _ = x.toInt64 - (sTax Z (pf + x.toInt64) - sTax Z pf)
  grind
theorem niL_gap {V : LV} {net : Int32} : ∀ k, k ≤ 27 → ∃ a b, niL V net k = (nI a, nI b) ∧ a < b ∧ b ≤ 100000000 ∧ b - a ≤ 2 ^ (27 - k)
  | 0, _ => ⟨0, 100000000, rfl, by decide, by decide, by decide⟩
  | k + 1, h => by
    obtain ⟨a, b, e, h1, h2, h3⟩ := niL_gap (V := V) (net := net) k (by omega)
    have hp : 2 ^ (27 - k) = 2 * 2 ^ (27 - (k + 1)) := by rw [show 27 - k = 27 - (k + 1) + 1 by omega, Nat.pow_succ]; omega
    have h1p : 0 < 2 ^ (27 - (k + 1)) := Nat.two_pow_pos _
    have hle : (nI b - nI a ≤ nI 1) = (b - a ≤ 1) := by rw [pk_sub (by omega)]; exact propext (nI_leI (by omega) (by omega))
    have hm : (nI a + nI b) / nI 2 = nI ((a + b) / 2) := by rw [nI_add, pk_div (by omega) (by decide) (by decide)]
    rw [niL, e]
    show ∃ a' b', (if nI b - nI a ≤ nI 1 then (nI a, nI b) else if sLeft V ((nI a + nI b) / nI 2) (sYP V) < net.toInt64 then ((nI a + nI b) / nI 2, nI b) else (nI a, (nI a + nI b) / nI 2)) = (nI a', nI b') ∧ _
    rw [hm]
    simp only [hle]
    split
    · exact ⟨a, b, rfl, h1, h2, by omega⟩
    · split
      · exact ⟨(a + b) / 2, b, rfl, by omega, h2, by omega⟩
      · exact ⟨a, (a + b) / 2, rfl, by omega, by omega, by omega⟩
theorem niL_end {V : LV} {net : Int32} {i : Nat} (h : ¬ (niL V net i).2 - (niL V net i).1 ≤ nI 1) (hi : i ≤ 32) : i < 27 := by
  by_cases q : i < 27
  · exact q
  · exfalso
    obtain ⟨a, b, e, h1, h2, h3⟩ := niL_gap (V := V) (net := net) 27 (by decide)
    have h9 : (niL V net 27).2 - (niL V net 27).1 ≤ nI 1 := by
      rw [e]
      show nI b - nI a ≤ nI 1
      rw [pk_sub (by omega)]
      exact nI_le (by simpa using h3) (by decide)
    have := niL_stay h9 (i - 27)
    rw [show 27 + (i - 27) = i by omega] at this
    rw [this] at h
    exact h h9
theorem niL_mid {V : LV} {net : Int32} {i : Nat} (hi : i < 27) : ∃ m, m ≤ 100000000 ∧ ((niL V net i).1 + (niL V net i).2) / nI 2 = nI m := by
  obtain ⟨a, b, e, h1, h2, h3⟩ := niL_gap (V := V) (net := net) i (by omega)
  rw [e]
  exact ⟨(a + b) / 2, by omega, by show (nI a + nI b) / nI 2 = _; rw [nI_add, pk_div (by omega) (by decide) (by decide)]⟩
set_option maxRecDepth 100000 in
set_option maxHeartbeats 400000 in
theorem cm_X8_whatIf (l : Launch) (D : va_G) (cy : Nat → ClassId) (B : Nat) (od : Nat → Option Nat) {A : AH} {f : MF} {r : Nat → Int32} {Z : SV} {S : StV} (hm : MdR cy A f r Z S) (hg : Rng Z S) (hgz : RngZ Z) {kd am dy : Int32} : CM l D cy B od yX8_whatIf cX8_whatIf 8 (some .long) rmX8_whatIf [.ref 231, .int kd, .int am, .int dy] A (fun v A' => v = some (mV (.long 0) (ocWhat (V9 Z S) kd am dy)) ∧ A' = upA A 231 (moE (nI (cX [eIAE] (ocWhat (V9 Z S) kd am dy)), f.2))) := by
  intro z
  refine CT.of (by decide) tX8_whatIf okX8_whatIf (Nat.le_of_ble_eq_true rfl) (q0 := tX8_whatIf[0]) rfl rfl ?_
  intro p e s m args below meth c X _
  have hM := hm.1
  refine g_aload_n X rfl rfl ?_
  refine g_iconst X rfl (v := nI 0) (by decide) ?_
  refine g_put X rfl flX8_41 rfl (ci := 8) rfl (by (repeat (first | exact hM | exact upA_eq | refine (upA_ne (by omega)).trans ?_))) (Nat.le_of_ble_eq_true rfl) (by first | rfl | exact bI_nar _) (by first | rfl | decide) ?_
  refine G.cast (A2 := upA A 231 (moE (nI 0, f.2))) rfl ?_
  obtain ⟨A1, hA1⟩ : ∃ A1, A1 = upA A 231 (moE (nI 0, f.2)) := ⟨_, rfl⟩
  refine G.cast (A2 := A1) hA1.symm ?_
  have hm := hm.thr (nI 0)
  rw [← hA1] at hm
  obtain ⟨hM, hn, hc, hw, hwb, hz⟩ := id hm
  obtain ⟨c0, ⟨c1, c2, c3, c4, c5⟩, cb, ⟨c16, cr⟩, ⟨c35, ce⟩, ⟨c456, ca⟩, c517, cp⟩ := id hc
  obtain ⟨w1, w2, w3, w4, w5⟩ := id hw
  refine g_aload_n X rfl rfl ?_
  refine g_iload_n X rfl rfl ?_
  refine g_rS X rfl lcX8_isKind lmX8_196 stX8_isKind (cr_X8_isKind l D cy B od) rfl rfl (Nat.le_of_ble_eq_true rfl) ⟨⟨by decide, by decide⟩, rfl, rfl⟩ ⟨Nat.le_of_ble_eq_true rfl, Nat.le_of_ble_eq_true rfl⟩ ?_
  first | refine g_if_eqB X rfl (fun h1 => ?_) (fun h1 => ?_) | refine g_if_eq X rfl (fun h1 => ?_) (fun h1 => ?_)
  · refine g_iconst X rfl (v := nI 0) (by decide) ?_
    refine g_iconst X rfl (v := nI 1) (by decide) ?_
    refine g_mV X rfl lcX8_fails lmX8_52 lsX8_fails (cm_X8_fails0 l D cy B od (by (repeat (first | exact hM | exact upA_eq | refine (upA_ne (by omega)).trans ?_)))) (ci := 8) (by (repeat (first | exact hM | exact upA_eq | refine (upA_ne (by omega)).trans ?_))) rfl rfl rfl (Nat.le_of_ble_eq_true rfl) ⟨⟨by decide, by decide⟩, rfl, rfl⟩ ⟨Nat.le_of_ble_eq_true rfl, Nat.le_of_ble_eq_true rfl⟩ (fun v2 A2 q2 => ?_)
    obtain ⟨rfl, rfl⟩ := q2
    refine g_if_eq X rfl (fun h => absurd h n10) (fun _ => ?_)
    refine g_lconst X rfl (v := 0) (by decide) ?_
    refine g_lret X rfl rfl (Nat.le_of_ble_eq_true rfl) (Nat.le_of_ble_eq_true rfl) ⟨rfl, ?_⟩
    exact mRx (E := eIAE) (by first | (simp_all [ocWhat, sAdd, sYP, nI_eq, vS, vZ, V9]; done) | (simp_all [ocWhat, sAdd, sYP, nI_eq, vS, vZ, V9, nI_0, n10]; done) | (simp_all [ocWhat, sAdd, sYP, nI_eq, vS, vZ, V9, nI_0, n10, ← Int32.not_le]; done) | (simp_all [ocWhat, sAdd, sYP, nI_eq, vS, vZ, V9, ← Int64.not_le]; done) | (simp_all [ocWhat, sAdd, sYP, nI_eq, vS, vZ, V9, nI_0, n10, ← Int64.not_le, ← Int32.not_le]; done)) (by decide) hA1
  · refine g_iload_n X rfl rfl ?_
    refine g_rS X rfl lcX8_isAmount lmX8_201 stX8_isAmount (cr_X8_isAmount l D cy B od) rfl rfl (Nat.le_of_ble_eq_true rfl) ⟨⟨by decide, by decide⟩, rfl, rfl⟩ ⟨Nat.le_of_ble_eq_true rfl, Nat.le_of_ble_eq_true rfl⟩ ?_
    first | refine g_if_eqB X rfl (fun h3 => ?_) (fun h3 => ?_) | refine g_if_eq X rfl (fun h3 => ?_) (fun h3 => ?_)
    · refine g_iconst X rfl (v := nI 0) (by decide) ?_
      refine g_iconst X rfl (v := nI 1) (by decide) ?_
      refine g_mV X rfl lcX8_fails lmX8_52 lsX8_fails (cm_X8_fails0 l D cy B od (by (repeat (first | exact hM | exact upA_eq | refine (upA_ne (by omega)).trans ?_)))) (ci := 8) (by (repeat (first | exact hM | exact upA_eq | refine (upA_ne (by omega)).trans ?_))) rfl rfl rfl (Nat.le_of_ble_eq_true rfl) ⟨⟨by decide, by decide⟩, rfl, rfl⟩ ⟨Nat.le_of_ble_eq_true rfl, Nat.le_of_ble_eq_true rfl⟩ (fun v4 A4 q4 => ?_)
      obtain ⟨rfl, rfl⟩ := q4
      refine g_if_eq X rfl (fun h => absurd h n10) (fun _ => ?_)
      refine g_lconst X rfl (v := 0) (by decide) ?_
      refine g_lret X rfl rfl (Nat.le_of_ble_eq_true rfl) (Nat.le_of_ble_eq_true rfl) ⟨rfl, ?_⟩
      exact mRx (E := eIAE) (by first | (simp_all [ocWhat, sAdd, sYP, nI_eq, vS, vZ, V9]; done) | (simp_all [ocWhat, sAdd, sYP, nI_eq, vS, vZ, V9, nI_0, n10]; done) | (simp_all [ocWhat, sAdd, sYP, nI_eq, vS, vZ, V9, nI_0, n10, ← Int32.not_le]; done) | (simp_all [ocWhat, sAdd, sYP, nI_eq, vS, vZ, V9, ← Int64.not_le]; done) | (simp_all [ocWhat, sAdd, sYP, nI_eq, vS, vZ, V9, nI_0, n10, ← Int64.not_le, ← Int32.not_le]; done)) (by decide) hA1
    · refine g_iload_n X rfl rfl ?_
      refine g_rS X rfl lcX8_isDay lmX8_204 stX8_isDay (cr_X8_isDay l D cy B od) rfl rfl (Nat.le_of_ble_eq_true rfl) ⟨⟨by decide, by decide⟩, rfl, rfl⟩ ⟨Nat.le_of_ble_eq_true rfl, Nat.le_of_ble_eq_true rfl⟩ ?_
      first | refine g_if_eqB X rfl (fun h5 => ?_) (fun h5 => ?_) | refine g_if_eq X rfl (fun h5 => ?_) (fun h5 => ?_)
      · refine g_iconst X rfl (v := nI 0) (by decide) ?_
        refine g_iconst X rfl (v := nI 1) (by decide) ?_
        refine g_mV X rfl lcX8_fails lmX8_52 lsX8_fails (cm_X8_fails0 l D cy B od (by (repeat (first | exact hM | exact upA_eq | refine (upA_ne (by omega)).trans ?_)))) (ci := 8) (by (repeat (first | exact hM | exact upA_eq | refine (upA_ne (by omega)).trans ?_))) rfl rfl rfl (Nat.le_of_ble_eq_true rfl) ⟨⟨by decide, by decide⟩, rfl, rfl⟩ ⟨Nat.le_of_ble_eq_true rfl, Nat.le_of_ble_eq_true rfl⟩ (fun v6 A6 q6 => ?_)
        obtain ⟨rfl, rfl⟩ := q6
        refine g_if_eq X rfl (fun h => absurd h n10) (fun _ => ?_)
        refine g_lconst X rfl (v := 0) (by decide) ?_
        refine g_lret X rfl rfl (Nat.le_of_ble_eq_true rfl) (Nat.le_of_ble_eq_true rfl) ⟨rfl, ?_⟩
        exact mRx (E := eIAE) (by first | (simp_all [ocWhat, sAdd, sYP, nI_eq, vS, vZ, V9]; done) | (simp_all [ocWhat, sAdd, sYP, nI_eq, vS, vZ, V9, nI_0, n10]; done) | (simp_all [ocWhat, sAdd, sYP, nI_eq, vS, vZ, V9, nI_0, n10, ← Int32.not_le]; done) | (simp_all [ocWhat, sAdd, sYP, nI_eq, vS, vZ, V9, ← Int64.not_le]; done) | (simp_all [ocWhat, sAdd, sYP, nI_eq, vS, vZ, V9, nI_0, n10, ← Int64.not_le, ← Int32.not_le]; done)) (by decide) hA1
      · refine g_iconst X rfl (v := nI 1) (by decide) ?_
        refine g_goto X rfl ?_
        refine g_iconst X rfl (v := nI 1) (by decide) ?_
        refine g_mV X rfl lcX8_fails lmX8_52 lsX8_fails (cm_X8_fails1 l D cy B od (by (repeat (first | exact hM | exact upA_eq | refine (upA_ne (by omega)).trans ?_)))) (ci := 8) (by (repeat (first | exact hM | exact upA_eq | refine (upA_ne (by omega)).trans ?_))) rfl rfl rfl (Nat.le_of_ble_eq_true rfl) ⟨⟨by decide, by decide⟩, rfl, rfl⟩ ⟨Nat.le_of_ble_eq_true rfl, Nat.le_of_ble_eq_true rfl⟩ (fun v7 A7 q7 => ?_)
        obtain ⟨rfl, rfl⟩ := q7
        obtain ⟨am9, ha9, e8⟩ := wi_of (x := am) (n := 10000000) (by have := h3; unfold within9 at this ⊢; rw [Bool.and_eq_true, decide_eq_true_eq, decide_eq_true_eq] at this ⊢; exact ⟨Int32.le_trans (by decide) this.1, this.2⟩) (by decide)
        obtain ⟨i9, hi9, e9⟩ := wi_of (x := dy) (by assumption) (by decide)
        subst e8
        subst e9
        refine g_if_eq X rfl (fun _ => ?_) (fun h => absurd nI_0 h) 
        refine g_aload_n X rfl rfl ?_
        refine g_rV X rfl lcX8_yearProfit lmX8_359 lsX8_yearProfit (cr_X8_yearProfit l D cy B od hm hg) (ci := 8) (by (repeat (first | exact hM | exact upA_eq | refine (upA_ne (by omega)).trans ?_))) rfl rfl rfl (Nat.le_of_ble_eq_true rfl) ⟨⟨by decide, by decide⟩, rfl, rfl⟩ ⟨Nat.le_of_ble_eq_true rfl, Nat.le_of_ble_eq_true rfl⟩ ?_
        have hbp := bd_pf hg hw
        refine g_lstore X rfl (by decide) ?_
        refine g_iload_n X rfl rfl ?_
        refine g_if_ne X rfl (fun h8 => ?_) (fun h8 => ?_)
        · refine g_aload_n X rfl rfl ?_
          refine g_iload_n X rfl rfl ?_
          refine g_iload_n X rfl rfl ?_
          refine g_iload_n X rfl rfl ?_
          refine g_rV X rfl lcX8_deducted lmX8_265 lsX8_deducted (cr_X8_deducted l D cy B od hm hg hi9) (ci := 8) (by (repeat (first | exact hM | exact upA_eq | refine (upA_ne (by omega)).trans ?_))) rfl rfl rfl (Nat.le_of_ble_eq_true rfl) ⟨⟨by decide, by decide⟩, rfl, rfl⟩ ⟨Nat.le_of_ble_eq_true rfl, Nat.le_of_ble_eq_true rfl⟩ ?_
          obtain ⟨x9, hx9, hdx⟩ := sDed_N hg hw (kd := kd) ha9 hi9
          rw [hdx]
          refine g_lneg X rfl ?_
          first | have hby := bd_n (x := x9) (by omega) | have hby := bd_i (x := nI am9)
          refine g_lstore X rfl (by decide) ?_
          refine g_aload_n X rfl rfl ?_
          refine g_lload X rfl rfl ?_
          refine g_lload X rfl rfl ?_
          refine g_ladd X rfl ?_
          refine g_rV X rfl lcX8_taxOf lmX8_326 lsX8_taxOf (cr_X8_taxOf l D cy B od hm hg hgz (bd_add hbp hby)) (ci := 8) (by (repeat (first | exact hM | exact upA_eq | refine (upA_ne (by omega)).trans ?_))) rfl rfl rfl (Nat.le_of_ble_eq_true rfl) ⟨⟨by decide, by decide⟩, rfl, rfl⟩ ⟨Nat.le_of_ble_eq_true rfl, Nat.le_of_ble_eq_true rfl⟩ ?_
          refine g_aload_n X rfl rfl ?_
          refine g_lload X rfl rfl ?_
          refine g_rV X rfl lcX8_taxOf lmX8_326 lsX8_taxOf (cr_X8_taxOf l D cy B od hm hg hgz (by omega)) (ci := 8) (by (repeat (first | exact hM | exact upA_eq | refine (upA_ne (by omega)).trans ?_))) rfl rfl rfl (Nat.le_of_ble_eq_true rfl) ⟨⟨by decide, by decide⟩, rfl, rfl⟩ ⟨Nat.le_of_ble_eq_true rfl, Nat.le_of_ble_eq_true rfl⟩ ?_
          refine g_lsub X rfl ?_
          refine g_lret X rfl rfl (Nat.le_of_ble_eq_true rfl) (Nat.le_of_ble_eq_true rfl) ⟨rfl, ?_⟩
          exact mR0 (by first | (simp_all [ocWhat, sAdd, sYP, nI_eq, vS, vZ, V9]; done) | (simp_all [ocWhat, sAdd, sYP, nI_eq, vS, vZ, V9, nI_0, n10]; done) | (simp_all [ocWhat, sAdd, sYP, nI_eq, vS, vZ, V9, nI_0, n10, ← Int32.not_le]; done) | (simp_all [ocWhat, sAdd, sYP, nI_eq, vS, vZ, V9, ← Int64.not_le]; done) | (simp_all [ocWhat, sAdd, sYP, nI_eq, vS, vZ, V9, nI_0, n10, ← Int64.not_le, ← Int32.not_le]; done)) hA1
        · refine g_iload_n X rfl rfl ?_
          refine g_i2l X rfl ?_
          refine g_goto X rfl ?_
          first | have hby := bd_n (x := x9) (by omega) | have hby := bd_i (x := nI am9)
          refine g_lstore X rfl (by decide) ?_
          refine g_aload_n X rfl rfl ?_
          refine g_lload X rfl rfl ?_
          refine g_lload X rfl rfl ?_
          refine g_ladd X rfl ?_
          refine g_rV X rfl lcX8_taxOf lmX8_326 lsX8_taxOf (cr_X8_taxOf l D cy B od hm hg hgz (bd_add hbp hby)) (ci := 8) (by (repeat (first | exact hM | exact upA_eq | refine (upA_ne (by omega)).trans ?_))) rfl rfl rfl (Nat.le_of_ble_eq_true rfl) ⟨⟨by decide, by decide⟩, rfl, rfl⟩ ⟨Nat.le_of_ble_eq_true rfl, Nat.le_of_ble_eq_true rfl⟩ ?_
          refine g_aload_n X rfl rfl ?_
          refine g_lload X rfl rfl ?_
          refine g_rV X rfl lcX8_taxOf lmX8_326 lsX8_taxOf (cr_X8_taxOf l D cy B od hm hg hgz (by omega)) (ci := 8) (by (repeat (first | exact hM | exact upA_eq | refine (upA_ne (by omega)).trans ?_))) rfl rfl rfl (Nat.le_of_ble_eq_true rfl) ⟨⟨by decide, by decide⟩, rfl, rfl⟩ ⟨Nat.le_of_ble_eq_true rfl, Nat.le_of_ble_eq_true rfl⟩ ?_
          refine g_lsub X rfl ?_
          refine g_lret X rfl rfl (Nat.le_of_ble_eq_true rfl) (Nat.le_of_ble_eq_true rfl) ⟨rfl, ?_⟩
          exact mR0 (by first | (simp_all [ocWhat, sAdd, sYP, nI_eq, vS, vZ, V9]; done) | (simp_all [ocWhat, sAdd, sYP, nI_eq, vS, vZ, V9, nI_0, n10]; done) | (simp_all [ocWhat, sAdd, sYP, nI_eq, vS, vZ, V9, nI_0, n10, ← Int32.not_le]; done) | (simp_all [ocWhat, sAdd, sYP, nI_eq, vS, vZ, V9, ← Int64.not_le]; done) | (simp_all [ocWhat, sAdd, sYP, nI_eq, vS, vZ, V9, nI_0, n10, ← Int64.not_le, ← Int32.not_le]; done)) hA1
set_option maxRecDepth 100000 in
set_option maxHeartbeats 400000 in
theorem lp_X8_neededIncome (l : Launch) (D : va_G) (cy : Nat → ClassId) (B : Nat) (od : Nat → Option Nat) {p : Program} {e : Env} {s : State} {m : MethodId} {args : Array Value} {below : List Frame} {meth : Method} {c : Code} {A : AH} {z : Nat} {f : MF} {r : Nat → Int32} {Z : SV} {S : StV} (hm : MdR cy A f r Z S) (hg : Rng Z S) (hgz : RngZ Z) {net : Int32} {Qf : Option Value → AH → Prop} (hQ : Qf (some (.int (niL (V9 Z S) net 32).2)) A) (X : Cx p s m args meth c D cy B od cX8_neededIncome 9 tX8_neededIncome RX8 (some .int)) : ∀ (k i : Nat) (o0 : Option Value), 0 ≤ i → i ≤ 32 → 32 - i < k → G p l e rmX8_neededIncome s m args below meth c D B od 9 tX8_neededIncome (FinQ false D B od (fun v A' z' => z' = z ∧ (Qf) v A') (fun _ _ => True) args s below rmX8_neededIncome.cells rmX8_neededIncome.slots) 0 0 A z 43 [some (.ref 231), some (.int net), some (.long (sProf S (nI 3))), none, some (.long (sTax Z (sProf S (nI 3)))), none, some (.int (niL (V9 Z S) net i).1), some (.int (niL (V9 Z S) net i).2), o0] [] := by
  intro k
  induction k with
  | zero => intro i _ _ _ h; omega
  | succ k ih =>
    intro i o0 hlo hi hk
    obtain ⟨hM, hn, hc, hw, hwb, hz⟩ := id hm
    obtain ⟨c0, ⟨c1, c2, c3, c4, c5⟩, cb, ⟨c16, cr⟩, ⟨c35, ce⟩, ⟨c456, ca⟩, c517, cp⟩ := id hc
    obtain ⟨w1, w2, w3, w4, w5⟩ := id hw
    refine g_iload X rfl rfl ?_
    refine g_iload X rfl rfl ?_
    refine g_isub X rfl ?_
    refine g_iconst X rfl (v := nI 1) (by decide) ?_
    refine g_icmp_le X rfl (fun h1 => ?_) (fun h1 => ?_)
    · refine g_iload X rfl rfl ?_
      refine g_iret X rfl rfl (by first | rfl | exact bI_nar _ | decide) (Nat.le_of_ble_eq_true rfl) (Nat.le_of_ble_eq_true rfl) ⟨rfl, ?_⟩
      rw [← niL_at (by omega) h1]; exact hQ
    · have hi27 := niL_end h1 (by omega)
      refine g_iload X rfl rfl ?_
      refine g_iload X rfl rfl ?_
      refine g_iadd X rfl ?_
      refine g_iconst X rfl (v := nI 2) (by decide) ?_
      refine g_idiv X rfl (by decide) ?_
      refine g_istore X rfl (by decide) ?_
      refine g_iload X rfl rfl ?_
      refine g_i2l X rfl ?_
      refine g_aload_n X rfl rfl ?_
      refine g_lload_n X rfl rfl ?_
      refine g_iload X rfl rfl ?_
      refine g_i2l X rfl ?_
      refine g_ladd X rfl ?_
      refine g_rV X rfl lcX8_taxOf lmX8_326 lsX8_taxOf (cr_X8_taxOf l D cy B od hm hg hgz (bd_add (bd_pf hg hw) bd_i)) (ci := 8) (by (repeat (first | exact hM | exact upA_eq | refine (upA_ne (by omega)).trans ?_))) rfl rfl rfl (Nat.le_of_ble_eq_true rfl) ⟨⟨by decide, by decide⟩, rfl, rfl⟩ ⟨Nat.le_of_ble_eq_true rfl, Nat.le_of_ble_eq_true rfl⟩ ?_
      refine g_lload X rfl rfl ?_
      refine g_rS X rfl lcX8_netOf lmX8_376 stX8_netOf (cr_X8_netOf l D cy B od) rfl rfl (Nat.le_of_ble_eq_true rfl) ⟨⟨by decide, by decide⟩, rfl, rfl⟩ ⟨Nat.le_of_ble_eq_true rfl, Nat.le_of_ble_eq_true rfl⟩ ?_
      rw [left_eq (S := S)]
      refine g_iload_n X rfl rfl ?_
      refine g_i2l X rfl ?_
      refine g_l_lt X rfl rfl (fun h2 => ?_) (fun h2 => ?_)
      · refine g_iload X rfl rfl ?_
        refine g_istore X rfl (by decide) ?_
        refine g_goto X rfl ?_
        have K9 := fun u0 => ih (i + 1) u0 (by omega) (by omega) (by omega)
        skip
        first | (rw [show niL (V9 Z S) net (i + 1) = (((niL (V9 Z S) net i).1 + (niL (V9 Z S) net i).2) / nI 2, (niL (V9 Z S) net i).2) by rw [niL, if_neg h1, if_pos (show sLeft (V9 Z S) (((niL (V9 Z S) net i).1 + (niL (V9 Z S) net i).2) / nI 2) (sYP (V9 Z S)) < net.toInt64 from h2)]] at K9; exact K9 _) | (rw [show niL (V9 Z S) net (i + 1) = ((niL (V9 Z S) net i).1, ((niL (V9 Z S) net i).1 + (niL (V9 Z S) net i).2) / nI 2) by rw [niL, if_neg h1, if_neg (show ¬ sLeft (V9 Z S) (((niL (V9 Z S) net i).1 + (niL (V9 Z S) net i).2) / nI 2) (sYP (V9 Z S)) < net.toInt64 from h2)]] at K9; exact K9 _)
      · refine g_iload X rfl rfl ?_
        refine g_istore X rfl (by decide) ?_
        refine g_goto X rfl ?_
        refine g_goto X rfl ?_
        have K9 := fun u0 => ih (i + 1) u0 (by omega) (by omega) (by omega)
        skip
        first | (rw [show niL (V9 Z S) net (i + 1) = (((niL (V9 Z S) net i).1 + (niL (V9 Z S) net i).2) / nI 2, (niL (V9 Z S) net i).2) by rw [niL, if_neg h1, if_pos (show sLeft (V9 Z S) (((niL (V9 Z S) net i).1 + (niL (V9 Z S) net i).2) / nI 2) (sYP (V9 Z S)) < net.toInt64 from h2)]] at K9; exact K9 _) | (rw [show niL (V9 Z S) net (i + 1) = ((niL (V9 Z S) net i).1, ((niL (V9 Z S) net i).1 + (niL (V9 Z S) net i).2) / nI 2) by rw [niL, if_neg h1, if_neg (show ¬ sLeft (V9 Z S) (((niL (V9 Z S) net i).1 + (niL (V9 Z S) net i).2) / nI 2) (sYP (V9 Z S)) < net.toInt64 from h2)]] at K9; exact K9 _)
set_option maxRecDepth 100000 in
set_option maxHeartbeats 400000 in
theorem cm_X8_neededIncome (l : Launch) (D : va_G) (cy : Nat → ClassId) (B : Nat) (od : Nat → Option Nat) {A : AH} {f : MF} {r : Nat → Int32} {Z : SV} {S : StV} (hm : MdR cy A f r Z S) (hg : Rng Z S) (hgz : RngZ Z) {net : Int32} : CM l D cy B od yX8_neededIncome cX8_neededIncome 9 (some .int) rmX8_neededIncome [.ref 231, .int net] A (fun v A' => v = some (mV (.int (nI 0)) (ocNeed (V9 Z S) net)) ∧ A' = upA A 231 (moE (nI (cX [eIAE, eNSE] (ocNeed (V9 Z S) net)), f.2))) := by
  intro z
  refine CT.of (by decide) tX8_neededIncome okX8_neededIncome (Nat.le_of_ble_eq_true rfl) (q0 := tX8_neededIncome[0]) rfl rfl ?_
  intro p e s m args below meth c X _
  have hM := hm.1
  refine g_aload_n X rfl rfl ?_
  refine g_iconst X rfl (v := nI 0) (by decide) ?_
  refine g_put X rfl flX8_41 rfl (ci := 8) rfl (by (repeat (first | exact hM | exact upA_eq | refine (upA_ne (by omega)).trans ?_))) (Nat.le_of_ble_eq_true rfl) (by first | rfl | exact bI_nar _) (by first | rfl | decide) ?_
  refine G.cast (A2 := upA A 231 (moE (nI 0, f.2))) rfl ?_
  obtain ⟨A1, hA1⟩ : ∃ A1, A1 = upA A 231 (moE (nI 0, f.2)) := ⟨_, rfl⟩
  refine G.cast (A2 := A1) hA1.symm ?_
  have hm := hm.thr (nI 0)
  rw [← hA1] at hm
  obtain ⟨hM, hn, hc, hw, hwb, hz⟩ := id hm
  obtain ⟨c0, ⟨c1, c2, c3, c4, c5⟩, cb, ⟨c16, cr⟩, ⟨c35, ce⟩, ⟨c456, ca⟩, c517, cp⟩ := id hc
  obtain ⟨w1, w2, w3, w4, w5⟩ := id hw
  refine g_aload_n X rfl rfl ?_
  refine g_iload_n X rfl rfl ?_
  refine g_rS X rfl lcX8_isAmount lmX8_201 stX8_isAmount (cr_X8_isAmount l D cy B od) rfl rfl (Nat.le_of_ble_eq_true rfl) ⟨⟨by decide, by decide⟩, rfl, rfl⟩ ⟨Nat.le_of_ble_eq_true rfl, Nat.le_of_ble_eq_true rfl⟩ ?_
  refine g_iconst X rfl (v := nI 1) (by decide) ?_
  refine g_mV X rfl lcX8_fails lmX8_52 lsX8_fails (cm_X8_failsB l D cy B od (by (repeat (first | exact hM | exact upA_eq | refine (upA_ne (by omega)).trans ?_)))) (ci := 8) (by (repeat (first | exact hM | exact upA_eq | refine (upA_ne (by omega)).trans ?_))) rfl rfl rfl (Nat.le_of_ble_eq_true rfl) ⟨⟨by decide, by decide⟩, rfl, rfl⟩ ⟨Nat.le_of_ble_eq_true rfl, Nat.le_of_ble_eq_true rfl⟩ (fun v1 A1 q1 => ?_)
  rcases q1 with ⟨h1, rfl, rfl⟩ | ⟨h1, rfl, rfl⟩
  · refine g_if_eq X rfl (fun _ => ?_) (fun h => absurd nI_0 h) 
    refine g_aload_n X rfl rfl ?_
    refine g_rV X rfl lcX8_yearProfit lmX8_359 lsX8_yearProfit (cr_X8_yearProfit l D cy B od hm hg) (ci := 8) (by (repeat (first | exact hM | exact upA_eq | refine (upA_ne (by omega)).trans ?_))) rfl rfl rfl (Nat.le_of_ble_eq_true rfl) ⟨⟨by decide, by decide⟩, rfl, rfl⟩ ⟨Nat.le_of_ble_eq_true rfl, Nat.le_of_ble_eq_true rfl⟩ ?_
    refine g_lstore_n X rfl (by decide) ?_
    refine g_aload_n X rfl rfl ?_
    refine g_lload_n X rfl rfl ?_
    have hbp := bd_pf hg hw
    refine g_rV X rfl lcX8_taxOf lmX8_326 lsX8_taxOf (cr_X8_taxOf l D cy B od hm hg hgz (by omega)) (ci := 8) (by (repeat (first | exact hM | exact upA_eq | refine (upA_ne (by omega)).trans ?_))) rfl rfl rfl (Nat.le_of_ble_eq_true rfl) ⟨⟨by decide, by decide⟩, rfl, rfl⟩ ⟨Nat.le_of_ble_eq_true rfl, Nat.le_of_ble_eq_true rfl⟩ ?_
    refine g_lstore X rfl (by decide) ?_
    refine g_aload_n X rfl rfl ?_
    refine g_ldc2 X rfl kcX8_374 ?_
    refine g_aload_n X rfl rfl ?_
    refine g_lload_n X rfl rfl ?_
    refine g_ldc2 X rfl kcX8_374 ?_
    refine g_ladd X rfl ?_
    refine g_rV X rfl lcX8_taxOf lmX8_326 lsX8_taxOf (cr_X8_taxOf l D cy B od hm hg hgz (bd_add hbp (by decide))) (ci := 8) (by (repeat (first | exact hM | exact upA_eq | refine (upA_ne (by omega)).trans ?_))) rfl rfl rfl (Nat.le_of_ble_eq_true rfl) ⟨⟨by decide, by decide⟩, rfl, rfl⟩ ⟨Nat.le_of_ble_eq_true rfl, Nat.le_of_ble_eq_true rfl⟩ ?_
    refine g_lload X rfl rfl ?_
    refine g_rS X rfl lcX8_netOf lmX8_376 stX8_netOf (cr_X8_netOf l D cy B od) rfl rfl (Nat.le_of_ble_eq_true rfl) ⟨⟨by decide, by decide⟩, rfl, rfl⟩ ⟨Nat.le_of_ble_eq_true rfl, Nat.le_of_ble_eq_true rfl⟩ ?_
    rw [show (100000000 : Int64) = (nI 100000000).toInt64 by decide, left_eq (S := S)]
    refine g_iload_n X rfl rfl ?_
    refine g_i2l X rfl ?_
    refine g_l_lt X rfl rfl (fun h2 => ?_) (fun h2 => ?_)
    · refine g_iconst X rfl (v := nI 0) (by decide) ?_
      refine g_iconst X rfl (v := nI 2) (by decide) ?_
      refine g_mV X rfl lcX8_fails lmX8_52 lsX8_fails (cm_X8_fails0 l D cy B od (by (repeat (first | exact hM | exact upA_eq | refine (upA_ne (by omega)).trans ?_)))) (ci := 8) (by (repeat (first | exact hM | exact upA_eq | refine (upA_ne (by omega)).trans ?_))) rfl rfl rfl (Nat.le_of_ble_eq_true rfl) ⟨⟨by decide, by decide⟩, rfl, rfl⟩ ⟨Nat.le_of_ble_eq_true rfl, Nat.le_of_ble_eq_true rfl⟩ (fun v3 A3 q3 => ?_)
      obtain ⟨rfl, rfl⟩ := q3
      refine g_if_eq X rfl (fun h => absurd h n10) (fun _ => ?_)
      refine g_iconst X rfl (v := nI 0) (by decide) ?_
      refine g_iret X rfl rfl (by first | rfl | exact bI_nar _ | decide) (Nat.le_of_ble_eq_true rfl) (Nat.le_of_ble_eq_true rfl) ⟨rfl, ?_⟩
      exact mRx (E := eNSE) (by first | (simp_all [ocNeed, sYP, nI_eq, vS, vZ, V9]; done) | (simp_all [ocNeed, sYP, nI_eq, vS, vZ, V9, nI_0, n10]; done) | (simp_all [ocNeed, sYP, nI_eq, vS, vZ, V9, nI_0, n10, ← Int32.not_le]; done) | (simp_all [ocNeed, sYP, nI_eq, vS, vZ, V9, ← Int64.not_le]; done) | (simp_all [ocNeed, sYP, nI_eq, vS, vZ, V9, nI_0, n10, ← Int64.not_le, ← Int32.not_le]; done)) (by decide) hA1
    · refine g_iconst X rfl (v := nI 1) (by decide) ?_
      refine g_goto X rfl ?_
      refine g_iconst X rfl (v := nI 2) (by decide) ?_
      refine g_mV X rfl lcX8_fails lmX8_52 lsX8_fails (cm_X8_fails1 l D cy B od (by (repeat (first | exact hM | exact upA_eq | refine (upA_ne (by omega)).trans ?_)))) (ci := 8) (by (repeat (first | exact hM | exact upA_eq | refine (upA_ne (by omega)).trans ?_))) rfl rfl rfl (Nat.le_of_ble_eq_true rfl) ⟨⟨by decide, by decide⟩, rfl, rfl⟩ ⟨Nat.le_of_ble_eq_true rfl, Nat.le_of_ble_eq_true rfl⟩ (fun v4 A4 q4 => ?_)
      obtain ⟨rfl, rfl⟩ := q4
      refine g_if_eq X rfl (fun _ => ?_) (fun h => absurd nI_0 h) 
      refine g_iconst X rfl (v := nI 0) (by decide) ?_
      refine g_istore X rfl (by decide) ?_
      refine g_ldcw X rfl kcX8_380 ?_
      refine g_istore X rfl (by decide) ?_
      exact lp_X8_neededIncome l D cy B od hm hg hgz (Qf := fun v A' => v = some (mV (.int (nI 0)) (ocNeed (V9 Z S) net)) ∧ A' = upA A 231 (moE (nI (cX [eIAE, eNSE] (ocNeed (V9 Z S) net)), f.2))) (mR0 (by first | (simp_all [ocNeed, sYP, nI_eq, vS, vZ, V9]; done) | (simp_all [ocNeed, sYP, nI_eq, vS, vZ, V9, nI_0, n10]; done) | (simp_all [ocNeed, sYP, nI_eq, vS, vZ, V9, nI_0, n10, ← Int32.not_le]; done) | (simp_all [ocNeed, sYP, nI_eq, vS, vZ, V9, ← Int64.not_le]; done) | (simp_all [ocNeed, sYP, nI_eq, vS, vZ, V9, nI_0, n10, ← Int64.not_le, ← Int32.not_le]; done)) hA1) X 33 0 _ (by omega) (by omega) (by omega)
  · refine g_if_eq X rfl (fun h => absurd h n10) (fun _ => ?_)
    refine g_iconst X rfl (v := nI 0) (by decide) ?_
    refine g_iret X rfl rfl (by first | rfl | exact bI_nar _ | decide) (Nat.le_of_ble_eq_true rfl) (Nat.le_of_ble_eq_true rfl) ⟨rfl, ?_⟩
    exact mRx (E := eIAE) (by first | (simp_all [ocNeed, sYP, nI_eq, vS, vZ, V9]; done) | (simp_all [ocNeed, sYP, nI_eq, vS, vZ, V9, nI_0, n10]; done) | (simp_all [ocNeed, sYP, nI_eq, vS, vZ, V9, nI_0, n10, ← Int32.not_le]; done) | (simp_all [ocNeed, sYP, nI_eq, vS, vZ, V9, ← Int64.not_le]; done) | (simp_all [ocNeed, sYP, nI_eq, vS, vZ, V9, nI_0, n10, ← Int64.not_le, ← Int32.not_le]; done)) (by decide) hA1
