/-! 42: the ledger kept besides: where it lies; what it reads -/
/-- where a book's lists lie: objects, counts of changes, arrays, elements -/
abbrev BL : Type := (Nat → Nat) × (Nat → Int32) × (Nat → Nat) × (Nat → Nat → Nat)
def bN (S : StV) (Z : SV) : Nat → Nat
  | 0 => Z.1
  | 1 => S.2.1.1
  | 2 => S.1.1
  | 3 => S.2.2.1.1
  | _ => S.2.2.2.2.1
/-- a row of ints -/
def RwA (cy : Nat → ClassId) (A : AH) (a n : Nat) (h : Nat → Int32) : Prop := ∃ r, A a = some (.inl (cy 0, n, .inl r)) ∧ ∀ i, i < n → r i = h i
/-- which column of the class's an asset's row has where -/
def asC : Nat → Nat
  | 0 => 0
  | 1 => 1
  | 2 => 2
  | 3 => 4
  | _ => 5
def bkO (L : BL) (S : StV) (Z : SV) : List Value := [.int S.2.2.2.2.2, .int (Z.2.1 1), .int (Z.2.1 2), .int (Z.2.1 3), .int (Z.2.1 4), .ref (L.1 0), .ref (L.1 1), .ref (L.1 2), .ref (L.1 3), .ref (L.1 4)]
/-- a book at g -/
def BkR (cy : Nat → ClassId) (A : AH) (g : Nat) (L : BL) (S : StV) (Z : SV) : Prop := A g = some (.inr (8, bkO L S Z)) ∧ (∀ t, t < 5 → LsC cy A (L.1 t) (L.2.1 t) (L.2.2.1 t) (bN S Z t) (L.2.2.2 t)) ∧ (∀ j, j < Z.1 → RwA cy A (L.2.2.2 0 j) 2 (fun i => Z.2.2 i j)) ∧ (∀ j, j < S.2.1.1 → RwA cy A (L.2.2.2 1 j) 3 (fun i => S.2.1.2 i j)) ∧ (∀ j, j < S.1.1 → RwA cy A (L.2.2.2 2 j) 7 (fun i => S.1.2 i j)) ∧ (∀ j, j < S.2.2.1.1 → RwA cy A (L.2.2.2 3 j) 5 (fun i => S.2.2.1.2 (asC i) j)) ∧ ∀ j, j < S.2.2.2.2.1 → IntA A (L.2.2.2 4 j) (S.2.2.2.1 j)
theorem RwA.le {cy : Nat → ClassId} {A A' : AH} {a n : Nat} {h : Nat → Int32} (h1 : RwA cy A a n h) (hl : HLe A A') : RwA cy A' a n h := by
  obtain ⟨r, h2, h3⟩ := h1
  exact ⟨r, hl _ _ h2, h3⟩
theorem BkR.le {cy : Nat → ClassId} {A A' : AH} {g : Nat} {L : BL} {S : StV} {Z : SV} (h : BkR cy A g L S Z) (hl : HLe A A') : BkR cy A' g L S Z := by
  obtain ⟨h1, h2, h3, h4, h5, h6, h7⟩ := h
  exact ⟨hl _ _ h1, fun t ht => (h2 t ht).le hl, fun j hj => (h3 j hj).le hl, fun j hj => (h4 j hj).le hl, fun j hj => (h5 j hj).le hl, fun j hj => (h6 j hj).le hl, fun j hj => (h7 j hj).le hl⟩
/-- sold not before it was bought -/
def SldOk (S : StV) : Prop := ∀ k, k < S.2.2.1.1 → S.2.2.1.2 4 k = -1 ∨ ∃ d sd, S.2.2.1.2 1 k = nI d ∧ S.2.2.1.2 4 k = nI sd ∧ d ≤ sd ∧ sd ≤ 359
def cU (a b lo t : Nat) : Nat := min (b + 1) (lo + t) - max a lo
theorem cU_0 (a b lo : Nat) (h : a ≤ b) : cU a b lo 0 = 0 := by unfold cU; omega
theorem cU_y {a b lo t : Nat} (h1 : a ≤ lo + t) (h2 : lo + t ≤ b) : cU a b lo (t + 1) = cU a b lo t + 1 := by unfold cU; omega
theorem cU_n {a b lo t : Nat} (h : a ≤ b) (h1 : lo + t < a ∨ b < lo + t) : cU a b lo (t + 1) = cU a b lo t := by unfold cU; omega
theorem cU_d {a b m : Nat} : cU a b (30 * m) 30 = dU a b (30 * m) (30 * m + 30 - 1) := by unfold cU dU; omega
theorem cU_le (a b lo t : Nat) : cU a b lo t ≤ t := by unfold cU; omega
set_option maxRecDepth 100000 in
set_option maxHeartbeats 400000 in
theorem cr_X8_counts (l : Launch) (D : va_G) (cy : Nat → ClassId) (B : Nat) (od : Nat → Option Nat) {A : AH} {g a j : Nat} {E : EV} {r : Nat → Int32} (hr : A a = some (.inl (cy 0, 7, .inl r))) (h4 : r 4 = E.2 4 j) (h5 : r 5 = E.2 5 j) : CR l D cy B od yX8_counts cX8_counts 2 (some .boolean) rmX8_counts [.ref g, .ref a] A (.int (bI (eCnt E j))) := by
  intro z
  refine CT.of (by decide) tX8_counts okX8_counts (Nat.le_of_ble_eq_true rfl) (q0 := tX8_counts[0]) rfl rfl ?_
  intro p e s m args below meth c X hnm
  refine g_aload_n X rfl rfl ?_
  refine g_iconst X rfl (v := nI 4) (by decide) ?_
  refine g_ialdN X rfl hr (by decide) (by decide) ?_
  rw [h4]
  refine g_iconst X rfl (v := (-1)) (by decide) ?_
  refine g_icmp_eq X rfl (fun h => ?_) (fun h => ?_)
  · have hq : eCnt E j = false := by simp [eCnt, h]
    refine g_iconst X rfl (v := nI 0) (by decide) ?_
    exact g_iret X rfl rfl (by first | rfl | decide) (Nat.le_of_ble_eq_true rfl) (Nat.le_of_ble_eq_true rfl) ⟨by rw [hq]; rfl, rfl, rfl⟩
  · skip
    refine g_aload_n X rfl rfl ?_
    refine g_iconst X rfl (v := nI 5) (by decide) ?_
    refine g_ialdN X rfl hr (by decide) (by decide) ?_
    rw [h5]
    refine g_if_ne X rfl (fun h2 => ?_) (fun h2 => ?_)
    · have hq : eCnt E j = false := by simp [eCnt, h2]
      refine g_iconst X rfl (v := nI 0) (by decide) ?_
      exact g_iret X rfl rfl (by first | rfl | decide) (Nat.le_of_ble_eq_true rfl) (Nat.le_of_ble_eq_true rfl) ⟨by rw [hq]; rfl, rfl, rfl⟩
    · have hq : eCnt E j = true := by simp [eCnt, h, h2]
      refine g_iconst X rfl (v := nI 1) (by decide) ?_
      refine g_goto X rfl ?_
      exact g_iret X rfl rfl (by first | rfl | decide) (Nat.le_of_ble_eq_true rfl) (Nat.le_of_ble_eq_true rfl) ⟨by rw [hq]; rfl, rfl, rfl⟩
set_option maxRecDepth 100000 in
set_option maxHeartbeats 400000 in
theorem cr_X8_sort (l : Launch) (D : va_G) (cy : Nat → ClassId) (B : Nat) (od : Nat → Option Nat) {A : AH} {g : Nat} {L : BL} {S : StV} {Z : SV} (hb : BkR cy A g L S Z) {a : Nat} {r : Nat → Int32} (hr : A a = some (.inl (cy 0, 5, .inl r))) : CR l D cy B od yX8_sort cX8_sort 2 (some .int) rmX8_sort [.ref g, .ref a] A (.int (sSort Z (r 0))) := by
  intro z
  refine CT.of (by decide) tX8_sort okX8_sort (Nat.le_of_ble_eq_true rfl) (q0 := tX8_sort[0]) rfl rfl ?_
  intro p e s m args below meth c X hnm
  refine g_aload_n X rfl rfl ?_
  refine g_iconst X rfl (v := nI 0) (by decide) ?_
  refine g_ialdN X rfl hr (by decide) (by decide) ?_
  refine g_aload_n X rfl rfl ?_
  refine g_get X rfl flX8_10 (ci := 8) rfl (hb.1) rfl ?_
  refine g_icmp_gt X rfl (fun h => ?_) (fun h => ?_)
  · skip
    refine g_aload_n X rfl rfl ?_
    refine g_iconst X rfl (v := nI 0) (by decide) ?_
    refine g_ialdN X rfl hr (by decide) (by decide) ?_
    refine g_aload_n X rfl rfl ?_
    refine g_get X rfl flX8_17 (ci := 8) rfl (hb.1) rfl ?_
    refine g_icmp_gt X rfl (fun h2 => ?_) (fun h2 => ?_)
    · have hq : sSort Z (r 0) = nI 2 := (if_neg (Int32.not_le.mpr h)).trans (if_neg (Int32.not_le.mpr h2))
      refine g_iconst X rfl (v := nI 2) (by decide) ?_
      exact g_iret X rfl rfl (by first | rfl | decide) (Nat.le_of_ble_eq_true rfl) (Nat.le_of_ble_eq_true rfl) ⟨by rw [hq], rfl, rfl⟩
    · have hq : sSort Z (r 0) = nI 1 := (if_neg (Int32.not_le.mpr h)).trans (if_pos (Int32.not_lt.mp h2))
      refine g_iconst X rfl (v := nI 1) (by decide) ?_
      refine g_goto X rfl ?_
      exact g_iret X rfl rfl (by first | rfl | decide) (Nat.le_of_ble_eq_true rfl) (Nat.le_of_ble_eq_true rfl) ⟨by rw [hq], rfl, rfl⟩
  · have hq : sSort Z (r 0) = nI 0 := if_pos (Int32.not_lt.mp h)
    refine g_iconst X rfl (v := nI 0) (by decide) ?_
    refine g_goto X rfl ?_
    exact g_iret X rfl rfl (by first | rfl | decide) (Nat.le_of_ble_eq_true rfl) (Nat.le_of_ble_eq_true rfl) ⟨by rw [hq], rfl, rfl⟩
set_option maxRecDepth 100000 in
set_option maxHeartbeats 400000 in
theorem cr_X8_used (l : Launch) (D : va_G) (cy : Nat → ClassId) (B : Nat) (od : Nat → Option Nat) {A : AH} {g a k m9 : Nat} {Rm : RV} {r : Nat → Int32} (hr : A a = some (.inl (cy 0, 3, .inl r))) (h1 : r 1 = Rm.2 1 k) (h2 : r 2 = Rm.2 2 k) (hw : Rm.2 1 k = -1 ∨ ∃ a b, a ≤ b ∧ b ≤ 359 ∧ Rm.2 1 k = nI a ∧ Rm.2 2 k = nI b) (hm : m9 ≤ 11) : CR l D cy B od yX8_used cX8_used 5 (some .int) rmX8_used [.ref g, .ref a, .int (nI m9)] A (.int (rDays Rm (nI (30 * m9)) (nI (30 * m9 + 30 - 1)) k)) := by
  intro z
  refine CT.of (by decide) tX8_used okX8_used (Nat.le_of_ble_eq_true rfl) (q0 := tX8_used[0]) rfl rfl ?_
  intro p e s m args below meth c X hnm
  rcases hw with hno | ⟨x, y, hab, hy, ha, hb2⟩
  · have loopN : ∀ (d t : Nat), t + d = 30 → G p l e rmX8_used s m args below meth c D B od 5 tX8_used (FinQ false D B od (fun v A' z' => v = some (.int (rDays Rm (nI (30 * m9)) (nI (30 * m9 + 30 - 1)) k)) ∧ A' = A ∧ z' = z) (fun _ _ => True) args s below rmX8_used.cells rmX8_used.slots) 0 0 A z 6 [some (.ref g), some (.ref a), some (.int (nI m9)), some (.int (nI (0))), some (.int (nI (30 * m9 + t)))] [] := by
      intro d
      induction d with
      | zero =>
        intro t ht
        have e : t = 30 := by omega
        subst e
        refine g_iload X rfl rfl ?_
        refine g_bipush X rfl (v := nI 30) (by decide) ?_
        refine g_iload_n X rfl rfl ?_
        refine g_imul X rfl ?_
        rw [pk_mul 30 m9]
        refine g_bipush X rfl (v := nI 30) (by decide) ?_
        refine g_iadd X rfl ?_
        rw [nI_add (30 * m9) 30]
        refine g_ic_geN X rfl (by omega) (by omega) (fun _ => ?_) (fun h => absurd h (by omega))
        · refine g_iload_n X rfl rfl ?_
          exact g_iret X rfl rfl (by rfl) (Nat.le_of_ble_eq_true rfl) (Nat.le_of_ble_eq_true rfl) ⟨by rw [rDays_no hno], rfl, rfl⟩
      | succ d ih =>
        intro t ht
        refine g_iload X rfl rfl ?_
        refine g_bipush X rfl (v := nI 30) (by decide) ?_
        refine g_iload_n X rfl rfl ?_
        refine g_imul X rfl ?_
        rw [pk_mul 30 m9]
        refine g_bipush X rfl (v := nI 30) (by decide) ?_
        refine g_iadd X rfl ?_
        rw [nI_add (30 * m9) 30]
        refine g_ic_geN X rfl (by omega) (by omega) (fun h => absurd h (by omega)) (fun _ => ?_)
        · refine g_iload_n X rfl rfl ?_
          refine g_aload_n X rfl rfl ?_
          refine g_iconst X rfl (v := nI 1) (by decide) ?_
          refine g_ialdN X rfl hr (by decide) (by decide) ?_
          rw [h1]
          rw [hno]
          refine g_iconst X rfl (v := (-1)) (by decide) ?_
          refine g_icmp_eq X rfl (fun _ => ?_) (fun h => absurd rfl h)
          skip
          refine g_iconst X rfl (v := nI 0) (by decide) ?_
          refine g_iadd X rfl ?_
          rw [nI_add 0 0]
          first | refine g_istore_nS X rfl (by decide) rfl ?_ | refine g_istore_n X rfl (by decide) ?_
          first | refine g_iinc1S X rfl rfl (by decide) rfl ?_ | refine g_iinc1 X rfl rfl (by decide) ?_
          refine g_goto X rfl ?_
          exact ih (t + 1) (by omega)
    refine g_iconst X rfl (v := nI 0) (by decide) ?_
    first | refine g_istore_nS X rfl (by decide) rfl ?_ | refine g_istore_n X rfl (by decide) ?_
    refine g_bipush X rfl (v := nI 30) (by decide) ?_
    refine g_iload_n X rfl rfl ?_
    refine g_imul X rfl ?_
    rw [pk_mul 30 m9]
    first | refine g_istoreS X rfl (by decide) rfl ?_ | refine g_istore X rfl (by decide) ?_
    exact loopN 30 0 rfl
  · have loopY : ∀ (d t : Nat), t + d = 30 → G p l e rmX8_used s m args below meth c D B od 5 tX8_used (FinQ false D B od (fun v A' z' => v = some (.int (rDays Rm (nI (30 * m9)) (nI (30 * m9 + 30 - 1)) k)) ∧ A' = A ∧ z' = z) (fun _ _ => True) args s below rmX8_used.cells rmX8_used.slots) 0 0 A z 6 [some (.ref g), some (.ref a), some (.int (nI m9)), some (.int (nI (cU x y (30 * m9) (t)))), some (.int (nI (30 * m9 + t)))] [] := by
      intro d
      induction d with
      | zero =>
        intro t ht
        have e : t = 30 := by omega
        subst e
        refine g_iload X rfl rfl ?_
        refine g_bipush X rfl (v := nI 30) (by decide) ?_
        refine g_iload_n X rfl rfl ?_
        refine g_imul X rfl ?_
        rw [pk_mul 30 m9]
        refine g_bipush X rfl (v := nI 30) (by decide) ?_
        refine g_iadd X rfl ?_
        rw [nI_add (30 * m9) 30]
        refine g_ic_geN X rfl (by omega) (by omega) (fun _ => ?_) (fun h => absurd h (by omega))
        · refine g_iload_n X rfl rfl ?_
          exact g_iret X rfl rfl (by rfl) (Nat.le_of_ble_eq_true rfl) (Nat.le_of_ble_eq_true rfl) ⟨by rw [rDays_N ha hb2 (by omega) (by omega) (by omega) (by omega), ← cU_d], rfl, rfl⟩
      | succ d ih =>
        intro t ht
        refine g_iload X rfl rfl ?_
        refine g_bipush X rfl (v := nI 30) (by decide) ?_
        refine g_iload_n X rfl rfl ?_
        refine g_imul X rfl ?_
        rw [pk_mul 30 m9]
        refine g_bipush X rfl (v := nI 30) (by decide) ?_
        refine g_iadd X rfl ?_
        rw [nI_add (30 * m9) 30]
        refine g_ic_geN X rfl (by omega) (by omega) (fun h => absurd h (by omega)) (fun _ => ?_)
        · refine g_iload_n X rfl rfl ?_
          refine g_aload_n X rfl rfl ?_
          refine g_iconst X rfl (v := nI 1) (by decide) ?_
          refine g_ialdN X rfl hr (by decide) (by decide) ?_
          rw [h1]
          rw [ha]
          refine g_iconst X rfl (v := (-1)) (by decide) ?_
          refine g_icmp_eq X rfl (fun h => absurd h (nI_nm1 (by omega))) (fun _ => ?_)
          · refine g_iload X rfl rfl ?_
            refine g_aload_n X rfl rfl ?_
            refine g_iconst X rfl (v := nI 1) (by decide) ?_
            refine g_ialdN X rfl hr (by decide) (by decide) ?_
            rw [h1]
            rw [ha]
            refine g_ic_ltN X rfl (by omega) (by omega) (fun h => ?_) (fun h3 => ?_)
            · have hc := cU_n (lo := 30 * m9) (t := t) hab (Or.inl h)
              refine g_iconst X rfl (v := nI 0) (by decide) ?_
              refine g_iadd X rfl ?_
              rw [nI_add _ 0, show cU x y (30 * m9) t + 0 = cU x y (30 * m9) (t + 1) from hc.symm]
              first | refine g_istore_nS X rfl (by decide) rfl ?_ | refine g_istore_n X rfl (by decide) ?_
              first | refine g_iinc1S X rfl rfl (by decide) rfl ?_ | refine g_iinc1 X rfl rfl (by decide) ?_
              refine g_goto X rfl ?_
              exact ih (t + 1) (by omega)
            · skip
              refine g_iload X rfl rfl ?_
              refine g_aload_n X rfl rfl ?_
              refine g_iconst X rfl (v := nI 2) (by decide) ?_
              refine g_ialdN X rfl hr (by decide) (by decide) ?_
              rw [h2]
              rw [hb2]
              refine g_ic_gtN X rfl (by omega) (by omega) (fun h => ?_) (fun h4 => ?_)
              · have hc := cU_n (lo := 30 * m9) (t := t) hab (Or.inr h)
                refine g_iconst X rfl (v := nI 0) (by decide) ?_
                refine g_iadd X rfl ?_
                rw [nI_add _ 0, show cU x y (30 * m9) t + 0 = cU x y (30 * m9) (t + 1) from hc.symm]
                first | refine g_istore_nS X rfl (by decide) rfl ?_ | refine g_istore_n X rfl (by decide) ?_
                first | refine g_iinc1S X rfl rfl (by decide) rfl ?_ | refine g_iinc1 X rfl rfl (by decide) ?_
                refine g_goto X rfl ?_
                exact ih (t + 1) (by omega)
              · have hc := cU_y (lo := 30 * m9) (t := t) h3 h4
                refine g_iconst X rfl (v := nI 1) (by decide) ?_
                refine g_goto X rfl ?_
                refine g_iadd X rfl ?_
                rw [nI_add _ 1, show cU x y (30 * m9) t + 1 = cU x y (30 * m9) (t + 1) from hc.symm]
                first | refine g_istore_nS X rfl (by decide) rfl ?_ | refine g_istore_n X rfl (by decide) ?_
                first | refine g_iinc1S X rfl rfl (by decide) rfl ?_ | refine g_iinc1 X rfl rfl (by decide) ?_
                refine g_goto X rfl ?_
                exact ih (t + 1) (by omega)
    refine g_iconst X rfl (v := nI 0) (by decide) ?_
    first | refine g_istore_nS X rfl (by decide) rfl ?_ | refine g_istore_n X rfl (by decide) ?_
    refine g_bipush X rfl (v := nI 30) (by decide) ?_
    refine g_iload_n X rfl rfl ?_
    refine g_imul X rfl ?_
    rw [pk_mul 30 m9]
    first | refine g_istoreS X rfl (by decide) rfl ?_ | refine g_istore X rfl (by decide) ?_
    have := loopY 30 0 rfl
    rw [cU_0 x y _ hab] at this
    exact this
def bkAb (S : StV) (m : Nat) : Nat → Int64 := sumL 0 (fun k => (S.2.1.2 0 k).toInt64 * (rDays S.2.1 (nI (30 * m)) (nI (30 * m + 30 - 1)) k).toInt64)
def bkBe (S : StV) : Nat → Int64 := sumL 0 (fun k => 30 * (S.2.1.2 0 k).toInt64)
theorem bkAb_eq {Z : SV} {S : StV} (hg : Rng Z S) (hw : WfS S) {m : Nat} (hm : m ≤ 11) : bkAb S m S.2.1.1 = (rUsed S.2.1 (nI m)).toInt64 := by
  have key : ∀ i, i ≤ S.2.1.1 → ∃ v, v ≤ i * 15000 ∧ sumI (fun k => S.2.1.2 0 k * rDays S.2.1 (nI (30 * m)) (nI (30 * m + 30 - 1)) k) i = nI v ∧ bkAb S m i = lN v := by
    intro i
    induction i with
    | zero => intro _; exact ⟨0, Nat.le_refl _, rfl, rfl⟩
    | succ i ih =>
      intro hi
      obtain ⟨v, h1, h2, h3⟩ := ih (by omega)
      obtain ⟨⟨w, w1, w2, hw9⟩, hrd⟩ := hg.2.1 i (by omega)
      obtain ⟨u, hu, hu2⟩ : ∃ u, u ≤ 30 ∧ rDays S.2.1 (nI (30 * m)) (nI (30 * m + 30 - 1)) i = nI u := by
        rcases hrd with h | ⟨a, b, hab, hb, ha, hb2⟩
        · exact ⟨0, by omega, rDays_no h⟩
        · exact ⟨_, dU_le a b m, rDays_N ha hb2 hb (by omega) (by omega) (by omega)⟩
      refine ⟨v + w * u, ?_, ?_, ?_⟩
      · have : w * u ≤ 500 * 30 := Nat.mul_le_mul w2 hu
        omega
      · show sumI _ i + S.2.1.2 0 i * rDays _ _ _ i = _
        rw [h2, hw9, hu2, pk_mul, nI_add]
      · show bkAb S m i + (S.2.1.2 0 i).toInt64 * (rDays _ _ _ i).toInt64 = _
        rw [h3, hw9, hu2, nI_l (by omega), nI_l (by omega), lN_mul, lN_add]
  obtain ⟨v, h1, h2, h3⟩ := key _ (Nat.le_refl _)
  have h6 := hw.2.1
  rw [h3]
  unfold rUsed
  rw [(win m).2, (win m).1, h2, nI_l (by omega)]
theorem bkBe_eq {Z : SV} {S : StV} (hg : Rng Z S) (hw : WfS S) : (if bkBe S S.2.1.1 < 1 then 1 else bkBe S S.2.1.1) = (if S.2.1.1 = 0 then nI 1 else rWhole S.2.1).toInt64 := by
  have key : ∀ i, i ≤ S.2.1.1 → ∃ v, 30 * i ≤ v ∧ v ≤ i * 15000 ∧ sumI (fun k => S.2.1.2 0 k * nI 30) i = nI v ∧ bkBe S i = lN v := by
    intro i
    induction i with
    | zero => intro _; exact ⟨0, Nat.le_refl _, Nat.le_refl _, rfl, rfl⟩
    | succ i ih =>
      intro hi
      obtain ⟨v, h0, h1, h2, h3⟩ := ih (by omega)
      obtain ⟨⟨w, w1, w2, hw9⟩, hrd⟩ := hg.2.1 i (by omega)
      refine ⟨v + w * 30, by omega, by omega, ?_, ?_⟩
      · show sumI _ i + S.2.1.2 0 i * nI 30 = _
        rw [h2, hw9, pk_mul, nI_add]
      · show bkBe S i + 30 * (S.2.1.2 0 i).toInt64 = _
        rw [h3, hw9, nI_l (by omega), show (30 : Int64) = lN 30 from rfl, lN_mul, lN_add, Nat.mul_comm 30 w]
  obtain ⟨v, h0, h1, h2, h3⟩ := key _ (Nat.le_refl _)
  have h6 := hw.2.1
  rw [h3]
  unfold rWhole
  rw [h2]
  by_cases e : S.2.1.1 = 0
  · have : v = 0 := by omega
    subst this
    rw [if_pos e]; rfl
  · rw [if_neg e, nI_l (by omega), if_neg]
    rw [show (1 : Int64) = lN 1 from rfl, Int64.lt_iff_toInt_lt, lN_toInt (by omega), lN_toInt (by decide)]
    omega
set_option maxRecDepth 100000 in
set_option maxHeartbeats 400000 in
theorem cg_X8_above (l : Launch) (D : va_G) (cy : Nat → ClassId) (B : Nat) (od : Nat → Option Nat) {A : AH} {g : Nat} {L : BL} {S : StV} {Z : SV} (hb : BkR cy A g L S Z) (hg : Rng Z S) {m9 : Nat} (hm : m9 ≤ 11) : CG l D cy B od yX8_above cX8_above 6 (some .long) rmX8_above [.ref g, .int (nI m9)] A (fun v A' => v = some (.long (bkAb S m9 S.2.1.1))) := by
  intro z hF hz
  refine CT.of (by decide) tX8_above okX8_above (Nat.le_of_ble_eq_true rfl) (q0 := tX8_above[0]) rfl rfl ?_
  intro p e s m args below meth c X hnm
  have hL : LsC cy A (L.1 1) (L.2.1 1) (L.2.2.1 1) S.2.1.1 (L.2.2.2 1) := hb.2.1 1 (by decide)
  have hn9 := hL.2.1
  have loop : ∀ (d i : Nat) (A1 : AH) (z1 : Nat) (lr : Int32) (o : Option Value), i + d = S.2.1.1 → Grw A z A1 z1 (1) → A1 z = some (itE i lr (L.2.1 1) (L.1 1)) → G p l e rmX8_above s m args below meth c D B od 6 tX8_above (FinQ false D B od (fun v A' z' => (fun v A' => v = some (.long (bkAb S m9 S.2.1.1))) v A' ∧ ∃ z1, z' = z1 + 1 ∧ Grw A z A' z1 rmX8_above.cells) (fun _ _ => True) args s below rmX8_above.cells rmX8_above.slots) (1) (4) A1 (z1 + 1) 6 [some (.ref g), some (.int (nI m9)), some (.long (bkAb S m9 i)), none, some (.ref z), o] [] := by
    intro d
    induction d with
    | zero =>
      intro i A1 z1 lr o  hid hG hI 
      have e : i = S.2.1.1 := by omega
      subst e
      refine g_aload X rfl rfl ?_
      refine g_hasNext X rfl lmX8_52 (hL.le hG.1).1 hI (by omega) hn9 (Nat.le_of_ble_eq_true rfl) ⟨by decide, by decide⟩ ⟨Nat.le_of_ble_eq_true rfl, Nat.le_of_ble_eq_true rfl⟩ ?_
      refine g_if_eqB X rfl (fun _ => ?_) (fun h => absurd (of_decide_eq_true h) (by omega))
      refine g_lload_n X rfl rfl ?_
      exact g_lret X rfl rfl (Nat.le_of_ble_eq_true rfl) (Nat.le_of_ble_eq_true rfl) ⟨rfl, z1, rfl, hG⟩
    | succ d ih =>
      intro i A1 z1 lr o  hid hG hI 
      have hi : i < S.2.1.1 := by omega
      refine g_aload X rfl rfl ?_
      refine g_hasNext X rfl lmX8_52 (hL.le hG.1).1 hI (by omega) hn9 (Nat.le_of_ble_eq_true rfl) ⟨by decide, by decide⟩ ⟨Nat.le_of_ble_eq_true rfl, Nat.le_of_ble_eq_true rfl⟩ ?_
      refine g_if_eqB X rfl (fun h => absurd hi (of_decide_eq_false h)) (fun _ => ?_)
      refine g_aload X rfl rfl ?_
      refine g_next X rfl lmX8_58 (hL.le hG.1) hI hi (Nat.le_of_ble_eq_true rfl) ⟨by decide, by decide⟩ ⟨Nat.le_of_ble_eq_true rfl, Nat.le_of_ble_eq_true rfl⟩ ?_
      have hG2 : Grw A z (upA A1 z (itE (i + 1) (nI i) (L.2.1 1) (L.1 1))) z1 (1) := hG.up hF (Nat.le_refl _) (hG.2.2.2.lt hI)
      obtain ⟨r, hr0, hrv⟩ : ∃ r, A (L.2.2.2 1 i) = some (.inl (cy 0, 3, .inl r)) ∧ ∀ j, j < 3 → r j = S.2.1.2 j i := hb.2.2.2.1 i hi
      have hr := hG2.1 _ _ hr0
      refine g_castI X rfl clX8_62 hr ?_
      first | refine g_astoreS X rfl (by decide) rfl ?_ | refine g_astore X rfl (by decide) ?_
      refine g_lload_n X rfl rfl ?_
      refine g_aload X rfl rfl ?_
      refine g_iconst X rfl (v := nI 0) (by decide) ?_
      refine g_ialdN X rfl hr (by decide) (by decide) ?_
      rw [hrv 0 (by decide)]
      refine g_i2l X rfl ?_
      refine g_aload_n X rfl rfl ?_
      refine g_aload X rfl rfl ?_
      refine g_iload_n X rfl rfl ?_
      refine g_rV X rfl lcX8_used lmX8_129 lsX8_used (cr_X8_used l D cy B od hr (hrv 1 (by decide)) (hrv 2 (by decide)) (hg.2.1 i hi).2 hm) (ci := 8) (hG2.1 _ _ hb.1) rfl rfl rfl (Nat.le_of_ble_eq_true rfl) ⟨⟨by decide, by decide⟩, rfl, rfl⟩ ⟨Nat.le_of_ble_eq_true rfl, Nat.le_of_ble_eq_true rfl⟩ ?_
      refine g_i2l X rfl ?_
      refine g_lmul X rfl ?_
      refine g_ladd X rfl ?_
      first | refine g_lstore_nS X rfl (by decide) rfl ?_ | refine g_lstore_n X rfl (by decide) ?_
      refine g_goto X rfl ?_
      exact ih (i + 1) _ z1 _ _ (by omega) hG2 upA_eq
  refine g_lconst X rfl (v := 0) (by decide) ?_
  first | refine g_lstore_nS X rfl (by decide) rfl ?_ | refine g_lstore_n X rfl (by decide) ?_
  refine g_aload_n X rfl rfl ?_
  refine g_get X rfl flX8_33 (ci := 8) rfl (hb.1) rfl ?_
  refine g_iter X rfl lmX8_48 hL hF (by have : z + 1 ≤ 900000 := hz; omega) (Nat.le_of_ble_eq_true rfl) ⟨by decide, by decide⟩ ⟨Nat.le_of_ble_eq_true rfl, Nat.le_of_ble_eq_true rfl⟩ ?_
  first | refine g_astoreS X rfl (by decide) rfl ?_ | refine g_astore X rfl (by decide) ?_
  exact loop S.2.1.1 0 _ (z + 1) _ _ (Nat.zero_add _) ((Grw.rf hF).new hF) upA_eq
set_option maxRecDepth 100000 in
set_option maxHeartbeats 400000 in
theorem cg_X8_below (l : Launch) (D : va_G) (cy : Nat → ClassId) (B : Nat) (od : Nat → Option Nat) {A : AH} {g : Nat} {L : BL} {S : StV} {Z : SV} (hb : BkR cy A g L S Z) : CG l D cy B od yX8_below cX8_below 5 (some .long) rmX8_below [.ref g] A (fun v A' => v = some (.long (if bkBe S S.2.1.1 < 1 then 1 else bkBe S S.2.1.1))) := by
  intro z hF hz
  refine CT.of (by decide) tX8_below okX8_below (Nat.le_of_ble_eq_true rfl) (q0 := tX8_below[0]) rfl rfl ?_
  intro p e s m args below meth c X hnm
  have hL : LsC cy A (L.1 1) (L.2.1 1) (L.2.2.1 1) S.2.1.1 (L.2.2.2 1) := hb.2.1 1 (by decide)
  have hn9 := hL.2.1
  have loop : ∀ (d i : Nat) (A1 : AH) (z1 : Nat) (lr : Int32) (o : Option Value), i + d = S.2.1.1 → Grw A z A1 z1 (1) → A1 z = some (itE i lr (L.2.1 1) (L.1 1)) → G p l e rmX8_below s m args below meth c D B od 5 tX8_below (FinQ false D B od (fun v A' z' => (fun v A' => v = some (.long (if bkBe S S.2.1.1 < 1 then 1 else bkBe S S.2.1.1))) v A' ∧ ∃ z1, z' = z1 + 1 ∧ Grw A z A' z1 rmX8_below.cells) (fun _ _ => True) args s below rmX8_below.cells rmX8_below.slots) (1) (4) A1 (z1 + 1) 6 [some (.ref g), some (.long (bkBe S i)), none, some (.ref z), o] [] := by
    intro d
    induction d with
    | zero =>
      intro i A1 z1 lr o  hid hG hI 
      have e : i = S.2.1.1 := by omega
      subst e
      refine g_aload_n X rfl rfl ?_
      refine g_hasNext X rfl lmX8_52 (hL.le hG.1).1 hI (by omega) hn9 (Nat.le_of_ble_eq_true rfl) ⟨by decide, by decide⟩ ⟨Nat.le_of_ble_eq_true rfl, Nat.le_of_ble_eq_true rfl⟩ ?_
      refine g_if_eqB X rfl (fun _ => ?_) (fun h => absurd (of_decide_eq_true h) (by omega))
      refine g_lconst X rfl (v := 1) (by decide) ?_
      refine g_lload_n X rfl rfl ?_
      refine g_m_max_l X rfl lmX8_135 (Nat.le_of_ble_eq_true rfl) ⟨by decide, by decide⟩ ⟨Nat.le_of_ble_eq_true rfl, Nat.le_of_ble_eq_true rfl⟩ ?_
      exact g_lret X rfl rfl (Nat.le_of_ble_eq_true rfl) (Nat.le_of_ble_eq_true rfl) ⟨rfl, z1, rfl, hG⟩
    | succ d ih =>
      intro i A1 z1 lr o  hid hG hI 
      have hi : i < S.2.1.1 := by omega
      refine g_aload_n X rfl rfl ?_
      refine g_hasNext X rfl lmX8_52 (hL.le hG.1).1 hI (by omega) hn9 (Nat.le_of_ble_eq_true rfl) ⟨by decide, by decide⟩ ⟨Nat.le_of_ble_eq_true rfl, Nat.le_of_ble_eq_true rfl⟩ ?_
      refine g_if_eqB X rfl (fun h => absurd hi (of_decide_eq_false h)) (fun _ => ?_)
      refine g_aload_n X rfl rfl ?_
      refine g_next X rfl lmX8_58 (hL.le hG.1) hI hi (Nat.le_of_ble_eq_true rfl) ⟨by decide, by decide⟩ ⟨Nat.le_of_ble_eq_true rfl, Nat.le_of_ble_eq_true rfl⟩ ?_
      have hG2 : Grw A z (upA A1 z (itE (i + 1) (nI i) (L.2.1 1) (L.1 1))) z1 (1) := hG.up hF (Nat.le_refl _) (hG.2.2.2.lt hI)
      obtain ⟨r, hr0, hrv⟩ : ∃ r, A (L.2.2.2 1 i) = some (.inl (cy 0, 3, .inl r)) ∧ ∀ j, j < 3 → r j = S.2.1.2 j i := hb.2.2.2.1 i hi
      have hr := hG2.1 _ _ hr0
      refine g_castI X rfl clX8_62 hr ?_
      first | refine g_astoreS X rfl (by decide) rfl ?_ | refine g_astore X rfl (by decide) ?_
      refine g_lload_n X rfl rfl ?_
      refine g_ldc2 X rfl kcX8_133 ?_
      refine g_aload X rfl rfl ?_
      refine g_iconst X rfl (v := nI 0) (by decide) ?_
      refine g_ialdN X rfl hr (by decide) (by decide) ?_
      rw [hrv 0 (by decide)]
      refine g_i2l X rfl ?_
      refine g_lmul X rfl ?_
      refine g_ladd X rfl ?_
      first | refine g_lstore_nS X rfl (by decide) rfl ?_ | refine g_lstore_n X rfl (by decide) ?_
      refine g_goto X rfl ?_
      exact ih (i + 1) _ z1 _ _ (by omega) hG2 upA_eq
  refine g_lconst X rfl (v := 0) (by decide) ?_
  first | refine g_lstore_nS X rfl (by decide) rfl ?_ | refine g_lstore_n X rfl (by decide) ?_
  refine g_aload_n X rfl rfl ?_
  refine g_get X rfl flX8_33 (ci := 8) rfl (hb.1) rfl ?_
  refine g_iter X rfl lmX8_48 hL hF (by have : z + 1 ≤ 900000 := hz; omega) (Nat.le_of_ble_eq_true rfl) ⟨by decide, by decide⟩ ⟨Nat.le_of_ble_eq_true rfl, Nat.le_of_ble_eq_true rfl⟩ ?_
  first | refine g_astore_nS X rfl (by decide) rfl ?_ | refine g_astore_n X rfl (by decide) ?_
  exact loop S.2.1.1 0 _ (z + 1) _ _ (Nat.zero_add _) ((Grw.rf hF).new hF) upA_eq
set_option maxRecDepth 100000 in
set_option maxHeartbeats 400000 in
theorem cg_X8_deducted (l : Launch) (D : va_G) (cy : Nat → ClassId) (B : Nat) (od : Nat → Option Nat) {A : AH} {g : Nat} {L : BL} {S : StV} {Z : SV} (hb : BkR cy A g L S Z) (hg : Rng Z S) (hw : WfS S) {kd am : Int32} {d9 : Nat} (hd : d9 ≤ 359) : CG l D cy B od yX8_deducted cX8_deducted 4 (some .long) rmX8_deducted [.ref g, .int kd, .int am, .int (nI d9)] A (fun v A' => v = some (.long (sDed S.2.1 kd am (nI d9)))) := by
  intro z hF hz
  refine CT.of (by decide) tX8_deducted okX8_deducted (Nat.le_of_ble_eq_true rfl) (q0 := tX8_deducted[0]) rfl rfl ?_
  intro p e s m args below meth c X hnm
  refine g_iload_n X rfl rfl ?_
  refine g_iconst X rfl (v := nI 1) (by decide) ?_
  refine g_icmp_ne X rfl (fun h => ?_) (fun h => ?_)
  · skip
    refine g_iload_n X rfl rfl ?_
    refine g_iconst X rfl (v := nI 2) (by decide) ?_
    refine g_icmp_ne X rfl (fun h2 => ?_) (fun h2 => ?_)
    · skip
      refine g_lconst X rfl (v := 0) (by decide) ?_
      exact g_lret X rfl rfl (Nat.le_of_ble_eq_true rfl) (Nat.le_of_ble_eq_true rfl) ⟨by rw [sDed, if_neg h, if_pos (Or.inl h2)], z, rfl, (Grw.rf hF).wide (by decide)⟩
    · skip
      refine g_iload_n X rfl rfl ?_
      refine g_i2l X rfl ?_
      refine g_aload_n X rfl rfl ?_
      refine g_iload_n X rfl rfl ?_
      refine g_bipush X rfl (v := nI 30) (by decide) ?_
      refine g_idiv X rfl (by decide) ?_
      rw [pk_div (by omega) (by omega) (by omega)]
      refine g_gV X rfl lcX8_above lmX8_141 lsX8_above (cg_X8_above l D cy B od hb hg (show d9 / 30 ≤ 11 by omega)) hF (by have : z + 2 ≤ 900000 := hz; show z + 1 ≤ 900000; omega) (ci := 8) (hb.1) rfl rfl rfl (Nat.le_of_ble_eq_true rfl) ⟨by decide, by decide⟩ ⟨Nat.le_of_ble_eq_true rfl, Nat.le_of_ble_eq_true rfl⟩ (fun v1 A1 z1 q1 hG1 => ?_)
      obtain rfl := q1
      refine g_lmul X rfl ?_
      refine g_aload_n X rfl rfl ?_
      refine g_gV X rfl lcX8_below lmX8_145 lsX8_below (cg_X8_below l D cy B od (hb.le hG1.1)) hG1.2.2.2 (by have : z + 2 ≤ 900000 := hz; have : z1 ≤ z + 1 := hG1.2.2.1; show z1 + 1 ≤ 900000; omega) (ci := 8) ((hb.le hG1.1).1) rfl rfl rfl (Nat.le_of_ble_eq_true rfl) ⟨by decide, by decide⟩ ⟨Nat.le_of_ble_eq_true rfl, Nat.le_of_ble_eq_true rfl⟩ (fun v2 A2 z2 q2 hG2 => ?_)
      obtain rfl := q2
      refine g_ldiv X rfl (by rw [bkBe_eq hg hw]; exact below_ne hg hw) ?_
      refine g_goto X rfl ?_
      exact g_lret X rfl rfl (Nat.le_of_ble_eq_true rfl) (Nat.le_of_ble_eq_true rfl) ⟨by subst h2; rw [bkBe_eq hg hw, bkAb_eq hg hw (show d9 / 30 ≤ 11 by omega), ded_eq hg hw hd], z2, rfl, hG1.tr hG2⟩
  · skip
    refine g_iload_n X rfl rfl ?_
    refine g_i2l X rfl ?_
    refine g_goto X rfl ?_
    exact g_lret X rfl rfl (Nat.le_of_ble_eq_true rfl) (Nat.le_of_ble_eq_true rfl) ⟨by rw [sDed, if_pos h], z, rfl, (Grw.rf hF).wide (by decide)⟩
