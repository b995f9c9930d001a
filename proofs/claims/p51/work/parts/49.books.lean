/-! 49: books are made: empty, a copy, the plain one -/
/-- a state with fewer rows -/
def cutS (S : StV) (n : Nat → Nat) : StV := ((n 2, S.1.2), (n 1, S.2.1.2), (n 3, S.2.2.1.2), S.2.2.2.1, n 4, S.2.2.2.2.2)
def cutZ (Z : SV) (n : Nat → Nat) : SV := (n 0, Z.2)
theorem bN_cut (S : StV) (Z : SV) (n : Nat → Nat) : ∀ t, t < 5 → bN (cutS S n) (cutZ Z n) t = n t := by
  intro t ht
  rcases (show t = 0 ∨ t = 1 ∨ t = 2 ∨ t = 3 ∨ t = 4 by omega) with rfl | rfl | rfl | rfl | rfl <;> rfl
theorem RwT.cut {cy : Nat → ClassId} {A : AH} {t a : Nat} {S : StV} {Z : SV} {j : Nat} {n m : Nat → Nat} (ht : t < 5) (h : RwT cy A t a (cutS S n) (cutZ Z n) j) : RwT cy A t a (cutS S m) (cutZ Z m) j := by
  rcases (show t = 0 ∨ t = 1 ∨ t = 2 ∨ t = 3 ∨ t = 4 by omega) with rfl | rfl | rfl | rfl | rfl <;> exact h
theorem RwT.cut' {cy : Nat → ClassId} {A : AH} {t a : Nat} {S : StV} {Z : SV} {j : Nat} {n : Nat → Nat} (ht : t < 5) (h : RwT cy A t a S Z j) : RwT cy A t a (cutS S n) (cutZ Z n) j := by
  rcases (show t = 0 ∨ t = 1 ∨ t = 2 ∨ t = 3 ∨ t = 4 by omega) with rfl | rfl | rfl | rfl | rfl <;> exact h
theorem cut_ag (L : BL) (S : StV) (Z : SV) (n m : Nat → Nat) : Ag L (cutS S n) (cutZ Z n) (cutS S m) (cutZ Z m) := ⟨rfl, fun _ ht _ _ _ _ _ h => h.cut ht⟩
theorem cut_all {S : StV} {Z : SV} : cutS S (bN S Z) = S ∧ cutZ Z (bN S Z) = Z := ⟨rfl, rfl⟩
theorem bk_new {cy : Nat → ClassId} {A : AH} {g z : Nat} {S : StV} {Z : SV} (hb : ∀ t, t < 5 → bN S Z t = 0) (hg : A g = some (.inr (8, bkO ((fun t => z + t), (fun _ => nI 0), (fun _ => 3000001), fun _ _ => 0) S Z))) (hl : ∀ t, t < 5 → A (z + t) = some (.inr (9, [.int (nI 0), .ref 3000001, .int (nI 0)]))) : BkW cy A g ((fun t => z + t), (fun _ => nI 0), (fun _ => 3000001), fun _ _ => 0) S Z := by
  refine ⟨BkR.iff.mpr ⟨hg, fun t ht => ?_⟩, fun t u _ _ h => ⟨fun e => h (Nat.add_left_cancel e), fun _ => rfl⟩, fun t h1 h3 i j hi _ => ?_⟩
  · rw [hb t ht]
    exact ⟨⟨hl t ht, by decide, Or.inl ⟨rfl, rfl⟩, fun j hj => absurd hj (Nat.not_lt_zero _)⟩, fun j hj => absurd hj (Nat.not_lt_zero _)⟩
  · rw [hb t (by omega)] at hi; exact absurd hi (Nat.not_lt_zero _)
theorem foot_new {g z q : Nat} {S : StV} {Z : SV} (hb : ∀ t, t < 5 → bN S Z t = 0) (hz : g ≤ z) (h : Foot g ((fun t => z + t), (fun _ => nI 0), (fun _ => 3000001), fun _ _ => 0) S Z q) : g ≤ q := by
  rcases h with rfl | ⟨t, ht, h2 | ⟨h2, h3⟩⟩ | ⟨t, j, ht1, ht3, hj, h2⟩
  · exact Nat.le_refl _
  · have h2 : q = z + t := h2
    omega
  · exact absurd h2 h3
  · rw [hb t (by omega)] at hj; exact absurd hj (Nat.not_lt_zero _)
/-- a new book, as the machine lays it -/
def bk0 : va_E := .inr (8, [.int (nI 0), .int (nI 0), .int (nI 0), .int (nI 0), .int (nI 0), .null, .null, .null, .null, .null])
set_option maxRecDepth 100000 in
set_option maxHeartbeats 400000 in
theorem ct_X8_init (l : Launch) (D : va_G) (cy : Nat → ClassId) (B : Nat) (od : Nat → Option Nat) {A0 : AH} {g : Nat} (hF0 : FRs A0 g) (hz0 : g + 400 ≤ 900000) {S : StV} {Z : SV} (hb : ∀ t, t < 5 → bN S Z t = 0) (h1 : S.2.2.2.2.2 = nI 0) (h2 : Z.2.1 1 = nI 80000) (h3 : Z.2.1 2 = nI 100000) (h4 : Z.2.1 3 = nI 5) (h5 : Z.2.1 4 = nI 420) : CT l D cy B od yX8_init cX8_init 1 none rmX8_init [.ref g] (upA A0 g bk0) (g + 2) (fun v A' z' => v = none ∧ z' = g + 7 ∧ (∃ L, BkW cy A' g L S Z ∧ (∀ q, Foot g L S Z q → g ≤ q)) ∧ Grw A0 g A' (g + 6) 6) := by
  refine CT.of (by decide) tX8_init okX8_init (Nat.le_of_ble_eq_true rfl) (q0 := tX8_init[0]) rfl rfl ?_
  intro p e s m args below meth c X hnm
  have main : ∀ (Ae : AH), (Ae g = some (.inr (8, [.int (nI 0), .int (nI 80000), .int (nI 100000), .int (nI 5), .int (nI 420), .ref (g + 1), .ref (g + 1 + 1), .ref (g + 1 + 1 + 1), .ref (g + 1 + 1 + 1 + 1), .ref (g + 1 + 1 + 1 + 1 + 1)])) ∧ (∀ t, t < 5 → Ae (g + 1 + t) = some (.inr (9, [.int (nI 0), .ref 3000001, .int (nI 0)]))) ∧ FRs Ae (g + 6) ∧ ∀ q, q < g → Ae q = A0 q) → G p l e rmX8_init s m args below meth c D B od 1 tX8_init (FinQ false D B od (fun v A' z' => v = none ∧ z' = g + 7 ∧ (∃ L, BkW cy A' g L S Z ∧ (∀ q, Foot g L S Z q → g ≤ q)) ∧ Grw A0 g A' (g + 6) 6) (fun _ _ => True) args s below rmX8_init.cells rmX8_init.slots) 5 15 Ae (g + 7) 39 [some (.ref g)] [] := by
    rintro Ae ⟨f1, f2, f3, f4⟩
    exact g_vret X rfl rfl (Nat.le_of_ble_eq_true rfl) (Nat.le_of_ble_eq_true rfl) ⟨rfl, rfl, ⟨_, bk_new (z := g + 1) hb (by rw [f1]; show _ = some (Sum.inr (8, bkO _ S Z)); unfold bkO; rw [h1, h2, h3, h4, h5]) f2, fun q hq => foot_new hb (by omega) hq⟩, fun k y hk => by rw [f4 k (hF0.lt hk)]; exact hk, by omega, by omega, f3⟩
  refine g_aload_n X rfl rfl ?_
  refine g_objInit X rfl oiX8_3 (by decide) (Nat.le_of_ble_eq_true rfl) (by decide) ?_
  refine g_aload_n X rfl rfl ?_
  refine g_ldc X rfl kcX8_9 ?_
  refine g_put X rfl flX8_10 rfl (ci := 8) rfl (by (repeat (first | exact upA_eq | refine (upA_ne (by omega)).trans ?_))) (Nat.le_of_ble_eq_true rfl) (by rfl) (by rfl) ?_
  refine g_aload_n X rfl rfl ?_
  refine g_ldc X rfl kcX8_16 ?_
  refine g_put X rfl flX8_17 rfl (ci := 8) rfl (by (repeat (first | exact upA_eq | refine (upA_ne (by omega)).trans ?_))) (Nat.le_of_ble_eq_true rfl) (by rfl) (by rfl) ?_
  refine g_aload_n X rfl rfl ?_
  refine g_iconst X rfl (v := nI 5) (by decide) ?_
  refine g_put X rfl flX8_20 rfl (ci := 8) rfl (by (repeat (first | exact upA_eq | refine (upA_ne (by omega)).trans ?_))) (Nat.le_of_ble_eq_true rfl) (by rfl) (by rfl) ?_
  refine g_aload_n X rfl rfl ?_
  refine g_sipush X rfl (v := nI 420) (by decide) ?_
  refine g_put X rfl flX8_23 rfl (ci := 8) rfl (by (repeat (first | exact upA_eq | refine (upA_ne (by omega)).trans ?_))) (Nat.le_of_ble_eq_true rfl) (by rfl) (by rfl) ?_
  refine g_aload_n X rfl rfl ?_
  refine g_new X rfl nwX8_26 (ci := 9) rfl (fs := [.int (nI 0), .null, .int (nI 0)]) rfl rfl (by omega) (Nat.le_of_ble_eq_true rfl) (Nat.le_of_ble_eq_true rfl) ?_
  refine g_dup X rfl rfl ?_
  refine g_mI X rfl lcJx4a65c_init_da8c8 lmX8_28 liJx4a65c_init_da8c8 rfl (cm_AL_init l D cy B od upA_eq) rfl rfl (Nat.le_of_ble_eq_true rfl) ⟨⟨by decide, by decide⟩, rfl, rfl⟩ ⟨Nat.le_of_ble_eq_true rfl, Nat.le_of_ble_eq_true rfl⟩ (fun v0 A0 q0 => ?_)
  obtain ⟨rfl, rfl⟩ := q0
  rw [upA_up]
  refine g_putF X rfl flX8_29 rfl hnm rfl ffX8_29 (ci := 8) rfl (by (repeat (first | exact upA_eq | refine (upA_ne (by omega)).trans ?_))) (Nat.le_of_ble_eq_true rfl) (by rfl) (by rfl) ?_
  refine g_aload_n X rfl rfl ?_
  refine g_new X rfl nwX8_26 (ci := 9) rfl (fs := [.int (nI 0), .null, .int (nI 0)]) rfl rfl (by omega) (Nat.le_of_ble_eq_true rfl) (Nat.le_of_ble_eq_true rfl) ?_
  refine g_dup X rfl rfl ?_
  refine g_mI X rfl lcJx4a65c_init_da8c8 lmX8_28 liJx4a65c_init_da8c8 rfl (cm_AL_init l D cy B od upA_eq) rfl rfl (Nat.le_of_ble_eq_true rfl) ⟨⟨by decide, by decide⟩, rfl, rfl⟩ ⟨Nat.le_of_ble_eq_true rfl, Nat.le_of_ble_eq_true rfl⟩ (fun v1 A1 q1 => ?_)
  obtain ⟨rfl, rfl⟩ := q1
  rw [upA_up]
  refine g_putF X rfl flX8_33 rfl hnm rfl ffX8_33 (ci := 8) rfl (by (repeat (first | exact upA_eq | refine (upA_ne (by omega)).trans ?_))) (Nat.le_of_ble_eq_true rfl) (by rfl) (by rfl) ?_
  refine g_aload_n X rfl rfl ?_
  refine g_new X rfl nwX8_26 (ci := 9) rfl (fs := [.int (nI 0), .null, .int (nI 0)]) rfl rfl (by omega) (Nat.le_of_ble_eq_true rfl) (Nat.le_of_ble_eq_true rfl) ?_
  refine g_dup X rfl rfl ?_
  refine g_mI X rfl lcJx4a65c_init_da8c8 lmX8_28 liJx4a65c_init_da8c8 rfl (cm_AL_init l D cy B od upA_eq) rfl rfl (Nat.le_of_ble_eq_true rfl) ⟨⟨by decide, by decide⟩, rfl, rfl⟩ ⟨Nat.le_of_ble_eq_true rfl, Nat.le_of_ble_eq_true rfl⟩ (fun v2 A2 q2 => ?_)
  obtain ⟨rfl, rfl⟩ := q2
  rw [upA_up]
  refine g_putF X rfl flX8_36 rfl hnm rfl ffX8_36 (ci := 8) rfl (by (repeat (first | exact upA_eq | refine (upA_ne (by omega)).trans ?_))) (Nat.le_of_ble_eq_true rfl) (by rfl) (by rfl) ?_
  refine g_aload_n X rfl rfl ?_
  refine g_new X rfl nwX8_26 (ci := 9) rfl (fs := [.int (nI 0), .null, .int (nI 0)]) rfl rfl (by omega) (Nat.le_of_ble_eq_true rfl) (Nat.le_of_ble_eq_true rfl) ?_
  refine g_dup X rfl rfl ?_
  refine g_mI X rfl lcJx4a65c_init_da8c8 lmX8_28 liJx4a65c_init_da8c8 rfl (cm_AL_init l D cy B od upA_eq) rfl rfl (Nat.le_of_ble_eq_true rfl) ⟨⟨by decide, by decide⟩, rfl, rfl⟩ ⟨Nat.le_of_ble_eq_true rfl, Nat.le_of_ble_eq_true rfl⟩ (fun v3 A3 q3 => ?_)
  obtain ⟨rfl, rfl⟩ := q3
  rw [upA_up]
  refine g_putF X rfl flX8_39 rfl hnm rfl ffX8_39 (ci := 8) rfl (by (repeat (first | exact upA_eq | refine (upA_ne (by omega)).trans ?_))) (Nat.le_of_ble_eq_true rfl) (by rfl) (by rfl) ?_
  refine g_aload_n X rfl rfl ?_
  refine g_new X rfl nwX8_26 (ci := 9) rfl (fs := [.int (nI 0), .null, .int (nI 0)]) rfl rfl (by omega) (Nat.le_of_ble_eq_true rfl) (Nat.le_of_ble_eq_true rfl) ?_
  refine g_dup X rfl rfl ?_
  refine g_mI X rfl lcJx4a65c_init_da8c8 lmX8_28 liJx4a65c_init_da8c8 rfl (cm_AL_init l D cy B od upA_eq) rfl rfl (Nat.le_of_ble_eq_true rfl) ⟨⟨by decide, by decide⟩, rfl, rfl⟩ ⟨Nat.le_of_ble_eq_true rfl, Nat.le_of_ble_eq_true rfl⟩ (fun v4 A4 q4 => ?_)
  obtain ⟨rfl, rfl⟩ := q4
  rw [upA_up]
  refine g_putF X rfl flX8_42 rfl hnm rfl ffX8_42 (ci := 8) rfl (by (repeat (first | exact upA_eq | refine (upA_ne (by omega)).trans ?_))) (Nat.le_of_ble_eq_true rfl) (by rfl) (by rfl) ?_
  refine main _ ?_
  refine ⟨(by (repeat (first | exact upA_eq | refine (upA_ne (by omega)).trans ?_))), fun t ht => ?_, fun k hk => ?_, fun q hq => ?_⟩
  · rcases (show t = 0 ∨ t = 1 ∨ t = 2 ∨ t = 3 ∨ t = 4 by omega) with rfl | rfl | rfl | rfl | rfl <;> (repeat (first | exact upA_eq | refine (upA_ne (by omega)).trans ?_))
  · repeat refine (upA_ne (by omega)).trans ?_
    exact hF0 k (by omega)
  · repeat refine (upA_ne (by omega)).trans ?_
    rfl
/-- a cell that is no list and no array of objects, after an element was added -/
theorem row_in {cy : Nat → ClassId} {A A' : AH} {g : Nat} {L : BL} {S : StV} {Z : SV} {t x z z' n k : Nat} {mc : Int32} {y : va_E} (h : BkW cy A g L S Z) (ht : t < 5) (hF : FRs A z) (hz : z ≤ 900000) (hq : AddQ cy A A' z z' (L.1 t) mc (L.2.2.1 t) n (L.2.2.2 t) x) (hk : A k = some y) (ho : ¬ isOA y) (hl : ¬ isLS y) : A' k = some y := by
  obtain ⟨ed', z1, -, -, -, -, hf⟩ := hq
  have hlt := h.1.2.1 t ht
  refine (hf k ?_ ?_ ?_).trans hk
  · intro e; subst e; rw [hlt.1] at hk; cases hk; exact hl ⟨_, rfl⟩
  · intro e; subst e
    rcases hlt.ed with e | ⟨y2, e1, e2⟩
    · have := hF.lt hk; omega
    · rw [e1] at hk; cases hk; exact ho e2
  · intro e; subst e; rw [hF.at] at hk; cases hk
theorem rows_lt {cy : Nat → ClassId} {A : AH} {g : Nat} {L : BL} {S : StV} {Z : SV} {t z j : Nat} (h : BkW cy A g L S Z) (hF : FRs A z) (_ : z ≤ 900000) (ht : t < 4) (hj : j < bN S Z t) : L.2.2.2 t j < z := by
  rcases (((BkR.iff.mp h.1).2 t (by omega)).2 j hj).cell (by omega) with ⟨y, h1, -⟩ | ⟨h1, -⟩
  · exact hF.lt h1
  · omega
set_option maxRecDepth 100000 in
set_option maxHeartbeats 16000000 in
theorem ct_X8_init_ (l : Launch) (D : va_G) (cy : Nat → ClassId) (B : Nat) (od : Nat → Option Nat) {A0 : AH} {g : Nat} (hF0 : FRs A0 g) (hz0 : g + 400 ≤ 900000) {o9 : Nat} {L : BL} {S : StV} {Z : SV}  (hb : BkR cy A0 o9 L S Z) (hw : WfS S) (hz5 : Z.1 ≤ 5) : CT l D cy B od yX8_init_ cX8_init_ 4 none rmX8_init_ [.ref g, .ref o9] (upA A0 g bk0) (g + 2) (fun v A' z' => v = none ∧ ∃ z1, z' = z1 + 1 ∧ Grw A0 g A' z1 201 ∧ ∃ L', BkW cy A' g L' S Z ∧ ∀ q, Foot g L' S Z q → g ≤ q) := by
  refine CT.of (by decide) tX8_init_ okX8_init_ (Nat.le_of_ble_eq_true rfl) (q0 := tX8_init_[0]) rfl rfl ?_
  intro p e s m args below meth c X hnm
  have ho : o9 < g := hF0.lt hb.1
  have hw1 := hw.1
  have hw2 := hw.2.1
  have hw3 := hw.2.2.1
  have hw4 := hw.2.2.2.1
  have hL4 : LsC cy A0 (L.1 4) (L.2.1 4) (L.2.2.1 4) S.2.2.2.2.1 (L.2.2.2 4) := hb.2.1 4 (by decide)
  have hN4 := hL4.2.1
  have loop4 : ∀ (d i : Nat) (A1 : AH) (z1 it : Nat) (lr : Int32) (o3 : Option Value) (L1 : BL), i + d = S.2.2.2.2.1 → Grw A0 g A1 z1 (1 + 171 + 2 * i) → g ≤ it → A1 it = some (itE i lr (L.2.1 4) (L.1 4)) → BkW cy A1 g L1 (cutS S (fun u => if u = 0 then Z.1 else if u = 1 then S.2.1.1 else if u = 2 then S.1.1 else if u = 3 then S.2.2.1.1 else if u = 4 then i else 0)) (cutZ Z (fun u => if u = 0 then Z.1 else if u = 1 then S.2.1.1 else if u = 2 then S.1.1 else if u = 3 then S.2.2.1.1 else if u = 4 then i else 0)) → (∀ q, Foot g L1 (cutS S (fun u => if u = 0 then Z.1 else if u = 1 then S.2.1.1 else if u = 2 then S.1.1 else if u = 3 then S.2.2.1.1 else if u = 4 then i else 0)) (cutZ Z (fun u => if u = 0 then Z.1 else if u = 1 then S.2.1.1 else if u = 2 then S.1.1 else if u = 3 then S.2.2.1.1 else if u = 4 then i else 0)) q → g ≤ q) → G p l e rmX8_init_ s m args below meth c D B od 4 tX8_init_ (FinQ false D B od (fun v A' z' => v = none ∧ ∃ z1, z' = z1 + 1 ∧ Grw A0 g A' z1 201 ∧ ∃ L', BkW cy A' g L' S Z ∧ ∀ q, Foot g L' S Z q → g ≤ q) (fun _ _ => True) args s below rmX8_init_.cells rmX8_init_.slots) (171 + 2 * i) (10493 + 121 * i) A1 (z1 + 1) 137 [some (.ref g), some (.ref o9), some (.ref it), o3] [] := by
    intro d
    induction d with
    | zero =>
      intro i A1 z1 it lr o3 L1 hid hG hit hI hB hFt
      have e : i = S.2.2.2.2.1 := by omega
      subst e
      refine g_aload_n X rfl rfl ?_
      refine g_hasNext X rfl lmX8_52 (hL4.le hG.1).1 hI (by omega) hN4 (Nat.le_of_ble_eq_true rfl) ⟨by decide, by decide⟩ ⟨by show _ ≤ 200; omega, by show _ ≤ 12000; omega⟩ ?_
      refine g_if_eqB X rfl (fun _ => ?_) (fun h => absurd (of_decide_eq_true h) (by omega))
      refine g_vret X rfl rfl (by show 171 + 2 * S.2.2.2.2.1 ≤ 200; omega) (by show 10493 + 121 * S.2.2.2.2.1 ≤ 12000; omega) ⟨rfl, z1, rfl, hG.wide (by omega), L1, ?_, ?_⟩
      · have e9 : cutS S (fun u => if u = 0 then Z.1 else if u = 1 then S.2.1.1 else if u = 2 then S.1.1 else if u = 3 then S.2.2.1.1 else if u = 4 then S.2.2.2.2.1 else 0) = S ∧ cutZ Z (fun u => if u = 0 then Z.1 else if u = 1 then S.2.1.1 else if u = 2 then S.1.1 else if u = 3 then S.2.2.1.1 else if u = 4 then S.2.2.2.2.1 else 0) = Z := ⟨rfl, rfl⟩
        rw [e9.1, e9.2] at hB; exact hB
      · have e9 : cutS S (fun u => if u = 0 then Z.1 else if u = 1 then S.2.1.1 else if u = 2 then S.1.1 else if u = 3 then S.2.2.1.1 else if u = 4 then S.2.2.2.2.1 else 0) = S ∧ cutZ Z (fun u => if u = 0 then Z.1 else if u = 1 then S.2.1.1 else if u = 2 then S.1.1 else if u = 3 then S.2.2.1.1 else if u = 4 then S.2.2.2.2.1 else 0) = Z := ⟨rfl, rfl⟩
        rw [e9.1, e9.2] at hFt; exact hFt
    | succ d ih =>
      intro i A1 z1 it lr o3 L1 hid hG hit hI hB hFt
      have hi : i < S.2.2.2.2.1 := by omega
      have hG2 : Grw A0 g (upA A1 it (itE (i + 1) (nI i) (L.2.1 4) (L.1 4))) z1 (1 + 171 + 2 * i) := hG.up hF0 hit (hG.2.2.2.lt hI)
      have hB2 := hB.it hG.2.2.2 (by have := hG.2.2.1; omega) hI (fs' := [.int (nI (i + 1)), .int (nI i), .int (L.2.1 4), .ref (L.1 4)])
      have hRo : RwT cy A0 4 (L.2.2.2 4 i) S Z i := ((BkR.iff.mp hb).2 4 (by decide)).2 i hi
      refine g_aload_n X rfl rfl ?_
      refine g_hasNext X rfl lmX8_52 (hL4.le hG.1).1 hI (by omega) hN4 (Nat.le_of_ble_eq_true rfl) ⟨by decide, by decide⟩ ⟨by show _ ≤ 200; omega, by show _ ≤ 12000; omega⟩ ?_
      refine g_if_eqB X rfl (fun h => absurd hi (of_decide_eq_false h)) (fun _ => ?_)
      refine g_aload_n X rfl rfl ?_
      refine g_next X rfl lmX8_58 (hL4.le hG.1) hI hi (Nat.le_of_ble_eq_true rfl) ⟨by decide, by decide⟩ ⟨by show _ ≤ 200; omega, by show _ ≤ 12000; omega⟩ ?_
      have hr : IntA _ (L.2.2.2 4 i) (S.2.2.2.1 i) := IntA.le hRo hG2.1
      refine g_castN X rfl clX8_71 hr ?_
      refine g_unbox X rfl lmX8_73 hr (Nat.le_of_ble_eq_true rfl) ⟨by decide, by decide⟩ ⟨by show _ ≤ 200; omega, by show _ ≤ 12000; omega⟩ ?_
      first | refine g_istore_nS X rfl (by decide) rfl ?_ | refine g_istore_n X rfl (by decide) ?_
      refine g_aload_n X rfl rfl ?_
      refine g_get X rfl flX8_42 (ci := 8) rfl (hB2.1.1) rfl ?_
      refine g_iload_n X rfl rfl ?_
      refine g_gS X rfl lcJ6_valueOf_2dffe lmX8_77 stJ6_valueOf_2dffe (cg_valueOf l D cy B od) hG2.2.2.2 (by have := hG2.2.2.1; show z1 + 1 ≤ 900000; omega) rfl rfl (Nat.le_of_ble_eq_true rfl) ⟨by decide, by decide⟩ ⟨by show (171 + 2 * i) + 1 ≤ 200; omega, by show (10493 + 121 * i) + 1 ≤ 12000; omega⟩ (fun v3 A3 z3 q3 hK3 => ?_)
      obtain ⟨x3, rfl, hx3⟩ := q3
      have hG3 : Grw A0 g A3 z3 ((1 + 171 + 2 * i) + 1) := hG2.tr hK3
      have hB3 := hB2.le hK3.1
      refine g_callV X rfl lcJx4a65c_add_9ea2d lmX8_64 lsJx4a65c_add_9ea2d (ct_add l D cy B od (show LsC cy A3 (L1.1 4) (L1.2.1 4) (L1.2.2.1 4) i (L1.2.2.2 4) from hB3.1.2.1 4 (by decide)) hx3.obj (by omega) hG3.2.2.2 (by have := hG3.2.2.1; omega)) (ci := 9) (hB3.1.2.1 4 (by decide)).1 rfl rfl rfl (Nat.le_of_ble_eq_true rfl) ⟨by decide, by decide⟩ ⟨by show (171 + 2 * i) + 1 + 1 ≤ 200; omega, by show (10493 + 121 * i) + 1 + 120 ≤ 12000; omega⟩ (fun v4 A4 z4 q4 => ?_)
      have hRx : RwT cy A4 4 x3 (cutS S (fun u => if u = 0 then Z.1 else if u = 1 then S.2.1.1 else if u = 2 then S.1.1 else if u = 3 then S.2.2.1.1 else if u = 4 then (i + 1) else 0)) (cutZ Z (fun u => if u = 0 then Z.1 else if u = 1 then S.2.1.1 else if u = 2 then S.1.1 else if u = 3 then S.2.2.1.1 else if u = 4 then (i + 1) else 0)) i := by
        rcases hx3 with hx3 | hx3
        · exact Or.inl (row_in hB3 (t := 4) (by decide) hG3.2.2.2 (by have := hG3.2.2.1; omega) q4.2 hx3 (isBx.oa ⟨_, rfl⟩) (isBx.ls ⟨_, rfl⟩))
        · exact Or.inr hx3
      obtain ⟨rfl, q5⟩ := q4
      obtain ⟨L4, y4, rfl, hB4, hG4, hF4, hL4, hfr4⟩ := add_step (S' := cutS S (fun u => if u = 0 then Z.1 else if u = 1 then S.2.1.1 else if u = 2 then S.1.1 else if u = 3 then S.2.2.1.1 else if u = 4 then (i + 1) else 0)) (Z' := cutZ Z (fun u => if u = 0 then Z.1 else if u = 1 then S.2.1.1 else if u = 2 then S.1.1 else if u = 3 then S.2.2.1.1 else if u = 4 then (i + 1) else 0)) (t := 4) (by decide) hB3 hFt hF0 hG3 (by have := hG3.2.2.1; omega) q5 (hRx) (fun _ b => absurd b (by decide)) (cut_ag _ _ _ _ _) (fun u hu => by rcases (show u = 0 ∨ u = 1 ∨ u = 2 ∨ u = 3 ∨ u = 4 by omega) with rfl | rfl | rfl | rfl | rfl <;> rfl)
      refine g_pop X rfl rfl ?_
      refine g_goto X rfl ?_
      exact g_more (by show (171 + 2 * i) + 1 + 1 ≤ _; omega) (by show (10493 + 121 * i) + 1 + 120 ≤ _; omega) (ih (i + 1) A4 y4 it _ _ L4 (by omega) (hG4.wide (by omega)) hit ((hfr4 it (by rw [hK3.1 _ _ upA_eq]; simp) (fun q => Foot.it hB3.1 q (hK3.1 _ _ upA_eq))).trans (hK3.1 _ _ upA_eq)) hB4 hF4)
  have hL3 : LsC cy A0 (L.1 3) (L.2.1 3) (L.2.2.1 3) S.2.2.1.1 (L.2.2.2 3) := hb.2.1 3 (by decide)
  have hN3 := hL3.2.1
  have loop3 : ∀ (d i : Nat) (A1 : AH) (z1 it : Nat) (lr : Int32) (o3 : Option Value) (L1 : BL), i + d = S.2.2.1.1 → Grw A0 g A1 z1 (1 + 146 + 2 * i) → g ≤ it → A1 it = some (itE i lr (L.2.1 3) (L.1 3)) → BkW cy A1 g L1 (cutS S (fun u => if u = 0 then Z.1 else if u = 1 then S.2.1.1 else if u = 2 then S.1.1 else if u = 3 then i else 0)) (cutZ Z (fun u => if u = 0 then Z.1 else if u = 1 then S.2.1.1 else if u = 2 then S.1.1 else if u = 3 then i else 0)) → (∀ q, Foot g L1 (cutS S (fun u => if u = 0 then Z.1 else if u = 1 then S.2.1.1 else if u = 2 then S.1.1 else if u = 3 then i else 0)) (cutZ Z (fun u => if u = 0 then Z.1 else if u = 1 then S.2.1.1 else if u = 2 then S.1.1 else if u = 3 then i else 0)) q → g ≤ q) → G p l e rmX8_init_ s m args below meth c D B od 4 tX8_init_ (FinQ false D B od (fun v A' z' => v = none ∧ ∃ z1, z' = z1 + 1 ∧ Grw A0 g A' z1 201 ∧ ∃ L', BkW cy A' g L' S Z ∧ ∀ q, Foot g L' S Z q → g ≤ q) (fun _ _ => True) args s below rmX8_init_.cells rmX8_init_.slots) (146 + 2 * i) (8989 + 125 * i) A1 (z1 + 1) 118 [some (.ref g), some (.ref o9), some (.ref it), o3] [] := by
    intro d
    induction d with
    | zero =>
      intro i A1 z1 it lr o3 L1 hid hG hit hI hB hFt
      have e : i = S.2.2.1.1 := by omega
      subst e
      refine g_aload_n X rfl rfl ?_
      refine g_hasNext X rfl lmX8_52 (hL3.le hG.1).1 hI (by omega) hN3 (Nat.le_of_ble_eq_true rfl) ⟨by decide, by decide⟩ ⟨by show _ ≤ 200; omega, by show _ ≤ 12000; omega⟩ ?_
      refine g_if_eqB X rfl (fun _ => ?_) (fun h => absurd (of_decide_eq_true h) (by omega))
      refine g_more (c' := 170) (s' := 10489) (by omega) (by omega) ?_
      have e9 : cutS S (fun u => if u = 0 then Z.1 else if u = 1 then S.2.1.1 else if u = 2 then S.1.1 else if u = 3 then S.2.2.1.1 else 0) = cutS S (fun u => if u = 0 then Z.1 else if u = 1 then S.2.1.1 else if u = 2 then S.1.1 else if u = 3 then S.2.2.1.1 else if u = 4 then 0 else 0) ∧ cutZ Z (fun u => if u = 0 then Z.1 else if u = 1 then S.2.1.1 else if u = 2 then S.1.1 else if u = 3 then S.2.2.1.1 else 0) = cutZ Z (fun u => if u = 0 then Z.1 else if u = 1 then S.2.1.1 else if u = 2 then S.1.1 else if u = 3 then S.2.2.1.1 else if u = 4 then 0 else 0) := ⟨rfl, rfl⟩
      rw [e9.1, e9.2] at hB hFt
      have hI9 := hB.le ((HLe.rf A1).up hG.2.2.2.at (x := itE 0 (-1) (L.2.1 4) (L.1 4)))
      refine g_aload_n X rfl rfl ?_
      refine g_get X rfl flX8_42 (ci := 8) rfl (hG.1 _ _ hb.1) rfl ?_
      refine g_iter X rfl lmX8_48 (hL4.le hG.1) hG.2.2.2 (by have := hG.2.2.1; omega) (Nat.le_of_ble_eq_true rfl) ⟨by decide, by decide⟩ ⟨by show _ ≤ 200; omega, by show _ ≤ 12000; omega⟩ ?_
      first | refine g_astore_nS X rfl (by decide) rfl ?_ | refine g_astore_n X rfl (by decide) ?_
      exact loop4 S.2.2.2.2.1 0 _ (z1 + 1) z1 (-1) _ L1 (Nat.zero_add _) ((hG.new hF0).wide (by omega)) hG.2.1 upA_eq hI9 hFt
    | succ d ih =>
      intro i A1 z1 it lr o3 L1 hid hG hit hI hB hFt
      have hi : i < S.2.2.1.1 := by omega
      have hG2 : Grw A0 g (upA A1 it (itE (i + 1) (nI i) (L.2.1 3) (L.1 3))) z1 (1 + 146 + 2 * i) := hG.up hF0 hit (hG.2.2.2.lt hI)
      have hB2 := hB.it hG.2.2.2 (by have := hG.2.2.1; omega) hI (fs' := [.int (nI (i + 1)), .int (nI i), .int (L.2.1 3), .ref (L.1 3)])
      have hRo : RwT cy A0 3 (L.2.2.2 3 i) S Z i := ((BkR.iff.mp hb).2 3 (by decide)).2 i hi
      refine g_aload_n X rfl rfl ?_
      refine g_hasNext X rfl lmX8_52 (hL3.le hG.1).1 hI (by omega) hN3 (Nat.le_of_ble_eq_true rfl) ⟨by decide, by decide⟩ ⟨by show _ ≤ 200; omega, by show _ ≤ 12000; omega⟩ ?_
      refine g_if_eqB X rfl (fun h => absurd hi (of_decide_eq_false h)) (fun _ => ?_)
      refine g_aload_n X rfl rfl ?_
      refine g_next X rfl lmX8_58 (hL3.le hG.1) hI hi (Nat.le_of_ble_eq_true rfl) ⟨by decide, by decide⟩ ⟨by show _ ≤ 200; omega, by show _ ≤ 12000; omega⟩ ?_
      obtain ⟨r, hr0, hrv⟩ := id hRo
      have hr := hG2.1 _ _ hr0
      refine g_castI X rfl clX8_62 hr ?_
      first | refine g_astore_nS X rfl (by decide) rfl ?_ | refine g_astore_n X rfl (by decide) ?_
      refine g_aload_n X rfl rfl ?_
      refine g_get X rfl flX8_39 (ci := 8) rfl (hB2.1.1) rfl ?_
      refine g_aload_n X rfl rfl ?_
      refine g_clone X rfl clX8_68n hr (by have := hG.2.2.1; omega) (Nat.le_of_ble_eq_true rfl) ⟨by decide, by decide⟩ (by show (146 + 2 * i) + 1 ≤ 200; omega) (by show (8989 + 125 * i) + 5 ≤ 12000; omega) ?_
      have hG3 : Grw A0 g (upA (upA A1 it (itE (i + 1) (nI i) (L.2.1 3) (L.1 3))) z1 (.inl (cy 0, 5, .inl r))) (z1 + 1) ((1 + 146 + 2 * i) + 1) := hG2.new hF0
      have hB3 := hB2.le ((HLe.rf (upA A1 it (itE (i + 1) (nI i) (L.2.1 3) (L.1 3)))).up hG2.2.2.2.at (x := .inl (cy 0, 5, .inl r)))
      refine g_castI X rfl clX8_62 upA_eq ?_
      refine g_callV X rfl lcJx4a65c_add_9ea2d lmX8_64 lsJx4a65c_add_9ea2d (ct_add l D cy B od (show LsC cy (upA (upA A1 it (itE (i + 1) (nI i) (L.2.1 3) (L.1 3))) z1 (.inl (cy 0, 5, .inl r))) (L1.1 3) (L1.2.1 3) (L1.2.2.1 3) i (L1.2.2.2 3) from hB3.1.2.1 3 (by decide)) (Or.inl ⟨_, _, upA_eq⟩) (by omega) hG3.2.2.2 (by have := hG3.2.2.1; omega)) (ci := 9) (hB3.1.2.1 3 (by decide)).1 rfl rfl rfl (Nat.le_of_ble_eq_true rfl) ⟨by decide, by decide⟩ ⟨by show (146 + 2 * i) + 1 + 1 ≤ 200; omega, by show (8989 + 125 * i) + 5 + 120 ≤ 12000; omega⟩ (fun v4 A4 z4 q4 => ?_)
      have hRx : RwT cy A4 3 z1 (cutS S (fun u => if u = 0 then Z.1 else if u = 1 then S.2.1.1 else if u = 2 then S.1.1 else if u = 3 then (i + 1) else 0)) (cutZ Z (fun u => if u = 0 then Z.1 else if u = 1 then S.2.1.1 else if u = 2 then S.1.1 else if u = 3 then (i + 1) else 0)) i := by
        have hz9 := row_in hB3 (t := 3) (by decide) hG3.2.2.2 (by have := hG3.2.2.1; omega) q4.2 upA_eq (isRw.oa ⟨_, _, rfl⟩) (isRw.ls ⟨_, _, rfl⟩)
        exact (⟨r, hz9, hrv⟩ : RwA cy A4 z1 5 _)
      obtain ⟨rfl, q5⟩ := q4
      obtain ⟨L4, y4, rfl, hB4, hG4, hF4, hL4, hfr4⟩ := add_step (S' := cutS S (fun u => if u = 0 then Z.1 else if u = 1 then S.2.1.1 else if u = 2 then S.1.1 else if u = 3 then (i + 1) else 0)) (Z' := cutZ Z (fun u => if u = 0 then Z.1 else if u = 1 then S.2.1.1 else if u = 2 then S.1.1 else if u = 3 then (i + 1) else 0)) (t := 3) (by decide) hB3 hFt hF0 hG3 (by have := hG3.2.2.1; omega) q5 (hRx) (fun _ _ => ⟨fun j hj e => by have hc := rows_lt hB2 hG2.2.2.2 (by have := hG2.2.2.1; omega) (t := 3) (by decide) hj; omega, hG2.2.1⟩) (cut_ag _ _ _ _ _) (fun u hu => by rcases (show u = 0 ∨ u = 1 ∨ u = 2 ∨ u = 3 ∨ u = 4 by omega) with rfl | rfl | rfl | rfl | rfl <;> rfl)
      refine g_pop X rfl rfl ?_
      refine g_goto X rfl ?_
      exact g_more (by show (146 + 2 * i) + 1 + 1 ≤ _; omega) (by show (8989 + 125 * i) + 5 + 120 ≤ _; omega) (ih (i + 1) A4 y4 it _ _ L4 (by omega) (hG4.wide (by omega)) hit ((hfr4 it (by rw [(upA_ne (Nat.ne_of_lt (hG.2.2.2.lt hI))).trans upA_eq]; simp) (fun q => Foot.it hB3.1 q ((upA_ne (Nat.ne_of_lt (hG.2.2.2.lt hI))).trans upA_eq))).trans ((upA_ne (Nat.ne_of_lt (hG.2.2.2.lt hI))).trans upA_eq)) hB4 hF4)
  have hL2 : LsC cy A0 (L.1 2) (L.2.1 2) (L.2.2.1 2) S.1.1 (L.2.2.2 2) := hb.2.1 2 (by decide)
  have hN2 := hL2.2.1
  have loop2 : ∀ (d i : Nat) (A1 : AH) (z1 it : Nat) (lr : Int32) (o3 : Option Value) (L1 : BL), i + d = S.1.1 → Grw A0 g A1 z1 (1 + 25 + 2 * i) → g ≤ it → A1 it = some (itE i lr (L.2.1 2) (L.1 2)) → BkW cy A1 g L1 (cutS S (fun u => if u = 0 then Z.1 else if u = 1 then S.2.1.1 else if u = 2 then i else 0)) (cutZ Z (fun u => if u = 0 then Z.1 else if u = 1 then S.2.1.1 else if u = 2 then i else 0)) → (∀ q, Foot g L1 (cutS S (fun u => if u = 0 then Z.1 else if u = 1 then S.2.1.1 else if u = 2 then i else 0)) (cutZ Z (fun u => if u = 0 then Z.1 else if u = 1 then S.2.1.1 else if u = 2 then i else 0)) q → g ≤ q) → G p l e rmX8_init_ s m args below meth c D B od 4 tX8_init_ (FinQ false D B od (fun v A' z' => v = none ∧ ∃ z1, z' = z1 + 1 ∧ Grw A0 g A' z1 201 ∧ ∃ L', BkW cy A' g L' S Z ∧ ∀ q, Foot g L' S Z q → g ≤ q) (fun _ _ => True) args s below rmX8_init_.cells rmX8_init_.slots) (25 + 2 * i) (1365 + 127 * i) A1 (z1 + 1) 99 [some (.ref g), some (.ref o9), some (.ref it), o3] [] := by
    intro d
    induction d with
    | zero =>
      intro i A1 z1 it lr o3 L1 hid hG hit hI hB hFt
      have e : i = S.1.1 := by omega
      subst e
      refine g_aload_n X rfl rfl ?_
      refine g_hasNext X rfl lmX8_52 (hL2.le hG.1).1 hI (by omega) hN2 (Nat.le_of_ble_eq_true rfl) ⟨by decide, by decide⟩ ⟨by show _ ≤ 200; omega, by show _ ≤ 12000; omega⟩ ?_
      refine g_if_eqB X rfl (fun _ => ?_) (fun h => absurd (of_decide_eq_true h) (by omega))
      refine g_more (c' := 145) (s' := 8985) (by omega) (by omega) ?_
      have e9 : cutS S (fun u => if u = 0 then Z.1 else if u = 1 then S.2.1.1 else if u = 2 then S.1.1 else 0) = cutS S (fun u => if u = 0 then Z.1 else if u = 1 then S.2.1.1 else if u = 2 then S.1.1 else if u = 3 then 0 else 0) ∧ cutZ Z (fun u => if u = 0 then Z.1 else if u = 1 then S.2.1.1 else if u = 2 then S.1.1 else 0) = cutZ Z (fun u => if u = 0 then Z.1 else if u = 1 then S.2.1.1 else if u = 2 then S.1.1 else if u = 3 then 0 else 0) := ⟨rfl, rfl⟩
      rw [e9.1, e9.2] at hB hFt
      have hI9 := hB.le ((HLe.rf A1).up hG.2.2.2.at (x := itE 0 (-1) (L.2.1 3) (L.1 3)))
      refine g_aload_n X rfl rfl ?_
      refine g_get X rfl flX8_39 (ci := 8) rfl (hG.1 _ _ hb.1) rfl ?_
      refine g_iter X rfl lmX8_48 (hL3.le hG.1) hG.2.2.2 (by have := hG.2.2.1; omega) (Nat.le_of_ble_eq_true rfl) ⟨by decide, by decide⟩ ⟨by show _ ≤ 200; omega, by show _ ≤ 12000; omega⟩ ?_
      first | refine g_astore_nS X rfl (by decide) rfl ?_ | refine g_astore_n X rfl (by decide) ?_
      exact loop3 S.2.2.1.1 0 _ (z1 + 1) z1 (-1) _ L1 (Nat.zero_add _) ((hG.new hF0).wide (by omega)) hG.2.1 upA_eq hI9 hFt
    | succ d ih =>
      intro i A1 z1 it lr o3 L1 hid hG hit hI hB hFt
      have hi : i < S.1.1 := by omega
      have hG2 : Grw A0 g (upA A1 it (itE (i + 1) (nI i) (L.2.1 2) (L.1 2))) z1 (1 + 25 + 2 * i) := hG.up hF0 hit (hG.2.2.2.lt hI)
      have hB2 := hB.it hG.2.2.2 (by have := hG.2.2.1; omega) hI (fs' := [.int (nI (i + 1)), .int (nI i), .int (L.2.1 2), .ref (L.1 2)])
      have hRo : RwT cy A0 2 (L.2.2.2 2 i) S Z i := ((BkR.iff.mp hb).2 2 (by decide)).2 i hi
      refine g_aload_n X rfl rfl ?_
      refine g_hasNext X rfl lmX8_52 (hL2.le hG.1).1 hI (by omega) hN2 (Nat.le_of_ble_eq_true rfl) ⟨by decide, by decide⟩ ⟨by show _ ≤ 200; omega, by show _ ≤ 12000; omega⟩ ?_
      refine g_if_eqB X rfl (fun h => absurd hi (of_decide_eq_false h)) (fun _ => ?_)
      refine g_aload_n X rfl rfl ?_
      refine g_next X rfl lmX8_58 (hL2.le hG.1) hI hi (Nat.le_of_ble_eq_true rfl) ⟨by decide, by decide⟩ ⟨by show _ ≤ 200; omega, by show _ ≤ 12000; omega⟩ ?_
      obtain ⟨r, hr0, hrv⟩ := id hRo
      have hr := hG2.1 _ _ hr0
      refine g_castI X rfl clX8_62 hr ?_
      first | refine g_astore_nS X rfl (by decide) rfl ?_ | refine g_astore_n X rfl (by decide) ?_
      refine g_aload_n X rfl rfl ?_
      refine g_get X rfl flX8_36 (ci := 8) rfl (hB2.1.1) rfl ?_
      refine g_aload_n X rfl rfl ?_
      refine g_clone X rfl clX8_68n hr (by have := hG.2.2.1; omega) (Nat.le_of_ble_eq_true rfl) ⟨by decide, by decide⟩ (by show (25 + 2 * i) + 1 ≤ 200; omega) (by show (1365 + 127 * i) + 7 ≤ 12000; omega) ?_
      have hG3 : Grw A0 g (upA (upA A1 it (itE (i + 1) (nI i) (L.2.1 2) (L.1 2))) z1 (.inl (cy 0, 7, .inl r))) (z1 + 1) ((1 + 25 + 2 * i) + 1) := hG2.new hF0
      have hB3 := hB2.le ((HLe.rf (upA A1 it (itE (i + 1) (nI i) (L.2.1 2) (L.1 2)))).up hG2.2.2.2.at (x := .inl (cy 0, 7, .inl r)))
      refine g_castI X rfl clX8_62 upA_eq ?_
      refine g_callV X rfl lcJx4a65c_add_9ea2d lmX8_64 lsJx4a65c_add_9ea2d (ct_add l D cy B od (show LsC cy (upA (upA A1 it (itE (i + 1) (nI i) (L.2.1 2) (L.1 2))) z1 (.inl (cy 0, 7, .inl r))) (L1.1 2) (L1.2.1 2) (L1.2.2.1 2) i (L1.2.2.2 2) from hB3.1.2.1 2 (by decide)) (Or.inl ⟨_, _, upA_eq⟩) (by omega) hG3.2.2.2 (by have := hG3.2.2.1; omega)) (ci := 9) (hB3.1.2.1 2 (by decide)).1 rfl rfl rfl (Nat.le_of_ble_eq_true rfl) ⟨by decide, by decide⟩ ⟨by show (25 + 2 * i) + 1 + 1 ≤ 200; omega, by show (1365 + 127 * i) + 7 + 120 ≤ 12000; omega⟩ (fun v4 A4 z4 q4 => ?_)
      have hRx : RwT cy A4 2 z1 (cutS S (fun u => if u = 0 then Z.1 else if u = 1 then S.2.1.1 else if u = 2 then (i + 1) else 0)) (cutZ Z (fun u => if u = 0 then Z.1 else if u = 1 then S.2.1.1 else if u = 2 then (i + 1) else 0)) i := by
        have hz9 := row_in hB3 (t := 2) (by decide) hG3.2.2.2 (by have := hG3.2.2.1; omega) q4.2 upA_eq (isRw.oa ⟨_, _, rfl⟩) (isRw.ls ⟨_, _, rfl⟩)
        exact (⟨r, hz9, hrv⟩ : RwA cy A4 z1 7 _)
      obtain ⟨rfl, q5⟩ := q4
      obtain ⟨L4, y4, rfl, hB4, hG4, hF4, hL4, hfr4⟩ := add_step (S' := cutS S (fun u => if u = 0 then Z.1 else if u = 1 then S.2.1.1 else if u = 2 then (i + 1) else 0)) (Z' := cutZ Z (fun u => if u = 0 then Z.1 else if u = 1 then S.2.1.1 else if u = 2 then (i + 1) else 0)) (t := 2) (by decide) hB3 hFt hF0 hG3 (by have := hG3.2.2.1; omega) q5 (hRx) (fun _ _ => ⟨fun j hj e => by have hc := rows_lt hB2 hG2.2.2.2 (by have := hG2.2.2.1; omega) (t := 2) (by decide) hj; omega, hG2.2.1⟩) (cut_ag _ _ _ _ _) (fun u hu => by rcases (show u = 0 ∨ u = 1 ∨ u = 2 ∨ u = 3 ∨ u = 4 by omega) with rfl | rfl | rfl | rfl | rfl <;> rfl)
      refine g_pop X rfl rfl ?_
      refine g_goto X rfl ?_
      exact g_more (by show (25 + 2 * i) + 1 + 1 ≤ _; omega) (by show (1365 + 127 * i) + 7 + 120 ≤ _; omega) (ih (i + 1) A4 y4 it _ _ L4 (by omega) (hG4.wide (by omega)) hit ((hfr4 it (by rw [(upA_ne (Nat.ne_of_lt (hG.2.2.2.lt hI))).trans upA_eq]; simp) (fun q => Foot.it hB3.1 q ((upA_ne (Nat.ne_of_lt (hG.2.2.2.lt hI))).trans upA_eq))).trans ((upA_ne (Nat.ne_of_lt (hG.2.2.2.lt hI))).trans upA_eq)) hB4 hF4)
  have hL1 : LsC cy A0 (L.1 1) (L.2.1 1) (L.2.2.1 1) S.2.1.1 (L.2.2.2 1) := hb.2.1 1 (by decide)
  have hN1 := hL1.2.1
  have loop1 : ∀ (d i : Nat) (A1 : AH) (z1 it : Nat) (lr : Int32) (o3 : Option Value) (L1 : BL), i + d = S.2.1.1 → Grw A0 g A1 z1 (1 + 12 + 2 * i) → g ≤ it → A1 it = some (itE i lr (L.2.1 1) (L.1 1)) → BkW cy A1 g L1 (cutS S (fun u => if u = 0 then Z.1 else if u = 1 then i else 0)) (cutZ Z (fun u => if u = 0 then Z.1 else if u = 1 then i else 0)) → (∀ q, Foot g L1 (cutS S (fun u => if u = 0 then Z.1 else if u = 1 then i else 0)) (cutZ Z (fun u => if u = 0 then Z.1 else if u = 1 then i else 0)) q → g ≤ q) → G p l e rmX8_init_ s m args below meth c D B od 4 tX8_init_ (FinQ false D B od (fun v A' z' => v = none ∧ ∃ z1, z' = z1 + 1 ∧ Grw A0 g A' z1 201 ∧ ∃ L', BkW cy A' g L' S Z ∧ ∀ q, Foot g L' S Z q → g ≤ q) (fun _ _ => True) args s below rmX8_init_.cells rmX8_init_.slots) (12 + 2 * i) (623 + 123 * i) A1 (z1 + 1) 80 [some (.ref g), some (.ref o9), some (.ref it), o3] [] := by
    intro d
    induction d with
    | zero =>
      intro i A1 z1 it lr o3 L1 hid hG hit hI hB hFt
      have e : i = S.2.1.1 := by omega
      subst e
      refine g_aload_n X rfl rfl ?_
      refine g_hasNext X rfl lmX8_52 (hL1.le hG.1).1 hI (by omega) hN1 (Nat.le_of_ble_eq_true rfl) ⟨by decide, by decide⟩ ⟨by show _ ≤ 200; omega, by show _ ≤ 12000; omega⟩ ?_
      refine g_if_eqB X rfl (fun _ => ?_) (fun h => absurd (of_decide_eq_true h) (by omega))
      refine g_more (c' := 24) (s' := 1361) (by omega) (by omega) ?_
      have e9 : cutS S (fun u => if u = 0 then Z.1 else if u = 1 then S.2.1.1 else 0) = cutS S (fun u => if u = 0 then Z.1 else if u = 1 then S.2.1.1 else if u = 2 then 0 else 0) ∧ cutZ Z (fun u => if u = 0 then Z.1 else if u = 1 then S.2.1.1 else 0) = cutZ Z (fun u => if u = 0 then Z.1 else if u = 1 then S.2.1.1 else if u = 2 then 0 else 0) := ⟨rfl, rfl⟩
      rw [e9.1, e9.2] at hB hFt
      have hI9 := hB.le ((HLe.rf A1).up hG.2.2.2.at (x := itE 0 (-1) (L.2.1 2) (L.1 2)))
      refine g_aload_n X rfl rfl ?_
      refine g_get X rfl flX8_36 (ci := 8) rfl (hG.1 _ _ hb.1) rfl ?_
      refine g_iter X rfl lmX8_48 (hL2.le hG.1) hG.2.2.2 (by have := hG.2.2.1; omega) (Nat.le_of_ble_eq_true rfl) ⟨by decide, by decide⟩ ⟨by show _ ≤ 200; omega, by show _ ≤ 12000; omega⟩ ?_
      first | refine g_astore_nS X rfl (by decide) rfl ?_ | refine g_astore_n X rfl (by decide) ?_
      exact loop2 S.1.1 0 _ (z1 + 1) z1 (-1) _ L1 (Nat.zero_add _) ((hG.new hF0).wide (by omega)) hG.2.1 upA_eq hI9 hFt
    | succ d ih =>
      intro i A1 z1 it lr o3 L1 hid hG hit hI hB hFt
      have hi : i < S.2.1.1 := by omega
      have hG2 : Grw A0 g (upA A1 it (itE (i + 1) (nI i) (L.2.1 1) (L.1 1))) z1 (1 + 12 + 2 * i) := hG.up hF0 hit (hG.2.2.2.lt hI)
      have hB2 := hB.it hG.2.2.2 (by have := hG.2.2.1; omega) hI (fs' := [.int (nI (i + 1)), .int (nI i), .int (L.2.1 1), .ref (L.1 1)])
      have hRo : RwT cy A0 1 (L.2.2.2 1 i) S Z i := ((BkR.iff.mp hb).2 1 (by decide)).2 i hi
      refine g_aload_n X rfl rfl ?_
      refine g_hasNext X rfl lmX8_52 (hL1.le hG.1).1 hI (by omega) hN1 (Nat.le_of_ble_eq_true rfl) ⟨by decide, by decide⟩ ⟨by show _ ≤ 200; omega, by show _ ≤ 12000; omega⟩ ?_
      refine g_if_eqB X rfl (fun h => absurd hi (of_decide_eq_false h)) (fun _ => ?_)
      refine g_aload_n X rfl rfl ?_
      refine g_next X rfl lmX8_58 (hL1.le hG.1) hI hi (Nat.le_of_ble_eq_true rfl) ⟨by decide, by decide⟩ ⟨by show _ ≤ 200; omega, by show _ ≤ 12000; omega⟩ ?_
      obtain ⟨r, hr0, hrv⟩ := id hRo
      have hr := hG2.1 _ _ hr0
      refine g_castI X rfl clX8_62 hr ?_
      first | refine g_astore_nS X rfl (by decide) rfl ?_ | refine g_astore_n X rfl (by decide) ?_
      refine g_aload_n X rfl rfl ?_
      refine g_get X rfl flX8_33 (ci := 8) rfl (hB2.1.1) rfl ?_
      refine g_aload_n X rfl rfl ?_
      refine g_clone X rfl clX8_68n hr (by have := hG.2.2.1; omega) (Nat.le_of_ble_eq_true rfl) ⟨by decide, by decide⟩ (by show (12 + 2 * i) + 1 ≤ 200; omega) (by show (623 + 123 * i) + 3 ≤ 12000; omega) ?_
      have hG3 : Grw A0 g (upA (upA A1 it (itE (i + 1) (nI i) (L.2.1 1) (L.1 1))) z1 (.inl (cy 0, 3, .inl r))) (z1 + 1) ((1 + 12 + 2 * i) + 1) := hG2.new hF0
      have hB3 := hB2.le ((HLe.rf (upA A1 it (itE (i + 1) (nI i) (L.2.1 1) (L.1 1)))).up hG2.2.2.2.at (x := .inl (cy 0, 3, .inl r)))
      refine g_castI X rfl clX8_62 upA_eq ?_
      refine g_callV X rfl lcJx4a65c_add_9ea2d lmX8_64 lsJx4a65c_add_9ea2d (ct_add l D cy B od (show LsC cy (upA (upA A1 it (itE (i + 1) (nI i) (L.2.1 1) (L.1 1))) z1 (.inl (cy 0, 3, .inl r))) (L1.1 1) (L1.2.1 1) (L1.2.2.1 1) i (L1.2.2.2 1) from hB3.1.2.1 1 (by decide)) (Or.inl ⟨_, _, upA_eq⟩) (by omega) hG3.2.2.2 (by have := hG3.2.2.1; omega)) (ci := 9) (hB3.1.2.1 1 (by decide)).1 rfl rfl rfl (Nat.le_of_ble_eq_true rfl) ⟨by decide, by decide⟩ ⟨by show (12 + 2 * i) + 1 + 1 ≤ 200; omega, by show (623 + 123 * i) + 3 + 120 ≤ 12000; omega⟩ (fun v4 A4 z4 q4 => ?_)
      have hRx : RwT cy A4 1 z1 (cutS S (fun u => if u = 0 then Z.1 else if u = 1 then (i + 1) else 0)) (cutZ Z (fun u => if u = 0 then Z.1 else if u = 1 then (i + 1) else 0)) i := by
        have hz9 := row_in hB3 (t := 1) (by decide) hG3.2.2.2 (by have := hG3.2.2.1; omega) q4.2 upA_eq (isRw.oa ⟨_, _, rfl⟩) (isRw.ls ⟨_, _, rfl⟩)
        exact (⟨r, hz9, hrv⟩ : RwA cy A4 z1 3 _)
      obtain ⟨rfl, q5⟩ := q4
      obtain ⟨L4, y4, rfl, hB4, hG4, hF4, hL4, hfr4⟩ := add_step (S' := cutS S (fun u => if u = 0 then Z.1 else if u = 1 then (i + 1) else 0)) (Z' := cutZ Z (fun u => if u = 0 then Z.1 else if u = 1 then (i + 1) else 0)) (t := 1) (by decide) hB3 hFt hF0 hG3 (by have := hG3.2.2.1; omega) q5 (hRx) (fun _ _ => ⟨fun j hj e => by have hc := rows_lt hB2 hG2.2.2.2 (by have := hG2.2.2.1; omega) (t := 1) (by decide) hj; omega, hG2.2.1⟩) (cut_ag _ _ _ _ _) (fun u hu => by rcases (show u = 0 ∨ u = 1 ∨ u = 2 ∨ u = 3 ∨ u = 4 by omega) with rfl | rfl | rfl | rfl | rfl <;> rfl)
      refine g_pop X rfl rfl ?_
      refine g_goto X rfl ?_
      exact g_more (by show (12 + 2 * i) + 1 + 1 ≤ _; omega) (by show (623 + 123 * i) + 3 + 120 ≤ _; omega) (ih (i + 1) A4 y4 it _ _ L4 (by omega) (hG4.wide (by omega)) hit ((hfr4 it (by rw [(upA_ne (Nat.ne_of_lt (hG.2.2.2.lt hI))).trans upA_eq]; simp) (fun q => Foot.it hB3.1 q ((upA_ne (Nat.ne_of_lt (hG.2.2.2.lt hI))).trans upA_eq))).trans ((upA_ne (Nat.ne_of_lt (hG.2.2.2.lt hI))).trans upA_eq)) hB4 hF4)
  have hL0 : LsC cy A0 (L.1 0) (L.2.1 0) (L.2.2.1 0) Z.1 (L.2.2.2 0) := hb.2.1 0 (by decide)
  have hN0 := hL0.2.1
  have loop0 : ∀ (d i : Nat) (A1 : AH) (z1 it : Nat) (lr : Int32) (o3 : Option Value) (L1 : BL), i + d = Z.1 → Grw A0 g A1 z1 (1 + 6 + 1 * i) → g ≤ it → A1 it = some (itE i lr (L.2.1 0) (L.1 0)) → BkW cy A1 g L1 (cutS S (fun u => if u = 0 then i else 0)) (cutZ Z (fun u => if u = 0 then i else 0)) → (∀ q, Foot g L1 (cutS S (fun u => if u = 0 then i else 0)) (cutZ Z (fun u => if u = 0 then i else 0)) q → g ≤ q) → G p l e rmX8_init_ s m args below meth c D B od 4 tX8_init_ (FinQ false D B od (fun v A' z' => v = none ∧ ∃ z1, z' = z1 + 1 ∧ Grw A0 g A' z1 201 ∧ ∃ L', BkW cy A' g L' S Z ∧ ∀ q, Foot g L' S Z q → g ≤ q) (fun _ _ => True) args s below rmX8_init_.cells rmX8_init_.slots) (6 + 1 * i) (19 + 120 * i) A1 (z1 + 1) 63 [some (.ref g), some (.ref o9), some (.ref it), o3] [] := by
    intro d
    induction d with
    | zero =>
      intro i A1 z1 it lr o3 L1 hid hG hit hI hB hFt
      have e : i = Z.1 := by omega
      subst e
      refine g_aload_n X rfl rfl ?_
      refine g_hasNext X rfl lmX8_52 (hL0.le hG.1).1 hI (by omega) hN0 (Nat.le_of_ble_eq_true rfl) ⟨by decide, by decide⟩ ⟨by show _ ≤ 200; omega, by show _ ≤ 12000; omega⟩ ?_
      refine g_if_eqB X rfl (fun _ => ?_) (fun h => absurd (of_decide_eq_true h) (by omega))
      refine g_more (c' := 11) (s' := 619) (by omega) (by omega) ?_
      have e9 : cutS S (fun u => if u = 0 then Z.1 else 0) = cutS S (fun u => if u = 0 then Z.1 else if u = 1 then 0 else 0) ∧ cutZ Z (fun u => if u = 0 then Z.1 else 0) = cutZ Z (fun u => if u = 0 then Z.1 else if u = 1 then 0 else 0) := ⟨rfl, rfl⟩
      rw [e9.1, e9.2] at hB hFt
      have hI9 := hB.le ((HLe.rf A1).up hG.2.2.2.at (x := itE 0 (-1) (L.2.1 1) (L.1 1)))
      refine g_aload_n X rfl rfl ?_
      refine g_get X rfl flX8_33 (ci := 8) rfl (hG.1 _ _ hb.1) rfl ?_
      refine g_iter X rfl lmX8_48 (hL1.le hG.1) hG.2.2.2 (by have := hG.2.2.1; omega) (Nat.le_of_ble_eq_true rfl) ⟨by decide, by decide⟩ ⟨by show _ ≤ 200; omega, by show _ ≤ 12000; omega⟩ ?_
      first | refine g_astore_nS X rfl (by decide) rfl ?_ | refine g_astore_n X rfl (by decide) ?_
      exact loop1 S.2.1.1 0 _ (z1 + 1) z1 (-1) _ L1 (Nat.zero_add _) ((hG.new hF0).wide (by omega)) hG.2.1 upA_eq hI9 hFt
    | succ d ih =>
      intro i A1 z1 it lr o3 L1 hid hG hit hI hB hFt
      have hi : i < Z.1 := by omega
      have hG2 : Grw A0 g (upA A1 it (itE (i + 1) (nI i) (L.2.1 0) (L.1 0))) z1 (1 + 6 + 1 * i) := hG.up hF0 hit (hG.2.2.2.lt hI)
      have hB2 := hB.it hG.2.2.2 (by have := hG.2.2.1; omega) hI (fs' := [.int (nI (i + 1)), .int (nI i), .int (L.2.1 0), .ref (L.1 0)])
      have hRo : RwT cy A0 0 (L.2.2.2 0 i) S Z i := ((BkR.iff.mp hb).2 0 (by decide)).2 i hi
      refine g_aload_n X rfl rfl ?_
      refine g_hasNext X rfl lmX8_52 (hL0.le hG.1).1 hI (by omega) hN0 (Nat.le_of_ble_eq_true rfl) ⟨by decide, by decide⟩ ⟨by show _ ≤ 200; omega, by show _ ≤ 12000; omega⟩ ?_
      refine g_if_eqB X rfl (fun h => absurd hi (of_decide_eq_false h)) (fun _ => ?_)
      refine g_aload_n X rfl rfl ?_
      refine g_next X rfl lmX8_58 (hL0.le hG.1) hI hi (Nat.le_of_ble_eq_true rfl) ⟨by decide, by decide⟩ ⟨by show _ ≤ 200; omega, by show _ ≤ 12000; omega⟩ ?_
      obtain ⟨r, hr0, hrv⟩ := id hRo
      have hr := hG2.1 _ _ hr0
      refine g_castI X rfl clX8_62 hr ?_
      first | refine g_astore_nS X rfl (by decide) rfl ?_ | refine g_astore_n X rfl (by decide) ?_
      refine g_aload_n X rfl rfl ?_
      refine g_get X rfl flX8_29 (ci := 8) rfl (hB2.1.1) rfl ?_
      refine g_aload_n X rfl rfl ?_
      refine g_callV X rfl lcJx4a65c_add_9ea2d lmX8_64 lsJx4a65c_add_9ea2d (ct_add l D cy B od (show LsC cy (upA A1 it (itE (i + 1) (nI i) (L.2.1 0) (L.1 0))) (L1.1 0) (L1.2.1 0) (L1.2.2.1 0) i (L1.2.2.2 0) from hB2.1.2.1 0 (by decide)) (Or.inl ⟨_, _, hr⟩) (by omega) hG2.2.2.2 (by have := hG2.2.2.1; omega)) (ci := 9) (hB2.1.2.1 0 (by decide)).1 rfl rfl rfl (Nat.le_of_ble_eq_true rfl) ⟨by decide, by decide⟩ ⟨by show (6 + 1 * i) + 1 ≤ 200; omega, by show (19 + 120 * i) + 120 ≤ 12000; omega⟩ (fun v4 A4 z4 q4 => ?_)
      have hRx : RwT cy A4 0 (L.2.2.2 0 i) (cutS S (fun u => if u = 0 then (i + 1) else 0)) (cutZ Z (fun u => if u = 0 then (i + 1) else 0)) i := by
        have hz9 := row_in hB2 (t := 0) (by decide) hG2.2.2.2 (by have := hG2.2.2.1; omega) q4.2 hr (isRw.oa ⟨_, _, rfl⟩) (isRw.ls ⟨_, _, rfl⟩)
        exact (⟨r, hz9, hrv⟩ : RwA cy A4 (L.2.2.2 0 i) 2 _)
      obtain ⟨rfl, q5⟩ := q4
      obtain ⟨L4, y4, rfl, hB4, hG4, hF4, hL4, hfr4⟩ := add_step (S' := cutS S (fun u => if u = 0 then (i + 1) else 0)) (Z' := cutZ Z (fun u => if u = 0 then (i + 1) else 0)) (t := 0) (by decide) hB2 hFt hF0 hG2 (by have := hG2.2.2.1; omega) q5 (hRx) (fun a _ => absurd a (by decide)) (cut_ag _ _ _ _ _) (fun u hu => by rcases (show u = 0 ∨ u = 1 ∨ u = 2 ∨ u = 3 ∨ u = 4 by omega) with rfl | rfl | rfl | rfl | rfl <;> rfl)
      refine g_pop X rfl rfl ?_
      refine g_goto X rfl ?_
      exact g_more (by show (6 + 1 * i) + 1 ≤ _; omega) (by show (19 + 120 * i) + 120 ≤ _; omega) (ih (i + 1) A4 y4 it _ _ L4 (by omega) (hG4.wide (by omega)) hit ((hfr4 it (by rw [upA_eq]; simp) (fun q => Foot.it hB2.1 q upA_eq)).trans upA_eq) hB4 hF4)

  have main : ∀ (Ae : AH), (Ae g = some (.inr (8, [.int S.2.2.2.2.2, .int (Z.2.1 1), .int (Z.2.1 2), .int (Z.2.1 3), .int (Z.2.1 4), .ref (g + 1), .ref (g + 1 + 1), .ref (g + 1 + 1 + 1), .ref (g + 1 + 1 + 1 + 1), .ref (g + 1 + 1 + 1 + 1 + 1)])) ∧ (∀ t, t < 5 → Ae (g + 1 + t) = some (.inr (9, [.int (nI 0), .ref 3000001, .int (nI 0)]))) ∧ FRs Ae (g + 6) ∧ ∀ q, q < g → Ae q = A0 q) → G p l e rmX8_init_ s m args below meth c D B od 4 tX8_init_ (FinQ false D B od (fun v A' z' => v = none ∧ ∃ z1, z' = z1 + 1 ∧ Grw A0 g A' z1 201 ∧ ∃ L', BkW cy A' g L' S Z ∧ ∀ q, Foot g L' S Z q → g ≤ q) (fun _ _ => True) args s below rmX8_init_.cells rmX8_init_.slots) 5 15 Ae (g + 7) 59 [some (.ref g), some (.ref o9), none, none] [] := by
    rintro Ae ⟨f1, f2, f3, f4⟩
    have hG : Grw A0 g Ae (g + 6) 6 := ⟨fun k y hk => by rw [f4 k (hF0.lt hk)]; exact hk, by omega, by omega, f3⟩
    have hB0 : BkW cy Ae g _ (cutS S (fun u => if u = 0 then 0 else 0)) (cutZ Z (fun u => if u = 0 then 0 else 0)) := bk_new (z := g + 1) (fun t ht => by rcases (show t = 0 ∨ t = 1 ∨ t = 2 ∨ t = 3 ∨ t = 4 by omega) with rfl | rfl | rfl | rfl | rfl <;> rfl) f1 f2
    have hI9 := hB0.le ((HLe.rf Ae).up hG.2.2.2.at (x := itE 0 (-1) (L.2.1 0) (L.1 0)))
    refine g_aload_n X rfl rfl ?_
    refine g_get X rfl flX8_29 (ci := 8) rfl (hG.1 _ _ hb.1) rfl ?_
    refine g_iter X rfl lmX8_48 (hL0.le hG.1) hG.2.2.2 (by omega) (Nat.le_of_ble_eq_true rfl) ⟨by decide, by decide⟩ ⟨Nat.le_of_ble_eq_true rfl, Nat.le_of_ble_eq_true rfl⟩ ?_
    first | refine g_astore_nS X rfl (by decide) rfl ?_ | refine g_astore_n X rfl (by decide) ?_
    exact loop0 Z.1 0 _ (g + 7) (g + 6) (-1) _ _ (Nat.zero_add _) ((hG.new hF0).wide (by omega)) (by omega) upA_eq hI9 (fun q hq => foot_new (fun t ht => by rcases (show t = 0 ∨ t = 1 ∨ t = 2 ∨ t = 3 ∨ t = 4 by omega) with rfl | rfl | rfl | rfl | rfl <;> rfl) (by omega) hq)
  refine g_aload_n X rfl rfl ?_
  refine g_objInit X rfl oiX8_3 (by decide) (Nat.le_of_ble_eq_true rfl) (by decide) ?_
  refine g_aload_n X rfl rfl ?_
  refine g_ldc X rfl kcX8_9 ?_
  refine g_put X rfl flX8_10 rfl (ci := 8) rfl (by (repeat (first | exact upA_eq | refine (upA_ne (by omega)).trans ?_))) (Nat.le_of_ble_eq_true rfl) (by rfl) (by rfl) ?_
  refine g_aload_n X rfl rfl ?_
  refine g_ldc X rfl kcX8_16 ?_
  refine g_put X rfl flX8_17 rfl (ci := 8) rfl (by (repeat (first | exact upA_eq | refine (upA_ne (by omega)).trans ?_))) (Nat.le_of_ble_eq_true rfl) (by rfl) (by rfl) ?_
  refine g_aload_n X rfl rfl ?_
  refine g_iconst X rfl (v := nI 5) (by decide) ?_
  refine g_put X rfl flX8_20 rfl (ci := 8) rfl (by (repeat (first | exact upA_eq | refine (upA_ne (by omega)).trans ?_))) (Nat.le_of_ble_eq_true rfl) (by rfl) (by rfl) ?_
  refine g_aload_n X rfl rfl ?_
  refine g_sipush X rfl (v := nI 420) (by decide) ?_
  refine g_put X rfl flX8_23 rfl (ci := 8) rfl (by (repeat (first | exact upA_eq | refine (upA_ne (by omega)).trans ?_))) (Nat.le_of_ble_eq_true rfl) (by rfl) (by rfl) ?_
  refine g_aload_n X rfl rfl ?_
  refine g_new X rfl nwX8_26 (ci := 9) rfl (fs := [.int (nI 0), .null, .int (nI 0)]) rfl rfl (by omega) (Nat.le_of_ble_eq_true rfl) (Nat.le_of_ble_eq_true rfl) ?_
  refine g_dup X rfl rfl ?_
  refine g_mI X rfl lcJx4a65c_init_da8c8 lmX8_28 liJx4a65c_init_da8c8 rfl (cm_AL_init l D cy B od upA_eq) rfl rfl (Nat.le_of_ble_eq_true rfl) ⟨⟨by decide, by decide⟩, rfl, rfl⟩ ⟨Nat.le_of_ble_eq_true rfl, Nat.le_of_ble_eq_true rfl⟩ (fun v0 A0 q0 => ?_)
  obtain ⟨rfl, rfl⟩ := q0
  rw [upA_up]
  refine g_putF X rfl flX8_29 rfl hnm rfl ffX8_29 (ci := 8) rfl (by (repeat (first | exact upA_eq | refine (upA_ne (by omega)).trans ?_))) (Nat.le_of_ble_eq_true rfl) (by rfl) (by rfl) ?_
  refine g_aload_n X rfl rfl ?_
  refine g_new X rfl nwX8_26 (ci := 9) rfl (fs := [.int (nI 0), .null, .int (nI 0)]) rfl rfl (by omega) (Nat.le_of_ble_eq_true rfl) (Nat.le_of_ble_eq_true rfl) ?_
  refine g_dup X rfl rfl ?_
  refine g_mI X rfl lcJx4a65c_init_da8c8 lmX8_28 liJx4a65c_init_da8c8 rfl (cm_AL_init l D cy B od upA_eq) rfl rfl (Nat.le_of_ble_eq_true rfl) ⟨⟨by decide, by decide⟩, rfl, rfl⟩ ⟨Nat.le_of_ble_eq_true rfl, Nat.le_of_ble_eq_true rfl⟩ (fun v1 A1 q1 => ?_)
  obtain ⟨rfl, rfl⟩ := q1
  rw [upA_up]
  refine g_putF X rfl flX8_33 rfl hnm rfl ffX8_33 (ci := 8) rfl (by (repeat (first | exact upA_eq | refine (upA_ne (by omega)).trans ?_))) (Nat.le_of_ble_eq_true rfl) (by rfl) (by rfl) ?_
  refine g_aload_n X rfl rfl ?_
  refine g_new X rfl nwX8_26 (ci := 9) rfl (fs := [.int (nI 0), .null, .int (nI 0)]) rfl rfl (by omega) (Nat.le_of_ble_eq_true rfl) (Nat.le_of_ble_eq_true rfl) ?_
  refine g_dup X rfl rfl ?_
  refine g_mI X rfl lcJx4a65c_init_da8c8 lmX8_28 liJx4a65c_init_da8c8 rfl (cm_AL_init l D cy B od upA_eq) rfl rfl (Nat.le_of_ble_eq_true rfl) ⟨⟨by decide, by decide⟩, rfl, rfl⟩ ⟨Nat.le_of_ble_eq_true rfl, Nat.le_of_ble_eq_true rfl⟩ (fun v2 A2 q2 => ?_)
  obtain ⟨rfl, rfl⟩ := q2
  rw [upA_up]
  refine g_putF X rfl flX8_36 rfl hnm rfl ffX8_36 (ci := 8) rfl (by (repeat (first | exact upA_eq | refine (upA_ne (by omega)).trans ?_))) (Nat.le_of_ble_eq_true rfl) (by rfl) (by rfl) ?_
  refine g_aload_n X rfl rfl ?_
  refine g_new X rfl nwX8_26 (ci := 9) rfl (fs := [.int (nI 0), .null, .int (nI 0)]) rfl rfl (by omega) (Nat.le_of_ble_eq_true rfl) (Nat.le_of_ble_eq_true rfl) ?_
  refine g_dup X rfl rfl ?_
  refine g_mI X rfl lcJx4a65c_init_da8c8 lmX8_28 liJx4a65c_init_da8c8 rfl (cm_AL_init l D cy B od upA_eq) rfl rfl (Nat.le_of_ble_eq_true rfl) ⟨⟨by decide, by decide⟩, rfl, rfl⟩ ⟨Nat.le_of_ble_eq_true rfl, Nat.le_of_ble_eq_true rfl⟩ (fun v3 A3 q3 => ?_)
  obtain ⟨rfl, rfl⟩ := q3
  rw [upA_up]
  refine g_putF X rfl flX8_39 rfl hnm rfl ffX8_39 (ci := 8) rfl (by (repeat (first | exact upA_eq | refine (upA_ne (by omega)).trans ?_))) (Nat.le_of_ble_eq_true rfl) (by rfl) (by rfl) ?_
  refine g_aload_n X rfl rfl ?_
  refine g_new X rfl nwX8_26 (ci := 9) rfl (fs := [.int (nI 0), .null, .int (nI 0)]) rfl rfl (by omega) (Nat.le_of_ble_eq_true rfl) (Nat.le_of_ble_eq_true rfl) ?_
  refine g_dup X rfl rfl ?_
  refine g_mI X rfl lcJx4a65c_init_da8c8 lmX8_28 liJx4a65c_init_da8c8 rfl (cm_AL_init l D cy B od upA_eq) rfl rfl (Nat.le_of_ble_eq_true rfl) ⟨⟨by decide, by decide⟩, rfl, rfl⟩ ⟨Nat.le_of_ble_eq_true rfl, Nat.le_of_ble_eq_true rfl⟩ (fun v4 A4 q4 => ?_)
  obtain ⟨rfl, rfl⟩ := q4
  rw [upA_up]
  refine g_putF X rfl flX8_42 rfl hnm rfl ffX8_42 (ci := 8) rfl (by (repeat (first | exact upA_eq | refine (upA_ne (by omega)).trans ?_))) (Nat.le_of_ble_eq_true rfl) (by rfl) (by rfl) ?_
  refine g_aload_n X rfl rfl ?_
  refine g_aload_n X rfl rfl ?_
  refine g_get X rfl flX8_45 (ci := 8) rfl (fs := bkO L S Z) (by (repeat (first | exact hb.1 | refine (upA_ne (by omega)).trans ?_))) rfl ?_
  refine g_put X rfl flX8_45 rfl (ci := 8) rfl (by (repeat (first | exact upA_eq | refine (upA_ne (by omega)).trans ?_))) (Nat.le_of_ble_eq_true rfl) (by rfl) (by rfl) ?_
  refine g_aload_n X rfl rfl ?_
  refine g_aload_n X rfl rfl ?_
  refine g_get X rfl flX8_10 (ci := 8) rfl (fs := bkO L S Z) (by (repeat (first | exact hb.1 | refine (upA_ne (by omega)).trans ?_))) rfl ?_
  refine g_put X rfl flX8_10 rfl (ci := 8) rfl (by (repeat (first | exact upA_eq | refine (upA_ne (by omega)).trans ?_))) (Nat.le_of_ble_eq_true rfl) (by rfl) (by rfl) ?_
  refine g_aload_n X rfl rfl ?_
  refine g_aload_n X rfl rfl ?_
  refine g_get X rfl flX8_17 (ci := 8) rfl (fs := bkO L S Z) (by (repeat (first | exact hb.1 | refine (upA_ne (by omega)).trans ?_))) rfl ?_
  refine g_put X rfl flX8_17 rfl (ci := 8) rfl (by (repeat (first | exact upA_eq | refine (upA_ne (by omega)).trans ?_))) (Nat.le_of_ble_eq_true rfl) (by rfl) (by rfl) ?_
  refine g_aload_n X rfl rfl ?_
  refine g_aload_n X rfl rfl ?_
  refine g_get X rfl flX8_20 (ci := 8) rfl (fs := bkO L S Z) (by (repeat (first | exact hb.1 | refine (upA_ne (by omega)).trans ?_))) rfl ?_
  refine g_put X rfl flX8_20 rfl (ci := 8) rfl (by (repeat (first | exact upA_eq | refine (upA_ne (by omega)).trans ?_))) (Nat.le_of_ble_eq_true rfl) (by rfl) (by rfl) ?_
  refine g_aload_n X rfl rfl ?_
  refine g_aload_n X rfl rfl ?_
  refine g_get X rfl flX8_23 (ci := 8) rfl (fs := bkO L S Z) (by (repeat (first | exact hb.1 | refine (upA_ne (by omega)).trans ?_))) rfl ?_
  refine g_put X rfl flX8_23 rfl (ci := 8) rfl (by (repeat (first | exact upA_eq | refine (upA_ne (by omega)).trans ?_))) (Nat.le_of_ble_eq_true rfl) (by rfl) (by rfl) ?_
  refine main _ ?_
  refine ⟨(by (repeat (first | exact upA_eq | refine (upA_ne (by omega)).trans ?_))), fun t ht => ?_, fun k hk => ?_, fun q hq => ?_⟩
  · rcases (show t = 0 ∨ t = 1 ∨ t = 2 ∨ t = 3 ∨ t = 4 by omega) with rfl | rfl | rfl | rfl | rfl <;> (repeat (first | exact upA_eq | refine (upA_ne (by omega)).trans ?_))
  · repeat refine (upA_ne (by omega)).trans ?_
    exact hF0 k (by omega)
  · repeat refine (upA_ne (by omega)).trans ?_
    rfl
