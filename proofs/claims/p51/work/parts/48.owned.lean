/-! 48: which cells a book owns; how it changes -/
/-- the j-th row of list t -/
def RwT (cy : Nat → ClassId) (A : AH) (t a : Nat) (S : StV) (Z : SV) (j : Nat) : Prop := match t with
  | 0 => RwA cy A a 2 (fun i => Z.2.2 i j)
  | 1 => RwA cy A a 3 (fun i => S.2.1.2 i j)
  | 2 => RwA cy A a 7 (fun i => S.1.2 i j)
  | 3 => RwA cy A a 5 (fun i => S.2.2.1.2 (asC i) j)
  | _ => IntA A a (S.2.2.2.1 j)
theorem BkR.iff {cy : Nat → ClassId} {A : AH} {g : Nat} {L : BL} {S : StV} {Z : SV} : BkR cy A g L S Z ↔ A g = some (.inr (8, bkO L S Z)) ∧ ∀ t, t < 5 → LsC cy A (L.1 t) (L.2.1 t) (L.2.2.1 t) (bN S Z t) (L.2.2.2 t) ∧ ∀ j, j < bN S Z t → RwT cy A t (L.2.2.2 t j) S Z j := by
  constructor
  · rintro ⟨h1, h2, h3, h4, h5, h6, h7⟩
    refine ⟨h1, fun t ht => ⟨h2 t ht, ?_⟩⟩
    rcases (show t = 0 ∨ t = 1 ∨ t = 2 ∨ t = 3 ∨ t = 4 by omega) with rfl | rfl | rfl | rfl | rfl
    · exact h3
    · exact h4
    · exact h5
    · exact h6
    · exact h7
  · rintro ⟨h1, h2⟩
    exact ⟨h1, fun t ht => (h2 t ht).1, (h2 0 (by decide)).2, (h2 1 (by decide)).2, (h2 2 (by decide)).2, (h2 3 (by decide)).2, (h2 4 (by decide)).2⟩
/-- lists, arrays and rows of one book are apart -/
def Dst (L : BL) (S : StV) (Z : SV) : Prop := (∀ t u, t < 5 → u < 5 → t ≠ u → L.1 t ≠ L.1 u ∧ (L.2.2.1 t = L.2.2.1 u → L.2.2.1 t = 3000001)) ∧ ∀ t, 1 ≤ t → t ≤ 3 → ∀ i j, i < bN S Z t → j < bN S Z t → L.2.2.2 t i = L.2.2.2 t j → i = j
def BkW (cy : Nat → ClassId) (A : AH) (g : Nat) (L : BL) (S : StV) (Z : SV) : Prop := BkR cy A g L S Z ∧ Dst L S Z
/-- what a book may change -/
def Foot (g : Nat) (L : BL) (S : StV) (Z : SV) (q : Nat) : Prop := q = g ∨ (∃ t, t < 5 ∧ (q = L.1 t ∨ (q = L.2.2.1 t ∧ q ≠ 3000001))) ∨ ∃ t j, 1 ≤ t ∧ t ≤ 3 ∧ j < bN S Z t ∧ q = L.2.2.2 t j
def isOA (y : va_E) : Prop := ∃ c n g, y = .inl (c, n, .inr (.inr (.inr (.inr g))))
def isLS (y : va_E) : Prop := ∃ fs, y = .inr (9, fs)
def isRw (y : va_E) (n : Nat) : Prop := ∃ c r, y = .inl (c, n, .inl r)
def isBx (y : va_E) : Prop := ∃ fs, y = .inr (11, fs)
theorem RwA.cell {cy : Nat → ClassId} {A : AH} {a n : Nat} {h : Nat → Int32} (h1 : RwA cy A a n h) : ∃ y, A a = some y ∧ isRw y n := by
  obtain ⟨r, h2, -⟩ := h1
  exact ⟨_, h2, _, _, rfl⟩
theorem isRw.ne {y : va_E} {n m : Nat} (h1 : isRw y n) (h2 : isRw y m) : n = m := by
  obtain ⟨c, r, rfl⟩ := h1
  obtain ⟨c2, r2, h⟩ := h2
  injection h with h
  injection h with a h
  injection h
theorem isRw.oa {y : va_E} {n : Nat} (h1 : isRw y n) : ¬ isOA y := by
  obtain ⟨c, r, rfl⟩ := h1
  rintro ⟨c2, n2, g, h⟩
  injection h with h
  injection h with a h
  injection h with b h
  cases h
theorem isRw.ls {y : va_E} {n : Nat} (h1 : isRw y n) : ¬ isLS y := by
  obtain ⟨c, r, rfl⟩ := h1
  rintro ⟨fs, h⟩
  cases h
theorem isRw.bx {y : va_E} {n : Nat} (h1 : isRw y n) : ¬ isBx y := by
  obtain ⟨c, r, rfl⟩ := h1
  rintro ⟨fs, h⟩
  cases h
theorem isBx.oa {y : va_E} (h1 : isBx y) : ¬ isOA y := by
  obtain ⟨fs, rfl⟩ := h1
  rintro ⟨c2, n2, g, h⟩
  cases h
theorem isBx.ls {y : va_E} (h1 : isBx y) : ¬ isLS y := by
  obtain ⟨fs, rfl⟩ := h1
  rintro ⟨fs2, h⟩
  cases h
theorem isLS.oa {y : va_E} (h1 : isLS y) : ¬ isOA y := by
  obtain ⟨fs, rfl⟩ := h1
  rintro ⟨c2, n2, g, h⟩
  cases h
theorem isB8 {fs : List Value} : ¬ isOA (.inr (8, fs)) ∧ ¬ isLS (.inr (8, fs)) ∧ ¬ isBx (.inr (8, fs)) ∧ ∀ n, ¬ isRw (.inr (8, fs)) n := by
  refine ⟨?_, ?_, ?_, ?_⟩
  · rintro ⟨c2, n2, g, h⟩; cases h
  · rintro ⟨fs2, h⟩; cases h
  · rintro ⟨fs2, h⟩; cases h
  · rintro n ⟨c, r, h⟩; cases h
/-- cells that are no lists and no arrays of objects stay as they are: then rows and boxes do -/
theorem ObjA.ke {cy : Nat → ClassId} {A A' : AH} {b : Nat} (hf : ∀ q y, A q = some y → ¬ isOA y → ¬ isLS y → A' q = A q) (h : ObjA cy A b) : ObjA cy A' b := by
  rcases h with ⟨n, f, h⟩ | ⟨gs, h⟩ | ⟨gs, h⟩ | h
  · exact Or.inl ⟨n, f, (hf _ _ h (isRw.oa ⟨_, _, rfl⟩) (isRw.ls ⟨_, _, rfl⟩)).trans h⟩
  · exact Or.inr (Or.inl ⟨gs, (hf _ _ h isB8.1 isB8.2.1).trans h⟩)
  · exact Or.inr (Or.inr (Or.inl ⟨gs, (hf _ _ h (isBx.oa ⟨_, rfl⟩) (isBx.ls ⟨_, rfl⟩)).trans h⟩))
  · exact Or.inr (Or.inr (Or.inr h))
theorem RwT.cell {cy : Nat → ClassId} {A : AH} {t a : Nat} {S : StV} {Z : SV} {j : Nat} (ht : t < 5) (h : RwT cy A t a S Z j) : (∃ y, A a = some y ∧ ((t ≤ 3 ∧ isRw y ([2, 3, 7, 5].getD t 0)) ∨ (t = 4 ∧ isBx y))) ∨ (t = 4 ∧ 3001000 ≤ a) := by
  rcases (show t = 0 ∨ t = 1 ∨ t = 2 ∨ t = 3 ∨ t = 4 by omega) with rfl | rfl | rfl | rfl | rfl
  · obtain ⟨y, h1, h2⟩ := RwA.cell h; exact Or.inl ⟨y, h1, Or.inl ⟨by decide, h2⟩⟩
  · obtain ⟨y, h1, h2⟩ := RwA.cell h; exact Or.inl ⟨y, h1, Or.inl ⟨by decide, h2⟩⟩
  · obtain ⟨y, h1, h2⟩ := RwA.cell h; exact Or.inl ⟨y, h1, Or.inl ⟨by decide, h2⟩⟩
  · obtain ⟨y, h1, h2⟩ := RwA.cell h; exact Or.inl ⟨y, h1, Or.inl ⟨by decide, h2⟩⟩
  · rcases h with h | ⟨k, -, h, -⟩
    · exact Or.inl ⟨_, h, Or.inr ⟨rfl, _, rfl⟩⟩
    · exact Or.inr ⟨rfl, by omega⟩
theorem RwT.off {cy : Nat → ClassId} {A A' : AH} {t a : Nat} {S : StV} {Z : SV} {j : Nat} (ht : t < 5) (h : RwT cy A t a S Z j) (hb : (∃ y, A a = some y) → A' a = A a) : RwT cy A' t a S Z j := by
  rcases (show t = 0 ∨ t = 1 ∨ t = 2 ∨ t = 3 ∨ t = 4 by omega) with rfl | rfl | rfl | rfl | rfl
  · exact RwA.off h (hb (by obtain ⟨y, h1, -⟩ := RwA.cell h; exact ⟨y, h1⟩))
  · exact RwA.off h (hb (by obtain ⟨y, h1, -⟩ := RwA.cell h; exact ⟨y, h1⟩))
  · exact RwA.off h (hb (by obtain ⟨y, h1, -⟩ := RwA.cell h; exact ⟨y, h1⟩))
  · exact RwA.off h (hb (by obtain ⟨y, h1, -⟩ := RwA.cell h; exact ⟨y, h1⟩))
  · rcases h with h | h
    · exact Or.inl ((hb ⟨_, h⟩).trans h)
    · exact Or.inr h
theorem RwA.ke {cy : Nat → ClassId} {A A' : AH} {a n : Nat} {h : Nat → Int32} (hf : ∀ q y, A q = some y → ¬ isOA y → ¬ isLS y → A' q = A q) (h1 : RwA cy A a n h) : RwA cy A' a n h := by
  obtain ⟨y, h2, h3⟩ := h1.cell
  exact h1.off (hf _ _ h2 h3.oa h3.ls)
theorem RwT.ke {cy : Nat → ClassId} {A A' : AH} {t a : Nat} {S : StV} {Z : SV} {j : Nat} (ht : t < 5) (hf : ∀ q y, A q = some y → ¬ isOA y → ¬ isLS y → A' q = A q) (h : RwT cy A t a S Z j) : RwT cy A' t a S Z j := by
  rcases (show t = 0 ∨ t = 1 ∨ t = 2 ∨ t = 3 ∨ t = 4 by omega) with rfl | rfl | rfl | rfl | rfl
  · exact RwA.ke hf h
  · exact RwA.ke hf h
  · exact RwA.ke hf h
  · exact RwA.ke hf h
  · rcases h with h | h
    · exact Or.inl ((hf _ _ h (isBx.oa ⟨_, rfl⟩) (isBx.ls ⟨_, rfl⟩)).trans h)
    · exact Or.inr h
/-- S', Z' hold the same rows as S, Z as far as these go, and the same numbers -/
def Ag (L : BL) (S : StV) (Z : SV) (S' : StV) (Z' : SV) : Prop := bkO L S' Z' = bkO L S Z ∧ ∀ t, t < 5 → ∀ j, j < bN S Z t → ∀ cy A a, RwT cy A t a S Z j → RwT cy A t a S' Z' j
def blU (L : BL) (t : Nat) (mc : Int32) (ed : Nat) (f : Nat → Nat) : BL := (L.1, fun u => if u = t then mc else L.2.1 u, fun u => if u = t then ed else L.2.2.1 u, fun u => if u = t then f else L.2.2.2 u)
theorem blU_1 {L : BL} {t : Nat} {mc : Int32} {ed : Nat} {f : Nat → Nat} : (blU L t mc ed f).2.1 t = mc ∧ (blU L t mc ed f).2.2.1 t = ed ∧ (blU L t mc ed f).2.2.2 t = f := ⟨if_pos rfl, if_pos rfl, if_pos rfl⟩
theorem blU_2 {L : BL} {t u : Nat} {mc : Int32} {ed : Nat} {f : Nat → Nat} (e : u ≠ t) : (blU L t mc ed f).2.1 u = L.2.1 u ∧ (blU L t mc ed f).2.2.1 u = L.2.2.1 u ∧ (blU L t mc ed f).2.2.2 u = L.2.2.2 u := ⟨if_neg e, if_neg e, if_neg e⟩
theorem LsC.ed {cy : Nat → ClassId} {A : AH} {k ed n : Nat} {mc : Int32} {f : Nat → Nat} (h : LsC cy A k mc ed n f) : ed = 3000001 ∨ ∃ y, A ed = some y ∧ isOA y := by
  rcases h.2.2.1 with ⟨-, h⟩ | ⟨-, cap, g, h, -⟩
  · exact Or.inl h
  · exact Or.inr ⟨_, h, _, _, _, rfl⟩
theorem BkW.add {cy : Nat → ClassId} {A A' : AH} {g : Nat} {L : BL} {S S' : StV} {Z Z' : SV} {t x z z' : Nat} {mc : Int32} (ht : t < 5) (h : BkW cy A g L S Z) (hF : FRs A z) (hz : z ≤ 900000) (hq : AddQ cy A A' z z' (L.1 t) mc (L.2.2.1 t) (bN S Z t) (L.2.2.2 t) x) (hx : RwT cy A' t x S' Z' (bN S Z t)) (hnx : 1 ≤ t → t ≤ 3 → ∀ j, j < bN S Z t → L.2.2.2 t j ≠ x) (hag : Ag L S Z S' Z') (hbn : ∀ u, u < 5 → bN S' Z' u = bN S Z u + if u = t then 1 else 0) :
    ∃ L' z1, z' = z1 + 1 ∧ BkW cy A' g L' S' Z' ∧ FRs A' z1 ∧ (z1 = z ∨ z1 = z + 1) ∧ L'.1 = L.1 ∧ (∀ q, Foot g L' S' Z' q → Foot g L S Z q ∨ q = z ∨ (q = x ∧ 1 ≤ t ∧ t ≤ 3)) ∧ (∀ q, q ≠ L.1 t → q ≠ L.2.2.1 t → q ≠ z → A' q = A q) ∧ L'.2.2.2 = (fun u => if u = t then (fun j => if j = bN S Z t then x else L.2.2.2 t j) else L.2.2.2 u) := by
  obtain ⟨hr, hd1, hd2⟩ := h
  obtain ⟨h0, h1⟩ := BkR.iff.mp hr
  obtain ⟨ed', z1, rfl, hls, hcase, hfr, hframe⟩ := hq
  have hlt := (h1 t ht).1
  have hk : ∀ q y, A q = some y → ¬ isOA y → ¬ isLS y → A' q = A q := by
    intro q y hy ho hl
    refine hframe q ?_ ?_ ?_
    · intro e; subst e; rw [hlt.1] at hy; cases hy; exact hl ⟨_, rfl⟩
    · intro e; subst e
      rcases hlt.ed with e | ⟨y2, e1, e2⟩
      · have := hF.lt hy; omega
      · rw [e1] at hy; cases hy; exact ho e2
    · intro e; subst e; rw [hF.at] at hy; cases hy
  refine ⟨blU L t mc ed' (fun j => if j = bN S Z t then x else L.2.2.2 t j), z1, rfl, ⟨BkR.iff.mpr ⟨?_, ?_⟩, ?_, ?_⟩, hfr, ?_, rfl, ?_, hframe, rfl⟩
  · show A' g = some (.inr (8, bkO (blU L t mc ed' _) S' Z'))
    rw [show bkO (blU L t mc ed' (fun j => if j = bN S Z t then x else L.2.2.2 t j)) S' Z' = bkO L S' Z' from rfl, hag.1]
    exact (hk _ _ h0 isB8.1 isB8.2.1).trans h0
  · intro u hu
    by_cases e : u = t
    · subst e
      have e1 : bN S' Z' u = bN S Z u + 1 := by rw [hbn u hu, if_pos rfl]
      rw [e1]
      rw [blU_1.1, blU_1.2.1, blU_1.2.2]
      refine ⟨hls, fun j hj => ?_⟩
      show RwT cy A' u (if j = bN S Z u then x else L.2.2.2 u j) S' Z' j
      by_cases e2 : j = bN S Z u
      · rw [if_pos e2, e2]; exact hx
      · rw [if_neg e2]; exact ((h1 u hu).2 j (by omega)).ke hu hk |> hag.2 u hu j (by omega) cy A' _
    · have e1 : bN S' Z' u = bN S Z u := by rw [hbn u hu, if_neg e]; rfl
      rw [e1]
      rw [(blU_2 e).1, (blU_2 e).2.1, (blU_2 e).2.2]
      have hlu := (h1 u hu).1
      have hdd := hd1 u t hu ht e
      refine ⟨hlu.fr (hframe _ hdd.1 ?_ ?_) (fun h3 => hframe _ ?_ ?_ ?_) (fun j hj q => q.ke hk), fun j hj => ((h1 u hu).2 j hj).ke hu hk |> hag.2 u hu j hj cy A' _⟩
      · intro e2
        rcases hlt.ed with e3 | ⟨y2, e4, e5⟩
        · have := hF.lt hlu.1; omega
        · rw [← e2, hlu.1] at e4; cases e4; exact isLS.oa ⟨_, rfl⟩ e5
      · intro e2; have := hF.lt hlu.1; omega
      · intro e2
        rcases hlu.ed with e3 | ⟨y2, e4, e5⟩
        · exact h3 e3
        · rw [e2, hlt.1] at e4; cases e4; exact isLS.oa ⟨_, rfl⟩ e5
      · intro e2; exact h3 (hdd.2 e2)
      · intro e2
        rcases hlu.ed with e3 | ⟨y2, e4, e5⟩
        · exact h3 e3
        · have := hF.lt e4; omega
  · intro u w hu hw huw
    refine ⟨(hd1 u w hu hw huw).1, ?_⟩
    show (if u = t then ed' else L.2.2.1 u) = (if w = t then ed' else L.2.2.1 w) → (if u = t then ed' else L.2.2.1 u) = 3000001
    have hne : ∀ v, v < 5 → v ≠ t → ed' = L.2.2.1 v → ed' = 3000001 := by
      intro v hv hvt e
      rcases hcase with ⟨e1, -⟩ | ⟨e1, -⟩
      · rw [e1] at e ⊢; exact (hd1 t v ht hv (Ne.symm hvt)).2 e
      · rcases (h1 v hv).1.ed with e3 | ⟨y2, e4, e5⟩
        · rw [e, e3]
        · rw [← e, e1, hF.at] at e4; cases e4
    by_cases e : u = t
    · subst e
      rw [if_pos rfl, if_neg (Ne.symm huw)]
      exact hne w hw (Ne.symm huw)
    · rw [if_neg e]
      by_cases e2 : w = t
      · rw [if_pos e2]; intro e3; rw [e3]; exact hne u hu e e3.symm
      · rw [if_neg e2]; exact (hd1 u w hu hw huw).2
  · intro u hu1 hu3 i j hi hj
    show (if u = t then _ else L.2.2.2 u) i = (if u = t then _ else L.2.2.2 u) j → _
    by_cases e : u = t
    · subst e
      rw [if_pos rfl]
      show (if i = bN S Z u then x else L.2.2.2 u i) = (if j = bN S Z u then x else L.2.2.2 u j) → _
      rw [hbn u ht, if_pos rfl] at hi hj
      by_cases e1 : i = bN S Z u
      · rw [if_pos e1]
        by_cases e2 : j = bN S Z u
        · intro _; omega
        · rw [if_neg e2]; intro e3; exact absurd e3.symm (hnx hu1 hu3 j (by omega))
      · rw [if_neg e1]
        by_cases e2 : j = bN S Z u
        · rw [if_pos e2]; intro e3; exact absurd e3 (hnx hu1 hu3 i (by omega))
        · rw [if_neg e2]; exact hd2 u hu1 hu3 i j (by omega) (by omega)
    · rw [if_neg e]
      have e1 : bN S' Z' u = bN S Z u := by rw [hbn u (by omega), if_neg e]; rfl
      rw [e1] at hi hj
      exact hd2 u hu1 hu3 i j hi hj
  · rcases hcase with h | h
    · exact Or.inl h.2
    · exact Or.inr h.2
  · rintro q (rfl | ⟨u, hu, h | ⟨h, h9⟩⟩ | ⟨u, j, hu1, hu3, hj, h⟩)
    · exact Or.inl (Or.inl rfl)
    · exact Or.inl (Or.inr (Or.inl ⟨u, hu, Or.inl h⟩))
    · have h : q = if u = t then ed' else L.2.2.1 u := h
      by_cases e : u = t
      · rw [if_pos e] at h
        rcases hcase with ⟨e1, -⟩ | ⟨e1, -⟩
        · exact Or.inl (Or.inr (Or.inl ⟨t, ht, Or.inr ⟨h.trans e1, h9⟩⟩))
        · exact Or.inr (Or.inl (h.trans e1))
      · rw [if_neg e] at h
        exact Or.inl (Or.inr (Or.inl ⟨u, hu, Or.inr ⟨h, h9⟩⟩))
    · have h : q = (if u = t then (fun j => if j = bN S Z t then x else L.2.2.2 t j) else L.2.2.2 u) j := h
      by_cases e : u = t
      · subst e
        rw [if_pos rfl] at h
        have h : q = if j = bN S Z u then x else L.2.2.2 u j := h
        rw [hbn u ht, if_pos rfl] at hj
        by_cases e1 : j = bN S Z u
        · rw [if_pos e1] at h; exact Or.inr (Or.inr ⟨h, hu1, hu3⟩)
        · rw [if_neg e1] at h; exact Or.inl (Or.inr (Or.inr ⟨u, j, hu1, hu3, by omega, h⟩))
      · rw [if_neg e] at h
        have e1 : bN S' Z' u = bN S Z u := by rw [hbn u (by omega), if_neg e]; rfl
        exact Or.inl (Or.inr (Or.inr ⟨u, j, hu1, hu3, by omega, h⟩))
/-- a row changes -/
theorem BkW.row {cy : Nat → ClassId} {A : AH} {g : Nat} {L : BL} {S S' : StV} {Z : SV} {t j : Nat} {r' : Nat → Int32} (ht1 : 1 ≤ t) (ht3 : t ≤ 3) (hj : j < bN S Z t) (h : BkW cy A g L S Z) {z : Nat} (hF : FRs A z) (hz : z ≤ 900000) (hbn : ∀ u, u < 5 → bN S' Z u = bN S Z u) (hO : bkO L S' Z = bkO L S Z) (hag : ∀ u, u < 5 → ∀ i, i < bN S Z u → (u ≠ t ∨ i ≠ j) → ∀ cy A a, RwT cy A u a S Z i → RwT cy A u a S' Z i)
    (hx : RwT cy (upA A (L.2.2.2 t j) (.inl (cy 0, [2, 3, 7, 5].getD t 0, .inl r'))) t (L.2.2.2 t j) S' Z j) : BkW cy (upA A (L.2.2.2 t j) (.inl (cy 0, [2, 3, 7, 5].getD t 0, .inl r'))) g L S' Z := by
  obtain ⟨hr, hd1, hd2⟩ := h
  obtain ⟨h0, h1⟩ := BkR.iff.mp hr
  obtain ⟨y0, c0, c1⟩ : ∃ y, A (L.2.2.2 t j) = some y ∧ isRw y ([2, 3, 7, 5].getD t 0) := by
    rcases ((h1 t (by omega)).2 j hj).cell (by omega) with ⟨y, h2, h3⟩ | h2
    · rcases h3 with h3 | h3
      · exact ⟨y, h2, h3.2⟩
      · omega
    · omega
  have hne : ∀ q y, A q = some y → ¬ isRw y ([2, 3, 7, 5].getD t 0) → upA A (L.2.2.2 t j) (.inl (cy 0, [2, 3, 7, 5].getD t 0, .inl r')) q = A q := by
    intro q y hy hn
    refine upA_ne (fun e => ?_)
    subst e
    rw [c0] at hy; cases hy; exact hn c1
  have hob : ∀ b, ObjA cy A b → ObjA cy (upA A (L.2.2.2 t j) (.inl (cy 0, [2, 3, 7, 5].getD t 0, .inl r'))) b := by
    intro b hb
    by_cases e : b = L.2.2.2 t j
    · subst e; exact Or.inl ⟨_, _, upA_eq⟩
    · exact hb.off (upA_ne e)
  refine ⟨BkR.iff.mpr ⟨?_, fun u hu => ?_⟩, hd1, fun u hu1 hu3 i k hi hk => ?_⟩
  · rw [hO]; exact (hne _ _ h0 (isB8.2.2.2 _)).trans h0
  · rw [hbn u hu]
    have hlu := (h1 u hu).1
    refine ⟨hlu.fr (hne _ _ hlu.1 (fun q => q.ls ⟨_, rfl⟩)) (fun h3 => ?_) (fun i _ q => hob _ q), fun i hi => ?_⟩
    · rcases hlu.ed with e3 | ⟨y2, e4, e5⟩
      · exact absurd e3 h3
      · exact hne _ _ e4 (fun q => q.oa e5)
    · by_cases e : u = t ∧ i = j
      · obtain ⟨rfl, rfl⟩ := e; exact hx
      · refine hag u hu i hi (by omega) _ _ _ (((h1 u hu).2 i hi).off hu ?_)
        rintro ⟨y, hy⟩
        refine upA_ne (fun e2 => ?_)
        rcases ((h1 u hu).2 i hi).cell hu with ⟨y3, h4, h5⟩ | ⟨rfl, h4⟩
        · rw [e2, c0] at h4
          cases h4
          rcases h5 with ⟨h6, h5⟩ | ⟨-, h5⟩
          · have h7 := h5.ne c1
            have h8 : u = t := by
              rcases (show u = 0 ∨ u = 1 ∨ u = 2 ∨ u = 3 by omega) with rfl | rfl | rfl | rfl <;> rcases (show t = 1 ∨ t = 2 ∨ t = 3 by omega) with rfl | rfl | rfl <;> first | rfl | (exact absurd h7 (by decide))
            subst h8
            exact e ⟨rfl, hd2 u ht1 ht3 i j hi hj e2⟩
          · exact c1.bx h5
        · have := hF.lt c0; omega
  · rw [hbn u (by omega)] at hi hk
    exact hd2 u hu1 hu3 i k hi hk
/-- the book's own numbers change -/
theorem BkW.own {cy : Nat → ClassId} {A : AH} {g : Nat} {L : BL} {S S' : StV} {Z Z' : SV} (h : BkW cy A g L S Z) {z : Nat} (hF : FRs A z) (hz : z ≤ 900000) (hbn : ∀ u, u < 5 → bN S' Z' u = bN S Z u) (hag : ∀ u, u < 5 → ∀ i, i < bN S Z u → ∀ cy A a, RwT cy A u a S Z i → RwT cy A u a S' Z' i) : BkW cy (upA A g (.inr (8, bkO L S' Z'))) g L S' Z' := by
  obtain ⟨hr, hd1, hd2⟩ := h
  obtain ⟨h0, h1⟩ := BkR.iff.mp hr
  have hne : ∀ q y, A q = some y → ¬ isOA y → ¬ isLS y → (y = .inr (8, bkO L S Z) → q ≠ g) → upA A g (.inr (8, bkO L S' Z')) q = A q := fun q y hy _ _ hn => upA_ne (fun e => by subst e; rw [h0] at hy; cases hy; exact hn rfl rfl)
  have hq : ∀ q y, A q = some y → (∀ fs, y ≠ .inr (8, fs)) → upA A g (.inr (8, bkO L S' Z')) q = A q := fun q y hy hn => upA_ne (fun e => by subst e; rw [h0] at hy; cases hy; exact hn _ rfl)
  have hob : ∀ b, ObjA cy A b → ObjA cy (upA A g (.inr (8, bkO L S' Z'))) b := by
    intro b hb
    by_cases e : b = g
    · subst e; exact Or.inr (Or.inl ⟨_, upA_eq⟩)
    · exact hb.off (upA_ne e)
  refine ⟨BkR.iff.mpr ⟨upA_eq, fun u hu => ?_⟩, hd1, fun u hu1 hu3 i k hi hk => ?_⟩
  · rw [hbn u hu]
    have hlu := (h1 u hu).1
    refine ⟨hlu.fr (hq _ _ hlu.1 (fun fs q => by cases q)) (fun h3 => ?_) (fun i _ q => hob _ q), fun i hi => hag u hu i hi _ _ _ (((h1 u hu).2 i hi).off hu ?_)⟩
    · rcases hlu.ed with e3 | ⟨y2, e4, e5⟩
      · exact absurd e3 h3
      · exact hq _ _ e4 (fun fs q => by subst q; exact isB8.1 e5)
    · rintro ⟨y, hy⟩
      refine hq _ _ hy (fun fs q => ?_)
      subst q
      rcases ((h1 u hu).2 i hi).cell hu with ⟨y3, h4, h5⟩ | ⟨rfl, h4⟩
      · rw [hy] at h4; cases h4
        rcases h5 with ⟨-, h5⟩ | ⟨-, h5⟩
        · exact isB8.2.2.2 _ h5
        · exact isB8.2.2.1 h5
      · have := hF.lt hy; omega
  · rw [hbn u (by omega)] at hi hk
    exact hd2 u hu1 hu3 i k hi hk
/-- what a book owns holds no row of limits, no box -/
theorem Foot.cell {cy : Nat → ClassId} {A : AH} {g : Nat} {L : BL} {S : StV} {Z : SV} {q : Nat} (h : BkR cy A g L S Z) (hq : Foot g L S Z q) : ∃ y, A q = some y ∧ ¬ isRw y 2 ∧ ¬ isBx y := by
  obtain ⟨h0, h1⟩ := BkR.iff.mp h
  rcases hq with rfl | ⟨t, ht, h2 | ⟨h2, h3⟩⟩ | ⟨t, j, ht1, ht3, hj, h2⟩
  · exact ⟨_, h0, isB8.2.2.2 _, isB8.2.2.1⟩
  · exact ⟨_, h2 ▸ (h1 t ht).1.1, fun q => q.ls ⟨_, rfl⟩, fun q => q.ls ⟨_, rfl⟩⟩
  · rcases (h1 t ht).1.ed with e3 | ⟨y2, e4, e5⟩
    · exact absurd (h2.trans e3) h3
    · exact ⟨y2, h2 ▸ e4, fun q => q.oa e5, fun q => q.oa e5⟩
  · rcases ((h1 t (by omega)).2 j hj).cell (by omega) with ⟨y, h4, h5⟩ | h4
    · rcases h5 with ⟨-, h5⟩ | ⟨h5, -⟩
      · refine ⟨y, h2 ▸ h4, fun q => ?_, h5.bx⟩
        have h6 := q.ne h5
        rcases (show t = 1 ∨ t = 2 ∨ t = 3 by omega) with rfl | rfl | rfl <;> exact absurd h6 (by decide)
      · omega
    · omega
theorem Foot.lt {cy : Nat → ClassId} {A : AH} {g : Nat} {L : BL} {S : StV} {Z : SV} {q z : Nat} (h : BkR cy A g L S Z) (hF : FRs A z) (hq : Foot g L S Z q) : q < z := by
  obtain ⟨y, h1, -⟩ := Foot.cell h hq
  exact hF.lt h1
/-- another book is as it was -/
theorem BkW.keep {cy : Nat → ClassId} {A A' : AH} {g : Nat} {L : BL} {S : StV} {Z : SV} {P : Nat → Prop} (h : BkW cy A g L S Z) {z : Nat} (hF : FRs A z) (hz : z ≤ 900000) (hP : ∀ q y, P q → A q = some y → ¬ isRw y 2 ∧ ¬ isBx y) (hdj : ∀ q, Foot g L S Z q → ¬ P q) (hf : ∀ q y, A q = some y → ¬ P q → A' q = A q) : BkW cy A' g L S Z := by
  obtain ⟨hr, hd⟩ := h
  obtain ⟨h0, h1⟩ := BkR.iff.mp hr
  have hk : ∀ q, Foot g L S Z q → A' q = A q := fun q hq => by
    obtain ⟨y, h2, -⟩ := Foot.cell hr hq
    exact hf _ _ h2 (hdj q hq)
  refine ⟨BkR.iff.mpr ⟨(hk _ (Or.inl rfl)).trans h0, fun t ht => ?_⟩, hd⟩
  have hrw : ∀ j, j < bN S Z t → (∃ y, A (L.2.2.2 t j) = some y) → A' (L.2.2.2 t j) = A (L.2.2.2 t j) := by
    rintro j hj ⟨y, hy⟩
    by_cases hP2 : P (L.2.2.2 t j)
    · obtain ⟨n1, n2⟩ := hP _ _ hP2 hy
      rcases ((h1 t ht).2 j hj).cell ht with ⟨y2, h4, h5⟩ | ⟨-, h4⟩
      · rw [hy] at h4; cases h4
        rcases h5 with ⟨h6, h5⟩ | ⟨-, h5⟩
        · by_cases e : t = 0
          · subst e; exact absurd h5 n1
          · exact hk _ (Or.inr (Or.inr ⟨t, j, by omega, h6, hj, rfl⟩))
        · exact absurd h5 n2
      · have := hF.lt hy; omega
    · exact hf _ _ hy hP2
  refine ⟨(h1 t ht).1.fr (hk _ (Or.inr (Or.inl ⟨t, ht, Or.inl rfl⟩))) (fun h3 => hk _ (Or.inr (Or.inl ⟨t, ht, Or.inr ⟨rfl, h3⟩⟩))) (fun j hj q => ?_), fun j hj => ((h1 t ht).2 j hj).off ht (hrw j hj)⟩
  rcases q with ⟨n, f, q⟩ | ⟨f, q⟩ | ⟨f, q⟩ | q
  · exact Or.inl ⟨n, f, (hrw j hj ⟨_, q⟩).trans q⟩
  · exact Or.inr (Or.inl ⟨f, (hrw j hj ⟨_, q⟩).trans q⟩)
  · exact Or.inr (Or.inr (Or.inl ⟨f, (hrw j hj ⟨_, q⟩).trans q⟩))
  · exact Or.inr (Or.inr (Or.inr q))
theorem Foot.it {cy : Nat → ClassId} {A : AH} {g : Nat} {L : BL} {S : StV} {Z : SV} {q : Nat} {fs : List Value} (h : BkR cy A g L S Z) (hq : Foot g L S Z q) (hi : A q = some (.inr (10, fs))) : False := by
  obtain ⟨h0, h1⟩ := BkR.iff.mp h
  rcases hq with rfl | ⟨t, ht, h2 | ⟨h2, h3⟩⟩ | ⟨t, j, ht1, ht3, hj, h2⟩
  · rw [h0] at hi; cases hi
  · rw [h2, (h1 t ht).1.1] at hi; cases hi
  · rcases (h1 t ht).1.ed with e3 | ⟨y2, e4, c, n, f, e5⟩
    · exact absurd (h2.trans e3) h3
    · rw [h2, e4, e5] at hi; cases hi
  · rcases ((h1 t (by omega)).2 j hj).cell (by omega) with ⟨y, h4, h5⟩ | h4
    · rcases h5 with ⟨-, c, r, h5⟩ | ⟨h5, -⟩
      · rw [h2, h4, h5] at hi; cases hi
      · omega
    · omega
theorem BkW.le {cy : Nat → ClassId} {A A' : AH} {g : Nat} {L : BL} {S : StV} {Z : SV} (h : BkW cy A g L S Z) (hl : HLe A A') : BkW cy A' g L S Z := ⟨h.1.le hl, h.2⟩
/-- an iterator moves -/
theorem BkW.it {cy : Nat → ClassId} {A : AH} {g it : Nat} {L : BL} {S : StV} {Z : SV} {fs fs' : List Value} (h : BkW cy A g L S Z) {z : Nat} (hF : FRs A z) (hz : z ≤ 900000) (hi : A it = some (.inr (10, fs))) : BkW cy (upA A it (.inr (10, fs'))) g L S Z := by
  refine h.keep hF hz (P := fun q => q = it) ?_ ?_ (fun q y _ hn => upA_ne hn)
  · rintro q y rfl hy
    rw [hi] at hy; cases hy
    exact ⟨fun ⟨c, r, q⟩ => (by cases q), fun ⟨f, q⟩ => (by cases q)⟩
  · rintro q hq rfl
    exact Foot.it h.1 hq hi
/-- one more row in a new book -/
theorem add_step {cy : Nat → ClassId} {A0 A A' : AH} {g g0 : Nat} {L : BL} {S S' : StV} {Z Z' : SV} {t x z z' n : Nat} {mc : Int32} (ht : t < 5) (h : BkW cy A g L S Z) (hFt : ∀ q, Foot g L S Z q → g0 ≤ q) (h0 : FRs A0 g0) (hG : Grw A0 g0 A z n) (hz : z ≤ 900000) (hq : AddQ cy A A' z z' (L.1 t) mc (L.2.2.1 t) (bN S Z t) (L.2.2.2 t) x) (hx : RwT cy A' t x S' Z' (bN S Z t)) (hnx : 1 ≤ t → t ≤ 3 → (∀ j, j < bN S Z t → L.2.2.2 t j ≠ x) ∧ g0 ≤ x) (hag : Ag L S Z S' Z') (hbn : ∀ u, u < 5 → bN S' Z' u = bN S Z u + if u = t then 1 else 0) :
    ∃ L' z1, z' = z1 + 1 ∧ BkW cy A' g L' S' Z' ∧ Grw A0 g0 A' z1 (n + 1) ∧ (∀ q, Foot g L' S' Z' q → g0 ≤ q) ∧ L'.1 = L.1 ∧ (∀ q, A q ≠ none → ¬ Foot g L S Z q → A' q = A q) := by
  obtain ⟨L', z1, e1, h1, h2, h3, h4, h5, h6, -⟩ := h.add ht hG.2.2.2 hz hq hx (fun a b => (hnx a b).1) hag hbn
  have hfr : ∀ q, A q ≠ none → ¬ Foot g L S Z q → A' q = A q := by
    intro q hq hn
    refine h6 q (fun e => hn (Or.inr (Or.inl ⟨t, ht, Or.inl e⟩))) (fun e => ?_) (fun e => hq (e ▸ hG.2.2.2.at))
    by_cases e3 : q = 3000001
    · exact hq (hG.2.2.2 q (by omega))
    · exact hn (Or.inr (Or.inl ⟨t, ht, Or.inr ⟨e, e3⟩⟩))
  refine ⟨L', z1, e1, h1, ⟨fun k y hk => ?_, by have := hG.2.1; omega, by have := hG.2.2.1; omega, h2⟩, fun q hq => ?_, h4, hfr⟩
  · rw [hfr k (by rw [hG.1 _ _ hk]; simp) (fun hf => by have a1 := hFt k hf; have a2 := h0.lt hk; omega)]
    exact hG.1 _ _ hk
  · rcases h5 q hq with h | h | ⟨h, a, b⟩
    · exact hFt q h
    · have := hG.2.1; omega
    · rw [h]; exact (hnx a b).2

