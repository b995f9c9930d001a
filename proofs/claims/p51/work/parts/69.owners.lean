/-! 69: which cell is whose: the ledger, the books, the list of books -/
/-- what the ledger's cells are: objects of its own classes, arrays of four and more -/
def LedK (y : va_E) : Prop := (∃ ci fs, y = .inr (ci, fs) ∧ ci < 8) ∨ ∃ c n f, y = .inl (c, n, f) ∧ 4 ≤ n
theorem LedK.rw {y : va_E} (h : LedK y) : ¬ isRw y 2 := by
  rintro ⟨c, r, rfl⟩
  rcases h with ⟨ci, fs, h, -⟩ | ⟨c2, n, f, h, h2⟩
  · cases h
  · injection h with h
    injection h with _ h
    injection h with h _
    omega
theorem LedK.bx {y : va_E} (h : LedK y) : ¬ isBx y := by
  rintro ⟨gs, rfl⟩
  rcases h with ⟨ci, fs, h, h2⟩ | ⟨c2, n, f, h, h2⟩
  · injection h with h
    injection h with h _
    omega
  · cases h
theorem LedK.bk {y : va_E} (h : LedK y) : ∀ fs, y ≠ .inr (8, fs) := by
  rintro gs rfl
  rcases h with ⟨ci, fs, h, h2⟩ | ⟨c2, n, f, h, h2⟩
  · injection h with h
    injection h with h _
    omega
  · cases h
theorem EntA.knd {cy : Nat → ClassId} {A : AH} {b k : Nat} {E : EV} (h : EntA cy A b E) (q1 : b ≤ k) (q2 : k < b + 8) : ∃ x, A k = some x ∧ LedK x := by
  obtain ⟨h0, h1, h2, h3, h4, h5, h6, h7⟩ := h
  rcases (show k = b ∨ k = b + 1 ∨ k = b + 2 ∨ k = b + 3 ∨ k = b + 4 ∨ k = b + 5 ∨ k = b + 6 ∨ k = b + 7 by omega) with rfl | rfl | rfl | rfl | rfl | rfl | rfl | rfl
  · exact ⟨_, h0, by first | exact Or.inl ⟨_, _, rfl, by decide⟩ | exact Or.inr ⟨_, _, _, rfl, by decide⟩⟩
  · exact ⟨_, h1, by first | exact Or.inl ⟨_, _, rfl, by decide⟩ | exact Or.inr ⟨_, _, _, rfl, by decide⟩⟩
  · exact ⟨_, h2, by first | exact Or.inl ⟨_, _, rfl, by decide⟩ | exact Or.inr ⟨_, _, _, rfl, by decide⟩⟩
  · exact ⟨_, h3, by first | exact Or.inl ⟨_, _, rfl, by decide⟩ | exact Or.inr ⟨_, _, _, rfl, by decide⟩⟩
  · exact ⟨_, h4, by first | exact Or.inl ⟨_, _, rfl, by decide⟩ | exact Or.inr ⟨_, _, _, rfl, by decide⟩⟩
  · exact ⟨_, h5, by first | exact Or.inl ⟨_, _, rfl, by decide⟩ | exact Or.inr ⟨_, _, _, rfl, by decide⟩⟩
  · exact ⟨_, h6, by first | exact Or.inl ⟨_, _, rfl, by decide⟩ | exact Or.inr ⟨_, _, _, rfl, by decide⟩⟩
  · exact ⟨_, h7, by first | exact Or.inl ⟨_, _, rfl, by decide⟩ | exact Or.inr ⟨_, _, _, rfl, by decide⟩⟩
theorem RoomA.knd {cy : Nat → ClassId} {A : AH} {b k : Nat} {E : RV} (h : RoomA cy A b E) (q1 : b ≤ k) (q2 : k < b + 4) : ∃ x, A k = some x ∧ LedK x := by
  obtain ⟨h0, h1, h2, h3⟩ := h
  rcases (show k = b ∨ k = b + 1 ∨ k = b + 2 ∨ k = b + 3 by omega) with rfl | rfl | rfl | rfl
  · exact ⟨_, h0, by first | exact Or.inl ⟨_, _, rfl, by decide⟩ | exact Or.inr ⟨_, _, _, rfl, by decide⟩⟩
  · exact ⟨_, h1, by first | exact Or.inl ⟨_, _, rfl, by decide⟩ | exact Or.inr ⟨_, _, _, rfl, by decide⟩⟩
  · exact ⟨_, h2, by first | exact Or.inl ⟨_, _, rfl, by decide⟩ | exact Or.inr ⟨_, _, _, rfl, by decide⟩⟩
  · exact ⟨_, h3, by first | exact Or.inl ⟨_, _, rfl, by decide⟩ | exact Or.inr ⟨_, _, _, rfl, by decide⟩⟩
theorem AssA.knd {cy : Nat → ClassId} {A : AH} {b k : Nat} {E : RV} (h : AssA cy A b E) (q1 : b ≤ k) (q2 : k < b + 7) : ∃ x, A k = some x ∧ LedK x := by
  obtain ⟨h0, h1, h2, h3, h4, h5, h6⟩ := h
  rcases (show k = b ∨ k = b + 1 ∨ k = b + 2 ∨ k = b + 3 ∨ k = b + 4 ∨ k = b + 5 ∨ k = b + 6 by omega) with rfl | rfl | rfl | rfl | rfl | rfl | rfl
  · exact ⟨_, h0, by first | exact Or.inl ⟨_, _, rfl, by decide⟩ | exact Or.inr ⟨_, _, _, rfl, by decide⟩⟩
  · exact ⟨_, h1, by first | exact Or.inl ⟨_, _, rfl, by decide⟩ | exact Or.inr ⟨_, _, _, rfl, by decide⟩⟩
  · exact ⟨_, h2, by first | exact Or.inl ⟨_, _, rfl, by decide⟩ | exact Or.inr ⟨_, _, _, rfl, by decide⟩⟩
  · exact ⟨_, h3, by first | exact Or.inl ⟨_, _, rfl, by decide⟩ | exact Or.inr ⟨_, _, _, rfl, by decide⟩⟩
  · exact ⟨_, h4, by first | exact Or.inl ⟨_, _, rfl, by decide⟩ | exact Or.inr ⟨_, _, _, rfl, by decide⟩⟩
  · exact ⟨_, h5, by first | exact Or.inl ⟨_, _, rfl, by decide⟩ | exact Or.inr ⟨_, _, _, rfl, by decide⟩⟩
  · exact ⟨_, h6, by first | exact Or.inl ⟨_, _, rfl, by decide⟩ | exact Or.inr ⟨_, _, _, rfl, by decide⟩⟩
theorem SetA.knd {cy : Nat → ClassId} {A : AH} {b k : Nat} {E : SV} (h : SetA cy A b E) (q1 : b ≤ k) (q2 : k < b + 3) : ∃ x, A k = some x ∧ LedK x := by
  obtain ⟨h0, h1, h2⟩ := h
  rcases (show k = b ∨ k = b + 1 ∨ k = b + 2 by omega) with rfl | rfl | rfl
  · exact ⟨_, h0, by first | exact Or.inl ⟨_, _, rfl, by decide⟩ | exact Or.inr ⟨_, _, _, rfl, by decide⟩⟩
  · exact ⟨_, h1, by first | exact Or.inl ⟨_, _, rfl, by decide⟩ | exact Or.inr ⟨_, _, _, rfl, by decide⟩⟩
  · exact ⟨_, h2, by first | exact Or.inl ⟨_, _, rfl, by decide⟩ | exact Or.inr ⟨_, _, _, rfl, by decide⟩⟩
theorem StA.knd {cy : Nat → ClassId} {A : AH} {b k : Nat} {S : StV} (h : StA cy A b S) (q1 : b ≤ k) (q2 : k < b + 21) : ∃ x, A k = some x ∧ LedK x := by
  obtain ⟨h0, h1, h2, h3, h4⟩ := h
  by_cases a : k = b
  · subst a; exact ⟨_, h0, by first | exact Or.inl ⟨_, _, rfl, by decide⟩ | exact Or.inr ⟨_, _, _, rfl, by decide⟩⟩
  by_cases a1 : k < b + 9
  · exact h1.knd (by omega) (by omega)
  by_cases a2 : k < b + 13
  · exact h2.knd (by omega) (by omega)
  by_cases a3 : k < b + 20
  · exact h3.knd (by omega) (by omega)
  · have e : k = b + 20 := by omega
    subst e; exact ⟨_, h4, by first | exact Or.inl ⟨_, _, rfl, by decide⟩ | exact Or.inr ⟨_, _, _, rfl, by decide⟩⟩
theorem HisA.knd {cy : Nat → ClassId} {A : AH} {b k : Nat} {K : HV} (h : HisA cy A b K) (q1 : b ≤ k) (q2 : k < b + 170) : ∃ x, A k = some x ∧ LedK x := by
  obtain ⟨h0, ⟨f, h1, -⟩, h2⟩ := h
  by_cases a : k = b
  · subst a; exact ⟨_, h0, by first | exact Or.inl ⟨_, _, rfl, by decide⟩ | exact Or.inr ⟨_, _, _, rfl, by decide⟩⟩
  by_cases a1 : k = b + 1
  · subst a1; exact ⟨_, h1, by first | exact Or.inl ⟨_, _, rfl, by decide⟩ | exact Or.inr ⟨_, _, _, rfl, by decide⟩⟩
  · exact (h2 ((k - (b + 2)) / 21) (by omega)).knd (by omega) (by omega)
theorem LedA.knd {cy : Nat → ClassId} {A : AH} {W : LW} (h : LedA cy A W) {k : Nat} (hk : k < 231) : ∃ x, A k = some x ∧ LedK x := by
  have hu := h.u
  obtain ⟨⟨v1, v2, v3, v4, v5⟩, -, ⟨Rm, r1, -⟩, ⟨b1, -⟩, ⟨s1, -⟩, ⟨k1, -⟩, ⟨f, f1⟩, rd⟩ := h
  obtain ⟨t, len, pos, kd, ts, nm, ss, as, is, tp, txt, Z, Rm2, ht, d1, d2, d3, d4, -⟩ := rd
  by_cases a0 : k = 0
  · subst a0; exact ⟨_, v1, by first | exact Or.inl ⟨_, _, rfl, by decide⟩ | exact Or.inr ⟨_, _, _, rfl, by decide⟩⟩
  by_cases a1 : k = 1
  · subst a1; exact ⟨_, b1, by first | exact Or.inl ⟨_, _, rfl, by decide⟩ | exact Or.inr ⟨_, _, _, rfl, by decide⟩⟩
  by_cases a2 : k = 2
  · subst a2; exact ⟨_, d1, by first | exact Or.inl ⟨_, _, rfl, by decide⟩ | exact Or.inr ⟨_, _, _, rfl, by decide⟩⟩
  by_cases a3 : k = 3
  · subst a3; exact ⟨_, d2, by first | exact Or.inl ⟨_, _, rfl, by decide⟩ | exact Or.inr ⟨_, _, _, rfl, by decide⟩⟩
  by_cases a4 : W.1.1 ≤ k ∧ k < W.1.1 + 3
  · exact v4.knd a4.1 a4.2
  by_cases a5 : W.1.1 + 3 ≤ k ∧ k < W.1.1 + 3 + 4
  · exact r1.knd a5.1 a5.2
  by_cases a6 : t ≤ k ∧ k < t + 3
  · exact d3.knd a6.1 a6.2
  by_cases a7 : t + 3 ≤ k ∧ k < t + 3 + 4
  · exact d4.knd a7.1 a7.2
  by_cases a8 : k < 39
  · exact v2.knd (by omega) (by omega)
  by_cases a9 : k < 60
  · exact s1.knd (by omega) (by omega)
  by_cases aa : k < 230
  · exact k1.knd (by omega) (by omega)
  · have e : k = 230 := by omega
    subst e; exact ⟨_, f1, by first | exact Or.inl ⟨_, _, rfl, by decide⟩ | exact Or.inr ⟨_, _, _, rfl, by decide⟩⟩
/-- a live book: what it may change is its own -/
def LBk (cy : Nat → ClassId) (A : AH) (Z : SV) (own : Nat → Nat) (g : Nat) (S : StV) : Prop := ∃ L, BkW cy A g L S Z ∧ ∀ q, Foot g L S Z q → own q = g
theorem LBk.at {cy : Nat → ClassId} {A : AH} {Z : SV} {own : Nat → Nat} {g : Nat} {S : StV} (h : LBk cy A Z own g S) : ∃ fs, A g = some (.inr (8, fs)) := by
  obtain ⟨L, h1, -⟩ := h
  exact ⟨_, h1.1.1⟩
theorem LBk.og {cy : Nat → ClassId} {A : AH} {Z : SV} {own : Nat → Nat} {g : Nat} {S : StV} (h : LBk cy A Z own g S) : own g = g := by
  obtain ⟨L, -, h2⟩ := h
  exact h2 _ (Or.inl rfl)
theorem LBk.stb {cy : Nat → ClassId} {A : AH} {Z : SV} {own : Nat → Nat} {g : Nat} {S S2 : StV} (h : LBk cy A Z own g S) (e : StB S S2) : LBk cy A Z own g S2 := by
  obtain ⟨L, h1, h2⟩ := h
  exact ⟨L, h1.stb e, fun q hq => h2 q (hq.stb e)⟩
theorem LBk.fr {cy : Nat → ClassId} {A A' : AH} {Z : SV} {own own' : Nat → Nat} {g z : Nat} {S : StV} {P : Nat → Prop} (h : LBk cy A Z own g S) (hF : FRs A z) (hz : z ≤ 900000) (hP : ∀ q y, P q → A q = some y → ¬ isRw y 2 ∧ ¬ isBx y) (hf : ∀ q y, A q = some y → ¬ P q → A' q = some y) (hn : ∀ q, P q → own q ≠ g) (ho : ∀ q, q < z → own' q = own q) : LBk cy A' Z own' g S := by
  obtain ⟨L, h1, h2⟩ := h
  exact ⟨L, h1.keep hF hz hP (fun q hq hp => hn q hp (h2 q hq)) (fun q y hy hn => (hf q y hy hn).trans hy.symm), fun q hq => (ho q (Foot.lt h1.1 hF hq)).trans (h2 q hq)⟩
theorem LBk.hi {cy : Nat → ClassId} {A : AH} {Z : SV} {own : Nat → Nat} {g : Nat} {S : StV} {W : LW} (h : LBk cy A Z own g S) (hL : LedA cy A W) (h0 : ∀ q, q < 231 → own q = 0) : 231 ≤ g ∧ ∃ L, BkW cy A g L S Z ∧ BkHi g L S Z ∧ ∀ q, Foot g L S Z q → own q = g := by
  obtain ⟨L, h1, h2⟩ := h
  have hg : 231 ≤ g := by
    refine Nat.not_lt.mp (fun q => ?_)
    obtain ⟨y, hy, hk⟩ := hL.knd q
    rw [h1.1.1] at hy
    cases hy
    exact hk.bk _ rfl
  have hq : ∀ q, Foot g L S Z q → 231 ≤ q := by
    intro q hq
    refine Nat.not_lt.mp (fun w => ?_)
    have := h0 q w
    rw [h2 q hq] at this
    omega
  refine ⟨hg, L, h1, ⟨hg, fun t ht => ⟨hq _ (Or.inr (Or.inl ⟨t, ht, Or.inl rfl⟩)), ?_, fun j hj => ?_⟩⟩, h2⟩
  · by_cases e : L.2.2.1 t = 3000001
    · omega
    · exact hq _ (Or.inr (Or.inl ⟨t, ht, Or.inr ⟨rfl, e⟩⟩))
  · by_cases e : 1 ≤ t ∧ t ≤ 3
    · exact hq _ (Or.inr (Or.inr ⟨t, j, e.1, e.2, hj, rfl⟩))
    · refine Nat.not_lt.mp (fun w => ?_)
      obtain ⟨y, hy, hk⟩ := hL.knd w
      rcases (((BkR.iff.mp h1.1).2 t ht).2 j hj).cell ht with ⟨y2, h4, h5⟩ | ⟨-, h4⟩
      · rw [hy] at h4
        cases h4
        rcases h5 with ⟨h6, h5⟩ | ⟨-, h5⟩
        · have e0 : t = 0 := by omega
          subst e0
          exact hk.rw h5
        · exact hk.bx h5
      · omega
/-- the list of books and what it holds; g is the current book, E holds of the others that live -/
def PkO (cy : Nat → ClassId) (A : AH) (Z : SV) (own : Nat → Nat) (hk : Nat) (mc : Int32) (ed n : Nat) (f : Nat → Nat) (g : Nat) (H : Nat → StV) (E : Nat → StV → Prop) : Prop := (∀ q, q < 231 → own q = 0) ∧ (231 ≤ hk ∧ own hk = hk ∧ (ed ≠ 3000001 → own ed = hk)) ∧ LsC cy A hk mc ed n f ∧ (∀ j, j < n → LBk cy A Z own (f j) (H j) ∧ f j ≠ g) ∧ (∀ i j, i < n → j < n → f i = f j → i = j) ∧ ∀ b S', E b S' → LBk cy A Z own b S' ∧ b ≠ g ∧ ∀ j, j < n → b ≠ f j
def Pk (cy : Nat → ClassId) (A : AH) (Z : SV) (own : Nat → Nat) (hk : Nat) (mc : Int32) (ed n : Nat) (f : Nat → Nat) (g : Nat) (S : StV) (H : Nat → StV) (E : Nat → StV → Prop) : Prop := PkO cy A Z own hk mc ed n f g H E ∧ LBk cy A Z own g S
section PKS
variable {cy : Nat → ClassId} {A A' : AH} {Z : SV} {own own' : Nat → Nat} {hk ed n g z : Nat} {mc : Int32} {f : Nat → Nat} {S : StV} {H : Nat → StV} {E : Nat → StV → Prop} {P : Nat → Prop} {W : LW}
theorem PkO.ne (h : PkO cy A Z own hk mc ed n f g H E) {r : Nat} {S' : StV} (hr : LBk cy A Z own r S') : r ≠ hk := by
  obtain ⟨fs, h1⟩ := hr.at
  intro e
  rw [e, h.2.2.1.1] at h1
  cases h1
theorem PkO.fr (h : PkO cy A Z own hk mc ed n f g H E) (hF : FRs A z) (hz : z ≤ 900000) (hP : ∀ q y, P q → A q = some y → ¬ isRw y 2 ∧ ¬ isBx y) (hf : ∀ q y, A q = some y → ¬ P q → A' q = some y) (h0 : ∀ q, q < 231 → own' q = 0) (ho : ∀ q, q < z → own' q = own q) (hh : ¬ P hk) (he : ed ≠ 3000001 → ¬ P ed) (hn : ∀ q, P q → ∀ j, j < n → own q ≠ f j) (hE : ∀ q, P q → ∀ b S', E b S' → own q ≠ b) : PkO cy A' Z own' hk mc ed n f g H E := by
  obtain ⟨a1, ⟨a2, a3, a4⟩, a5, a6, a7, a8⟩ := h
  have b1 : ∀ j, j < n → LBk cy A' Z own' (f j) (H j) := fun j hj => (a6 j hj).1.fr hF hz hP hf (fun q hq => hn q hq j hj) ho
  have hkz : hk < z := hF.lt a5.1
  refine ⟨h0, ⟨a2, (ho _ hkz).trans a3, fun e => ?_⟩, ?_, fun j hj => ⟨b1 j hj, (a6 j hj).2⟩, a7, fun b S' hb => ⟨(a8 b S' hb).1.fr hF hz hP hf (fun q hq => hE q hq b S' hb) ho, (a8 b S' hb).2⟩⟩
  · rcases a5.ed with e2 | ⟨y, h1, -⟩
    · exact absurd e2 e
    · exact (ho _ (hF.lt h1)).trans (a4 e)
  · refine a5.fr ((hf _ _ a5.1 hh).trans a5.1.symm) (fun e => ?_) (fun j hj _ => ?_)
    · rcases a5.ed with e2 | ⟨y, h1, -⟩
      · exact absurd e2 e
      · exact (hf _ _ h1 (he e)).trans h1.symm
    · obtain ⟨fs, h1⟩ := (b1 j hj).at
      exact Or.inr (Or.inl ⟨fs, h1⟩)
theorem Pk.fr (h : Pk cy A Z own hk mc ed n f g S H E) (hF : FRs A z) (hz : z ≤ 900000) (hP : ∀ q y, P q → A q = some y → ¬ isRw y 2 ∧ ¬ isBx y) (hf : ∀ q y, A q = some y → ¬ P q → A' q = some y) (h0 : ∀ q, q < 231 → own' q = 0) (ho : ∀ q, q < z → own' q = own q) (hh : ¬ P hk) (he : ed ≠ 3000001 → ¬ P ed) (hg : ∀ q, P q → own q ≠ g) (hn : ∀ q, P q → ∀ j, j < n → own q ≠ f j) (hE : ∀ q, P q → ∀ b S', E b S' → own q ≠ b) : Pk cy A' Z own' hk mc ed n f g S H E :=
  ⟨h.1.fr hF hz hP hf h0 ho hh he hn hE, h.2.fr hF hz hP hf hg ho⟩
/-- the ledger changes, nothing else -/
theorem Pk.led (h : Pk cy A Z own hk mc ed n f g S H E) (hF : FRs A z) (hz : z ≤ 900000) (hL : LedA cy A W) (hf : ∀ q y, 231 ≤ q → A q = some y → A' q = some y) : Pk cy A' Z own hk mc ed n f g S H E := by
  have h231 : ∀ {r : Nat} {S' : StV}, LBk cy A Z own r S' → ∀ q, q < 231 → own q ≠ r := by
    intro r S' hr q hq
    have h1 := (hr.hi hL h.1.1).1
    rw [h.1.1 q hq]
    omega
  refine h.fr (P := fun q => q < 231) hF hz (fun q y hq hy => ?_) (fun q y hy hn => hf q y (Nat.not_lt.mp hn) hy) h.1.1 (fun _ _ => rfl) (fun q => ?_) (fun e q => ?_) (h231 h.2) (fun q hq j hj => h231 (h.1.2.2.2.1 j hj).1 q hq) (fun q hq b S' hb => h231 (h.1.2.2.2.2.2 b S' hb).1 q hq)
  · obtain ⟨y2, h1, h2⟩ := hL.knd (show q < 231 from hq)
    rw [hy] at h1
    cases h1
    exact ⟨h2.rw, h2.bx⟩
  · have := h.1.2.1.1
    have q : hk < 231 := q
    omega
  · have h1 := h.1.2.1.2.2 e
    have h2 := h.1.1 ed q
    have := h.1.2.1.1
    omega
/-- the heap grows -/
theorem Pk.grw (h : Pk cy A Z own hk mc ed n f g S H E) (hF : FRs A z) (hz : z ≤ 900000) (hf : HLe A A') (hz0 : 231 ≤ z) (r : Nat) : Pk cy A' Z (fun q => if z ≤ q then r else own q) hk mc ed n f g S H E :=
  h.fr (P := fun _ => False) hF hz (fun _ _ hq => hq.elim) (fun q y hy _ => hf q y hy) (fun q hq => by show (if z ≤ q then r else own q) = 0; rw [if_neg (by omega)]; exact h.1.1 q hq) (fun q hq => if_neg (by omega)) (fun q => q) (fun _ q => q) (fun _ q => q.elim) (fun _ q => q.elim) (fun _ q => q.elim)
/-- a new book beside those that live -/
theorem Pk.copy {S' : StV} {n9 z' : Nat} {L' : BL} (h : Pk cy A Z own hk mc ed n f g S H E) (hF : FRs A z) (hz : z ≤ 900000) (hz0 : 231 ≤ z) (hG : Grw A z A' z' n9) (hB : BkW cy A' z L' S' Z) (hFt : ∀ q, Foot z L' S' Z q → z ≤ q) : Pk cy A' Z (fun q => if z ≤ q then z else own q) hk mc ed n f g S H (fun b T => E b T ∨ (b = z ∧ T = S')) := by
  obtain ⟨⟨a1, a2, a3, a4, a5, a6⟩, a7⟩ := h.grw hF hz hG.1 hz0 z
  have hlt : ∀ {r : Nat} {T : StV}, LBk cy A Z own r T → r < z := by
    intro r T hr
    obtain ⟨fs, h1⟩ := hr.at
    exact hF.lt h1
  refine ⟨⟨a1, a2, a3, a4, a5, fun b T hb => ?_⟩, a7⟩
  rcases hb with hb | ⟨rfl, rfl⟩
  · exact a6 b T hb
  · refine ⟨⟨L', hB, fun q hq => if_pos (hFt q hq)⟩, fun e => ?_, fun j hj e => ?_⟩
    · have := hlt h.2
      omega
    · have := hlt (h.1.2.2.2.1 j hj).1
      omega
/-- the extras that were are not the new one -/
theorem Pk.newE (h : Pk cy A Z own hk mc ed n f g S H E) (hF : FRs A z) {b : Nat} {T : StV} (hb : E b T) : b ≠ z := by
  obtain ⟨fs, h1⟩ := (h.1.2.2.2.2.2 b T hb).1.at
  have := hF.lt h1
  omega
/-- the current book answers -/
theorem Pk.act {L : BL} {S1 : StV} {oc : OC} {S' : StV} (h : Pk cy A Z own hk mc ed n f g S H E) (hF : FRs A z) (hz : z ≤ 900000) (hz0 : 231 ≤ z) (hB : BkW cy A g L S Z) (hFt : ∀ q, Foot g L S Z q → own q = g) (hA : ActQ cy A A' z g L S Z oc S') : ∃ S1, (∀ r, oc = .inr r → S1 = S') ∧ (∀ E9, oc = .inl E9 → S1 = S) ∧ Pk cy A' Z (fun q => if z ≤ q then g else own q) hk mc ed n f g S1 H E := by
  obtain ⟨L', S1, c1, c2, c3, c4, c5⟩ := hA
  have hgh := h.1.ne h.2
  refine ⟨S1, c1, c2, h.1.fr (P := Foot g L S Z) hF hz (fun q y hq hy => ?_) c5 (fun q hq => by show (if z ≤ q then g else own q) = 0; rw [if_neg (by omega)]; exact h.1.1 q hq) (fun q hq => if_neg (by omega)) (fun q => ?_) (fun e q => ?_) (fun q hq j hj e => ?_) (fun q hq b T hb e => ?_), L', c3, fun q hq => ?_⟩
  · obtain ⟨y2, h1, h2⟩ := Foot.cell hB.1 hq
    rw [hy] at h1
    cases h1
    exact h2
  · have h1 := hFt _ q
    rw [h.1.2.1.2.1] at h1
    exact hgh h1.symm
  · have h1 := hFt _ q
    rw [h.1.2.1.2.2 e] at h1
    exact hgh h1.symm
  · rw [hFt q hq] at e
    exact (h.1.2.2.2.1 j hj).2 e.symm
  · rw [hFt q hq] at e
    exact (h.1.2.2.2.2.2 b T hb).2.1 e.symm
  · show (if z ≤ q then g else own q) = g
    by_cases e : z ≤ q
    · exact if_pos e
    · rw [if_neg e]
      rcases c4 q hq with h1 | h1
      · exact hFt q h1
      · exact absurd h1 e
/-- another rows' reading of the current book -/
theorem Pk.stb {S2 : StV} (h : Pk cy A Z own hk mc ed n f g S H E) (e : StB S S2) : Pk cy A Z own hk mc ed n f g S2 H E := ⟨h.1, h.2.stb e⟩
/-- fewer extras -/
theorem Pk.less {E' : Nat → StV → Prop} (h : Pk cy A Z own hk mc ed n f g S H E) (hE : ∀ b T, E' b T → E b T) : Pk cy A Z own hk mc ed n f g S H E' := ⟨⟨h.1.1, h.1.2.1, h.1.2.2.1, h.1.2.2.2.1, h.1.2.2.2.2.1, fun b T hb => h.1.2.2.2.2.2 b T (hE b T hb)⟩, h.2⟩
/-- an extra becomes the current book -/
theorem Pk.swap {w : Nat} {Sw : StV} {E' : Nat → StV → Prop} (h : Pk cy A Z own hk mc ed n f g S H E) (hw : E w Sw) (hE : ∀ b T, E' b T → E b T ∧ b ≠ w) : Pk cy A Z own hk mc ed n f w Sw H E' := by
  obtain ⟨⟨a1, a2, a3, a4, a5, a6⟩, a7⟩ := h
  obtain ⟨w1, w2, w3⟩ := a6 w Sw hw
  exact ⟨⟨a1, a2, a3, fun j hj => ⟨(a4 j hj).1, fun e => w3 j hj e.symm⟩, a5, fun b T hb => ⟨(a6 b T (hE b T hb).1).1, (hE b T hb).2, (a6 b T (hE b T hb).1).2.2⟩⟩, w1⟩
/-- the list changes -/
theorem Pk.list {mc' : Int32} {ed' n' : Nat} {f' : Nat → Nat} {H' : Nat → StV} {E' : Nat → StV → Prop} (h : Pk cy A Z own hk mc ed n f g S H E) (hF : FRs A z) (hz : z ≤ 900000) (hz0 : 231 ≤ z) (hL : LsC cy A' hk mc' ed' n' f') (hed : ed' = ed ∨ z ≤ ed') (hf : ∀ q, q ≠ hk → q ≠ ed → q < z → A' q = A q) (hm : ∀ j, j < n' → (∃ i, i < n ∧ f' j = f i ∧ H' j = H i) ∨ E (f' j) (H' j)) (hj : ∀ i j, i < n' → j < n' → f' i = f' j → i = j) (hE : ∀ b T, E' b T → E b T ∧ ∀ j, j < n' → b ≠ f' j) : Pk cy A' Z (fun q => if z ≤ q then hk else own q) hk mc' ed' n' f' g S H' E' := by
  obtain ⟨⟨a1, ⟨a2, a3, a4⟩, a5, a6, a7, a8⟩, a9⟩ := h
  have hkz : hk < z := hF.lt a5.1
  have hP : ∀ q y, (q = hk ∨ (q = ed ∧ ed ≠ 3000001)) → A q = some y → ¬ isRw y 2 ∧ ¬ isBx y := by
    rintro q y (rfl | ⟨rfl, e⟩) hy
    · rw [a5.1] at hy; cases hy
      exact ⟨fun q => q.ls ⟨_, rfl⟩, fun q => q.ls ⟨_, rfl⟩⟩
    · rcases a5.ed with e2 | ⟨y2, h1, h2⟩
      · exact absurd e2 e
      · rw [hy] at h1; cases h1
        exact ⟨fun q => q.oa h2, fun q => q.oa h2⟩
  have hfr : ∀ q y, A q = some y → ¬ (q = hk ∨ (q = ed ∧ ed ≠ 3000001)) → A' q = some y := by
    intro q y hy hn
    have hq := hF.lt hy
    refine (hf q (fun e => hn (Or.inl e)) (fun e => ?_) hq).trans hy
    by_cases e3 : ed = 3000001
    · omega
    · exact hn (Or.inr ⟨e, e3⟩)
  have hne : ∀ {r : Nat} {T : StV}, LBk cy A Z own r T → ∀ q, (q = hk ∨ (q = ed ∧ ed ≠ 3000001)) → own q ≠ r := by
    rintro r T hr q (rfl | ⟨rfl, e⟩) h1
    · obtain ⟨fs, h2⟩ := hr.at
      rw [a3] at h1
      rw [← h1, a5.1] at h2; cases h2
    · obtain ⟨fs, h2⟩ := hr.at
      rw [a4 e] at h1
      rw [← h1, a5.1] at h2; cases h2
  have hk9 : ∀ {r : Nat} {T : StV}, LBk cy A Z own r T → LBk cy A' Z (fun q => if z ≤ q then hk else own q) r T := fun hr => hr.fr hF hz hP hfr (hne hr) (fun q hq => if_neg (by omega))
  refine ⟨⟨fun q hq => ?_, ⟨a2, ?_, fun e => ?_⟩, hL, fun j hj9 => ?_, hj, fun b T hb => ⟨hk9 (a8 b T (hE b T hb).1).1, (a8 b T (hE b T hb).1).2.1, (hE b T hb).2⟩⟩, hk9 a9⟩
  · show (if z ≤ q then hk else own q) = 0
    rw [if_neg (by omega)]; exact a1 q hq
  · show (if z ≤ hk then hk else own hk) = hk
    rw [if_neg (by omega)]; exact a3
  · show (if z ≤ ed' then hk else own ed') = hk
    rcases hed with e2 | e2
    · subst e2
      by_cases e3 : z ≤ ed'
      · exact if_pos e3
      · rw [if_neg e3]; exact a4 e
    · exact if_pos e2
  · rcases hm j hj9 with ⟨i, h1, h2, h3⟩ | h1
    · rw [h2, h3]
      exact ⟨hk9 (a6 i h1).1, (a6 i h1).2⟩
    · exact ⟨hk9 (a8 _ _ h1).1, (a8 _ _ h1).2.1⟩
end PKS

