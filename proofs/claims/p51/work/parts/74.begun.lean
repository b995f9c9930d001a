/-! 74: the law begins: the fresh ledger, the plain book, the drawn one -/
/-- what classes the ledger's cells are of -/
def LedC (cy : Nat → ClassId) (y : va_E) : Prop := (∃ ci fs, y = .inr (ci, fs)) ∨ ∃ c n f, y = .inl (c, n, f) ∧ (c = cy 0 ∨ c = cy 1 ∨ c = cy 2 ∨ c = cy 4)
theorem EntA.kcy {cy : Nat → ClassId} {A : AH} {b k : Nat} {E : EV} (h : EntA cy A b E) (q1 : b ≤ k) (q2 : k < b + 8) : ∃ x, A k = some x ∧ LedC cy x := by
  obtain ⟨h0, h1, h2, h3, h4, h5, h6, h7⟩ := h
  rcases (show k = b ∨ k = b + 1 ∨ k = b + 2 ∨ k = b + 3 ∨ k = b + 4 ∨ k = b + 5 ∨ k = b + 6 ∨ k = b + 7 by omega) with rfl | rfl | rfl | rfl | rfl | rfl | rfl | rfl
  · exact ⟨_, h0, by first | exact Or.inl ⟨_, _, rfl⟩ | exact Or.inr ⟨_, _, _, rfl, Or.inl rfl⟩ | exact Or.inr ⟨_, _, _, rfl, Or.inr (Or.inl rfl)⟩ | exact Or.inr ⟨_, _, _, rfl, Or.inr (Or.inr (Or.inl rfl))⟩ | exact Or.inr ⟨_, _, _, rfl, Or.inr (Or.inr (Or.inr rfl))⟩⟩
  · exact ⟨_, h1, by first | exact Or.inl ⟨_, _, rfl⟩ | exact Or.inr ⟨_, _, _, rfl, Or.inl rfl⟩ | exact Or.inr ⟨_, _, _, rfl, Or.inr (Or.inl rfl)⟩ | exact Or.inr ⟨_, _, _, rfl, Or.inr (Or.inr (Or.inl rfl))⟩ | exact Or.inr ⟨_, _, _, rfl, Or.inr (Or.inr (Or.inr rfl))⟩⟩
  · exact ⟨_, h2, by first | exact Or.inl ⟨_, _, rfl⟩ | exact Or.inr ⟨_, _, _, rfl, Or.inl rfl⟩ | exact Or.inr ⟨_, _, _, rfl, Or.inr (Or.inl rfl)⟩ | exact Or.inr ⟨_, _, _, rfl, Or.inr (Or.inr (Or.inl rfl))⟩ | exact Or.inr ⟨_, _, _, rfl, Or.inr (Or.inr (Or.inr rfl))⟩⟩
  · exact ⟨_, h3, by first | exact Or.inl ⟨_, _, rfl⟩ | exact Or.inr ⟨_, _, _, rfl, Or.inl rfl⟩ | exact Or.inr ⟨_, _, _, rfl, Or.inr (Or.inl rfl)⟩ | exact Or.inr ⟨_, _, _, rfl, Or.inr (Or.inr (Or.inl rfl))⟩ | exact Or.inr ⟨_, _, _, rfl, Or.inr (Or.inr (Or.inr rfl))⟩⟩
  · exact ⟨_, h4, by first | exact Or.inl ⟨_, _, rfl⟩ | exact Or.inr ⟨_, _, _, rfl, Or.inl rfl⟩ | exact Or.inr ⟨_, _, _, rfl, Or.inr (Or.inl rfl)⟩ | exact Or.inr ⟨_, _, _, rfl, Or.inr (Or.inr (Or.inl rfl))⟩ | exact Or.inr ⟨_, _, _, rfl, Or.inr (Or.inr (Or.inr rfl))⟩⟩
  · exact ⟨_, h5, by first | exact Or.inl ⟨_, _, rfl⟩ | exact Or.inr ⟨_, _, _, rfl, Or.inl rfl⟩ | exact Or.inr ⟨_, _, _, rfl, Or.inr (Or.inl rfl)⟩ | exact Or.inr ⟨_, _, _, rfl, Or.inr (Or.inr (Or.inl rfl))⟩ | exact Or.inr ⟨_, _, _, rfl, Or.inr (Or.inr (Or.inr rfl))⟩⟩
  · exact ⟨_, h6, by first | exact Or.inl ⟨_, _, rfl⟩ | exact Or.inr ⟨_, _, _, rfl, Or.inl rfl⟩ | exact Or.inr ⟨_, _, _, rfl, Or.inr (Or.inl rfl)⟩ | exact Or.inr ⟨_, _, _, rfl, Or.inr (Or.inr (Or.inl rfl))⟩ | exact Or.inr ⟨_, _, _, rfl, Or.inr (Or.inr (Or.inr rfl))⟩⟩
  · exact ⟨_, h7, by first | exact Or.inl ⟨_, _, rfl⟩ | exact Or.inr ⟨_, _, _, rfl, Or.inl rfl⟩ | exact Or.inr ⟨_, _, _, rfl, Or.inr (Or.inl rfl)⟩ | exact Or.inr ⟨_, _, _, rfl, Or.inr (Or.inr (Or.inl rfl))⟩ | exact Or.inr ⟨_, _, _, rfl, Or.inr (Or.inr (Or.inr rfl))⟩⟩
theorem RoomA.kcy {cy : Nat → ClassId} {A : AH} {b k : Nat} {E : RV} (h : RoomA cy A b E) (q1 : b ≤ k) (q2 : k < b + 4) : ∃ x, A k = some x ∧ LedC cy x := by
  obtain ⟨h0, h1, h2, h3⟩ := h
  rcases (show k = b ∨ k = b + 1 ∨ k = b + 2 ∨ k = b + 3 by omega) with rfl | rfl | rfl | rfl
  · exact ⟨_, h0, by first | exact Or.inl ⟨_, _, rfl⟩ | exact Or.inr ⟨_, _, _, rfl, Or.inl rfl⟩ | exact Or.inr ⟨_, _, _, rfl, Or.inr (Or.inl rfl)⟩ | exact Or.inr ⟨_, _, _, rfl, Or.inr (Or.inr (Or.inl rfl))⟩ | exact Or.inr ⟨_, _, _, rfl, Or.inr (Or.inr (Or.inr rfl))⟩⟩
  · exact ⟨_, h1, by first | exact Or.inl ⟨_, _, rfl⟩ | exact Or.inr ⟨_, _, _, rfl, Or.inl rfl⟩ | exact Or.inr ⟨_, _, _, rfl, Or.inr (Or.inl rfl)⟩ | exact Or.inr ⟨_, _, _, rfl, Or.inr (Or.inr (Or.inl rfl))⟩ | exact Or.inr ⟨_, _, _, rfl, Or.inr (Or.inr (Or.inr rfl))⟩⟩
  · exact ⟨_, h2, by first | exact Or.inl ⟨_, _, rfl⟩ | exact Or.inr ⟨_, _, _, rfl, Or.inl rfl⟩ | exact Or.inr ⟨_, _, _, rfl, Or.inr (Or.inl rfl)⟩ | exact Or.inr ⟨_, _, _, rfl, Or.inr (Or.inr (Or.inl rfl))⟩ | exact Or.inr ⟨_, _, _, rfl, Or.inr (Or.inr (Or.inr rfl))⟩⟩
  · exact ⟨_, h3, by first | exact Or.inl ⟨_, _, rfl⟩ | exact Or.inr ⟨_, _, _, rfl, Or.inl rfl⟩ | exact Or.inr ⟨_, _, _, rfl, Or.inr (Or.inl rfl)⟩ | exact Or.inr ⟨_, _, _, rfl, Or.inr (Or.inr (Or.inl rfl))⟩ | exact Or.inr ⟨_, _, _, rfl, Or.inr (Or.inr (Or.inr rfl))⟩⟩
theorem AssA.kcy {cy : Nat → ClassId} {A : AH} {b k : Nat} {E : RV} (h : AssA cy A b E) (q1 : b ≤ k) (q2 : k < b + 7) : ∃ x, A k = some x ∧ LedC cy x := by
  obtain ⟨h0, h1, h2, h3, h4, h5, h6⟩ := h
  rcases (show k = b ∨ k = b + 1 ∨ k = b + 2 ∨ k = b + 3 ∨ k = b + 4 ∨ k = b + 5 ∨ k = b + 6 by omega) with rfl | rfl | rfl | rfl | rfl | rfl | rfl
  · exact ⟨_, h0, by first | exact Or.inl ⟨_, _, rfl⟩ | exact Or.inr ⟨_, _, _, rfl, Or.inl rfl⟩ | exact Or.inr ⟨_, _, _, rfl, Or.inr (Or.inl rfl)⟩ | exact Or.inr ⟨_, _, _, rfl, Or.inr (Or.inr (Or.inl rfl))⟩ | exact Or.inr ⟨_, _, _, rfl, Or.inr (Or.inr (Or.inr rfl))⟩⟩
  · exact ⟨_, h1, by first | exact Or.inl ⟨_, _, rfl⟩ | exact Or.inr ⟨_, _, _, rfl, Or.inl rfl⟩ | exact Or.inr ⟨_, _, _, rfl, Or.inr (Or.inl rfl)⟩ | exact Or.inr ⟨_, _, _, rfl, Or.inr (Or.inr (Or.inl rfl))⟩ | exact Or.inr ⟨_, _, _, rfl, Or.inr (Or.inr (Or.inr rfl))⟩⟩
  · exact ⟨_, h2, by first | exact Or.inl ⟨_, _, rfl⟩ | exact Or.inr ⟨_, _, _, rfl, Or.inl rfl⟩ | exact Or.inr ⟨_, _, _, rfl, Or.inr (Or.inl rfl)⟩ | exact Or.inr ⟨_, _, _, rfl, Or.inr (Or.inr (Or.inl rfl))⟩ | exact Or.inr ⟨_, _, _, rfl, Or.inr (Or.inr (Or.inr rfl))⟩⟩
  · exact ⟨_, h3, by first | exact Or.inl ⟨_, _, rfl⟩ | exact Or.inr ⟨_, _, _, rfl, Or.inl rfl⟩ | exact Or.inr ⟨_, _, _, rfl, Or.inr (Or.inl rfl)⟩ | exact Or.inr ⟨_, _, _, rfl, Or.inr (Or.inr (Or.inl rfl))⟩ | exact Or.inr ⟨_, _, _, rfl, Or.inr (Or.inr (Or.inr rfl))⟩⟩
  · exact ⟨_, h4, by first | exact Or.inl ⟨_, _, rfl⟩ | exact Or.inr ⟨_, _, _, rfl, Or.inl rfl⟩ | exact Or.inr ⟨_, _, _, rfl, Or.inr (Or.inl rfl)⟩ | exact Or.inr ⟨_, _, _, rfl, Or.inr (Or.inr (Or.inl rfl))⟩ | exact Or.inr ⟨_, _, _, rfl, Or.inr (Or.inr (Or.inr rfl))⟩⟩
  · exact ⟨_, h5, by first | exact Or.inl ⟨_, _, rfl⟩ | exact Or.inr ⟨_, _, _, rfl, Or.inl rfl⟩ | exact Or.inr ⟨_, _, _, rfl, Or.inr (Or.inl rfl)⟩ | exact Or.inr ⟨_, _, _, rfl, Or.inr (Or.inr (Or.inl rfl))⟩ | exact Or.inr ⟨_, _, _, rfl, Or.inr (Or.inr (Or.inr rfl))⟩⟩
  · exact ⟨_, h6, by first | exact Or.inl ⟨_, _, rfl⟩ | exact Or.inr ⟨_, _, _, rfl, Or.inl rfl⟩ | exact Or.inr ⟨_, _, _, rfl, Or.inr (Or.inl rfl)⟩ | exact Or.inr ⟨_, _, _, rfl, Or.inr (Or.inr (Or.inl rfl))⟩ | exact Or.inr ⟨_, _, _, rfl, Or.inr (Or.inr (Or.inr rfl))⟩⟩
theorem SetA.kcy {cy : Nat → ClassId} {A : AH} {b k : Nat} {E : SV} (h : SetA cy A b E) (q1 : b ≤ k) (q2 : k < b + 3) : ∃ x, A k = some x ∧ LedC cy x := by
  obtain ⟨h0, h1, h2⟩ := h
  rcases (show k = b ∨ k = b + 1 ∨ k = b + 2 by omega) with rfl | rfl | rfl
  · exact ⟨_, h0, by first | exact Or.inl ⟨_, _, rfl⟩ | exact Or.inr ⟨_, _, _, rfl, Or.inl rfl⟩ | exact Or.inr ⟨_, _, _, rfl, Or.inr (Or.inl rfl)⟩ | exact Or.inr ⟨_, _, _, rfl, Or.inr (Or.inr (Or.inl rfl))⟩ | exact Or.inr ⟨_, _, _, rfl, Or.inr (Or.inr (Or.inr rfl))⟩⟩
  · exact ⟨_, h1, by first | exact Or.inl ⟨_, _, rfl⟩ | exact Or.inr ⟨_, _, _, rfl, Or.inl rfl⟩ | exact Or.inr ⟨_, _, _, rfl, Or.inr (Or.inl rfl)⟩ | exact Or.inr ⟨_, _, _, rfl, Or.inr (Or.inr (Or.inl rfl))⟩ | exact Or.inr ⟨_, _, _, rfl, Or.inr (Or.inr (Or.inr rfl))⟩⟩
  · exact ⟨_, h2, by first | exact Or.inl ⟨_, _, rfl⟩ | exact Or.inr ⟨_, _, _, rfl, Or.inl rfl⟩ | exact Or.inr ⟨_, _, _, rfl, Or.inr (Or.inl rfl)⟩ | exact Or.inr ⟨_, _, _, rfl, Or.inr (Or.inr (Or.inl rfl))⟩ | exact Or.inr ⟨_, _, _, rfl, Or.inr (Or.inr (Or.inr rfl))⟩⟩
theorem StA.kcy {cy : Nat → ClassId} {A : AH} {b k : Nat} {S : StV} (h : StA cy A b S) (q1 : b ≤ k) (q2 : k < b + 21) : ∃ x, A k = some x ∧ LedC cy x := by
  obtain ⟨h0, h1, h2, h3, h4⟩ := h
  by_cases a : k = b
  · subst a; exact ⟨_, h0, by first | exact Or.inl ⟨_, _, rfl⟩ | exact Or.inr ⟨_, _, _, rfl, Or.inl rfl⟩ | exact Or.inr ⟨_, _, _, rfl, Or.inr (Or.inl rfl)⟩ | exact Or.inr ⟨_, _, _, rfl, Or.inr (Or.inr (Or.inl rfl))⟩ | exact Or.inr ⟨_, _, _, rfl, Or.inr (Or.inr (Or.inr rfl))⟩⟩
  by_cases a1 : k < b + 9
  · exact h1.kcy (by omega) (by omega)
  by_cases a2 : k < b + 13
  · exact h2.kcy (by omega) (by omega)
  by_cases a3 : k < b + 20
  · exact h3.kcy (by omega) (by omega)
  · have e : k = b + 20 := by omega
    subst e; exact ⟨_, h4, by first | exact Or.inl ⟨_, _, rfl⟩ | exact Or.inr ⟨_, _, _, rfl, Or.inl rfl⟩ | exact Or.inr ⟨_, _, _, rfl, Or.inr (Or.inl rfl)⟩ | exact Or.inr ⟨_, _, _, rfl, Or.inr (Or.inr (Or.inl rfl))⟩ | exact Or.inr ⟨_, _, _, rfl, Or.inr (Or.inr (Or.inr rfl))⟩⟩
theorem HisA.kcy {cy : Nat → ClassId} {A : AH} {b k : Nat} {K : HV} (h : HisA cy A b K) (q1 : b ≤ k) (q2 : k < b + 170) : ∃ x, A k = some x ∧ LedC cy x := by
  obtain ⟨h0, ⟨f, h1, -⟩, h2⟩ := h
  by_cases a : k = b
  · subst a; exact ⟨_, h0, by first | exact Or.inl ⟨_, _, rfl⟩ | exact Or.inr ⟨_, _, _, rfl, Or.inl rfl⟩ | exact Or.inr ⟨_, _, _, rfl, Or.inr (Or.inl rfl)⟩ | exact Or.inr ⟨_, _, _, rfl, Or.inr (Or.inr (Or.inl rfl))⟩ | exact Or.inr ⟨_, _, _, rfl, Or.inr (Or.inr (Or.inr rfl))⟩⟩
  by_cases a1 : k = b + 1
  · subst a1; exact ⟨_, h1, by first | exact Or.inl ⟨_, _, rfl⟩ | exact Or.inr ⟨_, _, _, rfl, Or.inl rfl⟩ | exact Or.inr ⟨_, _, _, rfl, Or.inr (Or.inl rfl)⟩ | exact Or.inr ⟨_, _, _, rfl, Or.inr (Or.inr (Or.inl rfl))⟩ | exact Or.inr ⟨_, _, _, rfl, Or.inr (Or.inr (Or.inr rfl))⟩⟩
  · exact (h2 ((k - (b + 2)) / 21) (by omega)).kcy (by omega) (by omega)
theorem LedA.kcy {cy : Nat → ClassId} {A : AH} {W : LW} (h : LedA cy A W) {k : Nat} (hk : k < 231) : ∃ x, A k = some x ∧ LedC cy x := by
  have hu := h.u
  obtain ⟨⟨v1, v2, v3, v4, v5⟩, -, ⟨Rm, r1, -⟩, ⟨b1, -⟩, ⟨s1, -⟩, ⟨k1, -⟩, ⟨f, f1⟩, rd⟩ := h
  obtain ⟨t, len, pos, kd, ts, nm, ss, as, is, tp, txt, Z, Rm2, ht, d1, d2, d3, d4, -⟩ := rd
  by_cases a0 : k = 0
  · subst a0; exact ⟨_, v1, by first | exact Or.inl ⟨_, _, rfl⟩ | exact Or.inr ⟨_, _, _, rfl, Or.inl rfl⟩ | exact Or.inr ⟨_, _, _, rfl, Or.inr (Or.inl rfl)⟩ | exact Or.inr ⟨_, _, _, rfl, Or.inr (Or.inr (Or.inl rfl))⟩ | exact Or.inr ⟨_, _, _, rfl, Or.inr (Or.inr (Or.inr rfl))⟩⟩
  by_cases a1 : k = 1
  · subst a1; exact ⟨_, b1, by first | exact Or.inl ⟨_, _, rfl⟩ | exact Or.inr ⟨_, _, _, rfl, Or.inl rfl⟩ | exact Or.inr ⟨_, _, _, rfl, Or.inr (Or.inl rfl)⟩ | exact Or.inr ⟨_, _, _, rfl, Or.inr (Or.inr (Or.inl rfl))⟩ | exact Or.inr ⟨_, _, _, rfl, Or.inr (Or.inr (Or.inr rfl))⟩⟩
  by_cases a2 : k = 2
  · subst a2; exact ⟨_, d1, by first | exact Or.inl ⟨_, _, rfl⟩ | exact Or.inr ⟨_, _, _, rfl, Or.inl rfl⟩ | exact Or.inr ⟨_, _, _, rfl, Or.inr (Or.inl rfl)⟩ | exact Or.inr ⟨_, _, _, rfl, Or.inr (Or.inr (Or.inl rfl))⟩ | exact Or.inr ⟨_, _, _, rfl, Or.inr (Or.inr (Or.inr rfl))⟩⟩
  by_cases a3 : k = 3
  · subst a3; exact ⟨_, d2, by first | exact Or.inl ⟨_, _, rfl⟩ | exact Or.inr ⟨_, _, _, rfl, Or.inl rfl⟩ | exact Or.inr ⟨_, _, _, rfl, Or.inr (Or.inl rfl)⟩ | exact Or.inr ⟨_, _, _, rfl, Or.inr (Or.inr (Or.inl rfl))⟩ | exact Or.inr ⟨_, _, _, rfl, Or.inr (Or.inr (Or.inr rfl))⟩⟩
  by_cases a4 : W.1.1 ≤ k ∧ k < W.1.1 + 3
  · exact v4.kcy a4.1 a4.2
  by_cases a5 : W.1.1 + 3 ≤ k ∧ k < W.1.1 + 3 + 4
  · exact r1.kcy a5.1 a5.2
  by_cases a6 : t ≤ k ∧ k < t + 3
  · exact d3.kcy a6.1 a6.2
  by_cases a7 : t + 3 ≤ k ∧ k < t + 3 + 4
  · exact d4.kcy a7.1 a7.2
  by_cases a8 : k < 39
  · exact v2.kcy (by omega) (by omega)
  by_cases a9 : k < 60
  · exact s1.kcy (by omega) (by omega)
  by_cases aa : k < 230
  · exact k1.kcy (by omega) (by omega)
  · have e : k = 230 := by omega
    subst e; exact ⟨_, f1, by first | exact Or.inl ⟨_, _, rfl⟩ | exact Or.inr ⟨_, _, _, rfl, Or.inl rfl⟩ | exact Or.inr ⟨_, _, _, rfl, Or.inr (Or.inl rfl)⟩ | exact Or.inr ⟨_, _, _, rfl, Or.inr (Or.inr (Or.inl rfl))⟩ | exact Or.inr ⟨_, _, _, rfl, Or.inr (Or.inr (Or.inr rfl))⟩⟩
theorem fc_inj {vm : Vm} {n1 n2 : String} {c : ClassId} (h1 : vm.findClass n1 = some c) (h2 : vm.findClass n2 = some c) : n1 = n2 := by
  obtain ⟨k, a, b⟩ := Vm.findClass_spec h1
  obtain ⟨k2, a2, b2⟩ := Vm.findClass_spec h2
  rw [a] at a2
  cases a2
  exact b.symm.trans b2
section CORE74
variable {p : Program} {l : Launch} {e : Env} {R : Room} {s : State} {m : MethodId} {args : Array Value} {below : List Frame} {meth : Method} {c : Code}
variable {D : va_G} {cy : Nat → ClassId} {B : Nat} {od : Nat → Option Nat} {cc : ByteArray} {nL : Nat} {tab : List PT} {own : String} {ret : Option FieldType}
/-- arrays of bytes are of a class of their own -/
theorem Cx.cy3 (X : Cx p s m args meth c D cy B od cc nL tab own ret) : cy 3 ≠ cy 0 ∧ cy 3 ≠ cy 1 ∧ cy 3 ≠ cy 2 ∧ cy 3 ≠ cy 4 := by
  have h3 : s.vm.findClass ("[" ++ FieldType.byte.toString) = some (cy 3) := (X.2.1.2 3 (cy 3, .byte) rfl).2
  have h0 : s.vm.findClass ("[" ++ FieldType.int.toString) = some (cy 0) := (X.2.1.2 0 (cy 0, .int) rfl).2
  have h1 : s.vm.findClass ("[" ++ FieldType.long.toString) = some (cy 1) := (X.2.1.2 1 (cy 1, .long) rfl).2
  have h2 : s.vm.findClass ("[" ++ FieldType.boolean.toString) = some (cy 2) := (X.2.1.2 2 (cy 2, .boolean) rfl).2
  obtain ⟨kA, comp, -, -, -, h4⟩ := (X.2.1.2 4 (cy 4, .object RX6) rfl).2
  refine ⟨fun e => ?_, fun e => ?_, fun e => ?_, fun e => ?_⟩
  · rw [← e] at h0; exact absurd (fc_inj h3 h0) (by decide +kernel)
  · rw [← e] at h1; exact absurd (fc_inj h3 h1) (by decide +kernel)
  · rw [← e] at h2; exact absurd (fc_inj h3 h2) (by decide +kernel)
  · rw [← e] at h4; exact absurd (fc_inj h3 h4) (by decide +kernel)
end CORE74
/-- a string lies above the ledger -/
theorem StrA.up {cy : Nat → ClassId} {A : AH} {W : LW} {a : Nat} {tx : List Nat} (h : StrA cy A a tx) (hL : LedA cy A W) (hc : cy 3 ≠ cy 0 ∧ cy 3 ≠ cy 1 ∧ cy 3 ≠ cy 2 ∧ cy 3 ≠ cy 4) : ∀ A9 : AH, (∀ k, 231 ≤ k → A9 k = A k) → StrA cy A9 a tx := by
  intro A9 hk
  obtain ⟨h1, h2, ⟨v, f, h3, h4, h5⟩ | h3⟩ := h
  · refine ⟨h1, h2, Or.inl ⟨v, f, (hk a ?_).trans h3, (hk v ?_).trans h4, h5⟩⟩
    · refine Nat.not_lt.mp (fun q => ?_)
      obtain ⟨y, hy, hq⟩ := hL.knd q
      rw [h3] at hy
      cases hy
      rcases hq with ⟨ci, fs, e, e2⟩ | ⟨c, n, g, e, -⟩
      · injection e with e
        injection e with e _
        omega
      · cases e
    · refine Nat.not_lt.mp (fun q => ?_)
      obtain ⟨y, hy, hq⟩ := hL.kcy q
      rw [h4] at hy
      cases hy
      rcases hq with ⟨ci, fs, e⟩ | ⟨c, n, g, e, e2⟩
      · cases e
      · injection e with e
        injection e with e _
        subst e
        obtain ⟨c0, c1, c2, c4⟩ := hc
        rcases e2 with e2 | e2 | e2 | e2
        · exact c0 e2
        · exact c1 e2
        · exact c2 e2
        · exact c4 e2
  · exact ⟨h1, h2, Or.inr h3⟩
theorem Inv3.stb {Z : SV} {S S2 : StV} (h : Inv3 Z S) (e : StB S S2) : Inv3 Z S2 := by
  obtain ⟨⟨h1, h2, h3, h4⟩, h5, h6⟩ := h
  obtain ⟨e1, e2, e3, e4, e5, e6, e7, e8, e9⟩ := e
  refine ⟨⟨fun k hk => ?_, fun k hk => ?_, fun k hk => ?_, fun q hq => ?_⟩, fun k hk => ?_, ?_⟩
  · rw [e1] at hk
    rw [e2 0 (by decide) k hk, e2 1 (by decide) k hk, e2 2 (by decide) k hk, e2 3 (by decide) k hk, e2 4 (by decide) k hk]; exact h1 k hk
  · rw [e3] at hk
    rw [e4 0 (by decide) k hk, e4 1 (by decide) k hk, e4 2 (by decide) k hk]; exact h2 k hk
  · rw [e5] at hk
    rw [e6 0 (by decide) k hk, e6 1 (by decide) k hk, e6 2 (by decide) k hk, e6 3 (by decide) k hk, e6 4 (by decide) k hk, e6 5 (by decide) k hk]; exact h3 k hk
  · rw [e7] at hq
    rw [e9 q hq]; exact h4 q hq
  · rw [e5] at hk
    rw [e6 4 (by decide) k hk, e6 1 (by decide) k hk]; exact h5 k hk
  · unfold StOk
    rw [e8]; exact h6
theorem LBk.ztb {cy : Nat → ClassId} {A : AH} {Z Z2 : SV} {own : Nat → Nat} {g : Nat} {S : StV} (h : LBk cy A Z own g S) (e : ZtB Z Z2) : LBk cy A Z2 own g S := by
  obtain ⟨L, h1, h2⟩ := h
  exact ⟨L, h1.ztb e, fun q hq => h2 q hq.ztb⟩
theorem LBk.led {cy : Nat → ClassId} {A A' : AH} {Z : SV} {own : Nat → Nat} {g z : Nat} {S : StV} {W : LW} (h : LBk cy A Z own g S) (hF : FRs A z) (hz : z ≤ 900000) (hL : LedA cy A W) (h0 : ∀ q, q < 231 → own q = 0) (hf : ∀ q y, 231 ≤ q → A q = some y → A' q = some y) : LBk cy A' Z own g S := by
  refine h.fr (P := fun q => q < 231) hF hz (fun q y hq hy => ?_) (fun q y hy hn => hf q y (Nat.not_lt.mp hn) hy) (fun q hq e => ?_) (fun _ _ => rfl)
  · obtain ⟨y2, h1, h2⟩ := hL.knd (show q < 231 from hq)
    rw [hy] at h1
    cases h1
    exact ⟨h2.rw, h2.bx⟩
  · have h1 := (h.hi hL h0).1
    rw [h0 q hq] at e
    omega
theorem plS_b {c2 : Nat → Nat → Int32} : StB plS (vS (wNew c2).1) := ⟨rfl, fun _ _ j hj => absurd hj (Nat.not_lt_zero j), rfl, fun _ _ j hj => absurd hj (Nat.not_lt_zero j), rfl, fun _ _ j hj => absurd hj (Nat.not_lt_zero j), rfl, rfl, fun j hj => absurd hj (Nat.not_lt_zero j)⟩
theorem plZ_b {c2 : Nat → Nat → Int32} : ZtB plZ (vZ (wNew c2).1) := by
  refine ⟨rfl, fun k h1 h2 => ?_, fun i hi j hj => ?_⟩
  · rcases (show k = 1 ∨ k = 2 ∨ k = 3 ∨ k = 4 by omega) with rfl | rfl | rfl | rfl <;> rfl
  · have hj : j < 2 := hj
    rcases (show i = 0 ∨ i = 1 by omega) with rfl | rfl <;> rcases (show j = 0 ∨ j = 1 by omega) with rfl | rfl <;> rfl
theorem inv_new {Z : SV} {c2 : Nat → Nat → Int32} : Inv3 Z (vS (wNew c2).1) := ⟨⟨fun k hk => absurd hk (Nat.not_lt_zero k), fun k hk => absurd hk (Nat.not_lt_zero k), fun k hk => absurd hk (Nat.not_lt_zero k), fun k hk => absurd hk (Nat.not_lt_zero k)⟩, fun k hk => absurd hk (Nat.not_lt_zero k), (by show within9 (nI 0) (-10000000) (nI 10000000) = true; decide)⟩
theorem inv_drawn {od : Nat → Option Nat} {Z : SV} : Inv3 Z (dS od) := by
  refine ⟨⟨fun k hk => absurd hk (Nat.not_lt_zero k), fun k hk => ?_, fun k hk => absurd hk (Nat.not_lt_zero k), fun k hk => absurd hk (Nat.not_lt_zero k)⟩, fun k hk => absurd hk (Nat.not_lt_zero k), ?_⟩
  · refine ⟨⟨1 + dR od k % 500, by omega, by omega, rfl⟩, ?_⟩
    show dRm od 1 k = -1 ∨ ∃ a b, a ≤ b ∧ b ≤ 359 ∧ dRm od 1 k = nI a ∧ dRm od 2 k = nI b
    by_cases hc : dR od k % 3 = 0
    · left; unfold dRm; rw [if_neg (by decide), if_pos hc]
    · right
      have hf : dFr od k < 360 := Nat.mod_lt _ (by decide)
      have h9 : dR od k / 180000 % (360 - dFr od k) < 360 - dFr od k := Nat.mod_lt _ (by omega)
      refine ⟨dFr od k, dFr od k + dR od k / 180000 % (360 - dFr od k), by omega, by omega, ?_, ?_⟩
      · unfold dRm; rw [if_neg (by decide), if_neg hc, if_pos rfl]
      · unfold dRm; rw [if_neg (by decide), if_neg hc, if_neg (by decide)]
  · show within9 (nI (dX od % 500000)) (-10000000) (nI 10000000) = true
    unfold within9
    rw [Bool.and_eq_true, decide_eq_true_eq, decide_eq_true_eq, Int32.le_iff_toInt_le, Int32.le_iff_toInt_le, nI_toInt (by omega), nI_toInt (by omega)]
    have : (-10000000 : Int32).toInt = -10000000 := by decide
    omega
theorem rngZ_drawn (od : Nat → Option Nat) : RngZ (dZ od) := by
  refine ⟨fun k hk => ?_, fun k hk => ?_, ⟨dY od / 9 % 101, Nat.zero_le _, by omega, rfl⟩, ⟨dX od / 500000 % 901, Nat.zero_le _, by omega, rfl⟩⟩
  · have hk : k < dX od % 6 := hk
    have h1 := dLim_le od (k + 1)
    have h2 := dLim_lt od k
    exact ⟨⟨dLim od (k + 1), by omega, by omega, rfl⟩, ⟨dB od k / 3000 % 901, Nat.zero_le _, by omega, rfl⟩⟩
  · have hk : k + 1 < dX od % 6 := hk
    have h1 := dLim_le od (k + 1 + 1)
    exact ⟨dLim od (k + 1), dLim od (k + 1 + 1), rfl, rfl, dLim_lt od (k + 1), by omega⟩
theorem tPos_app {a b : List Nat} (ha : tPos a) (hb : tPos b) : tPos (a ++ b) := by
  intro k hk
  rw [List.length_append] at hk
  by_cases e : k < a.length
  · rw [getD_ap0 e]; exact ha k e
  · rw [List.getD_eq_getElem?_getD, List.getElem?_append_right (by omega)]
    have := hb (k - a.length) (by omega)
    rw [List.getD_eq_getElem?_getD] at this
    exact this
theorem tPos_dec (n : Nat) : tPos (decN n) := fun k hk => by have := (decN_dig 9 n k hk).1; show 1 ≤ (decF 9 n).getD k 0; omega
theorem tPos_str : ∀ j, j < 39 → ∀ k, k < (strN j).length → 1 ≤ (strN j).getD k 0 := by decide +kernel
theorem tPos_sp : tPos [32] := fun k hk => by
  have e : k = 0 := Nat.lt_one_iff.mp hk
  subst e
  decide
theorem tPos_br (od : Nat → Option Nat) : ∀ k, tPos (brT od k)
  | 0 => fun k hk => absurd hk (Nat.not_lt_zero k)
  | k + 1 => tPos_app (tPos_app (tPos_app (tPos_app (tPos_br od k) (tPos_str 16 (by decide))) (tPos_dec _)) tPos_sp) (tPos_dec _)
theorem tPos_rm (od : Nat → Option Nat) : ∀ k, tPos (rmT od k)
  | 0 => fun k hk => absurd hk (Nat.not_lt_zero k)
  | k + 1 => by
    have ih := tPos_rm od k
    unfold rmT
    by_cases e : dR od k % 3 = 0
    · rw [if_pos e]; exact tPos_app (tPos_app ih (tPos_str 17 (by decide))) (tPos_dec _)
    · rw [if_neg e]; exact tPos_app (tPos_app (tPos_app (tPos_app (tPos_app (tPos_app ih (tPos_str 17 (by decide))) (tPos_dec _)) (tPos_str 18 (by decide))) (tPos_dec _)) tPos_sp) (tPos_dec _)
theorem tPos_text (od : Nat → Option Nat) : tPos (textD od) := by
  unfold textD hdT
  exact (tPos_app (tPos_app (tPos_app (tPos_app (tPos_app (tPos_app (tPos_app (tPos_app (tPos_app (tPos_app (tPos_app (tPos_str 12 (by decide)) (tPos_dec _)) (tPos_str 13 (by decide))) (tPos_dec _)) tPos_sp) (tPos_dec _)) (tPos_str 14 (by decide))) (tPos_dec _)) (tPos_str 15 (by decide))) (tPos_dec _)) (tPos_br od _)) (tPos_rm od _))
theorem text_len (od : Nat → Option Nat) : (textD od).length ≤ 400 := by
  have h1 := hd_len od
  have h2 := br_len od (dX od % 6) (by omega)
  have h3 := rm_len od (dY od % 5)
  unfold textD
  rw [List.length_append, List.length_append]
  omega
set_option maxRecDepth 100000 in
set_option maxHeartbeats 1000000 in
theorem law_drawn (l : Launch) (D : va_G) (cy : Nat → ClassId) (B : Nat) (od : Nat → Option Nat) (hl9 : l.stackTraces = false) {p : Program} {e : Env} {s : State} {m : MethodId} {args : Array Value} {below : List Frame} {meth : Method} {c : Code} {A : AH} {c9 : Nat → Nat → Int32} {cl sl z : Nat} {b9 : Nat} (ha : args = #[Value.ref b9]) (X : Cx p s m args meth c D cy B od cL_law 10 tL RL (some .boolean)) (hB : s.heap.size ≤ B) (hcl : cl ≤ 3000 ∧ sl ≤ 30000) (hL : LedA cy A (wNew c9)) : G p l e room_1 s m args below meth c D B od 10 tL (lw_Z below args s) cl sl A (z) 28 ([some (.ref 4000000), some (.ref 0), none, none, none, none, none, none, none, none]) [] := by
  obtain ⟨hcl1, hcl2⟩ := hcl
  refine g_aload_n X rfl rfl ?_
  refine g_fr X (fun z9 hFz9 hzz9 _ _ => ?_)
  have hzz9 : B + z9 ≤ s.heap.size + (cl + 0) := hzz9
  have hz231 := hL.z hFz9
  refine g_callS X rfl lcX8_drawn lmL_192 stX8_drawn (ct_X8_drawn l D cy B od hFz9 (by omega)) rfl rfl (Nat.le_of_ble_eq_true rfl) ⟨by decide, by decide⟩ ⟨by show cl + 40 ≤ 641696; omega, by show sl + 2000 ≤ 7176609; omega⟩ (fun v1 A1 z1 q1 => ?_)
  obtain ⟨rfl, y1, rfl, hG1, L1, hB1, hFt1⟩ := q1
  have hy1 := hG1.2.2.1
  have hL1 := hL.st (A' := A1) (fun q y _ hy => hG1.1 _ _ hy)
  refine g_astore_nS X rfl (by decide) rfl ?_
  refine g_aload_n X rfl rfl ?_
  refine g_aload_n X rfl rfl ?_
  refine g_gV X rfl lcX8_text lmL_196 lsX8_text (cg_X8_text l D cy B od hB1.1) hG1.2.2.2 (by show y1 + 80 ≤ 900000; omega) (ci := 8) hB1.1.1 rfl rfl rfl (Nat.le_of_ble_eq_true rfl) ⟨by decide, by decide⟩ ⟨by show cl + 120 ≤ 641696; omega, by show sl + 92000 ≤ 7176609; omega⟩ (fun v2 A2 z2 q2 hG2 => ?_)
  obtain ⟨a9, rfl, hS2⟩ := q2
  have hL2 := hL1.st (A' := A2) (fun q y _ hy => hG2.1 _ _ hy)
  have hB2 : LBk cy A2 (dZ od) (fun q => if z9 ≤ q then z9 else 0) z9 (dS od) := ⟨L1, hB1.le hG2.1, fun q hq => if_pos (hFt1 q hq)⟩
  have h0 : ∀ q, q < 231 → (fun q => if z9 ≤ q then z9 else 0) q = 0 := fun q hq => if_neg (by omega)
  have hz2 : z2 ≤ y1 + 80 := hG2.2.2.1
  refine g_callS X rfl lcL_type lmL_200 stL_type (ct_L_type l D cy B od hl9 hL2 (hS2.up hL2 X.cy3) hS2.1 (tPos_text od) (text_len od) (z2 + 1)) rfl rfl (Nat.le_of_ble_eq_true rfl) ⟨by decide, by decide⟩ ⟨by show cl + 230 ≤ 641696; omega, by show sl + 92660 ≤ 7176609; omega⟩ (fun v3 A3 z3 q3 => ?_)
  obtain ⟨rfl, ho3, f3, hf3, hL3⟩ := q3
  have hB3 := hB2.led (A' := A3) hG2.2.2.2 (by omega) hL2 h0 (fun q y hq hy => (ho3 q hq).trans hy)
  refine g_if_eq X rfl (fun h => absurd h (by decide)) (fun _ => ?_)
  · skip
    refine g_aload_n X rfl rfl ?_
    refine g_mV X rfl lcX7_errorPosition lmL_204 lsX7_errorPosition (cm_X7_errorPosition l D cy B od hL3) (ci := 7) hL3.1.1 rfl rfl rfl (Nat.le_of_ble_eq_true rfl) ⟨⟨by decide, by decide⟩, rfl, rfl⟩ ⟨by show cl + 230 ≤ 641696; omega, by show sl + 92660 ≤ 7176609; omega⟩ (fun v4 A4 q4 => ?_)
    obtain ⟨R, hR, rfl, ho4, hL4⟩ := q4
    rw [(drawn_R hf3 hR).1]
    refine g_iconst X rfl (v := (-1)) (by decide) ?_
    refine g_icmp_ne X rfl (fun h => absurd rfl h) (fun _ => ?_)
    · skip
      refine g_aload_n X rfl rfl ?_
      refine g_fr X (fun z8 hFz8 hzz8 _ _ => ?_)
      have hzz8 : B + z8 ≤ s.heap.size + (cl + 230) := hzz8
      have hB4 : LBk cy A4 (dZ od) (fun q => if z9 ≤ q then z9 else 0) z9 (dS od) := hB3.led (z := z8) (fun k hk => (ho4 k (Or.inr (by have := hL4.z hFz8; omega))).symm.trans (hFz8 k hk)) (by omega) hL3 h0 (fun q y hq hy => (ho4 q (Or.inr hq)).trans hy)
      refine g_hp X rfl lwL_load lmL_182 stL_load (hp_L_load l D cy B od (cx_X7_load l D cy B od hl9 hL4) hL4.1.1 (fun v A' h => by obtain ⟨R, -, -, h, -⟩ := h; exact ⟨_, h⟩) (fun E A' h => h.1) (z8 + 1)) rfl rfl (Nat.le_of_ble_eq_true rfl) ⟨by decide, by decide⟩ ⟨by show cl + 231 ≤ 641696; omega, by show sl + 92666 ≤ 7176609; omega⟩ (fun v5 A5 z5 q5 => ?_)
      obtain ⟨W5, rfl, ho5, hL5, hb5, hzb5, hs5, hn5⟩ : ∃ W5 : LW, v5 = some (.int (nI (dY od % 5))) ∧ SameOff A4 A5 0 231 ∧ LedA cy A5 W5 ∧ StB (dS od) (vS W5.1) ∧ ZtB (dZ od) (vZ W5.1) ∧ W5.1.2.2.1 = 0 ∧ W5.2.2.2.2.1 = 0 := by
        rcases q5 with ⟨R5, h3, -, h4, h5, t9, c9, hc9, h6⟩ | ⟨-, E, -, ⟨R5, h3, h4⟩, -⟩
        · obtain ⟨-, d1, d2, d3, d4⟩ := drawn_R hf3 h3
          exact ⟨_, by rw [h4, d3], h5, h6, ⟨rfl, fun _ _ j hj => absurd hj (Nat.not_lt_zero j), d3, fun q hq j hj => (hc9 q j (by rw [d3]; exact hj)).trans (d4 q hq j hj), rfl, fun _ _ j hj => absurd hj (Nat.not_lt_zero j), rfl, d2, fun j hj => absurd hj (Nat.not_lt_zero j)⟩, d1, rfl, rfl⟩
        · exact absurd (drawn_R hf3 h3).1 h4
      have hB5 := hB4.led (A' := A5) hFz8 (by omega) hL4 h0 (fun q y hq hy => (ho5 q (Or.inr hq)).trans hy)
      have hB6 := (hB5.stb hb5).ztb hzb5
      obtain ⟨hg231, Lg, hbg, hhi, hft⟩ := hB6.hi hL5 h0
      have hi5 : Inv3 (vZ W5.1) (vS W5.1) := (inv_drawn (od := od)).stb hb5
      refine g_aload_n X rfl rfl ?_
      refine g_get X rfl flL_105 (ci := 8) rfl (hbg.1.1) rfl ?_
      refine g_rV X rfl lcJx4a65c_size_8abf5 lmL_97 lsJx4a65c_size_8abf5 (cr_size l D cy B od (hbg.1.2.1 1 (by decide))) (ci := 9) (hbg.1.2.1 1 (by decide)).1 rfl rfl rfl (Nat.le_of_ble_eq_true rfl) ⟨⟨by decide, by decide⟩, rfl, rfl⟩ ⟨by show cl + 231 ≤ 641696; omega, by show sl + 92666 ≤ 7176609; omega⟩ ?_
      rw [show bN (vS W5.1) (vZ W5.1) 1 = dY od % 5 from hb5.2.2.1]
      refine g_icmp_ne X rfl (fun h => absurd rfl h) (fun _ => ?_)
      · skip
        refine g_aload_n X rfl rfl ?_
        refine g_aload_n X rfl rfl ?_
        refine g_fr X (fun z7 hFz7 hzz7 _ _ => ?_)
        have hzz7 : B + z7 ≤ s.heap.size + (cl + 231) := hzz7
        have hz7g := hFz7.lt hbg.1.1
        refine g_callV X rfl lcX8_isAs lmL_188 lsX8_isAs (ct_X8_isAs l D cy B od hl9 hbg.1 hL5 rfl rfl hi5.1 hL5.1.2.2.1 hL5.2.1 hi5.2.1 hhi z7 hFz7 (by omega) (by omega)) (ci := 8) hbg.1.1 rfl rfl rfl (Nat.le_of_ble_eq_true rfl) ⟨by decide, by decide⟩ ⟨by show cl + 2831 ≤ 641696; omega, by show sl + 108666 ≤ 7176609; omega⟩ (fun v6 A6 z6 q6 => ?_)
        obtain ⟨rfl, hL6, hfr6, y6, rfl, -, hy6, hF6⟩ := q6
        have hB7 := hB6.led (A' := A6) hFz7 (by omega) hL5 h0 (fun q y hq hy => hfr6 q hq y hy)
        have hz6231 := hL6.z hF6
        refine g_if_ne X rfl (fun _ => ?_) (fun h => absurd h (by decide))
        · skip
          refine g_new X rfl nwL_98 (ci := 9) rfl (fs := [.int (nI 0), .null, .int (nI 0)]) rfl rfl (by omega) (by show cl + 2832 ≤ 641696; omega) (by show sl + 108669 ≤ 7176609; omega) ?_
          refine g_dup X rfl rfl ?_
          refine g_mI X rfl lcJx4a65c_init_da8c8 lmL_207 liJx4a65c_init_da8c8 rfl (cm_AL_init l D cy B od upA_eq) rfl rfl (Nat.le_of_ble_eq_true rfl) ⟨⟨by decide, by decide⟩, rfl, rfl⟩ ⟨by show cl + 2832 ≤ 641696; omega, by show sl + 108669 ≤ 7176609; omega⟩ (fun v8 A8 q8 => ?_)
          obtain ⟨rfl, rfl⟩ := q8
          rw [upA_up]
          refine g_astore_nS X rfl (by decide) rfl ?_
          refine g_null X rfl ?_
          refine g_astoreN X rfl (by decide) rfl ?_
          refine g_iconst X rfl (v := nI 0) (by decide) ?_
          refine g_istoreS X rfl (by decide) rfl ?_
          have hHL : HLe A6 (upA A6 y6 (.inr (9, [.int (nI 0), .ref 3000001, .int (nI 0)]))) := (HLe.rf A6).up hF6.at
          have hL9 := hL6.st (A' := upA A6 y6 (.inr (9, [.int (nI 0), .ref 3000001, .int (nI 0)]))) (fun q y _ hy => hHL _ _ hy)
          have hB9 : LBk cy (upA A6 y6 (.inr (9, [.int (nI 0), .ref 3000001, .int (nI 0)]))) (vZ W5.1) (fun q => if y6 ≤ q then y6 else (if z9 ≤ q then z9 else 0)) z9 (vS W5.1) := hB7.fr (P := fun _ => False) hF6 (by omega) (fun _ _ hq => hq.elim) (fun q y hy _ => hHL _ _ hy) (fun _ hq => hq.elim) (fun q hq => if_neg (by omega))
          exact g_z0 (law_loop l D cy B od hl9 ha X hB 60 0 _ W5 z9 none (cl + 2832) (sl + 108669) 0 none none none none rfl (by omega) ⟨hL9, (rngZ_drawn od).ztb hzb5, hi5, fun j hj => absurd hj (by rw [hn5]; exact Nat.not_lt_zero j), Or.inl ⟨rfl, hs5⟩, (fun q => if y6 ≤ q then y6 else (if z9 ≤ q then z9 else 0)), nI 0, 3000001, (fun _ => 0), ⟨fun q hq => (if_neg (by omega)).trans (if_neg (by omega)), ⟨hz6231, if_pos (Nat.le_refl _), fun q => absurd rfl q⟩, by rw [hn5]; exact ⟨upA_eq, by decide, Or.inl ⟨rfl, rfl⟩, fun j hj => absurd hj (Nat.not_lt_zero j)⟩, fun j hj => absurd hj (by rw [hn5]; exact Nat.not_lt_zero j), fun a b hj => absurd hj (by rw [hn5]; exact Nat.not_lt_zero a), fun b T hb => absurd hb.1 (by simp)⟩, hB9⟩)
set_option maxRecDepth 100000 in
set_option maxHeartbeats 1000000 in
theorem law_made (l : Launch) (D : va_G) (cy : Nat → ClassId) (B : Nat) (od : Nat → Option Nat) (hl9 : l.stackTraces = false) {p : Program} {e : Env} {s : State} {m : MethodId} {args : Array Value} {below : List Frame} {meth : Method} {c : Code} {A : AH} {b9 : Nat} (ha : args = #[Value.ref b9]) (X : Cx p s m args meth c D cy B od cL_law 10 tL RL (some .boolean)) (hB : s.heap.size ≤ B) : G p l e room_1 s m args below meth c D B od 10 tL (lw_Z below args s) 0 0 A (1) 0 ([some (.ref 4000000), none, none, none, none, none, none, none, none, none]) [] := by
  refine g_new X rfl nwL_15 (ci := 7) rfl (fs := [.null, .int (nI 0), .null, .null, .null, .null, .int (nI 0), .null, .null]) rfl rfl (by omega) (Nat.le_of_ble_eq_true rfl) (Nat.le_of_ble_eq_true rfl) ?_
  refine g_dup X rfl rfl ?_
  refine g_callI X rfl lcX7_init lmL_177 liX7_init rfl (ci_X7_init l D cy B od upA_eq) rfl rfl (Nat.le_of_ble_eq_true rfl) ⟨by decide, by decide⟩ ⟨Nat.le_of_ble_eq_true rfl, Nat.le_of_ble_eq_true rfl⟩ (fun v1 A1 z1 q1 => ?_)
  obtain ⟨rfl, hz, c2, hL⟩ := q1
  refine g_astore_nS X rfl (by decide) rfl ?_
  refine g_aload_n X rfl rfl ?_
  refine g_hp X rfl lwL_undo lmL_178 stL_undo (hp_L_undo l D cy B od (cp_X7_undo l D cy B od hl9 hL) hL.1.1 undo_r.1 undo_r.2 z1) rfl rfl (Nat.le_of_ble_eq_true rfl) ⟨by decide, by decide⟩ ⟨Nat.le_of_ble_eq_true rfl, Nat.le_of_ble_eq_true rfl⟩ (fun v2 A2 z2 q2 => ?_)
  obtain ⟨rfl, q2⟩ := q2
  have hoc2 : ocUndo (wNew c2).2.2.2 = .inl eISE := if_neg (Nat.lt_irrefl 0)
  have hv2 : ocI (ocUndo (wNew c2).2.2.2) = -1000000003 := by rw [hoc2]; decide
  rw [hv2]
  obtain rfl : A2 = A1 := by
    rcases q2 with ⟨r, h1, -⟩ | ⟨E, -, h2⟩
    · rw [hoc2] at h1; cases h1
    · exact h2
  refine g_ldc X rfl kcL_22 ?_
  refine g_icmp_ne X rfl (fun h => absurd rfl h) (fun _ => ?_)
  · skip
    refine g_aload_n X rfl rfl ?_
    refine g_hp X rfl lwL_restore lmL_180 stL_restore (hp_L_restore l D cy B od (cp_X7_restore l D cy B od hl9 hL) hL.1.1 rest_r.1 rest_r.2 z2) rfl rfl (Nat.le_of_ble_eq_true rfl) ⟨by decide, by decide⟩ ⟨Nat.le_of_ble_eq_true rfl, Nat.le_of_ble_eq_true rfl⟩ (fun v3 A3 z3 q3 => ?_)
    obtain ⟨rfl, q3⟩ := q3
    have hoc3 : ocRest (wNew c2) = .inl eISE := if_pos rfl
    have hv3 : ocI (ocRest (wNew c2)) = -1000000003 := by rw [hoc3]; decide
    rw [hv3]
    obtain rfl : A3 = A2 := by
      rcases q3 with ⟨r, h1, -⟩ | ⟨E, -, h2⟩
      · rw [hoc3] at h1; cases h1
      · exact h2
    refine g_ldc X rfl kcL_22 ?_
    refine g_icmp_ne X rfl (fun h => absurd rfl h) (fun _ => ?_)
    · skip
      refine g_aload_n X rfl rfl ?_
      refine g_hp X rfl lwL_load lmL_182 stL_load (hp_L_load l D cy B od (cx_X7_load l D cy B od hl9 hL) hL.1.1 (fun v A' h => by obtain ⟨R, -, -, h, -⟩ := h; exact ⟨_, h⟩) (fun E A' h => h.1) z3) rfl rfl (Nat.le_of_ble_eq_true rfl) ⟨by decide, by decide⟩ ⟨Nat.le_of_ble_eq_true rfl, Nat.le_of_ble_eq_true rfl⟩ (fun v4 A4 z4 q4 => ?_)
      obtain ⟨rfl, hL4⟩ : v4 = some (.int (-1000000002)) ∧ LedA cy A4 (wNew c2) := by
        rcases q4 with ⟨R3, h3, h4, -⟩ | ⟨h, E, -, -, h2, h3⟩
        · have h5 := wrong_R (j := 0) (by decide) (fun q hq => absurd hq (Nat.not_lt_zero q)) h3
          rw [h4] at h5
          exact absurd h5 (by decide)
        · exact ⟨h, h3⟩
      refine g_ldc X rfl kcL_29 ?_
      refine g_icmp_ne X rfl (fun h => absurd rfl h) (fun _ => ?_)
      · skip
        refine g_aload_n X rfl rfl ?_
        refine g_iconst X rfl (v := nI 0) (by decide) ?_
        refine g_iconst X rfl (v := nI 0) (by decide) ?_
        refine g_hp X rfl lwL_pay lmL_158 stL_pay (hp_L_pay l D cy B od (cp_X7_pay l D cy B od hl9 hL4 (x := nI 0) (dy := nI 0)) hL4.1.1 ocPay_r.1 ocPay_r.2 z4) rfl rfl (Nat.le_of_ble_eq_true rfl) ⟨by decide, by decide⟩ ⟨Nat.le_of_ble_eq_true rfl, Nat.le_of_ble_eq_true rfl⟩ (fun v5 A5 z5 q5 => ?_)
        obtain ⟨rfl, q5⟩ := q5
        have hoc5 : ocPay (wNew c2).1 (nI 0) (nI 0) = .inl eIOB := if_pos (fun q => absurd (show nI 0 < nI 0 from q.2) (by decide))
        have hv5 : ocI (ocPay (wNew c2).1 (nI 0) (nI 0)) = -1000000001 := by rw [hoc5]; decide
        rw [hv5]
        obtain rfl : A5 = A4 := by
          rcases q5 with ⟨r, h1, -⟩ | ⟨E, -, h2⟩
          · rw [hoc5] at h1; cases h1
          · exact h2
        refine g_ldc X rfl kcL_58 ?_
        refine g_icmp_ne X rfl (fun h => absurd rfl h) (fun _ => ?_)
        · skip
          refine g_fr X (fun z9 hF hz9 _ _ => ?_)
          have hz9 : B + z9 ≤ s.heap.size + 237 := hz9
          refine g_callS X rfl lcX8_plain lmL_184 stX8_plain (ct_X8_plain l D cy B od hF (by omega)) rfl rfl (Nat.le_of_ble_eq_true rfl) ⟨by decide, by decide⟩ ⟨Nat.le_of_ble_eq_true rfl, Nat.le_of_ble_eq_true rfl⟩ (fun v6 A6 z6 q6 => ?_)
          obtain ⟨rfl, y6, rfl, hG6, L6, hB6, hFt6⟩ := q6
          have hz231 := hL4.z hF
          have hL6 := hL4.st (A' := A6) (fun q y _ hy => hG6.1 _ _ hy)
          have hy6 := hG6.2.2.1
          have hy6b := hG6.2.1
          have hb6 : LBk cy A6 (vZ (wNew c2).1) (fun q => if z9 ≤ q then z9 else 0) z9 (vS (wNew c2).1) := LBk.ztb (LBk.stb ⟨L6, hB6, fun q hq => if_pos (hFt6 q hq)⟩ plS_b) plZ_b
          obtain ⟨hg231, Lg, hbg, hhi, hft⟩ := hb6.hi hL6 (fun q hq => if_neg (by omega))
          have hz6g := hG6.2.2.2.lt hbg.1.1
          refine g_aload_n X rfl rfl ?_
          refine g_callV X rfl lcX8_isAs lmL_188 lsX8_isAs (ct_X8_isAs l D cy B od hl9 hbg.1 hL6 rfl rfl inv_new.1 hL6.1.2.2.1 hL6.2.1 (inv_new (Z := vZ (wNew c2).1)).2.1 hhi y6 hG6.2.2.2 (by omega) (by omega)) (ci := 8) hbg.1.1 rfl rfl rfl (Nat.le_of_ble_eq_true rfl) ⟨by decide, by decide⟩ ⟨Nat.le_of_ble_eq_true rfl, Nat.le_of_ble_eq_true rfl⟩ (fun v7 A7 z7 q7 => ?_)
          obtain ⟨rfl, hL7, -⟩ := q7
          refine g_if_ne X rfl (fun _ => ?_) (fun h => absurd h (by decide))
          · skip
            exact law_drawn l D cy B od hl9 ha X hB ⟨(Nat.le_of_ble_eq_true rfl), (Nat.le_of_ble_eq_true rfl)⟩ hL7
