/-! 21: the ledger as a whole -/
/-- the reader, with its text and the setup it reads into -/
def RdA (cy : Nat → ClassId) (A : AH) (u : Nat) : Prop := ∃ (t : Nat) (len pos kd ts nm ss as is tp : Int32) (txt : Nat → Int32) (Z : SV) (Rm : RV), ((u = 11 ∧ t = 4) ∨ (u = 4 ∧ t = 11)) ∧ A 2 = some (.inr (5, [.ref 3, .int len, .int pos, .int kd, .int ts, .int nm, .ref t, .int ss, .int as, .int is, .int tp])) ∧ A 3 = some (.inl (cy 0, 400, .inl txt)) ∧ SetA cy A t Z ∧ RoomA cy A (t + 3) Rm ∧ Z.1 ≤ 5 ∧ Rm.1 ≤ 6
/-- the ledger: what is seen of it, its buffer, the saved state, the history -/
abbrev LW : Type := LV × (Nat → Int32) × StV × HV
def WfH (K : HV) : Prop := K.1 < 8 ∧ K.2.1 ≤ 8 ∧ ∀ k, k < 8 → WfS (K.2.2 k) ∧ WfB (K.2.2 k)
def LedA (cy : Nat → ClassId) (A : AH) (W : LW) : Prop := VwA cy A W.1 ∧ WfB (vS W.1) ∧ (∃ Rm, RoomA cy A (W.1.1 + 3) Rm ∧ Rm.1 ≤ 6) ∧ (A 1 = some (.inl (cy 0, 400, .inl W.2.1)) ∧ W.1.2.1 ≤ 400) ∧ (StA cy A 39 W.2.2.1 ∧ WfS W.2.2.1 ∧ WfB W.2.2.1) ∧ (HisA cy A 60 W.2.2.2 ∧ WfH W.2.2.2) ∧ (∃ f, A 230 = some (bX cy f)) ∧ RdA cy A W.1.1
theorem StE.wf {S S2 : StV} (h : StE S S2) (hw : WfS S) : WfS S2 := by
  obtain ⟨a1, a2, a3, a4, a5, a6, a7, a8, a9⟩ := h
  obtain ⟨w1, w2, w3, w4, w5⟩ := hw
  refine ⟨by omega, by omega, by omega, by omega, fun i hi => ?_⟩
  rw [a6 2 i (by omega)]
  exact w5 i (by omega)
theorem StE.wb {S S2 : StV} (h : StE S S2) (hw : WfB S) : WfB S2 := by
  obtain ⟨a1, a2, -⟩ := h
  intro j hj
  rw [a2 5 j (by omega), a2 6 j (by omega)]
  exact hw j (by omega)
theorem StE.refl (S : StV) : StE S S := ⟨rfl, fun _ _ _ => rfl, rfl, fun _ _ _ => rfl, rfl, fun _ _ _ => rfl, rfl, rfl, fun _ _ => rfl⟩
theorem LedA.u {cy : Nat → ClassId} {A : AH} {W : LW} (h : LedA cy A W) : W.1.1 = 11 ∨ W.1.1 = 4 := by
  obtain ⟨-, -, -, -, -, -, -, t, _, _, _, _, _, _, _, _, _, _, _, _, h9, -⟩ := h
  omega
theorem RdA.same {cy : Nat → ClassId} {A A' : AH} {u : Nat} (h : RdA cy A u) (hf : SameOn A A' 2 18) : RdA cy A' u := by
  obtain ⟨t, len, pos, kd, ts, nm, ss, as, is, tp, txt, Z, Rm, h1, h2, h3, h4, h5, h6, h7⟩ := h
  exact ⟨t, len, pos, kd, ts, nm, ss, as, is, tp, txt, Z, Rm, h1, (hf _ (by omega) (by omega)).trans h2, (hf _ (by omega) (by omega)).trans h3, h4.same (hf.sub (by omega) (by omega)), h5.same (hf.sub (by omega) (by omega)), h6, h7⟩
theorem HisA.same {cy : Nat → ClassId} {A A' : AH} {b : Nat} {K : HV} (h : HisA cy A b K) (hf : SameOn A A' b (b + 170)) : HisA cy A' b K := by
  obtain ⟨h1, ⟨f, h2, h3⟩, h4⟩ := h
  exact ⟨(hf _ (by omega) (by omega)).trans h1, ⟨f, (hf _ (by omega) (by omega)).trans h2, h3⟩, fun k hk => (h4 k hk).same (hf.sub (by omega) (by omega))⟩
def vNow (V : LV) (S : StV) : LV := (V.1, V.2.1, V.2.2.1, S, V.2.2.2.2)
theorem LedA.upNow {cy : Nat → ClassId} {A A' : AH} {W : LW} {S : StV} (h : LedA cy A W) (hf : SameOff A A' 18 39) (hS : StA cy A' 18 S) (hw : WfS S) (hb : WfB S) : LedA cy A' (vNow W.1 S, W.2) := by
  have hu := h.u
  obtain ⟨⟨a1, a2, a3, a4, a5⟩, b1, ⟨Rm, c1, c2⟩, ⟨d1, d2⟩, ⟨e1, e2⟩, ⟨f1, f2⟩, ⟨f, g1⟩, h1⟩ := h
  exact ⟨⟨(hf _ (by omega)).trans a1, hS, hw, SetA.same (b := W.1.1) (hf.on (by omega)) a4, a5⟩, hb, ⟨Rm, RoomA.same (b := W.1.1 + 3) (hf.on (by omega)) c1, c2⟩, ⟨(hf _ (by omega)).trans d1, d2⟩, ⟨e1.same (hf.on (by omega)), e2⟩, ⟨f1.same (hf.on (by omega)), f2⟩, ⟨f, (hf _ (by omega)).trans g1⟩, h1.same (hf.on (by omega))⟩
theorem LedA.upHis {cy : Nat → ClassId} {A A' : AH} {W : LW} {K : HV} (h : LedA cy A W) (hf : SameOff A A' 60 230) (hS : HisA cy A' 60 K) (hw : WfH K) : LedA cy A' (W.1, W.2.1, W.2.2.1, K) := by
  have hu := h.u
  obtain ⟨⟨a1, a2, a3, a4, a5⟩, b1, ⟨Rm, c1, c2⟩, ⟨d1, d2⟩, ⟨e1, e2⟩, ⟨f1, f2⟩, ⟨f, g1⟩, h1⟩ := h
  exact ⟨⟨(hf _ (by omega)).trans a1, a2.same (hf.on (by omega)), a3, SetA.same (b := W.1.1) (hf.on (by omega)) a4, a5⟩, b1, ⟨Rm, RoomA.same (b := W.1.1 + 3) (hf.on (by omega)) c1, c2⟩, ⟨(hf _ (by omega)).trans d1, d2⟩, ⟨e1.same (hf.on (by omega)), e2⟩, ⟨hS, hw⟩, ⟨f, (hf _ (by omega)).trans g1⟩, h1.same (hf.on (by omega))⟩
theorem LedA.upSav {cy : Nat → ClassId} {A A' : AH} {W : LW} {S : StV} (h : LedA cy A W) (hf : SameOff A A' 39 60) (hS : StA cy A' 39 S) (hw : WfS S) (hb : WfB S) : LedA cy A' (W.1, W.2.1, S, W.2.2.2) := by
  have hu := h.u
  obtain ⟨⟨a1, a2, a3, a4, a5⟩, b1, ⟨Rm, c1, c2⟩, ⟨d1, d2⟩, ⟨e1, e2⟩, ⟨f1, f2⟩, ⟨f, g1⟩, h1⟩ := h
  exact ⟨⟨(hf _ (by omega)).trans a1, a2.same (hf.on (by omega)), a3, SetA.same (b := W.1.1) (hf.on (by omega)) a4, a5⟩, b1, ⟨Rm, RoomA.same (b := W.1.1 + 3) (hf.on (by omega)) c1, c2⟩, ⟨(hf _ (by omega)).trans d1, d2⟩, ⟨hS, hw, hb⟩, ⟨f1.same (hf.on (by omega)), f2⟩, ⟨f, (hf _ (by omega)).trans g1⟩, h1.same (hf.on (by omega))⟩
theorem LedA.upBal {cy : Nat → ClassId} {A : AH} {W : LW} {g : Nat → Int64} (h : LedA cy A W) : LedA cy (upA A 230 (bX cy g)) W := by
  have hu := h.u
  have hf : SameOff A (upA A 230 (bX cy g)) 230 231 := (SameOff.refl A 230 231).up (by omega) (by omega)
  obtain ⟨⟨a1, a2, a3, a4, a5⟩, b1, ⟨Rm, c1, c2⟩, ⟨d1, d2⟩, ⟨e1, e2⟩, ⟨f1, f2⟩, ⟨f, g1⟩, h1⟩ := h
  exact ⟨⟨(hf _ (by omega)).trans a1, a2.same (hf.on (by omega)), a3, SetA.same (b := W.1.1) (hf.on (by omega)) a4, a5⟩, b1, ⟨Rm, RoomA.same (b := W.1.1 + 3) (hf.on (by omega)) c1, c2⟩, ⟨(hf _ (by omega)).trans d1, d2⟩, ⟨e1.same (hf.on (by omega)), e2⟩, ⟨f1.same (hf.on (by omega)), f2⟩, ⟨g, upA_eq⟩, h1.same (hf.on (by omega))⟩
theorem LedA.upBuf {cy : Nat → ClassId} {A : AH} {W : LW} {g : Nat → Int32} (h : LedA cy A W) : LedA cy (upA A 1 (.inl (cy 0, 400, .inl g))) (W.1, g, W.2.2) := by
  have hu := h.u
  have hf : SameOff A (upA A 1 (.inl (cy 0, 400, .inl g))) 1 2 := (SameOff.refl A 1 2).up (by omega) (by omega)
  obtain ⟨⟨a1, a2, a3, a4, a5⟩, b1, ⟨Rm, c1, c2⟩, ⟨d1, d2⟩, ⟨e1, e2⟩, ⟨f1, f2⟩, ⟨f, g1⟩, h1⟩ := h
  exact ⟨⟨(hf _ (by omega)).trans a1, a2.same (hf.on (by omega)), a3, SetA.same (b := W.1.1) (hf.on (by omega)) a4, a5⟩, b1, ⟨Rm, RoomA.same (b := W.1.1 + 3) (hf.on (by omega)) c1, c2⟩, ⟨upA_eq, d2⟩, ⟨e1.same (hf.on (by omega)), e2⟩, ⟨f1.same (hf.on (by omega)), f2⟩, ⟨f, (hf _ (by omega)).trans g1⟩, h1.same (hf.on (by omega))⟩
/-- the ledger's own fields that change: the buffer's length, hasSaved -/
theorem LedA.upObj {cy : Nat → ClassId} {A : AH} {W : LW} {n : Nat} {hs : Int32} (h : LedA cy A W) (hn : n ≤ 400) : LedA cy (upA A 0 (.inr (7, [.ref 1, .int (nI n), .ref 2, .ref W.1.1, .ref 18, .ref 39, .int hs, .ref 60, .ref 230]))) ((W.1.1, n, hs, W.1.2.2.2), W.2) := by
  have hu := h.u
  have hf : SameOff A (upA A 0 (.inr (7, [.ref 1, .int (nI n), .ref 2, .ref W.1.1, .ref 18, .ref 39, .int hs, .ref 60, .ref 230]))) 0 1 := (SameOff.refl A 0 1).up (by omega) (by omega)
  obtain ⟨⟨a1, a2, a3, a4, a5⟩, b1, ⟨Rm, c1, c2⟩, ⟨d1, d2⟩, ⟨e1, e2⟩, ⟨f1, f2⟩, ⟨f, g1⟩, h1⟩ := h
  exact ⟨⟨upA_eq, a2.same (hf.on (by omega)), a3, SetA.same (b := W.1.1) (hf.on (by omega)) a4, a5⟩, b1, ⟨Rm, RoomA.same (b := W.1.1 + 3) (hf.on (by omega)) c1, c2⟩, ⟨(hf _ (by omega)).trans d1, hn⟩, ⟨e1.same (hf.on (by omega)), e2⟩, ⟨f1.same (hf.on (by omega)), f2⟩, ⟨f, (hf _ (by omega)).trans g1⟩, h1.same (hf.on (by omega))⟩
def remK (K : HV) (S2 : StV) : HV := ((K.1 + 1) % 8, if K.2.1 < 8 then K.2.1 + 1 else 8, stU K.2.2 K.1 S2)
theorem WfH.rem {K : HV} {S2 : StV} (h : WfH K) (hw : WfS S2) (hb : WfB S2) : WfH (remK K S2) := by
  obtain ⟨h1, h2, h3⟩ := h
  refine ⟨Nat.mod_lt _ (by decide), ?_, fun k hk => ?_⟩
  · show (if K.2.1 < 8 then K.2.1 + 1 else 8) ≤ 8
    split <;> omega
  · show WfS (stU K.2.2 K.1 S2 k) ∧ WfB (stU K.2.2 K.1 S2 k)
    unfold stU
    split
    · exact ⟨hw, hb⟩
    · exact h3 k hk
theorem LedA.rem {cy : Nat → ClassId} {A A' : AH} {W : LW} {S2 : StV} (h : LedA cy A W) (hf : SameOff A A' 60 230) (he : StE (vS W.1) S2) (hS : HisA cy A' 60 (remK W.2.2.2 S2)) : LedA cy A' (W.1, W.2.1, W.2.2.1, remK W.2.2.2 S2) := h.upHis hf hS (h.2.2.2.2.2.1.2.rem (he.wf h.1.2.2.1) (he.wb h.2.1))
/-- a change: the state before it is remembered, the new one is R -/
def ChP (cy : Nat → ClassId) (A : AH) (W : LW) (R : StV → Prop) : AH → Prop := fun A' => SameOff A A' 0 231 ∧ ∃ S2 S' : StV, StE (vS W.1) S2 ∧ R S' ∧ LedA cy A' (vNow W.1 S', W.2.1, W.2.2.1, remK W.2.2.2 S2)
/-- the outcome of a call that may change the heap: P then, Px when it throws -/
def CP (l : Launch) (D : va_G) (cy : Nat → ClassId) (B : Nat) (od : Nat → Option Nat) (y : MethodName) (bytes : ByteArray) (maxL : Nat) (rt : Option FieldType) (rm : Room) (av : List Value) (A : AH) (oc : OC) (P Px : AH → Prop) : Prop := ∀ z, CX l D cy B od y bytes maxL rt rm av A z (fun v A' z' => ∃ r, oc = .inr r ∧ v = some r ∧ z' = z ∧ P A') (fun E A' => oc = .inl E ∧ Px A')
