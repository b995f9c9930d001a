/-! 17: contracts that change the heap; the last reads -/
theorem upA_eq {A : AH} {k : Nat} {x : va_E} : upA A k x k = some x := if_pos rfl
theorem upA_ne {A : AH} {k j : Nat} {x : va_E} (h : j ≠ k) : upA A k x j = A j := if_neg h
theorem upA_up {A : AH} {k : Nat} {x y : va_E} : upA (upA A k x) k y = upA A k y := by
  funext j
  unfold upA
  split <;> rfl
theorem upA_same {A : AH} {k : Nat} {x : va_E} (h : A k = some x) : upA A k x = A := by
  funext j
  unfold upA
  split
  · rename_i e; rw [e, h]
  · rfl
/-- the same at the places from b to c -/
def SameOn (A A' : AH) (b c : Nat) : Prop := ∀ k, b ≤ k → k < c → A' k = A k
/-- the same outside of them -/
def SameOff (A A' : AH) (b c : Nat) : Prop := ∀ k, k < b ∨ c ≤ k → A' k = A k
theorem SameOn.refl (A : AH) (b c : Nat) : SameOn A A b c := fun _ _ _ => rfl
theorem SameOff.refl (A : AH) (b c : Nat) : SameOff A A b c := fun _ _ => rfl
theorem SameOff.on {A A' : AH} {b c b' c' : Nat} (h : SameOff A A' b c) (hd : c' ≤ b ∨ c ≤ b') : SameOn A A' b' c' := fun k h1 h2 => h k (by omega)
theorem SameOff.wide {A A' : AH} {b c b' c' : Nat} (h : SameOff A A' b c) (h1 : b' ≤ b) (h2 : c ≤ c') : SameOff A A' b' c' := fun k hk => h k (by omega)
theorem SameOff.trans {A A' A2 : AH} {b c : Nat} (h : SameOff A A' b c) (h2 : SameOff A' A2 b c) : SameOff A A2 b c := fun k hk => (h2 k hk).trans (h k hk)
theorem SameOff.up {A A' : AH} {b c k : Nat} {x : va_E} (h : SameOff A A' b c) (h1 : b ≤ k) (h2 : k < c) : SameOff A (upA A' k x) b c := fun j hj => (upA_ne (by omega)).trans (h j hj)
theorem SameOn.trans {A A' A2 : AH} {b c : Nat} (h : SameOn A A' b c) (h2 : SameOn A' A2 b c) : SameOn A A2 b c := fun k hk hc => (h2 k hk hc).trans (h k hk hc)
theorem SameOn.up {A A' : AH} {b c k : Nat} {x : va_E} (h : SameOn A A' b c) (h1 : k < b ∨ c ≤ k) : SameOn A (upA A' k x) b c := fun j hj hc => (upA_ne (by omega)).trans (h j hj hc)
theorem EntA.same {cy : Nat → ClassId} {A A' : AH} {b : Nat} {E : EV} (h : SameOn A A' b (b + 8)) (h9 : EntA cy A b E) : EntA cy A' b E := by
  obtain ⟨h0, h1, h2, h3, h4, h5, h6, h7⟩ := h9
  exact ⟨(h _ (by omega) (by omega)).trans h0, (h _ (by omega) (by omega)).trans h1, (h _ (by omega) (by omega)).trans h2, (h _ (by omega) (by omega)).trans h3, (h _ (by omega) (by omega)).trans h4, (h _ (by omega) (by omega)).trans h5, (h _ (by omega) (by omega)).trans h6, (h _ (by omega) (by omega)).trans h7⟩
theorem RoomA.same {cy : Nat → ClassId} {A A' : AH} {b : Nat} {E : RV} (h : SameOn A A' b (b + 4)) (h9 : RoomA cy A b E) : RoomA cy A' b E := by
  obtain ⟨h0, h1, h2, h3⟩ := h9
  exact ⟨(h _ (by omega) (by omega)).trans h0, (h _ (by omega) (by omega)).trans h1, (h _ (by omega) (by omega)).trans h2, (h _ (by omega) (by omega)).trans h3⟩
theorem AssA.same {cy : Nat → ClassId} {A A' : AH} {b : Nat} {E : RV} (h : SameOn A A' b (b + 7)) (h9 : AssA cy A b E) : AssA cy A' b E := by
  obtain ⟨h0, h1, h2, h3, h4, h5, h6⟩ := h9
  exact ⟨(h _ (by omega) (by omega)).trans h0, (h _ (by omega) (by omega)).trans h1, (h _ (by omega) (by omega)).trans h2, (h _ (by omega) (by omega)).trans h3, (h _ (by omega) (by omega)).trans h4, (h _ (by omega) (by omega)).trans h5, (h _ (by omega) (by omega)).trans h6⟩
theorem SetA.same {cy : Nat → ClassId} {A A' : AH} {b : Nat} {E : SV} (h : SameOn A A' b (b + 3)) (h9 : SetA cy A b E) : SetA cy A' b E := by
  obtain ⟨h0, h1, h2⟩ := h9
  exact ⟨(h _ (by omega) (by omega)).trans h0, (h _ (by omega) (by omega)).trans h1, (h _ (by omega) (by omega)).trans h2⟩
theorem SameOn.sub {A A' : AH} {b c b' c' : Nat} (h : SameOn A A' b c) (h1 : b ≤ b') (h2 : c' ≤ c) : SameOn A A' b' c' := fun k hk hc => h k (by omega) (by omega)
theorem StA.same {cy : Nat → ClassId} {A A' : AH} {b : Nat} {S : StV} (h : SameOn A A' b (b + 21)) (h9 : StA cy A b S) : StA cy A' b S := by
  obtain ⟨h0, h1, h2, h3, h4⟩ := h9
  exact ⟨(h _ (by omega) (by omega)).trans h0, h1.same (h.sub (by omega) (by omega)), h2.same (h.sub (by omega) (by omega)), h3.same (h.sub (by omega) (by omega)), (h _ (by omega) (by omega)).trans h4⟩
/-- a method that returns and may change the heap -/
def CM (l : Launch) (D : va_G) (cy : Nat → ClassId) (B : Nat) (od : Nat → Option Nat) (y : MethodName) (bytes : ByteArray) (maxL : Nat) (rt : Option FieldType) (rm : Room) (av : List Value) (A : AH) (Q : Option Value → AH → Prop) : Prop := ∀ z, CT l D cy B od y bytes maxL rt rm av A z (fun v A' z' => z' = z ∧ Q v A')
/-- .. that may throw, too -/
def CMX (l : Launch) (D : va_G) (cy : Nat → ClassId) (B : Nat) (od : Nat → Option Nat) (y : MethodName) (bytes : ByteArray) (maxL : Nat) (rt : Option FieldType) (rm : Room) (av : List Value) (A : AH) (Q : Option Value → AH → Prop) (Qx : String → Prop) : Prop := ∀ z, CX l D cy B od y bytes maxL rt rm av A z (fun v A' z' => z' = z ∧ Q v A') (fun E A' => Qx E ∧ A' = A)
section CORE17
variable {p : Program} {l : Launch} {e : Env} {R : Room} {s : State} {m : MethodId} {args : Array Value} {below : List Frame} {meth : Method} {c : Code}
variable {D : va_G} {cy : Nat → ClassId} {B : Nat} {od : Nat → Option Nat} {cc : ByteArray} {nL : Nat} {tab : List PT} {own : String} {ret : Option FieldType}
variable {F : State → Prop} {cells slots : Nat} {A : AH} {z i pc len nx tg : Nat} {lv : List (Option Value)} {st : List Value}
variable {y : MethodName} {bytes : ByteArray} {maxL n ix : Nat} {rt : Option FieldType} {rm : Room} {As rest : List Value} {b : Nat} {Q : Option Value → AH → Prop}
theorem g_mV (X : Cx p s m args meth c D cy B od cc nL tab own ret) (hi : tab[i]? = some (pc, .invokevirtual ix, 3, nx, tg)) (hL : LkC y bytes maxL rt n) (hM : LkM own ix y) (hSe : LkSel y) (hC : CM l D cy B od y bytes maxL rt rm (.ref b :: As) A Q) {ci : Nat} {fs : List Value} {T : u_T} {N : Nat} (hA : A b = some (.inr (ci, fs))) (hc : vwCl[ci]? = some (y.cls, T, N)) (hst : st = As.reverse ++ .ref b :: rest) (hn : As.length = n) (hw : (rest.map fun v => v.category).sum ≤ 8) (hRm : (rm.frames + 1 ≤ R.frames ∧ 8 + (maxL + 11) + rm.locals ≤ R.locals) ∧ rm.cells = 0 ∧ rm.slots = 0) (hf : cells ≤ R.cells ∧ slots ≤ R.slots)
    (kk : ∀ (v : Option Value) (A' : AH), Q v A' → G p l e R s m args below meth c D B od nL tab F cells slots A' z nx lv (v.toList ++ rest)) : G p l e R s m args below meth c D B od nL tab F cells slots A z i lv st := by
  refine g_callV X hi hL hM hSe (hC z) hA hc hst hn hw hRm.1 (by rw [hRm.2.1, hRm.2.2]; exact hf) (fun v A' z' h => ?_)
  obtain ⟨rfl, h⟩ := h
  rw [hRm.2.1, hRm.2.2]
  exact kk v A' h
theorem g_mVN (X : Cx p s m args meth c D cy B od cc nL tab own ret) (hi : tab[i]? = some (pc, .invokevirtual ix, 3, nx, tg)) (hL : LkC y bytes maxL rt n) (hM : LkN own ix y) (hSe : LkSel y) (hC : CM l D cy B od y bytes maxL rt rm (.ref b :: As) A Q) {ci : Nat} {fs : List Value} {T : u_T} {N : Nat} (hA : A b = some (.inr (ci, fs))) (hc : vwCl[ci]? = some (y.cls, T, N)) (hst : st = As.reverse ++ .ref b :: rest) (hn : As.length = n) (hw : (rest.map fun v => v.category).sum ≤ 8) (hRm : (rm.frames + 1 ≤ R.frames ∧ 8 + (maxL + 11) + rm.locals ≤ R.locals) ∧ rm.cells = 0 ∧ rm.slots = 0) (hf : cells ≤ R.cells ∧ slots ≤ R.slots)
    (kk : ∀ (v : Option Value) (A' : AH), Q v A' → G p l e R s m args below meth c D B od nL tab F cells slots A' z nx lv (v.toList ++ rest)) : G p l e R s m args below meth c D B od nL tab F cells slots A z i lv st := by
  refine g_callVN X hi hL hM hSe (hC z) hA hc hst hn hw hRm.1 (by rw [hRm.2.1, hRm.2.2]; exact hf) (fun v A' z' h => ?_)
  obtain ⟨rfl, h⟩ := h
  rw [hRm.2.1, hRm.2.2]
  exact kk v A' h
theorem g_mS (X : Cx p s m args meth c D cy B od cc nL tab own ret) (hi : tab[i]? = some (pc, .invokestatic ix, 3, nx, tg)) (hL : LkC y bytes maxL rt n) (hM : LkM own ix y) (hSt : Cond.static y ∈ lw_good) (hC : CM l D cy B od y bytes maxL rt rm (As) A Q) (hst : st = As.reverse ++ rest) (hn : As.length = n) (hw : (rest.map fun v => v.category).sum ≤ 8) (hRm : (rm.frames + 1 ≤ R.frames ∧ 8 + (maxL + 11) + rm.locals ≤ R.locals) ∧ rm.cells = 0 ∧ rm.slots = 0) (hf : cells ≤ R.cells ∧ slots ≤ R.slots)
    (kk : ∀ (v : Option Value) (A' : AH), Q v A' → G p l e R s m args below meth c D B od nL tab F cells slots A' z nx lv (v.toList ++ rest)) : G p l e R s m args below meth c D B od nL tab F cells slots A z i lv st := by
  refine g_callS X hi hL hM hSt (hC z) hst hn hw hRm.1 (by rw [hRm.2.1, hRm.2.2]; exact hf) (fun v A' z' h => ?_)
  obtain ⟨rfl, h⟩ := h
  rw [hRm.2.1, hRm.2.2]
  exact kk v A' h
theorem g_mSN (X : Cx p s m args meth c D cy B od cc nL tab own ret) (hi : tab[i]? = some (pc, .invokestatic ix, 3, nx, tg)) (hL : LkC y bytes maxL rt n) (hM : LkN own ix y) (hSt : Cond.static y ∈ lw_good) (hC : CM l D cy B od y bytes maxL rt rm (As) A Q) (hst : st = As.reverse ++ rest) (hn : As.length = n) (hw : (rest.map fun v => v.category).sum ≤ 8) (hRm : (rm.frames + 1 ≤ R.frames ∧ 8 + (maxL + 11) + rm.locals ≤ R.locals) ∧ rm.cells = 0 ∧ rm.slots = 0) (hf : cells ≤ R.cells ∧ slots ≤ R.slots)
    (kk : ∀ (v : Option Value) (A' : AH), Q v A' → G p l e R s m args below meth c D B od nL tab F cells slots A' z nx lv (v.toList ++ rest)) : G p l e R s m args below meth c D B od nL tab F cells slots A z i lv st := by
  refine g_callSN X hi hL hM hSt (hC z) hst hn hw hRm.1 (by rw [hRm.2.1, hRm.2.2]; exact hf) (fun v A' z' h => ?_)
  obtain ⟨rfl, h⟩ := h
  rw [hRm.2.1, hRm.2.2]
  exact kk v A' h
theorem g_mI (X : Cx p s m args meth c D cy B od cc nL tab own ret) (hi : tab[i]? = some (pc, .invokespecial ix, 3, nx, tg)) (hL : LkC y bytes maxL none n) (hM : LkM own ix y) (hI : Cond.instanceMethod y ∈ lw_good) (hy : y.name = "<init>") (hC : CM l D cy B od y bytes maxL none rm (.ref b :: As) A Q) (hst : st = As.reverse ++ .ref b :: rest) (hn : As.length = n) (hw : (rest.map fun v => v.category).sum ≤ 8) (hRm : (rm.frames + 1 ≤ R.frames ∧ 8 + (maxL + 11) + rm.locals ≤ R.locals) ∧ rm.cells = 0 ∧ rm.slots = 0) (hf : cells ≤ R.cells ∧ slots ≤ R.slots)
    (kk : ∀ (v : Option Value) (A' : AH), Q v A' → G p l e R s m args below meth c D B od nL tab F cells slots A' z nx lv (v.toList ++ rest)) : G p l e R s m args below meth c D B od nL tab F cells slots A z i lv st := by
  refine g_callI X hi hL hM hI hy (hC z) hst hn hw hRm.1 (by rw [hRm.2.1, hRm.2.2]; exact hf) (fun v A' z' h => ?_)
  obtain ⟨rfl, h⟩ := h
  rw [hRm.2.1, hRm.2.2]
  exact kk v A' h
theorem g_mIN (X : Cx p s m args meth c D cy B od cc nL tab own ret) (hi : tab[i]? = some (pc, .invokespecial ix, 3, nx, tg)) (hL : LkC y bytes maxL none n) (hM : LkN own ix y) (hI : Cond.instanceMethod y ∈ lw_good) (hy : y.name = "<init>") (hC : CM l D cy B od y bytes maxL none rm (.ref b :: As) A Q) (hst : st = As.reverse ++ .ref b :: rest) (hn : As.length = n) (hw : (rest.map fun v => v.category).sum ≤ 8) (hRm : (rm.frames + 1 ≤ R.frames ∧ 8 + (maxL + 11) + rm.locals ≤ R.locals) ∧ rm.cells = 0 ∧ rm.slots = 0) (hf : cells ≤ R.cells ∧ slots ≤ R.slots)
    (kk : ∀ (v : Option Value) (A' : AH), Q v A' → G p l e R s m args below meth c D B od nL tab F cells slots A' z nx lv (v.toList ++ rest)) : G p l e R s m args below meth c D B od nL tab F cells slots A z i lv st := by
  refine g_callIN X hi hL hM hI hy (hC z) hst hn hw hRm.1 (by rw [hRm.2.1, hRm.2.2]; exact hf) (fun v A' z' h => ?_)
  obtain ⟨rfl, h⟩ := h
  rw [hRm.2.1, hRm.2.2]
  exact kk v A' h
end CORE17
theorem pos_ne {a : Int64} (h : 0 < a) : ¬ a = 0 := fun q => by subst q; exact absurd h Int64.lt_irrefl
