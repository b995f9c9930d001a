/-! 39: ArrayList, its iterator, boxed ints -/
section CORE39
variable {p : Program} {l : Launch} {e : Env} {R : Room} {s : State} {m : MethodId} {args : Array Value} {below : List Frame} {meth : Method} {c : Code}
variable {D : va_G} {cy : Nat → ClassId} {B : Nat} {od : Nat → Option Nat} {cc : ByteArray} {nL : Nat} {tab : List PT} {own : String} {ret : Option FieldType}
variable {F : State → Prop} {cells slots : Nat} {A : AH} {z i pc len nx tg : Nat} {lv : List (Option Value)} {st : List Value}
theorem g_aretA (X : Cx p s m args meth c D cy B od cc nL tab own ret) (hi : tab[i]? = some (pc, .areturn, 1, nx, tg)) {Q : QT} {Qx : QX} {mc ms : Nat} {b : Bool} {v : Nat} {nm : FieldType} (hr : ret = some (.array nm)) (hc : cells ≤ mc) (hs : slots ≤ ms) (hQ : Q (some (.ref v)) A z) : G p l e R s m args below meth c D B od nL tab (FinQ b D B od Q Qx args s below mc ms) cells slots A z i lv [.ref v] := by
  intro q hq H locs ls hR hS hl
  cases Option.some.inj (hi.symm.trans hq)
  have hret := X.2.2.2.2.1
  have hlk := X.2.2.2.2.2.1
  exact g_retW hc hs (W.aret (v := .ref (rho B od v)) X.1.1 X.1.2.1 (hret.trans hr) (Or.inr ⟨nm, rfl⟩) (Or.inr ⟨_, rfl⟩) (fun t ht _ => ⟨⟨some (.ref v), A, z, rfl, hQ, by rw [ht]; exact hR⟩, hS.F ht⟩) hS.2.2 (X.2.2.2.1.dec hi) hlk)
/-- the class object of an array of objects -/
theorem g_getC (X : Cx p s m args meth c D cy B od cc nL tab own ret) {ix : Nat} (hi : tab[i]? = some (pc, .invokevirtual ix, 3, nx, tg)) (hw : Cond.methodLink own ix ⟨"java/lang/Object", "getClass", "()Ljava/lang/Class;"⟩ ∈ lw_good ∧ Cond.selects "[Ljava/lang/Object;" ⟨"java/lang/Object", "getClass", "()Ljava/lang/Class;"⟩ ⟨"java/lang/Object", "getClass", "()Ljava/lang/Class;"⟩ ∈ lw_good ∧ Cond.instanceMethod ⟨"java/lang/Object", "getClass", "()Ljava/lang/Class;"⟩ ∈ lw_good ∧ Cond.native ⟨"java/lang/Object", "getClass", "()Ljava/lang/Class;"⟩ ∈ lw_good) {a n : Nat} {f : Nat → Option Nat} (hA : A a = some (.inl (cy 5, n, .inr (.inr (.inr (.inr f)))))) (hst : (st.map fun v => v.category).sum ≤ 8) (hRm : 1 ≤ R.frames ∧ 40 ≤ R.locals) (kk : G p l e R s m args below meth c D B od nL tab F cells slots A z nx lv (.ref 3000005 :: st)) : G p l e R s m args below meth c D B od nL tab F cells slots A z i lv (.ref a :: st) := by
  intro q hq H locs ls hR hS hl
  cases Option.some.inj (hi.symm.trans hq)
  obtain ⟨q2, hq2, e2⟩ := X.2.2.2.1.fall hi rfl
  have K := kk q2 hq2 H locs ls hR hS hl
  rw [e2] at K
  obtain ⟨mi, h1, h2⟩ := X.ox.2.2.2.2.1
  have h9 : ((st.map (trV B od)).map fun v => v.category).sum = (st.map fun v => v.category).sum := by
    rw [List.map_map, show ((fun v : Value => v.category) ∘ trV B od) = (fun v => v.category) from funext fun v => trV_cat B od v]
  have K2 : W p l e R s m args below meth c H locs cells slots F (F0 m (pc + 3) ls (.ref (rho B od 3000005) :: st.map (trV B od))) := K
  rw [rho_od h1] at K2
  have hat : H[rho B od a]? = some (vp_cell (cy 5) (n, .inr (.inr (.inr (.inr (fun j => (f j).map (rho B od))))))) := (hR.1 a _ hA).2
  exact va_getC X.1.1 X.1.2.1 (X.1.2.2.1.trans hl.1.symm) X.1.2.2.2.1 (X.1.2.2.2.2 _ hw.1) (va_Dc.use X.ox.2.2.2.1.1) (X.1.2.2.2.2 _ hw.2.1) (X.1.2.2.2.2 _ hw.2.2.1) (X.1.2.2.2.2 _ hw.2.2.2) h2 ⟨_, hat, rfl, va_nmO (X.2.1.2 5 _ rfl).2 (by decide)⟩ hRm.1 (by rw [h9]; omega) (X.2.2.2.1.dec hi) K2
theorem g_ldcM (X : Cx p s m args meth c D cy B od cc nL tab own ret) {ix : Nat} (hi : tab[i]? = some (pc, .ldc ix, 2, nx, tg)) (hw : Cond.classLink own ix "[Ljava/lang/Object;" ∈ lw_good) (kk : G p l e R s m args below meth c D B od nL tab F cells slots A z nx lv (.ref 3000005 :: st)) : G p l e R s m args below meth c D B od nL tab F cells slots A z i lv st := by
  intro q hq H locs ls hR hS hl
  cases Option.some.inj (hi.symm.trans hq)
  obtain ⟨q2, hq2, e2⟩ := X.2.2.2.1.fall hi rfl
  have K := kk q2 hq2 H locs ls hR hS hl
  rw [e2] at K
  obtain ⟨mi, h1, h2⟩ := X.ox.2.2.2.2.1
  have K2 : W p l e R s m args below meth c H locs cells slots F (F0 m (pc + 2) ls (.ref (rho B od 3000005) :: st.map (trV B od))) := K
  rw [rho_od h1] at K2
  exact va_ldcM X.1.1 X.1.2.1 X.1.2.2.2.1 (X.1.2.2.2.2 _ hw) h2 (X.2.2.2.1.dec hi) K2
end CORE39
/-- .. and where it may grow: what stood stands, at most n cells more -/
def Grw (A : AH) (z : Nat) (A' : AH) (z' n : Nat) : Prop := HLe A A' ∧ z ≤ z' ∧ z' ≤ z + n ∧ FRs A' z'
theorem Grw.rf {A : AH} {z : Nat} (h : FRs A z) : Grw A z A z 0 := ⟨HLe.rf A, Nat.le_refl _, Nat.le_refl _, h⟩
theorem Grw.tr {A A1 A2 : AH} {z z1 z2 n m : Nat} (h1 : Grw A z A1 z1 n) (h2 : Grw A1 z1 A2 z2 m) : Grw A z A2 z2 (n + m) := ⟨h1.1.tr h2.1, Nat.le_trans h1.2.1 h2.2.1, by have := h1.2.2.1; have := h2.2.2.1; omega, h2.2.2.2⟩
theorem Grw.wide {A A1 : AH} {z z1 n m : Nat} (h1 : Grw A z A1 z1 n) (h2 : n ≤ m) : Grw A z A1 z1 m := ⟨h1.1, h1.2.1, Nat.le_trans h1.2.2.1 (by omega), h1.2.2.2⟩
theorem Grw.new {A A1 : AH} {z z1 n : Nat} {x : va_E} (h : FRs A z) (h1 : Grw A z A1 z1 n) : Grw A z (upA A1 z1 x) (z1 + 1) (n + 1) := ⟨h1.1.up (h _ h1.2.1), Nat.le_succ_of_le h1.2.1, by have := h1.2.2.1; omega, h1.2.2.2.new⟩
theorem Grw.up {A A1 : AH} {z z1 n q : Nat} {x : va_E} (h : FRs A z) (h1 : Grw A z A1 z1 n) (hq : z ≤ q) (hq1 : q < z1) : Grw A z (upA A1 q x) z1 n := ⟨h1.1.up (h _ hq), h1.2.1, h1.2.2.1, h1.2.2.2.up hq1⟩
/-- a method that leaves what stands there as it is; it makes at most as many cells as its room says -/
def CG (l : Launch) (D : va_G) (cy : Nat → ClassId) (B : Nat) (od : Nat → Option Nat) (y : MethodName) (bytes : ByteArray) (maxL : Nat) (rt : Option FieldType) (rm : Room) (av : List Value) (A : AH) (Q : Option Value → AH → Prop) : Prop := ∀ z, FRs A z → z + rm.cells ≤ 900000 → CT l D cy B od y bytes maxL rt rm av A (z + 1) (fun v A' z' => Q v A' ∧ ∃ z1, z' = z1 + 1 ∧ Grw A z A' z1 rm.cells)
section CORE39B
variable {p : Program} {l : Launch} {e : Env} {R : Room} {s : State} {m : MethodId} {args : Array Value} {below : List Frame} {meth : Method} {c : Code}
variable {D : va_G} {cy : Nat → ClassId} {B : Nat} {od : Nat → Option Nat} {cc : ByteArray} {nL : Nat} {tab : List PT} {own : String} {ret : Option FieldType}
variable {F : State → Prop} {cells slots : Nat} {A : AH} {z i pc len nx tg : Nat} {lv : List (Option Value)} {st : List Value}
theorem g_more {c' s' : Nat} (hc : cells ≤ c') (hs : slots ≤ s') (kk : G p l e R s m args below meth c D B od nL tab F c' s' A z i lv st) : G p l e R s m args below meth c D B od nL tab F cells slots A z i lv st := fun q hq H locs ls hR hS hl => W.widen hc hs (kk q hq H locs ls hR hS hl)
variable {y : MethodName} {bytes : ByteArray} {maxL n ix : Nat} {rt : Option FieldType} {rm : Room} {As rest : List Value} {b : Nat} {Q : Option Value → AH → Prop}
theorem g_gV (X : Cx p s m args meth c D cy B od cc nL tab own ret) (hi : tab[i]? = some (pc, .invokevirtual ix, 3, nx, tg)) (hL : LkC y bytes maxL rt n) (hM : LkM own ix y) (hSe : LkSel y) (hC : CG l D cy B od y bytes maxL rt rm (.ref b :: As) A Q) (hF : FRs A z) (hz : z + rm.cells ≤ 900000) {ci : Nat} {fs : List Value} {T : u_T} {N : Nat} (hA : A b = some (.inr (ci, fs))) (hc : vwCl[ci]? = some (y.cls, T, N)) (hst : st = As.reverse ++ .ref b :: rest) (hn : As.length = n) (hw : (rest.map fun v => v.category).sum ≤ 8) (hRm : rm.frames + 1 ≤ R.frames ∧ 8 + (maxL + 11) + rm.locals ≤ R.locals) (hf : cells + rm.cells ≤ R.cells ∧ slots + rm.slots ≤ R.slots)
    (kk : ∀ (v : Option Value) (A' : AH) (z1 : Nat), Q v A' → Grw A z A' z1 rm.cells → G p l e R s m args below meth c D B od nL tab F (cells + rm.cells) (slots + rm.slots) A' (z1 + 1) nx lv (v.toList ++ rest)) : G p l e R s m args below meth c D B od nL tab F cells slots A (z + 1) i lv st := by
  refine g_callV X hi hL hM hSe (hC z hF hz) hA hc hst hn hw hRm hf (fun v A' z' h => ?_)
  obtain ⟨h1, z1, rfl, h2⟩ := h
  exact kk v A' z1 h1 h2
theorem g_gS (X : Cx p s m args meth c D cy B od cc nL tab own ret) (hi : tab[i]? = some (pc, .invokestatic ix, 3, nx, tg)) (hL : LkC y bytes maxL rt n) (hM : LkM own ix y) (hSt : Cond.static y ∈ lw_good) (hC : CG l D cy B od y bytes maxL rt rm As A Q) (hF : FRs A z) (hz : z + rm.cells ≤ 900000) (hst : st = As.reverse ++ rest) (hn : As.length = n) (hw : (rest.map fun v => v.category).sum ≤ 8) (hRm : rm.frames + 1 ≤ R.frames ∧ 8 + (maxL + 11) + rm.locals ≤ R.locals) (hf : cells + rm.cells ≤ R.cells ∧ slots + rm.slots ≤ R.slots)
    (kk : ∀ (v : Option Value) (A' : AH) (z1 : Nat), Q v A' → Grw A z A' z1 rm.cells → G p l e R s m args below meth c D B od nL tab F (cells + rm.cells) (slots + rm.slots) A' (z1 + 1) nx lv (v.toList ++ rest)) : G p l e R s m args below meth c D B od nL tab F cells slots A (z + 1) i lv st := by
  refine g_callS X hi hL hM hSt (hC z hF hz) hst hn hw hRm hf (fun v A' z' h => ?_)
  obtain ⟨h1, z1, rfl, h2⟩ := h
  exact kk v A' z1 h1 h2
theorem g_mF (X : Cx p s m args meth c D cy B od cc nL tab own ret) {x : MethodName} {C : String} {cnt : Nat} (hi : tab[i]? = some (pc, .invokeinterface ix cnt, 5, nx, tg)) (hL : LkC y bytes maxL rt n) (hM : Cond.methodLink own ix x ∈ lw_good) (hSe : Cond.selects C x y ∈ lw_good) (hIn : Cond.instanceMethod y ∈ lw_good) (hF9 : (C, x, y) ∈ faceL) (hx : (x.cls ≠ "java/lang/invoke/MethodHandle" ∧ x.cls ≠ "java/lang/invoke/VarHandle") ∧ (parseMethodDescriptor x.desc).map (fun d => d.parameters.length) = some n) (hC : CM l D cy B od y bytes maxL rt rm (.ref b :: As) A Q) {ci : Nat} {fs : List Value} {T : u_T} {N : Nat} (hA : A b = some (.inr (ci, fs))) (hc : vwCl[ci]? = some (C, T, N)) (hst : st = As.reverse ++ .ref b :: rest) (hn : As.length = n) (hw : (rest.map fun v => v.category).sum ≤ 8) (hRm : (rm.frames + 1 ≤ R.frames ∧ 8 + (maxL + 11) + rm.locals ≤ R.locals) ∧ rm.cells = 0 ∧ rm.slots = 0) (hf : cells ≤ R.cells ∧ slots ≤ R.slots)
    (kk : ∀ (v : Option Value) (A' : AH), Q v A' → G p l e R s m args below meth c D B od nL tab F cells slots A' z nx lv (v.toList ++ rest)) : G p l e R s m args below meth c D B od nL tab F cells slots A z i lv st := by
  refine g_callF X hi hL hM hSe hIn hF9 hx (hC z) hA hc hst hn hw hRm.1 (by rw [hRm.2.1, hRm.2.2]; exact hf) (fun v A' z' h => ?_)
  obtain ⟨rfl, h⟩ := h
  rw [hRm.2.1, hRm.2.2]
  exact kk v A' h
end CORE39B
/-- a list at k: its count of changes, where its array lies, n elements f -/
def LsC (cy : Nat → ClassId) (A : AH) (k : Nat) (mc : Int32) (ed n : Nat) (f : Nat → Nat) : Prop := A k = some (.inr (9, [.int mc, .ref ed, .int (nI n)])) ∧ n < 1000 ∧ ((n = 0 ∧ ed = 3000001) ∨ (ed ≠ 3000001 ∧ ∃ cap g, A ed = some (.inl (cy 5, cap, .inr (.inr (.inr (.inr g))))) ∧ n ≤ cap ∧ 10 ≤ cap ∧ cap ≤ 109 ∧ ∀ j, j < n → g j = some (f j))) ∧ ∀ j, j < n → ObjA cy A (f j)
theorem LsC.fr {cy : Nat → ClassId} {A A' : AH} {k ed n : Nat} {mc : Int32} {f : Nat → Nat} (h : LsC cy A k mc ed n f) (h1 : A' k = A k) (h2 : ed ≠ 3000001 → A' ed = A ed) (h3 : ∀ j, j < n → ObjA cy A (f j) → ObjA cy A' (f j)) : LsC cy A' k mc ed n f := by
  obtain ⟨g1, g0, g2, g3⟩ := h
  refine ⟨h1.trans g1, g0, ?_, fun j hj => h3 j hj (g3 j hj)⟩
  rcases g2 with h | ⟨h0, cap, g, h4, h5⟩
  · exact Or.inl h
  · exact Or.inr ⟨h0, cap, g, (h2 h0).trans h4, h5⟩
theorem LsC.le {cy : Nat → ClassId} {A A' : AH} {k ed n : Nat} {mc : Int32} {f : Nat → Nat} (h : LsC cy A k mc ed n f) (hl : HLe A A') : LsC cy A' k mc ed n f := by
  obtain ⟨g1, g0, g2, g3⟩ := h
  refine ⟨hl _ _ g1, g0, ?_, fun j hj => (g3 j hj).le hl⟩
  rcases g2 with h | ⟨h0, cap, g, h4, h5⟩
  · exact Or.inl h
  · exact Or.inr ⟨h0, cap, g, hl _ _ h4, h5⟩
theorem LsC.arr {cy : Nat → ClassId} {A : AH} {k ed n j : Nat} {mc : Int32} {f : Nat → Nat} (h : LsC cy A k mc ed n f) (hj : j < n) : ∃ cap g, A ed = some (.inl (cy 5, cap, .inr (.inr (.inr (.inr g))))) ∧ n ≤ cap ∧ 10 ≤ cap ∧ cap ≤ 109 ∧ ∀ j, j < n → g j = some (f j) := by
  rcases h.2.2.1 with ⟨h1, -⟩ | ⟨-, h⟩
  · omega
  · exact h
theorem LsC.ext {cy : Nat → ClassId} {A : AH} {k ed n : Nat} {mc : Int32} {f f' : Nat → Nat} (h : LsC cy A k mc ed n f) (he : ∀ j, j < n → f' j = f j) : LsC cy A k mc ed n f' := by
  obtain ⟨g1, g0, g2, g3⟩ := h
  refine ⟨g1, g0, ?_, fun j hj => by rw [he j hj]; exact g3 j hj⟩
  rcases g2 with h | ⟨h0, cap, g, h4, h5, h6, h7, h8⟩
  · exact Or.inl h
  · exact Or.inr ⟨h0, cap, g, h4, h5, h6, h7, fun j hj => by rw [he j hj]; exact h8 j hj⟩
/-- an iterator: where it is, what it gave last, the list's count of changes, the list -/
def itE (i : Nat) (lr mc : Int32) (k : Nat) : va_E := .inr (10, [.int (nI i), .int lr, .int mc, .ref k])
theorem AH.ne {A : AH} {j k : Nat} {x y : va_E} (hj : A j = some x) (hk : A k = some y) (hn : x ≠ y) : j ≠ k := fun e => by subst e; rw [hj] at hk; cases hk; exact hn rfl
theorem ObjA.up {cy : Nat → ClassId} {A : AH} {b k : Nat} {x : va_E} (h : ObjA cy A b) (hk : A k = none) : ObjA cy (upA A k x) b := h.le ((HLe.rf A).up hk)
/-- what is written doesn't change what it may be put into -/
theorem ObjA.upL {cy : Nat → ClassId} {A : AH} {b k : Nat} {fs fs' : List Value} (h : ObjA cy A b) (hk : A k = some (.inr (9, fs))) : ObjA cy (upA A k (.inr (9, fs'))) b := by
  have hne : ∀ x, A b = some x → x ≠ .inr (9, fs) → upA A k (.inr (9, fs')) b = some x := fun x hx hn => (upA_ne (AH.ne hx hk hn)).trans hx
  rcases h with ⟨n, f, h⟩ | ⟨gs, h⟩ | ⟨gs, h⟩ | h
  · exact Or.inl ⟨n, f, hne _ h (by intro q; cases q)⟩
  · exact Or.inr (Or.inl ⟨gs, hne _ h (by intro q; cases q)⟩)
  · exact Or.inr (Or.inr (Or.inl ⟨gs, hne _ h (by intro q; cases q)⟩))
  · exact Or.inr (Or.inr (Or.inr h))
theorem ObjA.upQ {cy : Nat → ClassId} {A : AH} {b k n : Nat} {f f' : Nat → Option Nat} (h : ObjA cy A b) (hk : A k = some (.inl (cy 5, n, .inr (.inr (.inr (.inr f)))))) : ObjA cy (upA A k (.inl (cy 5, n, .inr (.inr (.inr (.inr f')))))) b := by
  have hne : ∀ x, A b = some x → x ≠ .inl (cy 5, n, .inr (.inr (.inr (.inr f)))) → upA A k (.inl (cy 5, n, .inr (.inr (.inr (.inr f'))))) b = some x := fun x hx hn => (upA_ne (AH.ne hx hk hn)).trans hx
  rcases h with ⟨n, f, h⟩ | ⟨gs, h⟩ | ⟨gs, h⟩ | h
  · exact Or.inl ⟨n, f, hne _ h (by simp)⟩
  · exact Or.inr (Or.inl ⟨gs, hne _ h (by simp)⟩)
  · exact Or.inr (Or.inr (Or.inl ⟨gs, hne _ h (by simp)⟩))
  · exact Or.inr (Or.inr (Or.inr h))
theorem nI_d1 : ∀ n, n < 110 → nI (n + 1) - nI n = nI 1 := by decide
theorem nI_h : ∀ n, n < 110 → nI n >>> (nI 1 &&& 31) = nI (n / 2) := by decide
set_option maxRecDepth 100000 in
set_option maxHeartbeats 400000 in
theorem cr_chk (l : Launch) (D : va_G) (cy : Nat → ClassId) (B : Nat) (od : Nat → Option Nat) {A : AH} {i n : Nat} (hi : i < n) (hn : n < 2 ^ 31) : CR l D cy B od yJ3_checkIndex_8e157 cJ3_checkIndex_8e157 3 (some .int) rmJ3_checkIndex_8e157 [.int (nI i), .int (nI n), .null] A (.int (nI i)) := by
  intro z
  refine CT.of (by decide) tJ3_checkIndex_8e157 okJ3_checkIndex_8e157 (Nat.le_of_ble_eq_true rfl) (q0 := tJ3_checkIndex_8e157[0]) rfl rfl ?_
  intro p e s m args below meth c X hnm
  refine g_iload_n X rfl rfl ?_
  refine g_if_lt X rfl (fun h => absurd h (nI_pos (by omega))) (fun _ => ?_)
  · refine g_iload_n X rfl rfl ?_
    refine g_iload_n X rfl rfl ?_
    refine g_ic_ltN X rfl (by omega) (by omega) (fun _ => ?_) (fun h => absurd hi (by omega))
    · refine g_iload_n X rfl rfl ?_
      exact g_iret X rfl rfl (by first | rfl | exact bI_nar _ | decide) (Nat.le_of_ble_eq_true rfl) (Nat.le_of_ble_eq_true rfl) ⟨rfl, rfl, rfl⟩
set_option maxRecDepth 100000 in
set_option maxHeartbeats 400000 in
theorem cr_oix (l : Launch) (D : va_G) (cy : Nat → ClassId) (B : Nat) (od : Nat → Option Nat) {A : AH} {i n : Nat} (hi : i < n) (hn : n < 2 ^ 31) : CR l D cy B od yJ15_checkIndex_7cf53 cJ15_checkIndex_7cf53 2 (some .int) rmJ15_checkIndex_7cf53 [.int (nI i), .int (nI n)] A (.int (nI i)) := by
  intro z
  refine CT.of (by decide) tJ15_checkIndex_7cf53 okJ15_checkIndex_7cf53 (Nat.le_of_ble_eq_true rfl) (q0 := tJ15_checkIndex_7cf53[0]) rfl rfl ?_
  intro p e s m args below meth c X hnm
  refine g_iload_n X rfl rfl ?_
  refine g_iload_n X rfl rfl ?_
  refine g_null X rfl ?_
  refine g_rS X rfl lcJ3_checkIndex_8e157 lmJ15_105 stJ3_checkIndex_8e157 (cr_chk l D cy B od hi hn) rfl rfl (Nat.le_of_ble_eq_true rfl) ⟨⟨by decide, by decide⟩, rfl, rfl⟩ ⟨Nat.le_of_ble_eq_true rfl, Nat.le_of_ble_eq_true rfl⟩ ?_
  exact g_iret X rfl rfl (by first | rfl | exact bI_nar _ | decide) (Nat.le_of_ble_eq_true rfl) (Nat.le_of_ble_eq_true rfl) ⟨rfl, rfl, rfl⟩
set_option maxRecDepth 100000 in
set_option maxHeartbeats 400000 in
theorem cr_size (l : Launch) (D : va_G) (cy : Nat → ClassId) (B : Nat) (od : Nat → Option Nat) {A : AH} {k ed n : Nat} {mc : Int32} {f : Nat → Nat} (hL : LsC cy A k mc ed n f) : CR l D cy B od yJx4a65c_size_8abf5 cJx4a65c_size_8abf5 1 (some .int) rmJx4a65c_size_8abf5 [.ref k] A (.int (nI n)) := by
  intro z
  refine CT.of (by decide) tJx4a65c_size_8abf5 okJx4a65c_size_8abf5 (Nat.le_of_ble_eq_true rfl) (q0 := tJx4a65c_size_8abf5[0]) rfl rfl ?_
  intro p e s m args below meth c X hnm
  refine g_aload_n X rfl rfl ?_
  refine g_get X rfl flJx4a65c_48 (ci := 9) rfl (hL.1) rfl ?_
  exact g_iret X rfl rfl (by first | rfl | exact bI_nar _ | decide) (Nat.le_of_ble_eq_true rfl) (Nat.le_of_ble_eq_true rfl) ⟨rfl, rfl, rfl⟩
set_option maxRecDepth 100000 in
set_option maxHeartbeats 400000 in
theorem cr_isEmpty (l : Launch) (D : va_G) (cy : Nat → ClassId) (B : Nat) (od : Nat → Option Nat) {A : AH} {k ed n : Nat} {mc : Int32} {f : Nat → Nat} (hL : LsC cy A k mc ed n f) : CR l D cy B od yJx4a65c_isEmpty_aae02 cJx4a65c_isEmpty_aae02 1 (some .boolean) rmJx4a65c_isEmpty_aae02 [.ref k] A (.int (bI (decide (n = 0)))) := by
  intro z
  refine CT.of (by decide) tJx4a65c_isEmpty_aae02 okJx4a65c_isEmpty_aae02 (Nat.le_of_ble_eq_true rfl) (q0 := tJx4a65c_isEmpty_aae02[0]) rfl rfl ?_
  intro p e s m args below meth c X hnm
  refine g_aload_n X rfl rfl ?_
  refine g_get X rfl flJx4a65c_48 (ci := 9) rfl (hL.1) rfl ?_
  refine g_if_ne X rfl (fun h => ?_) (fun h => ?_)
  · have h0 : ¬ n = 0 := fun q => h (by subst q; rfl)
    refine g_iconst X rfl (v := nI 0) (by decide) ?_
    exact g_iret X rfl rfl (by first | rfl | exact bI_nar _ | decide) (Nat.le_of_ble_eq_true rfl) (Nat.le_of_ble_eq_true rfl) ⟨by first | exact congrArg (fun q => some (Value.int (bI q))) (decide_eq_true h0).symm | exact congrArg (fun q => some (Value.int (bI q))) (decide_eq_false h0).symm, rfl, rfl⟩
  · have h0 : n = 0 := (nI_eq (by have := hL.2.1; omega) (by omega)).mp h
    refine g_iconst X rfl (v := nI 1) (by decide) ?_
    refine g_goto X rfl ?_
    exact g_iret X rfl rfl (by first | rfl | exact bI_nar _ | decide) (Nat.le_of_ble_eq_true rfl) (Nat.le_of_ble_eq_true rfl) ⟨by first | exact congrArg (fun q => some (Value.int (bI q))) (decide_eq_true h0).symm | exact congrArg (fun q => some (Value.int (bI q))) (decide_eq_false h0).symm, rfl, rfl⟩
set_option maxRecDepth 100000 in
set_option maxHeartbeats 400000 in
theorem cr_elem (l : Launch) (D : va_G) (cy : Nat → ClassId) (B : Nat) (od : Nat → Option Nat) {A : AH} {k ed n : Nat} {mc : Int32} {f : Nat → Nat} (hL : LsC cy A k mc ed n f) {j : Nat} (hj : j < n) : CR l D cy B od yJx4a65c_elementData_915e3 cJx4a65c_elementData_915e3 2 (some (.object "java/lang/Object")) rmJx4a65c_elementData_915e3 [.ref k, .int (nI j)] A (.ref (f j)) := by
  intro z
  refine CT.of (by decide) tJx4a65c_elementData_915e3 okJx4a65c_elementData_915e3 (Nat.le_of_ble_eq_true rfl) (q0 := tJx4a65c_elementData_915e3[0]) rfl rfl ?_
  intro p e s m args below meth c X hnm
  obtain ⟨cap, g, ha, hc, -, hc2, hg⟩ := hL.arr hj
  refine g_aload_n X rfl rfl ?_
  refine g_get X rfl flJx4a65c_9 (ci := 9) rfl (hL.1) rfl ?_
  refine g_iload_n X rfl rfl ?_
  refine g_aaldO X rfl ha (by omega) (by omega) (hg j hj) ?_
  exact g_aret X rfl rfl (Nat.le_of_ble_eq_true rfl) (Nat.le_of_ble_eq_true rfl) ⟨rfl, rfl, rfl⟩
set_option maxRecDepth 100000 in
set_option maxHeartbeats 400000 in
theorem cr_get (l : Launch) (D : va_G) (cy : Nat → ClassId) (B : Nat) (od : Nat → Option Nat) {A : AH} {k ed n : Nat} {mc : Int32} {f : Nat → Nat} (hL : LsC cy A k mc ed n f) {j : Nat} (hj : j < n) : CR l D cy B od yJx4a65c_get_915e3 cJx4a65c_get_915e3 2 (some (.object "java/lang/Object")) rmJx4a65c_get_915e3 [.ref k, .int (nI j)] A (.ref (f j)) := by
  intro z
  refine CT.of (by decide) tJx4a65c_get_915e3 okJx4a65c_get_915e3 (Nat.le_of_ble_eq_true rfl) (q0 := tJx4a65c_get_915e3[0]) rfl rfl ?_
  intro p e s m args below meth c X hnm
  refine g_iload_n X rfl rfl ?_
  refine g_aload_n X rfl rfl ?_
  refine g_get X rfl flJx4a65c_48 (ci := 9) rfl (hL.1) rfl ?_
  refine g_rS X rfl lcJ15_checkIndex_7cf53 lmJx4a65c_118 stJ15_checkIndex_7cf53 (cr_oix l D cy B od hj (by have := hL.2.1; omega)) rfl rfl (Nat.le_of_ble_eq_true rfl) ⟨⟨by decide, by decide⟩, rfl, rfl⟩ ⟨Nat.le_of_ble_eq_true rfl, Nat.le_of_ble_eq_true rfl⟩ ?_
  refine g_pop X rfl rfl ?_
  refine g_aload_n X rfl rfl ?_
  refine g_iload_n X rfl rfl ?_
  refine g_rV X rfl lcJx4a65c_elementData_915e3 lmJx4a65c_123 lsJx4a65c_elementData_915e3 (cr_elem l D cy B od hL hj) (ci := 9) (hL.1) rfl rfl rfl (Nat.le_of_ble_eq_true rfl) ⟨⟨by decide, by decide⟩, rfl, rfl⟩ ⟨Nat.le_of_ble_eq_true rfl, Nat.le_of_ble_eq_true rfl⟩ ?_
  exact g_aret X rfl rfl (Nat.le_of_ble_eq_true rfl) (Nat.le_of_ble_eq_true rfl) ⟨rfl, rfl, rfl⟩
set_option maxRecDepth 100000 in
set_option maxHeartbeats 400000 in
theorem cm_AC_init (l : Launch) (D : va_G) (cy : Nat → ClassId) (B : Nat) (od : Nat → Option Nat) {A : AH} {b : Nat} : CM l D cy B od yJxa1e45_init_da8c8 cJxa1e45_init_da8c8 1 none rmJxa1e45_init_da8c8 [.ref b] A (fun v A' => v = none ∧ A' = A) := by
  intro z
  refine CT.of (by decide) tJxa1e45_init_da8c8 okJxa1e45_init_da8c8 (Nat.le_of_ble_eq_true rfl) (q0 := tJxa1e45_init_da8c8[0]) rfl rfl ?_
  intro p e s m args below meth c X hnm
  refine g_aload_n X rfl rfl ?_
  refine g_objInit X rfl oiJxa1e45_1 (by decide) (Nat.le_of_ble_eq_true rfl) (by decide) ?_
  exact g_vret X rfl rfl (Nat.le_of_ble_eq_true rfl) (Nat.le_of_ble_eq_true rfl) ⟨rfl, rfl, rfl⟩
set_option maxRecDepth 100000 in
set_option maxHeartbeats 400000 in
theorem cm_AB_init (l : Launch) (D : va_G) (cy : Nat → ClassId) (B : Nat) (od : Nat → Option Nat) {A : AH} {b : Nat} {x y : Int32} {v1 : Value} (hb : A b = some (.inr (9, [.int x, v1, .int y]))) : CM l D cy B od yJxc12de_init_da8c8 cJxc12de_init_da8c8 1 none rmJxc12de_init_da8c8 [.ref b] A (fun v A' => v = none ∧ A' = upA A b (.inr (9, [.int (nI 0), v1, .int y]))) := by
  intro z
  refine CT.of (by decide) tJxc12de_init_da8c8 okJxc12de_init_da8c8 (Nat.le_of_ble_eq_true rfl) (q0 := tJxc12de_init_da8c8[0]) rfl rfl ?_
  intro p e s m args below meth c X hnm
  refine g_aload_n X rfl rfl ?_
  refine g_mI X rfl lcJxa1e45_init_da8c8 lmJxc12de_1 liJxa1e45_init_da8c8 rfl (cm_AC_init l D cy B od) rfl rfl (Nat.le_of_ble_eq_true rfl) ⟨⟨by decide, by decide⟩, rfl, rfl⟩ ⟨Nat.le_of_ble_eq_true rfl, Nat.le_of_ble_eq_true rfl⟩ (fun v1 A1 q1 => ?_)
  obtain ⟨rfl, rfl⟩ := q1
  refine g_aload_n X rfl rfl ?_
  refine g_iconst X rfl (v := nI 0) (by decide) ?_
  refine g_put X rfl flJxc12de_7 rfl (ci := 9) rfl (hb) (Nat.le_of_ble_eq_true rfl) (by rfl) (by rfl) ?_
  exact g_vret X rfl rfl (Nat.le_of_ble_eq_true rfl) (Nat.le_of_ble_eq_true rfl) ⟨rfl, rfl, rfl⟩
set_option maxRecDepth 100000 in
set_option maxHeartbeats 400000 in
theorem cm_AL_init (l : Launch) (D : va_G) (cy : Nat → ClassId) (B : Nat) (od : Nat → Option Nat) {A : AH} {b : Nat} {x y : Int32} {v1 : Value} (hb : A b = some (.inr (9, [.int x, v1, .int y]))) : CM l D cy B od yJx4a65c_init_da8c8 cJx4a65c_init_da8c8 1 none rmJx4a65c_init_da8c8 [.ref b] A (fun v A' => v = none ∧ A' = upA A b (.inr (9, [.int (nI 0), .ref 3000001, .int y]))) := by
  intro z
  refine CT.of (by decide) tJx4a65c_init_da8c8 okJx4a65c_init_da8c8 (Nat.le_of_ble_eq_true rfl) (q0 := tJx4a65c_init_da8c8[0]) rfl rfl ?_
  intro p e s m args below meth c X hnm
  refine g_aload_n X rfl rfl ?_
  refine g_mI X rfl lcJxc12de_init_da8c8 lmJx4a65c_1 liJxc12de_init_da8c8 rfl (cm_AB_init l D cy B od hb) rfl rfl (Nat.le_of_ble_eq_true rfl) ⟨⟨by decide, by decide⟩, rfl, rfl⟩ ⟨Nat.le_of_ble_eq_true rfl, Nat.le_of_ble_eq_true rfl⟩ (fun v1 A1 q1 => ?_)
  obtain ⟨rfl, rfl⟩ := q1
  refine g_aload_n X rfl rfl ?_
  refine g_gst X rfl gsJx4a65c_39 X.zE ?_
  refine g_put X rfl flJx4a65c_9 rfl (ci := 9) rfl (upA_eq) (Nat.le_of_ble_eq_true rfl) (by rfl) (by rfl) ?_
  refine g_vret X rfl rfl (Nat.le_of_ble_eq_true rfl) (Nat.le_of_ble_eq_true rfl) ⟨rfl, rfl, ?_⟩
  exact upA_up
set_option maxRecDepth 100000 in
set_option maxHeartbeats 400000 in
theorem cm_it_init (l : Launch) (D : va_G) (cy : Nat → ClassId) (B : Nat) (od : Nat → Option Nat) {A : AH} {b k ed : Nat} {mc y : Int32} (hk : A k = some (.inr (9, [.int mc, .ref ed, .int y]))) (hb : A b = some (.inr (10, [.int (nI 0), .int (nI 0), .int (nI 0), .null]))) : CM l D cy B od yJx35411_init_45d68 cJx35411_init_45d68 2 none rmJx35411_init_45d68 [.ref b, .ref k] A (fun v A' => v = none ∧ A' = upA A b (itE 0 (-1) mc k)) := by
  intro z
  refine CT.of (by decide) tJx35411_init_45d68 okJx35411_init_45d68 (Nat.le_of_ble_eq_true rfl) (q0 := tJx35411_init_45d68[0]) rfl rfl ?_
  intro p e s m args below meth c X hnm
  have hbk : k ≠ b := AH.ne hk hb (by intro q; cases q)
  refine g_aload_n X rfl rfl ?_
  refine g_aload_n X rfl rfl ?_
  refine g_putF X rfl flJx35411_1 rfl hnm rfl ffJx35411_1 (ci := 10) rfl hb (Nat.le_of_ble_eq_true rfl) (by rfl) (by rfl) ?_
  refine g_aload_n X rfl rfl ?_
  refine g_objInit X rfl oiJx35411_7 (by decide) (Nat.le_of_ble_eq_true rfl) (by decide) ?_
  refine g_aload_n X rfl rfl ?_
  refine g_iconst X rfl (v := (-1)) (by decide) ?_
  refine g_put X rfl flJx35411_13 rfl (ci := 10) rfl (upA_eq) (Nat.le_of_ble_eq_true rfl) (by rfl) (by rfl) ?_
  refine g_aload_n X rfl rfl ?_
  refine g_aload_n X rfl rfl ?_
  refine g_get X rfl flJx35411_1 (ci := 10) rfl (upA_eq) rfl ?_
  refine g_getR X rfl frJx35411_17 (ci := 9) rfl ((upA_ne hbk).trans ((upA_ne hbk).trans hk)) rfl ?_
  refine g_put X rfl flJx35411_22 rfl (ci := 10) rfl (upA_eq) (Nat.le_of_ble_eq_true rfl) (by rfl) (by rfl) ?_
  refine g_vret X rfl rfl (Nat.le_of_ble_eq_true rfl) (Nat.le_of_ble_eq_true rfl) ⟨rfl, rfl, ?_⟩
  rw [upA_up, upA_up]; rfl
set_option maxRecDepth 100000 in
set_option maxHeartbeats 400000 in
theorem ct_iterator (l : Launch) (D : va_G) (cy : Nat → ClassId) (B : Nat) (od : Nat → Option Nat) {A : AH} {k ed n : Nat} {mc : Int32} {f : Nat → Nat} (hL : LsC cy A k mc ed n f) {z : Nat} (hF : FRs A z) (hz : z < 1000000) : CT l D cy B od yJx4a65c_iterator_32c93 cJx4a65c_iterator_32c93 1 (some (.object "java/util/Iterator")) rmJx4a65c_iterator_32c93 [.ref k] A (z + 1) (fun v A' z' => v = some (.ref z) ∧ A' = upA A z (itE 0 (-1) mc k) ∧ z' = z + 2) := by
  refine CT.of (by decide) tJx4a65c_iterator_32c93 okJx4a65c_iterator_32c93 (Nat.le_of_ble_eq_true rfl) (q0 := tJx4a65c_iterator_32c93[0]) rfl rfl ?_
  intro p e s m args below meth c X hnm
  have hk : k ≠ z := fun e => by subst e; have := hL.1; rw [hF.at] at this; cases this
  refine g_new X rfl nwJx4a65c_267 (ci := 10) rfl (fs := [.int (nI 0), .int (nI 0), .int (nI 0), .null]) rfl rfl hz (Nat.le_of_ble_eq_true rfl) (Nat.le_of_ble_eq_true rfl) ?_
  refine g_dup X rfl rfl ?_
  refine g_aload_n X rfl rfl ?_
  refine g_mI X rfl lcJx35411_init_45d68 lmJx4a65c_269 liJx35411_init_45d68 rfl (cm_it_init l D cy B od ((upA_ne hk).trans hL.1) upA_eq) rfl rfl (Nat.le_of_ble_eq_true rfl) ⟨⟨by decide, by decide⟩, rfl, rfl⟩ ⟨Nat.le_of_ble_eq_true rfl, Nat.le_of_ble_eq_true rfl⟩ (fun v1 A1 q1 => ?_)
  obtain ⟨rfl, rfl⟩ := q1
  refine g_aret X rfl rfl (Nat.le_of_ble_eq_true rfl) (Nat.le_of_ble_eq_true rfl) ⟨rfl, ?_, rfl⟩
  exact upA_up
set_option maxRecDepth 100000 in
set_option maxHeartbeats 400000 in
theorem cm_it_chk (l : Launch) (D : va_G) (cy : Nat → ClassId) (B : Nat) (od : Nat → Option Nat) {A : AH} {b k ed i : Nat} {mc lr y : Int32} (hk : A k = some (.inr (9, [.int mc, .ref ed, .int y]))) (hb : A b = some (itE i lr mc k)) : CM l D cy B od yJx35411_checkForComodification_da8c8 cJx35411_checkForComodification_da8c8 1 none rmJx35411_checkForComodification_da8c8 [.ref b] A (fun v A' => v = none ∧ A' = A) := by
  intro z
  refine CT.of (by decide) tJx35411_checkForComodification_da8c8 okJx35411_checkForComodification_da8c8 (Nat.le_of_ble_eq_true rfl) (q0 := tJx35411_checkForComodification_da8c8[0]) rfl rfl ?_
  intro p e s m args below meth c X hnm
  refine g_aload_n X rfl rfl ?_
  refine g_get X rfl flJx35411_1 (ci := 10) rfl (hb) rfl ?_
  refine g_getR X rfl frJx35411_17 (ci := 9) rfl hk rfl ?_
  refine g_aload_n X rfl rfl ?_
  refine g_get X rfl flJx35411_22 (ci := 10) rfl (hb) rfl ?_
  refine g_icmp_eq X rfl (fun _ => ?_) (fun h => absurd rfl h)
  · exact g_vret X rfl rfl (Nat.le_of_ble_eq_true rfl) (Nat.le_of_ble_eq_true rfl) ⟨rfl, rfl, rfl⟩
set_option maxRecDepth 100000 in
set_option maxHeartbeats 400000 in
theorem cr_hasNext (l : Launch) (D : va_G) (cy : Nat → ClassId) (B : Nat) (od : Nat → Option Nat) {A : AH} {b k i n : Nat} {mc mc2 lr : Int32} {v1 : Value} (hk : A k = some (.inr (9, [.int mc2, v1, .int (nI n)]))) (hb : A b = some (itE i lr mc k)) (hi : i ≤ n) (hn : n < 1000) : CR l D cy B od yJx35411_hasNext_aae02 cJx35411_hasNext_aae02 1 (some .boolean) rmJx35411_hasNext_aae02 [.ref b] A (.int (bI (decide (i < n)))) := by
  intro z
  refine CT.of (by decide) tJx35411_hasNext_aae02 okJx35411_hasNext_aae02 (Nat.le_of_ble_eq_true rfl) (q0 := tJx35411_hasNext_aae02[0]) rfl rfl ?_
  intro p e s m args below meth c X hnm
  refine g_aload_n X rfl rfl ?_
  refine g_get X rfl flJx35411_25 (ci := 10) rfl (hb) rfl ?_
  refine g_aload_n X rfl rfl ?_
  refine g_get X rfl flJx35411_1 (ci := 10) rfl (hb) rfl ?_
  refine g_get X rfl flJx35411_28 (ci := 9) rfl (hk) rfl ?_
  refine g_ic_eqN X rfl (by omega) (by omega) (fun h => ?_) (fun h => ?_)
  · have h0 : ¬ i < n := by omega
    refine g_iconst X rfl (v := nI 0) (by decide) ?_
    exact g_iret X rfl rfl (by first | rfl | exact bI_nar _ | decide) (Nat.le_of_ble_eq_true rfl) (Nat.le_of_ble_eq_true rfl) ⟨by first | exact congrArg (fun q => some (Value.int (bI q))) (decide_eq_true h0).symm | exact congrArg (fun q => some (Value.int (bI q))) (decide_eq_false h0).symm, rfl, rfl⟩
  · have h0 : i < n := by omega
    refine g_iconst X rfl (v := nI 1) (by decide) ?_
    refine g_goto X rfl ?_
    exact g_iret X rfl rfl (by first | rfl | exact bI_nar _ | decide) (Nat.le_of_ble_eq_true rfl) (Nat.le_of_ble_eq_true rfl) ⟨by first | exact congrArg (fun q => some (Value.int (bI q))) (decide_eq_true h0).symm | exact congrArg (fun q => some (Value.int (bI q))) (decide_eq_false h0).symm, rfl, rfl⟩
set_option maxRecDepth 100000 in
set_option maxHeartbeats 400000 in
theorem cm_next (l : Launch) (D : va_G) (cy : Nat → ClassId) (B : Nat) (od : Nat → Option Nat) {A : AH} {k ed n : Nat} {mc : Int32} {f : Nat → Nat} (hL : LsC cy A k mc ed n f) {b i : Nat} {lr : Int32} (hb : A b = some (itE i lr mc k)) (hi : i < n) : CM l D cy B od yJx35411_next_0502b cJx35411_next_0502b 3 (some (.object "java/lang/Object")) rmJx35411_next_0502b [.ref b] A (fun v A' => v = some (.ref (f i)) ∧ A' = upA A b (itE (i + 1) (nI i) mc k)) := by
  intro z
  refine CT.of (by decide) tJx35411_next_0502b okJx35411_next_0502b (Nat.le_of_ble_eq_true rfl) (q0 := tJx35411_next_0502b[0]) rfl rfl ?_
  intro p e s m args below meth c X hnm
  obtain ⟨cap, g, ha, hc, -, hc2, hg⟩ := hL.arr hi
  have hn := hL.2.1
  have hke : ed ≠ b := AH.ne ha hb (by intro q; cases q)
  refine g_aload_n X rfl rfl ?_
  refine g_mV X rfl lcJx35411_checkForComodification_da8c8 lmJx35411_31 lsJx35411_checkForComodification_da8c8 (cm_it_chk l D cy B od hL.1 hb) (ci := 10) (hb) rfl rfl rfl (Nat.le_of_ble_eq_true rfl) ⟨⟨by decide, by decide⟩, rfl, rfl⟩ ⟨Nat.le_of_ble_eq_true rfl, Nat.le_of_ble_eq_true rfl⟩ (fun v1 A1 q1 => ?_)
  obtain ⟨rfl, rfl⟩ := q1
  refine g_aload_n X rfl rfl ?_
  refine g_get X rfl flJx35411_25 (ci := 10) rfl (hb) rfl ?_
  refine g_istore_n X rfl (by decide) ?_
  refine g_iload_n X rfl rfl ?_
  refine g_aload_n X rfl rfl ?_
  refine g_get X rfl flJx35411_1 (ci := 10) rfl (hb) rfl ?_
  refine g_get X rfl flJx35411_28 (ci := 9) rfl (hL.1) rfl ?_
  refine g_ic_ltN X rfl (by omega) (by omega) (fun _ => ?_) (fun h => absurd hi (by omega))
  · refine g_aload_n X rfl rfl ?_
    refine g_get X rfl flJx35411_1 (ci := 10) rfl (hb) rfl ?_
    refine g_get X rfl flJx35411_37 (ci := 9) rfl (hL.1) rfl ?_
    refine g_astore_n X rfl (by decide) ?_
    refine g_iload_n X rfl rfl ?_
    refine g_aload_n X rfl rfl ?_
    refine g_alenq X rfl ha ?_
    refine g_ic_ltN X rfl (by omega) (by omega) (fun _ => ?_) (fun h => absurd hi (by omega))
    · refine g_aload_n X rfl rfl ?_
      refine g_iload_n X rfl rfl ?_
      refine g_iconst X rfl (v := nI 1) (by decide) ?_
      refine g_iadd X rfl ?_
      rw [show nI i + nI 1 = nI (i + 1) from nI_1 i]
      refine g_put X rfl flJx35411_25 rfl (ci := 10) rfl (hb) (Nat.le_of_ble_eq_true rfl) (by rfl) (by rfl) ?_
      refine g_aload_n X rfl rfl ?_
      refine g_aload_n X rfl rfl ?_
      refine g_iload_n X rfl rfl ?_
      refine g_dup_x1 X rfl rfl rfl ?_
      refine g_put X rfl flJx35411_13 rfl (ci := 10) rfl (upA_eq) (Nat.le_of_ble_eq_true rfl) (by rfl) (by rfl) ?_
      refine g_aaldO X rfl ((upA_ne hke).trans ((upA_ne hke).trans ha)) (by omega) (by omega) (hg i hi) ?_
      refine g_aret X rfl rfl (Nat.le_of_ble_eq_true rfl) (Nat.le_of_ble_eq_true rfl) ⟨rfl, rfl, ?_⟩
      exact upA_up
set_option maxRecDepth 100000 in
set_option maxHeartbeats 400000 in
theorem cr_newLen (l : Launch) (D : va_G) (cy : Nat → ClassId) (B : Nat) (od : Nat → Option Nat) {A : AH} {n h : Nat} (hn : n < 1000) (h1 : 1 ≤ h) (h2 : h < 1000) : CR l D cy B od yJ8_newLength_cabcc cJ8_newLength_cabcc 4 (some .int) rmJ8_newLength_cabcc [.int (nI n), .int (nI 1), .int (nI h)] A (.int (nI (n + h))) := by
  intro z
  refine CT.of (by decide) tJ8_newLength_cabcc okJ8_newLength_cabcc (Nat.le_of_ble_eq_true rfl) (q0 := tJ8_newLength_cabcc[0]) rfl rfl ?_
  intro p e s m args below meth c X hnm
  refine g_iload_n X rfl rfl ?_
  refine g_iload_n X rfl rfl ?_
  refine g_iload_n X rfl rfl ?_
  refine g_m_max_i X rfl lmJ8_194 (Nat.le_of_ble_eq_true rfl) ⟨by decide, by decide⟩ ⟨Nat.le_of_ble_eq_true rfl, Nat.le_of_ble_eq_true rfl⟩ ?_
  rw [show (if nI 1 < nI h then nI h else nI 1) = nI h from by by_cases e : h = 1; (subst e; rfl); exact if_pos (nI_lt (by omega) (by omega))]
  refine g_iadd X rfl ?_
  rw [nI_add]
  refine g_istore_n X rfl (by decide) ?_
  refine g_iconst X rfl (v := nI 0) (by decide) ?_
  refine g_iload_n X rfl rfl ?_
  refine g_icmp_ge X rfl (fun q => absurd q (nI_ge (by omega) (by omega))) (fun _ => ?_)
  · refine g_iload_n X rfl rfl ?_
    refine g_ldc X rfl kcJ8_200 ?_
    refine g_icmp_gt X rfl (fun q => absurd q (nI_nlt (by omega) (by omega))) (fun _ => ?_)
    · refine g_iload_n X rfl rfl ?_
      exact g_iret X rfl rfl (by first | rfl | exact bI_nar _ | decide) (Nat.le_of_ble_eq_true rfl) (Nat.le_of_ble_eq_true rfl) ⟨rfl, rfl, rfl⟩
set_option maxRecDepth 100000 in
set_option maxHeartbeats 400000 in
theorem ct_copyOf3 (l : Launch) (D : va_G) (cy : Nat → ClassId) (B : Nat) (od : Nat → Option Nat) {A : AH} {a0 n N z : Nat} {f : Nat → Option Nat} (ha : A a0 = some (.inl (cy 5, n, .inr (.inr (.inr (.inr f)))))) (he : ∀ j, j < n → ∀ y, f j = some y → ObjA cy A y) (hn : n ≤ N) (hN : N ≤ 109) (hF : FRs A z) (hz : z < 1000000) : CT l D cy B od yJ7_copyOf_6403c cJ7_copyOf_6403c 4 (some (.array (.object "java/lang/Object"))) rmJ7_copyOf_6403c [.ref a0, .int (nI N), .ref 3000005] A (z + 1) (fun v A' z' => v = some (.ref z) ∧ A' = upA A z (.inl (cy 5, N, .inr (.inr (.inr (.inr (va_cpy f (fun _ => none) 0 0 n)))))) ∧ z' = z + 2) := by
  refine CT.of (by decide) tJ7_copyOf_6403c okJ7_copyOf_6403c (Nat.le_of_ble_eq_true rfl) (q0 := tJ7_copyOf_6403c[0]) rfl rfl ?_
  intro p e s m args below meth c X hnm
  have hk : a0 ≠ z := fun e => by subst e; rw [hF.at] at ha; cases ha
  refine g_aload_n X rfl rfl ?_
  refine g_ldcM X rfl clJ7_110 ?_
  refine g_acmp_neF X rfl ?_
  refine g_iload_n X rfl rfl ?_
  refine g_anewO X rfl clJ7_2 (N := N) (nI_pos (by omega)) (nI_clamp (by omega)) (by omega) hz (Nat.le_of_ble_eq_true rfl) (by show 0 + N ≤ 120; omega) ?_
  refine g_goto X rfl ?_
  refine g_astore_n X rfl (by decide) ?_
  refine g_aload_n X rfl rfl ?_
  refine g_iconst X rfl (v := nI 0) (by decide) ?_
  refine g_aload_n X rfl rfl ?_
  refine g_iconst X rfl (v := nI 0) (by decide) ?_
  refine g_aload_n X rfl rfl ?_
  refine g_alenq X rfl ((upA_ne hk).trans ha) ?_
  refine g_iload_n X rfl rfl ?_
  refine g_m_min_i X rfl lmJ7_304 (Nat.le_of_ble_eq_true rfl) ⟨by decide, by decide⟩ ⟨(Nat.le_of_ble_eq_true rfl), (by show 0 + N ≤ 120; omega)⟩ ?_
  rw [show (if nI N < nI n then nI N else nI n) = nI n from if_neg (nI_nlt hn (by omega))]
  refine g_copyq X rfl cpJ7_150 (sp := 0) (dp := 0) ((upA_ne hk).trans ha) upA_eq (by omega) (by omega) (by omega) (by omega) (fun j hj y hy => (he j hj y (by rw [← hy]; congr 1; omega)).up hF.at) (Nat.le_of_ble_eq_true rfl) ⟨by decide, by decide⟩ ?_
  refine g_aload_n X rfl rfl ?_
  refine g_aretA X rfl rfl (Nat.le_of_ble_eq_true rfl) (by show 0 + N ≤ 120; omega) ⟨rfl, ?_, rfl⟩
  exact upA_up
set_option maxRecDepth 100000 in
set_option maxHeartbeats 400000 in
theorem ct_copyOf (l : Launch) (D : va_G) (cy : Nat → ClassId) (B : Nat) (od : Nat → Option Nat) {A : AH} {a0 n N z : Nat} {f : Nat → Option Nat} (ha : A a0 = some (.inl (cy 5, n, .inr (.inr (.inr (.inr f)))))) (he : ∀ j, j < n → ∀ y, f j = some y → ObjA cy A y) (hn : n ≤ N) (hN : N ≤ 109) (hF : FRs A z) (hz : z < 1000000) : CT l D cy B od yJ7_copyOf_1904c cJ7_copyOf_1904c 2 (some (.array (.object "java/lang/Object"))) rmJ7_copyOf_1904c [.ref a0, .int (nI N)] A (z + 1) (fun v A' z' => v = some (.ref z) ∧ A' = upA A z (.inl (cy 5, N, .inr (.inr (.inr (.inr (va_cpy f (fun _ => none) 0 0 n)))))) ∧ z' = z + 2) := by
  refine CT.of (by decide) tJ7_copyOf_1904c okJ7_copyOf_1904c (Nat.le_of_ble_eq_true rfl) (q0 := tJ7_copyOf_1904c[0]) rfl rfl ?_
  intro p e s m args below meth c X hnm
  refine g_aload_n X rfl rfl ?_
  refine g_iload_n X rfl rfl ?_
  refine g_aload_n X rfl rfl ?_
  refine g_getC X rfl ⟨lxJ7_86, lw_good_in (n := 1669) (by decide +kernel) rfl, lw_good_in (n := 672) (by decide +kernel) rfl, lw_good_in (n := 692) (by decide +kernel) rfl⟩ ha (Nat.le_of_ble_eq_true rfl) ⟨by decide, by decide⟩ ?_
  refine g_callS X rfl lcJ7_copyOf_6403c lmJ7_300 stJ7_copyOf_6403c (ct_copyOf3 l D cy B od ha he hn hN hF hz) rfl rfl (Nat.le_of_ble_eq_true rfl) ⟨by decide, by decide⟩ ⟨Nat.le_of_ble_eq_true rfl, Nat.le_of_ble_eq_true rfl⟩ (fun v1 A1 z1 q1 => ?_)
  obtain ⟨rfl, rfl, rfl⟩ := q1
  exact g_aretA X rfl rfl (Nat.le_of_ble_eq_true rfl) (Nat.le_of_ble_eq_true rfl) ⟨rfl, rfl, rfl⟩
