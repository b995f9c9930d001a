/-! 34: copying and cloning arrays, casts, calls by an interface, calls of what is inherited -/
section CORE34
variable {p : Program} {l : Launch} {e : Env} {R : Room} {s : State} {m : MethodId} {args : Array Value} {below : List Frame} {meth : Method} {c : Code}
variable {D : va_G} {cy : Nat → ClassId} {B : Nat} {od : Nat → Option Nat} {cc : ByteArray} {nL : Nat} {tab : List PT} {own : String} {ret : Option FieldType}
variable {F : State → Prop} {cells slots : Nat} {A : AH} {z i pc len nx tg : Nat} {lv : List (Option Value)} {st : List Value}
theorem nn_toInt (z : Int32) (hz : ¬ z < 0) : z.toInt = (z.toNatClampNeg : Int) := by
  have hz0 : (0 : Int) ≤ z.toInt := by
    have := Int32.not_lt.mp hz
    simpa using Int32.le_iff_toInt_le.mp this
  show z.toInt = ((z.toInt.toNat : Nat) : Int)
  omega
theorem nfw : nativeFrameWords "java/lang/System" "arraycopy" 5 ≤ 20 := by decide
/-- words of System.arraycopy -/
def CpW (own : String) (ix : Nat) : Prop := Cond.methodLink own ix arraycopyName ∈ lw_good ∧ Cond.native arraycopyName ∈ lw_good ∧ Cond.static arraycopyName ∈ lw_good ∧ Cond.initialized "java/lang/System" ∈ lw_good
/-- bytes or other ints out of any array of them (it follows the kit's rows of System.arraycopy, but tells the heap behind it) -/
theorem wv_copyi (hexec : p.tables.exec = Jvm.exec) (hb : c.code = cc) {ls : Array Slot} {rest : List Value} {locs : List Loc} {H : Heap} {a a0 : Nat} (hml : c.maxLocals = ls.size) {index : Nat} (hown : s.vm.findClass own = some m.cls) (hlink : (Cond.methodLink own index arraycopyName).before args s = true) (hnat : (Cond.native arraycopyName).before args s = true) (hstat : (Cond.static arraycopyName).before args s = true) (hini : (Cond.initialized "java/lang/System").before args s = true)
    {ty : FieldType} {scr : Cell} {c1 : ClassId} {n0 n1 : Nat} {f g : Nat → Int32} (hc0 : H[a0]? = some scr) (hi0 : s.isArrayOf scr ty) (hk0 : scr.vm ≠ .unknown) (hsz : n0 ≤ scr.slots.size) (hsl : ∀ j, j < n0 → scr.slots[j]? = some (.int (f j))) (hc1 : H[a]? = some (vp_cell c1 (n1, .inl g))) (hi1 : s.isArrayOf (vp_cell c1 (n1, .inl g)) ty) (hprim : refKind ty = false)
    {sp dp n : Int32} (h1 : ¬ sp < 0) (h2 : ¬ dp < 0) (h3 : ¬ n < 0) (h4 : sp.toNatClampNeg + n.toNatClampNeg ≤ n0) (h5 : dp.toNatClampNeg + n.toNatClampNeg ≤ n1) (hfit : ∀ i, i < n.toNatClampNeg → fits ty (.int (f (sp.toNatClampNeg + i))) = true)
    (hframes : 1 ≤ R.frames) (hlocals : (rest.map fun v => v.category).sum + (nativeFrameWords "java/lang/System" "arraycopy" 5 + 11) ≤ R.locals) (hdg : decode cc pc = .ok (.invokestatic index, 3))
    (kk : ∀ (H1 : Heap) (L : List Loc), H1[a]? = some (vp_cell c1 (n1, .inl (va_cpy f g sp.toNatClampNeg dp.toNatClampNeg n.toNatClampNeg))) → H1.size = H.size → (∀ q : Nat, q ≠ a → H1[q]? = H[q]?) → (∀ w ∈ L, w.base = a) → W p l e R s m args below meth c H1 (locs ++ L) cells slots F (F0 m (pc + 3) ls rest)) : W p l e R s m args below meth c H locs cells slots F (F0 m pc ls (.int n :: .int dp :: .ref a :: .int sp :: .ref a0 :: rest)) := by
  intro T hT X
  obtain ⟨hv0, k0, hk00, cm0, hkk0⟩ := hi0
  obtain ⟨hv1, k1, hk1, cm1, hkk1⟩ := hi1
  obtain ⟨vm', X', step⟩ := X.arraycopy hexec hown hlink hnat hstat hini (src := a0) (dst := a) (cs := scr) (cd := vp_cell c1 (n1, .inl g)) (srcPos := sp) (destPos := dp) (n := n) (by rw [hT]; exact hc0) (by rw [hT]; exact hc1)
    hv0 hv1 hk0 (fun h => by cases h) hk00 hk1 hkk0 hkk1 (by simp [hprim]) h1 h2 h3
    (by rw [nn_toInt sp h1, nn_toInt n h3]; omega)
    (by rw [nn_toInt dp h2, nn_toInt n h3]; show ¬ _ > ((arrV c1 n1 (fun j => .int (g j))).slots.size : Int); rw [arrV_size]; omega)
    (fun vm₁ _ i hi => by
      have e : scr.slots.getD (sp.toNatClampNeg + i) .null = .int (f (sp.toNatClampNeg + i)) := by
        rw [Array.getD_eq_getD_getElem?, hsl _ (by omega)]
        rfl
      refine ⟨?_, ?_⟩
      · rw [e]
        exact hfit i hi
      · rw [e]
        exact trivial)
    (g := F0 m pc ls (.int n :: .int dp :: .ref a :: .int sp :: .ref a0 :: rest)) rfl (by rw [hml]) (rest := rest) rfl (by rw [hb]; exact hdg) hframes (by show 2 * 0 + _ + _ ≤ _; omega)
  have e1 : copied scr (vp_cell c1 (n1, .inl g)) sp dp n = vp_cell c1 (n1, .inl (va_cpy f g sp.toNatClampNeg dp.toNatClampNeg n.toNatClampNeg)) := va_copiedX (fun z => .int z) scr c1 f g hsl h4
  rw [e1] at X' step
  have hl : a < H.size := (Array.getElem?_eq_some_iff.mp hc1).1
  obtain ⟨t, a1, b1⟩ := kk (H.setIfInBounds a (vp_cell c1 (n1, .inl (va_cpy f g sp.toNatClampNeg dp.toNatClampNeg n.toNatClampNeg)))) _ (by simp [Array.getElem?_setIfInBounds, hl]) (by simp) (fun q hq => by simp [Array.getElem?_setIfInBounds, Ne.symm hq]) (fun w hw => by obtain ⟨z, -, hz⟩ := List.mem_map.mp hw; rw [← hz]) _ (by rw [← hT]; rfl) X'
  exact ⟨t, step t a1, b1⟩
theorem wv_copyq (hexec : p.tables.exec = Jvm.exec) (hb : c.code = cc) {ls : Array Slot} {rest : List Value} {locs : List Loc} {H : Heap} {a a0 : Nat} (hml : c.maxLocals = ls.size) {index : Nat} (hown : s.vm.findClass own = some m.cls) (hlink : (Cond.methodLink own index arraycopyName).before args s = true) (hnat : (Cond.native arraycopyName).before args s = true) (hstat : (Cond.static arraycopyName).before args s = true) (hini : (Cond.initialized "java/lang/System").before args s = true)
    {E1 : String} {c1 : ClassId} {n0 n1 : Nat} {f g : Nat → Option Nat} (hc0 : H[a0]? = some (vp_cell c1 (n0, .inr (.inr (.inr (.inr f)))))) (hc1 : H[a]? = some (vp_cell c1 (n1, .inr (.inr (.inr (.inr g)))))) (hA1 : ArrOfT s c1 (.object E1)) (hRA : va_RA s c1 (.object E1))
    {sp dp n : Int32} (h1 : ¬ sp < 0) (h2 : ¬ dp < 0) (h3 : ¬ n < 0) (h4 : sp.toNatClampNeg + n.toNatClampNeg ≤ n0) (h5 : dp.toNatClampNeg + n.toNatClampNeg ≤ n1) (hel : ∀ i : Nat, i < n.toNatClampNeg → ∀ y : Nat, f (sp.toNatClampNeg + i) = some y → ∃ (C : String) (cellV : Cell), H[y]? = some cellV ∧ cellV.vm.isStatics = false ∧ s.vm.findClass C = some cellV.cls ∧ va_Nw (.castable C E1) s)
    (hframes : 1 ≤ R.frames) (hlocals : (rest.map fun v => v.category).sum + (nativeFrameWords "java/lang/System" "arraycopy" 5 + 11) ≤ R.locals) (hdg : decode cc pc = .ok (.invokestatic index, 3))
    (kk : ∀ (H1 : Heap) (L : List Loc), H1[a]? = some (vp_cell c1 (n1, .inr (.inr (.inr (.inr (va_cpy f g sp.toNatClampNeg dp.toNatClampNeg n.toNatClampNeg)))))) → H1.size = H.size → (∀ q : Nat, q ≠ a → H1[q]? = H[q]?) → (∀ w ∈ L, w.base = a) → W p l e R s m args below meth c H1 (locs ++ L) cells slots F (F0 m (pc + 3) ls rest)) : W p l e R s m args below meth c H locs cells slots F (F0 m pc ls (.int n :: .int dp :: .ref a :: .int sp :: .ref a0 :: rest)) := by
  intro T hT X
  obtain ⟨-, k0, hk0, cm0, hkk0⟩ := hA1 n0 (fun j => va_rf (f j))
  obtain ⟨-, k1, hk1, cm1, hkk1⟩ := hA1 n1 (fun j => va_rf (g j))
  obtain ⟨vm', X', step⟩ := X.arraycopy hexec hown hlink hnat hstat hini (src := a0) (dst := a) (cs := vp_cell c1 (n0, .inr (.inr (.inr (.inr f))))) (cd := vp_cell c1 (n1, .inr (.inr (.inr (.inr g))))) (srcPos := sp) (destPos := dp) (n := n) (by rw [hT]; exact hc0) (by rw [hT]; exact hc1)
    (fun _ h => by cases h) (fun _ h => by cases h) (fun h => by cases h) (fun h => by cases h) hk0 hk1 hkk0 hkk1 rfl h1 h2 h3
    (by rw [nn_toInt sp h1, nn_toInt n h3]; show ¬ _ > ((arrV c1 n0 (fun j => va_rf (f j))).slots.size : Int); rw [arrV_size]; omega)
    (by rw [nn_toInt dp h2, nn_toInt n h3]; show ¬ _ > ((arrV c1 n1 (fun j => va_rf (g j))).slots.size : Int); rw [arrV_size]; omega)
    (fun vm₁ hal i hi => by
      have e : (vp_cell c1 (n0, .inr (.inr (.inr (.inr f))))).slots.getD (sp.toNatClampNeg + i) .null = va_rf (f (sp.toNatClampNeg + i)) := by
        show (arrV c1 n0 (fun j => va_rf (f j))).slots.getD _ _ = _
        rw [Array.getD_eq_getD_getElem?, arrV_read _ _ (by omega)]
        rfl
      rw [e]
      cases hy : f (sp.toNatClampNeg + i) with
      | none => exact ⟨rfl, trivial⟩
      | some y =>
        obtain ⟨C, cellV, g1, g2, g3, hca⟩ := hel i hi y hy
        obtain ⟨kA, comp, r1, r2, r3, -⟩ := hRA
        cases hk1.symm.trans r1
        cases hkk1.symm.trans r2
        obtain ⟨kC, hkC, -⟩ := Vm.findClass_spec g3
        obtain ⟨kE, hkE, -⟩ := Vm.findClass_spec r3
        obtain ⟨kC', hkC', -⟩ := hal.2.2 _ _ hkC
        obtain ⟨kE', hkE', -⟩ := hal.2.2 _ _ hkE
        refine ⟨rfl, cellV, (show T.heap[y]? = some cellV by rw [hT]; exact g1), (fun q h => by rw [h] at g2; cases g2), ⟨kC', hkC'⟩, ?_, ?_⟩
        · exact ⟨kE', hkE'⟩
        · show vm₁.assignable _ _ = true
          rw [hal.assignable]
          exact vb_asgC hca _ _ r3 g3)
    (g := F0 m pc ls (.int n :: .int dp :: .ref a :: .int sp :: .ref a0 :: rest)) rfl (by rw [hml]) (rest := rest) rfl (by rw [hb]; exact hdg) hframes (by show 2 * 0 + _ + _ ≤ _; omega)
  have e1 : copied (vp_cell c1 (n0, .inr (.inr (.inr (.inr f))))) (vp_cell c1 (n1, .inr (.inr (.inr (.inr g))))) sp dp n = vp_cell c1 (n1, .inr (.inr (.inr (.inr (va_cpy f g sp.toNatClampNeg dp.toNatClampNeg n.toNatClampNeg))))) := by
    rw [vp_cell_q, vp_cell_q, vp_cell_q]
    exact va_copied (fun z => va_rf z) c1 c1 f g h4
  rw [e1] at X' step
  have hl : a < H.size := (Array.getElem?_eq_some_iff.mp hc1).1
  obtain ⟨t, a1, b1⟩ := kk (H.setIfInBounds a (vp_cell c1 (n1, .inr (.inr (.inr (.inr (va_cpy f g sp.toNatClampNeg dp.toNatClampNeg n.toNatClampNeg))))))) _ (by simp [Array.getElem?_setIfInBounds, hl]) (by simp) (fun q hq => by simp [Array.getElem?_setIfInBounds, Ne.symm hq]) (fun w hw => by obtain ⟨z, -, hz⟩ := List.mem_map.mp hw; rw [← hz]) _ (by rw [← hT]; rfl) X'
  exact ⟨t, step t a1, b1⟩
theorem va_SputL {a : Nat} {L : List Loc} {H H1 : Heap} {locs : List Loc} (hS : va_S (fun q => B ≤ q) s.heap H locs) (ha : od a = none) (z : H1.size = H.size) (oq : ∀ q : Nat, q ≠ rho B od a → H1[q]? = H[q]?) (hL : ∀ w ∈ L, w.base = rho B od a) : va_S (fun q => B ≤ q) s.heap H1 (locs ++ L) := by
  have hB : B ≤ rho B od a := by rw [rho_lo ha]; omega
  refine ⟨by rw [z]; exact hS.1, fun q h1 h2 => ?_, fun q hq => ?_⟩
  · rw [oq q (fun e => h2 (by rw [e]; exact hB))]
    exact hS.2.1 q h1 h2
  · rcases List.mem_append.mp hq with h | h
    · exact hS.2.2 q h
    · show B ≤ q.base
      rw [hL q h]; exact hB
/-- references from one array of objects into another -/
theorem g_copyq (X : Cx p s m args meth c D cy B od cc nL tab own ret) {ix : Nat} (hi : tab[i]? = some (pc, .invokestatic ix, 3, nx, tg)) (hw : CpW own ix) {a a0 n0 n1 sp dp n : Nat} {f g : Nat → Option Nat} (hA0 : A a0 = some (.inl (cy 5, n0, .inr (.inr (.inr (.inr f)))))) (hA1 : A a = some (.inl (cy 5, n1, .inr (.inr (.inr (.inr g)))))) (h4 : sp + n ≤ n0) (h5 : dp + n ≤ n1) (hn0 : n0 < 2 ^ 31) (hn1 : n1 < 2 ^ 31) (hel : ∀ j, j < n → ∀ y, f (sp + j) = some y → ObjA cy A y) (hst : (st.map fun v => v.category).sum ≤ 4) (hRm : 1 ≤ R.frames ∧ 40 ≤ R.locals)
    (kk : G p l e R s m args below meth c D B od nL tab F cells slots (upA A a (.inl (cy 5, n1, .inr (.inr (.inr (.inr (va_cpy f g sp dp n))))))) z nx lv st) : G p l e R s m args below meth c D B od nL tab F cells slots A z i lv (.int (nI n) :: .int (nI dp) :: .ref a :: .int (nI sp) :: .ref a0 :: st) := by
  intro q hq H locs ls hR hS hl
  cases Option.some.inj (hi.symm.trans hq)
  obtain ⟨q2, hq2, e2⟩ := X.2.2.2.1.fall hi rfl
  obtain ⟨hlt, hat⟩ := hR.1 a _ hA1
  obtain ⟨hlt0, hat0⟩ := hR.1 a0 _ hA0
  have c0 : H[rho B od a0]? = some (vp_cell (cy 5) (n0, .inr (.inr (.inr (.inr (fun j => (f j).map (rho B od))))))) := hat0
  have c1 : H[rho B od a]? = some (vp_cell (cy 5) (n1, .inr (.inr (.inr (.inr (fun j => (g j).map (rho B od))))))) := hat
  have h9 : ((st.map (trV B od)).map fun v => v.category).sum = (st.map fun v => v.category).sum := by
    rw [List.map_map, show ((fun v : Value => v.category) ∘ trV B od) = (fun v => v.category) from funext fun v => trV_cat B od v]
  have k1 : (nI sp).toNatClampNeg = sp := nI_clamp (by omega)
  have k2 : (nI dp).toNatClampNeg = dp := nI_clamp (by omega)
  have k3 : (nI n).toNatClampNeg = n := nI_clamp (by omega)
  refine wv_copyq X.1.1 X.1.2.1 (X.1.2.2.1.trans hl.1.symm) X.1.2.2.2.1 (X.1.2.2.2.2 _ hw.1) (X.1.2.2.2.2 _ hw.2.1) (X.1.2.2.2.2 _ hw.2.2.1) (X.1.2.2.2.2 _ hw.2.2.2) c0 c1 (E1 := "java/lang/Object") (X.2.1.2 5 _ rfl).1 (X.2.1.2 5 _ rfl).2 (nI_pos (by omega)) (nI_pos (by omega)) (nI_pos (by omega)) (by rw [k1, k3]; exact h4) (by rw [k2, k3]; exact h5) (fun j hj y hy => ?_) hRm.1 (by rw [h9]; have h8 := nfw; omega) (X.2.2.2.1.dec hi) (fun H1 L e9 z9 oq hL => ?_)
  · rw [k3] at hj
    rw [k1] at hy
    cases hf : f (sp + j) with
    | none => rw [hf] at hy; cases hy
    | some y0 =>
      rw [hf] at hy
      cases hy
      exact (hel j hj y0 hf).cell X hR hS
  · have h2 : va_at D vwCl (rho B od a, trE B od (.inl (cy 5, n1, .inr (.inr (.inr (.inr (va_cpy f g sp dp n))))))) H1 := by
      show H1[rho B od a]? = some (vp_cell (cy 5) (n1, .inr (.inr (.inr (.inr (fun j => (va_cpy f g sp dp n j).map (rho B od)))))))
      have hf9 : va_cpy (fun j => (f j).map (rho B od)) (fun j => (g j).map (rho B od)) sp dp n = fun j => (va_cpy f g sp dp n j).map (rho B od) := by
        funext j
        unfold va_cpy
        split <;> rfl
      rw [e9, k1, k2, k3, hf9]
    have K := kk q2 hq2 H1 _ ls (hR.put hlt h2 z9 oq) (va_SputL hS hlt z9 oq hL) hl
    rw [e2] at K
    exact K
/-- bytes from one array into another -/
theorem g_copyb (X : Cx p s m args meth c D cy B od cc nL tab own ret) {ix : Nat} (hi : tab[i]? = some (pc, .invokestatic ix, 3, nx, tg)) (hw : CpW own ix) {a a0 n0 n1 sp dp n : Nat} {f g : Nat → Int32} (hA0 : A a0 = some (.inl (cy 3, n0, .inl f))) (hA1 : A a = some (.inl (cy 3, n1, .inl g))) (h4 : sp + n ≤ n0) (h5 : dp + n ≤ n1) (hn0 : n0 < 2 ^ 31) (hn1 : n1 < 2 ^ 31) (hfit : ∀ j, j < n → fits .byte (.int (f (sp + j))) = true) (hst : (st.map fun v => v.category).sum ≤ 4) (hRm : 1 ≤ R.frames ∧ 40 ≤ R.locals)
    (kk : G p l e R s m args below meth c D B od nL tab F cells slots (upA A a (.inl (cy 3, n1, .inl (va_cpy f g sp dp n)))) z nx lv st) : G p l e R s m args below meth c D B od nL tab F cells slots A z i lv (.int (nI n) :: .int (nI dp) :: .ref a :: .int (nI sp) :: .ref a0 :: st) := by
  intro q hq H locs ls hR hS hl
  cases Option.some.inj (hi.symm.trans hq)
  obtain ⟨q2, hq2, e2⟩ := X.2.2.2.1.fall hi rfl
  obtain ⟨hlt, hat⟩ := hR.1 a _ hA1
  obtain ⟨hlt0, hat0⟩ := hR.1 a0 _ hA0
  have c0 : H[rho B od a0]? = some (vp_cell (cy 3) (n0, .inl f)) := hat0
  have c1 : H[rho B od a]? = some (vp_cell (cy 3) (n1, .inl g)) := hat
  have h9 : ((st.map (trV B od)).map fun v => v.category).sum = (st.map fun v => v.category).sum := by
    rw [List.map_map, show ((fun v : Value => v.category) ∘ trV B od) = (fun v => v.category) from funext fun v => trV_cat B od v]
  have k1 : (nI sp).toNatClampNeg = sp := nI_clamp (by omega)
  have k2 : (nI dp).toNatClampNeg = dp := nI_clamp (by omega)
  have k3 : (nI n).toNatClampNeg = n := nI_clamp (by omega)
  refine wv_copyi (ty := .byte) (n0 := n0) (f := f) X.1.1 X.1.2.1 (X.1.2.2.1.trans hl.1.symm) X.1.2.2.2.1 (X.1.2.2.2.2 _ hw.1) (X.1.2.2.2.2 _ hw.2.1) (X.1.2.2.2.2 _ hw.2.2.1) (X.1.2.2.2.2 _ hw.2.2.2) c0 ((X.2.1.2 3 _ rfl).1 n0 (fun j => .int (f j))) (fun h => by cases h) (by show n0 ≤ (arrV _ _ _).slots.size; rw [arrV_size]; exact Nat.le_refl _) (fun j hj => by show (arrV (cy 3) n0 (fun j => .int (f j))).slots[j]? = _; rw [arrV_read _ _ hj]) c1 ((X.2.1.2 3 _ rfl).1 n1 (fun j => .int (g j))) rfl (nI_pos (by omega)) (nI_pos (by omega)) (nI_pos (by omega)) (by rw [k1, k3]; exact h4) (by rw [k2, k3]; exact h5) (fun j hj => by rw [k3] at hj; rw [k1]; exact hfit j hj) hRm.1 (by rw [h9]; have h8 := nfw; omega) (X.2.2.2.1.dec hi) (fun H1 L e9 z9 oq hL => ?_)
  have h2 : va_at D vwCl (rho B od a, trE B od (.inl (cy 3, n1, .inl (va_cpy f g sp dp n)))) H1 := by
    show H1[rho B od a]? = some (vp_cell (cy 3) (n1, .inl (va_cpy f g sp dp n)))
    rw [e9, k1, k2, k3]
  have K := kk q2 hq2 H1 _ ls (hR.put hlt h2 z9 oq) (va_SputL hS hlt z9 oq hL) hl
  rw [e2] at K
  exact K
/-- bytes of a string constant into an array -/
theorem g_copys (X : Cx p s m args meth c D cy B od cc nL tab own ret) {ix : Nat} (hi : tab[i]? = some (pc, .invokestatic ix, 3, nx, tg)) (hw : CpW own ix) {a j9 n1 sp dp n : Nat} {g : Nat → Int32} (hj : j9 < 39) (hA1 : A a = some (.inl (cy 3, n1, .inl g))) (h4 : sp + n ≤ (sB j9).length) (h5 : dp + n ≤ n1) (hn1 : n1 < 2 ^ 31) (hfit : ∀ j, j < n → fits .byte (.int ((sB j9).getD (sp + j) 0)) = true) (hst : (st.map fun v => v.category).sum ≤ 4) (hRm : 1 ≤ R.frames ∧ 40 ≤ R.locals)
    (kk : G p l e R s m args below meth c D B od nL tab F cells slots (upA A a (.inl (cy 3, n1, .inl (va_cpy (fun k => (sB j9).getD k 0) g sp dp n)))) z nx lv st) : G p l e R s m args below meth c D B od nL tab F cells slots A z i lv (.int (nI n) :: .int (nI dp) :: .ref a :: .int (nI sp) :: .ref (2000000 + j9) :: st) := by
  intro q hq H locs ls hR hS hl
  cases Option.some.inj (hi.symm.trans hq)
  obtain ⟨q2, hq2, e2⟩ := X.2.2.2.1.fall hi rfl
  obtain ⟨hlt, hat⟩ := hR.1 a _ hA1
  obtain ⟨a9, v9, o1, o2, o3, o4, o5, o6⟩ := X.str.2.2.1 j9 hj
  have c1 : H[rho B od a]? = some (vp_cell (cy 3) (n1, .inl g)) := hat
  have hlen := sB_len j9 hj
  have h9 : ((st.map (trV B od)).map fun v => v.category).sum = (st.map fun v => v.category).sum := by
    rw [List.map_map, show ((fun v : Value => v.category) ∘ trV B od) = (fun v => v.category) from funext fun v => trV_cat B od v]
  have k1 : (nI sp).toNatClampNeg = sp := nI_clamp (by omega)
  have k2 : (nI dp).toNatClampNeg = dp := nI_clamp (by omega)
  have k3 : (nI n).toNatClampNeg = n := nI_clamp (by omega)
  show W p l e R s m args below meth c H locs cells slots F (F0 m pc ls (.int (nI n) :: .int (nI dp) :: .ref (rho B od a) :: .int (nI sp) :: .ref (rho B od (2000000 + j9)) :: st.map (trV B od)))
  rw [rho_od o2]
  obtain ⟨scr, hs1, hs2, hs3, hs4, -, hs5, hs7⟩ := o6
  have c0 : H[v9]? = some scr := by rw [hS.2.1 v9 (Array.getElem?_eq_some_iff.mp hs1).1 hs7]; exact hs1
  refine wv_copyi (ty := .byte) (n0 := (sB j9).length) (f := fun k => (sB j9).getD k 0) X.1.1 X.1.2.1 (X.1.2.2.1.trans hl.1.symm) X.1.2.2.2.1 (X.1.2.2.2.2 _ hw.1) (X.1.2.2.2.2 _ hw.2.1) (X.1.2.2.2.2 _ hw.2.2.1) (X.1.2.2.2.2 _ hw.2.2.2) c0 hs2 hs3 hs4 (fun j hj => hs5 j hj) c1 ((X.2.1.2 3 _ rfl).1 n1 (fun j => .int (g j))) rfl (nI_pos (by omega)) (nI_pos (by omega)) (nI_pos (by omega)) (by rw [k1, k3]; exact h4) (by rw [k2, k3]; exact h5) (fun j hj => by rw [k3] at hj; rw [k1]; exact hfit j hj) hRm.1 (by rw [h9]; have h8 := nfw; omega) (X.2.2.2.1.dec hi) (fun H1 L e9 z9 oq hL => ?_)
  have h2 : va_at D vwCl (rho B od a, trE B od (.inl (cy 3, n1, .inl (va_cpy (fun k => (sB j9).getD k 0) g sp dp n)))) H1 := by
    show H1[rho B od a]? = some (vp_cell (cy 3) (n1, .inl (va_cpy (fun k => (sB j9).getD k 0) g sp dp n)))
    rw [e9, k1, k2, k3]
  have K := kk q2 hq2 H1 _ ls (hR.put hlt h2 z9 oq) (va_SputL hS hlt z9 oq hL) hl
  rw [e2] at K
  exact K
/-- words of an array's clone() -/
def ClW (own : String) (ix : Nat) (ad : String) : Prop := Cond.methodLink own ix ⟨ad, "clone", "()Ljava/lang/Object;"⟩ ∈ lw_good ∧ Cond.sameMethod ad "java/lang/Object" "clone" "()Ljava/lang/Object;" ∈ lw_good ∧ Cond.native ⟨"java/lang/Object", "clone", "()Ljava/lang/Object;"⟩ ∈ lw_good ∧ Cond.instanceMethod ⟨"java/lang/Object", "clone", "()Ljava/lang/Object;"⟩ ∈ lw_good ∧ Cond.selects ad ⟨ad, "clone", "()Ljava/lang/Object;"⟩ ⟨"java/lang/Object", "clone", "()Ljava/lang/Object;"⟩ ∈ lw_good
/-- an array of ints cloned (it follows the kit's row of clone(), but tells where the new one lies) -/
theorem g_clone (X : Cx p s m args meth c D cy B od cc nL tab own ret) {ix : Nat} (hi : tab[i]? = some (pc, .invokevirtual ix, 3, nx, tg)) (hw : ClW own ix "[I") {a n : Nat} {f : Nat → Int32} (hA : A a = some (.inl (cy 0, n, .inl f))) (hz : z < 1000000) (hst : (st.map fun v => v.category).sum ≤ 8) (hRm : 1 ≤ R.frames ∧ 40 ≤ R.locals) (hcells : cells + 1 ≤ R.cells) (hslots : slots + n ≤ R.slots)
    (kk : G p l e R s m args below meth c D B od nL tab F (cells + 1) (slots + n) (upA A z (.inl (cy 0, n, .inl f))) (z + 2) nx lv (.ref z :: st)) : G p l e R s m args below meth c D B od nL tab F cells slots A (z + 1) i lv (.ref a :: st) := by
  intro q hq H locs ls hR hS hl
  cases Option.some.inj (hi.symm.trans hq)
  obtain ⟨q2, hq2, e2⟩ := X.2.2.2.1.fall hi rfl
  obtain ⟨hlt, hat⟩ := hR.1 a _ hA
  have c0 : H[rho B od a]? = some (vp_cell (cy 0) (n, .inl f)) := hat
  have hnm : s.vm.findClass "[I" = some (cy 0) := tysc_cls (t0 := 0) (ty := .int) X.2.1 rfl
  have hcl := X.ox.2.1 ("[I", "java/lang/Cloneable") (by simp [castL])
  obtain ⟨c9, t9, f1, f2, f3⟩ := Cond.castable_spec (va_Nw.use (A := args) rfl hcl)
  cases hnm.symm.trans f1
  have h9 : ((st.map (trV B od)).map fun v => v.category).sum = (st.map fun v => v.category).sum := by
    rw [List.map_map, show ((fun v : Value => v.category) ∘ trV B od) = (fun v => v.category) from funext fun v => trV_cat B od v]
  have hsz : (vp_cell (cy 0) (n, .inl f)).slots.size = n := arrV_size _ _ _
  show W p l e R s m args below meth c H locs cells slots F (F0 m pc ls (.ref (rho B od a) :: st.map (trV B od)))
  intro T hT XS
  have hcellT : T.heap[rho B od a]? = some (vp_cell (cy 0) (n, .inl f)) := by rw [hT]; exact c0
  obtain ⟨-, kA, hkA, comp, hkind⟩ := State.isArrayOf_alike XS.warmed.alike ((X.2.1.2 0 _ rfl).1 0 (fun _ => .null))
  obtain ⟨-, kS, hkS, compS, hkindS⟩ := (X.2.1.2 0 _ rfl).1 0 (fun _ => .null)
  obtain ⟨vm', X', step⟩ := XS.cloneArray X.1.1 X.1.2.2.2.1 (X.1.2.2.2.2 _ hw.1) (X.1.2.2.2.2 _ hw.2.1) (X.1.2.2.2.2 _ hw.2.2.1) (X.1.2.2.2.2 _ hw.2.2.2.1) (X.1.2.2.2.2 _ hw.2.2.2.2) (a := rho B od a) (cell := vp_cell (cy 0) (n, .inl f)) hcellT (fun k h => by cases h) (fun h => by cases h) hnm f2 f3
    (fun j v hv => by
      have hk' : T.vm.classes[cy 0]? = some kA := hkA
      have hv2 : (arrV (cy 0) n (fun j => .int (f j))).slots[j]? = some v := hv
      have hjn : j < n := by
        have := (Array.getElem?_eq_some_iff.mp hv2).1
        rw [arrV_size] at this; exact this
      rw [arrV_read _ _ hjn] at hv2
      cases hv2
      show T.fitsSlot (cy 0) _ _ _ = true
      simp [State.fitsSlot, State.slotType?, hk', hkind, fits])
    (g := F0 m pc ls (.ref (rho B od a) :: st.map (trV B od))) rfl (by show ls.size = c.maxLocals; rw [hl.1, X.1.2.2.1]) rfl (by rw [X.1.2.1]; exact X.2.2.2.1.dec hi) hRm.1 (by show 2 * 0 + _ + 14 ≤ _; rw [h9]; omega) hcells (by rw [hsz]; exact hslots) (hloader := Vm.clonesLoader_of_array hkS hkindS)
  rw [hsz] at X'
  generalize hH1 : H.push (vp_cell (cy 0) (n, .inl f)) = H1
  have z1 : H1.size = H.size + 1 := by rw [← hH1, Array.size_push]
  have e1 : H1[H.size]? = some (vp_cell (cy 0) (n, .inl f)) := by rw [← hH1, Array.getElem?_push_size]
  have o1 : ∀ q : Nat, q < H.size → H1[q]? = H[q]? := fun q hq => by rw [← hH1, Array.getElem?_push, if_neg (Nat.ne_of_lt hq)]
  have hat1 : va_at D vwCl (H.size, trE B od (.inl (cy 0, n, .inl f))) H1 := e1
  obtain ⟨hR2, hr⟩ := hR.push (X.od0 hz) hat1 z1 o1
  have K := kk q2 hq2 H1 locs ls hR2 (va_Spush hS z1 o1) hl
  rw [e2] at K
  obtain ⟨t, b1, b2⟩ := K ((T.setVm vm').pushCell (vp_cell (cy 0) (n, .inl f))) (by rw [← hH1, ← hT]; rfl) X'
  refine ⟨t, step t ?_, b2⟩
  rw [hT, hr]
  exact b1
/-- a cast that holds: an array of ints -/
theorem g_castI (X : Cx p s m args meth c D cy B od cc nL tab own ret) {ix : Nat} (hi : tab[i]? = some (pc, .checkcast ix, 3, nx, tg)) (hw : Cond.classLink own ix "[I" ∈ lw_good) {a n : Nat} {f : Nat → Int32} (hA : A a = some (.inl (cy 0, n, .inl f))) (kk : G p l e R s m args below meth c D B od nL tab F cells slots A z nx lv (.ref a :: st)) : G p l e R s m args below meth c D B od nL tab F cells slots A z i lv (.ref a :: st) := by
  intro q hq H locs ls hR hS hl
  cases Option.some.inj (hi.symm.trans hq)
  obtain ⟨q2, hq2, e2⟩ := X.2.2.2.1.fall hi rfl
  have K := kk q2 hq2 H locs ls hR hS hl
  rw [e2] at K
  exact va_castA X.1.1 X.1.2.1 X.1.2.2.2.1 (X.1.2.2.2.2 _ hw) (va_P1 (hR.1 a _ hA).2) 0 rfl (tysc_cls (t0 := 0) (ty := .int) X.2.1 rfl) (X.2.2.2.1.dec hi) K
/-- an object of the class itself -/
theorem g_castC (X : Cx p s m args meth c D cy B od cc nL tab own ret) {ix ci N : Nat} {C : String} {T : u_T} (hi : tab[i]? = some (pc, .checkcast ix, 3, nx, tg)) (hw : Cond.classLink own ix C ∈ lw_good) (hc : vwCl[ci]? = some (C, T, N)) {a : Nat} {fs : List Value} (hA : A a = some (.inr (ci, fs))) (kk : G p l e R s m args below meth c D B od nL tab F cells slots A z nx lv (.ref a :: st)) : G p l e R s m args below meth c D B od nL tab F cells slots A z i lv (.ref a :: st) := by
  intro q hq H locs ls hR hS hl
  cases Option.some.inj (hi.symm.trans hq)
  obtain ⟨q2, hq2, e2⟩ := X.2.2.2.1.fall hi rfl
  have K := kk q2 hq2 H locs ls hR hS hl
  rw [e2] at K
  exact va_castS X.1.1 X.1.2.1 X.1.2.2.2.1 (X.1.2.2.2.2 _ hw) (X.2.1.1 ci _ hc).2 (recv X hR hA hc) (X.2.2.2.1.dec hi) K
/-- a cached box -/
theorem g_castB (X : Cx p s m args meth c D cy B od cc nL tab own ret) {ix k : Nat} (hk : k < 256) (hi : tab[i]? = some (pc, .checkcast ix, 3, nx, tg)) (hw : Cond.classLink own ix RJ6 ∈ lw_good) (kk : G p l e R s m args below meth c D B od nL tab F cells slots A z nx lv (.ref (3001000 + k) :: st)) : G p l e R s m args below meth c D B od nL tab F cells slots A z i lv (.ref (3001000 + k) :: st) := by
  intro q hq H locs ls hR hS hl
  cases Option.some.inj (hi.symm.trans hq)
  obtain ⟨q2, hq2, e2⟩ := X.2.2.2.1.fall hi rfl
  have K := kk q2 hq2 H locs ls hR hS hl
  rw [e2] at K
  obtain ⟨-, a, h1, -, ad, h4, h5, h6⟩ := X.ox.2.2.2.2.2.2.1
  refine va_castS X.1.1 X.1.2.1 X.1.2.2.2.1 (X.1.2.2.2.2 _ hw) (X.2.1.1 11 (RJ6, TJ6, 1) rfl).2 ?_ (X.2.2.2.1.dec hi) K
  rw [rho_od (h4 k hk)]
  exact va_Orecv (h6.1 k hk) hS
section CALLS34
variable {y : MethodName} {bytes : ByteArray} {maxL n ix : Nat} {rt : Option FieldType} {rm : Room} {As rest : List Value} {b : Nat} {Q' : QT}
theorem run_go5 {H : Heap} {locs : List Loc} {mc ms : Nat} {ls : Array Slot} {st0 rs : List Value} {a : Array Value} (hr : va_Run5 p l e R s m args below meth c H locs cells slots mc ms (F0 m pc ls st0) rs (QcA D B od Q' a) (fun q => B ≤ q)) (hS : va_S (fun q => B ≤ q) s.heap H locs)
    (kk : ∀ (v : Option Value) (A' : AH) (z' : Nat) (H1 : Heap) (locs1 : List Loc), Q' v A' z' → RelA D B od A' z' H1 → va_S (fun q => B ≤ q) s.heap H1 locs1 → W p l e R s m args below meth c H1 locs1 (cells + mc) (slots + ms) F (F0 m (pc + 5) ls ((v.map (trV B od)).toList ++ rs))) : W p l e R s m args below meth c H locs cells slots F (F0 m pc ls st0) := by
  intro T hT X
  obtain ⟨v, st₀, t, T', L, h0, X', hL, e1, e2, ⟨⟨v', A', z', hv, hp, hb⟩, hz, hk⟩, st⟩ := hr T hT X
  have hv : v = v'.map (trV B od) := by cases hv; rfl
  subst hv
  rw [h0] at hz hk
  obtain ⟨t2, a1, b1⟩ := kk v' A' z' T'.heap (locs ++ L) hp (by rw [e1]; exact hb)
    ⟨Nat.le_trans hS.1 (by rw [e1]; exact hz), fun q h1 h2 => by rw [e1, hk q (Nat.lt_of_lt_of_le h1 hS.1) h2]; exact hS.2.1 q h1 h2, fun q hq => by
      rcases List.mem_append.mp hq with h | h
      · exact hS.2.2 q h
      · exact hL q h⟩ T' rfl X'
  exact ⟨t2, st t2 a1, b1⟩
/-- a call by an interface: x is named, y is run -/
theorem g_callF (X : Cx p s m args meth c D cy B od cc nL tab own ret) {x : MethodName} {C : String} {cnt : Nat} (hi : tab[i]? = some (pc, .invokeinterface ix cnt, 5, nx, tg)) (hL : LkC y bytes maxL rt n) (hM : Cond.methodLink own ix x ∈ lw_good) (hSe : Cond.selects C x y ∈ lw_good) (hIn : Cond.instanceMethod y ∈ lw_good) (hF9 : (C, x, y) ∈ faceL) (hx : (x.cls ≠ "java/lang/invoke/MethodHandle" ∧ x.cls ≠ "java/lang/invoke/VarHandle") ∧ (parseMethodDescriptor x.desc).map (fun d => d.parameters.length) = some n) (hC : CT l D cy B od y bytes maxL rt rm (.ref b :: As) A z Q') {ci : Nat} {fs : List Value} {T : u_T} {N : Nat} (hA : A b = some (.inr (ci, fs))) (hc : vwCl[ci]? = some (C, T, N)) (hst : st = As.reverse ++ .ref b :: rest) (hn : As.length = n) (hw : (rest.map fun v => v.category).sum ≤ 8) (hRm : rm.frames + 1 ≤ R.frames ∧ 8 + (maxL + 11) + rm.locals ≤ R.locals) (hf : cells + rm.cells ≤ R.cells ∧ slots + rm.slots ≤ R.slots)
    (kk : ∀ (v : Option Value) (A' : AH) (z' : Nat), Q' v A' z' → G p l e R s m args below meth c D B od nL tab F (cells + rm.cells) (slots + rm.slots) A' z' nx lv (v.toList ++ rest)) : G p l e R s m args below meth c D B od nL tab F cells slots A z i lv st := by
  intro q hq H locs ls hR hS hl
  cases Option.some.inj (hi.symm.trans hq)
  obtain ⟨q2, hq2, e2⟩ := X.2.2.2.1.fall hi rfl
  subst hst
  rw [List.map_append, List.map_reverse, List.map_cons]
  have hF : va_Fw C x y s := X.ox.2.2.1 (C, x, y) hF9
  refine run_go5 (va_runF (As := As.map (trV B od)) (b := rho B od b) (rest := rest.map (trV B od)) (x := x) (C := C) (X.2.1.1 ci _ hc).2 X.1 hC ⟨⟨rfl, rfl, hRm.1, hRm.2, pay_in X.1.2.2.2.2 (lw_good_ok hL.1), List.mem_cons_self⟩, X.1.2.2.2.2 _ hM, va_any rfl hF.1, va_any rfl hF.2.1, X.1.2.2.2.2 _ hSe, X.1.2.2.2.2 _ hIn, va_any rfl hF.2.2.1, va_any rfl hF.2.2.2.1, va_any rfl hF.2.2.2.2, X.1.2.2.2.2 _ hL.2.1, X.1.2.2.2.2 _ hL.1, hx.1, lk_len hx.2⟩ ⟨PcA.blind, recv X hR hA hc, fun U hU hW => ⟨rfl, X.world hR hS U hU hW⟩⟩ rfl ((List.length_map _).trans hn) hl.1 rfl (lv_room (st_cat hw)) (X.2.2.2.1.dec hi) hf) hS (fun v A' z' H1 locs1 hq hR1 hS1 => ?_)
  have K := kk v A' z' hq q2 hq2 H1 locs1 ls hR1 hS1 hl
  rw [e2, ← st_ret] at K
  exact K
/-- a call on an object of class C: y stands in C or above it -/
theorem g_callVC (X : Cx p s m args meth c D cy B od cc nL tab own ret) {C : String} (hi : tab[i]? = some (pc, .invokevirtual ix, 3, nx, tg)) (hL : LkC y bytes maxL rt n) (hM : LkM own ix y) (hIn : Cond.instanceMethod y ∈ lw_good) (hSe : (Cond.selects C y y).before args s = true) (hC : CT l D cy B od y bytes maxL rt rm (.ref b :: As) A z Q') {ci : Nat} {fs : List Value} {T : u_T} {N : Nat} (hA : A b = some (.inr (ci, fs))) (hc : vwCl[ci]? = some (C, T, N)) (hst : st = As.reverse ++ .ref b :: rest) (hn : As.length = n) (hw : (rest.map fun v => v.category).sum ≤ 8) (hRm : rm.frames + 1 ≤ R.frames ∧ 8 + (maxL + 11) + rm.locals ≤ R.locals) (hf : cells + rm.cells ≤ R.cells ∧ slots + rm.slots ≤ R.slots)
    (kk : ∀ (v : Option Value) (A' : AH) (z' : Nat), Q' v A' z' → G p l e R s m args below meth c D B od nL tab F (cells + rm.cells) (slots + rm.slots) A' z' nx lv (v.toList ++ rest)) : G p l e R s m args below meth c D B od nL tab F cells slots A z i lv st := by
  intro q hq H locs ls hR hS hl
  cases Option.some.inj (hi.symm.trans hq)
  obtain ⟨q2, hq2, e2⟩ := X.2.2.2.1.fall hi rfl
  subst hst
  rw [List.map_append, List.map_reverse, List.map_cons]
  refine run_go (va_runV (C := C) (As := As.map (trV B od)) (b := rho B od b) (rest := rest.map (trV B od)) X.1 hC ⟨mkB X hL hM hRm, X.1.2.2.2.2 _ hIn, hSe⟩ ⟨PcA.blind, recv X hR hA hc, fun U hU hW => ⟨rfl, X.world hR hS U hU hW⟩⟩ rfl ((List.length_map _).trans hn) hl.1 rfl (lv_room (st_cat hw)) (X.2.2.2.1.dec hi) hf) hS (fun v A' z' H1 locs1 hq hR1 hS1 => ?_)
  have K := kk v A' z' hq q2 hq2 H1 locs1 ls hR1 hS1 hl
  rw [e2, ← st_ret] at K
  exact K
/-- the superclass' own method -/
theorem g_callSU (X : Cx p s m args meth c D cy B od cc nL tab own ret) (hi : tab[i]? = some (pc, .invokespecial ix, 3, nx, tg)) (hL : LkC y bytes maxL rt n) (hM : LkM own ix y) (hIn : Cond.instanceMethod y ∈ lw_good) (hsm : Cond.sameMethod y.cls y.cls y.name y.desc ∈ lw_good) (hsu : Cond.superclass own y.cls ∈ lw_good) (hno : y.name ≠ "<init>") (hC : CT l D cy B od y bytes maxL rt rm (.ref b :: As) A z Q') {C : String} {ci : Nat} {fs : List Value} {T : u_T} {N : Nat} (hA : A b = some (.inr (ci, fs))) (hc : vwCl[ci]? = some (C, T, N)) (hst : st = As.reverse ++ .ref b :: rest) (hn : As.length = n) (hw : (rest.map fun v => v.category).sum ≤ 8) (hRm : rm.frames + 1 ≤ R.frames ∧ 8 + (maxL + 11) + rm.locals ≤ R.locals) (hf : cells + rm.cells ≤ R.cells ∧ slots + rm.slots ≤ R.slots)
    (kk : ∀ (v : Option Value) (A' : AH) (z' : Nat), Q' v A' z' → G p l e R s m args below meth c D B od nL tab F (cells + rm.cells) (slots + rm.slots) A' z' nx lv (v.toList ++ rest)) : G p l e R s m args below meth c D B od nL tab F cells slots A z i lv st := by
  intro q hq H locs ls hR hS hl
  cases Option.some.inj (hi.symm.trans hq)
  obtain ⟨q2, hq2, e2⟩ := X.2.2.2.1.fall hi rfl
  subst hst
  rw [List.map_append, List.map_reverse, List.map_cons]
  refine run_go (va_runSU (C := C) (As := As.map (trV B od)) (b := rho B od b) (rest := rest.map (trV B od)) (X.2.1.1 ci _ hc).2 X.1 hC ⟨⟨rfl, rfl, hRm.1, hRm.2, pay_in X.1.2.2.2.2 (lw_good_ok hL.1), List.mem_cons_self⟩, X.1.2.2.2.2 _ hM, X.1.2.2.2.2 _ hsm, X.1.2.2.2.2 _ hsu, X.1.2.2.2.2 _ hIn, X.1.2.2.2.2 _ hL.2.1, X.1.2.2.2.2 _ hL.1, hno, lk_len hL.2.2.2⟩ ⟨PcA.blind, recv X hR hA hc, fun U hU hW => ⟨rfl, X.world hR hS U hU hW⟩⟩ rfl ((List.length_map _).trans hn) hl.1 rfl (lv_room (st_cat hw)) (X.2.2.2.1.dec hi) hf) hS (fun v A' z' H1 locs1 hq hR1 hS1 => ?_)
  have K := kk v A' z' hq q2 hq2 H1 locs1 ls hR1 hS1 hl
  rw [e2, ← st_ret] at K
  exact K
/-- x is named, the object's class C runs y in its place -/
theorem g_callVO (X : Cx p s m args meth c D cy B od cc nL tab own ret) {x : MethodName} {C : String} (hi : tab[i]? = some (pc, .invokevirtual ix, 3, nx, tg)) (hL : LkC y bytes maxL rt n) (hM : Cond.methodLink own ix x ∈ lw_good) (hsm : Cond.sameMethod x.cls x.cls x.name x.desc ∈ lw_good) {b0 : ByteArray} {m0 : Nat} {r0 : Option FieldType} (hx1 : Cond.instanceMethod ⟨x.cls, x.name, x.desc⟩ ∈ lw_good) (hx2 : Cond.code ⟨x.cls, x.name, x.desc⟩ b0 m0 r0 ∈ lw_good) (hIn : Cond.instanceMethod y ∈ lw_good) (hSe : Cond.selects C x y ∈ lw_good) (hx : (x.cls ≠ "java/lang/invoke/MethodHandle" ∧ x.cls ≠ "java/lang/invoke/VarHandle") ∧ (parseMethodDescriptor x.desc).map (fun d => d.parameters.length) = some n) (hC : CT l D cy B od y bytes maxL rt rm (.ref b :: As) A z Q') {ci : Nat} {fs : List Value} {T : u_T} {N : Nat} (hA : A b = some (.inr (ci, fs))) (hc : vwCl[ci]? = some (C, T, N)) (hst : st = As.reverse ++ .ref b :: rest) (hn : As.length = n) (hw : (rest.map fun v => v.category).sum ≤ 8) (hRm : rm.frames + 1 ≤ R.frames ∧ 8 + (maxL + 11) + rm.locals ≤ R.locals) (hf : cells + rm.cells ≤ R.cells ∧ slots + rm.slots ≤ R.slots)
    (kk : ∀ (v : Option Value) (A' : AH) (z' : Nat), Q' v A' z' → G p l e R s m args below meth c D B od nL tab F (cells + rm.cells) (slots + rm.slots) A' z' nx lv (v.toList ++ rest)) : G p l e R s m args below meth c D B od nL tab F cells slots A z i lv st := by
  intro q hq H locs ls hR hS hl
  cases Option.some.inj (hi.symm.trans hq)
  obtain ⟨q2, hq2, e2⟩ := X.2.2.2.1.fall hi rfl
  subst hst
  rw [List.map_append, List.map_reverse, List.map_cons]
  refine run_go (va_runU (C := C) (owner := x.cls) (x := x) (As := As.map (trV B od)) (b := rho B od b) (rest := rest.map (trV B od)) X.1 hC ⟨⟨rfl, rfl, hRm.1, hRm.2, pay_in X.1.2.2.2.2 (lw_good_ok hL.1), List.mem_cons_self⟩, X.1.2.2.2.2 _ hL.1, X.1.2.2.2.2 _ hL.2.1, hx.1, lk_len hx.2, X.1.2.2.2.2 _ hM, X.1.2.2.2.2 _ hsm, va_Decl.of (X.1.2.2.2.2 _ hx1) (X.1.2.2.2.2 _ hx2), X.1.2.2.2.2 _ hSe, X.1.2.2.2.2 _ hIn⟩ ⟨PcA.blind, recv X hR hA hc, fun U hU hW => ⟨rfl, X.world hR hS U hU hW⟩⟩ rfl ((List.length_map _).trans hn) hl.1 rfl (lv_room (st_cat hw)) (X.2.2.2.1.dec hi) hf) hS (fun v A' z' H1 locs1 hq hR1 hS1 => ?_)
  have K := kk v A' z' hq q2 hq2 H1 locs1 ls hR1 hS1 hl
  rw [e2, ← st_ret] at K
  exact K
end CALLS34
end CORE34
