/-! 11: the machine's max and min; throws; calls that may throw -/
section CORE11
variable {p : Program} {l : Launch} {e : Env} {R : Room} {s : State} {m : MethodId} {args : Array Value} {below : List Frame} {meth : Method} {c : Code}
variable {D : va_G} {cy : Nat → ClassId} {B : Nat} {od : Nat → Option Nat} {cc : ByteArray} {nL : Nat} {tab : List PT} {own : String} {ret : Option FieldType}
variable {F : State → Prop} {cells slots : Nat} {A : AH} {z i pc len nx tg : Nat} {lv : List (Option Value)} {st : List Value}
theorem ma_ini : Cond.initialized "java/lang/Math" ∈ lw_good := lw_good_in (n := 153) (by decide +kernel) rfl
theorem ma_xl : Cond.static Lib.MathLoose.max_long.x ∈ lw_good ∧ Cond.code Lib.MathLoose.max_long.x Lib.MathLoose.max_long.code 4 (some .long) ∈ lw_good := ⟨lw_good_in (n := 635) (by decide +kernel) rfl, lw_good_in (n := 636) (by decide +kernel) rfl⟩
theorem ma_nl : Cond.static Lib.MathLoose.min_long.x ∈ lw_good ∧ Cond.code Lib.MathLoose.min_long.x Lib.MathLoose.min_long.code 4 (some .long) ∈ lw_good := ⟨lw_good_in (n := 632) (by decide +kernel) rfl, lw_good_in (n := 633) (by decide +kernel) rfl⟩
theorem ma_xi : Cond.static Lib.Math.max.name ∈ lw_good ∧ Cond.code Lib.Math.max.name Lib.Math.max.code 2 (some .int) ∈ lw_good := ⟨lw_good_in (n := 1017) (by decide +kernel) rfl, lw_good_in (n := 1018) (by decide +kernel) rfl⟩
theorem ma_ni : Cond.static Lib.Math.min.name ∈ lw_good ∧ Cond.code Lib.Math.min.name Lib.Math.min.code 2 (some .int) ∈ lw_good := ⟨lw_good_in (n := 481) (by decide +kernel) rfl, lw_good_in (n := 482) (by decide +kernel) rfl⟩
theorem g_m_max_l (X : Cx p s m args meth c D cy B od cc nL tab own ret) {ix : Nat} {x y : Int64} (hi : tab[i]? = some (pc, .invokestatic ix, 3, nx, tg)) (hL : Cond.methodLink own ix Lib.MathLoose.max_long.x ∈ lw_good) (hst : (st.map fun v => v.category).sum ≤ 6) (hR : 1 ≤ R.frames ∧ 21 ≤ R.locals) (hf : cells ≤ R.cells ∧ slots ≤ R.slots) (kk : G p l e R s m args below meth c D B od nL tab F cells slots A z nx lv (.long (if y < x then x else y) :: st)) : G p l e R s m args below meth c D B od nL tab F cells slots A z i lv (.long y :: .long x :: st) := by
  intro q hq H locs ls hRl hS hl
  cases Option.some.inj (hi.symm.trans hq)
  obtain ⟨q2, hq2, e2⟩ := X.2.2.2.1.fall hi rfl
  have K := kk q2 hq2 H locs ls hRl hS hl
  rw [e2] at K
  have h3 : ((st.map (trV B od)).map fun v => v.category).sum = (st.map fun v => v.category).sum := by
    rw [List.map_map, show ((fun v : Value => v.category) ∘ trV B od) = (fun v => v.category) from funext fun v => trV_cat B od v]
  exact va_mmax_long X.1.1 X.1.2.1 (X.1.2.2.1.trans hl.1.symm) X.1.2.2.2.1 (X.1.2.2.2.2 _ hL) (X.1.2.2.2.2 _ ma_xl.1) (X.1.2.2.2.2 _ ma_ini) (X.1.2.2.2.2 _ ma_xl.2) hR.1 (by rw [h3]; omega) hf.1 hf.2 (X.2.2.2.1.dec hi) K
theorem g_m_min_l (X : Cx p s m args meth c D cy B od cc nL tab own ret) {ix : Nat} {x y : Int64} (hi : tab[i]? = some (pc, .invokestatic ix, 3, nx, tg)) (hL : Cond.methodLink own ix Lib.MathLoose.min_long.x ∈ lw_good) (hst : (st.map fun v => v.category).sum ≤ 6) (hR : 1 ≤ R.frames ∧ 21 ≤ R.locals) (hf : cells ≤ R.cells ∧ slots ≤ R.slots) (kk : G p l e R s m args below meth c D B od nL tab F cells slots A z nx lv (.long (if y < x then y else x) :: st)) : G p l e R s m args below meth c D B od nL tab F cells slots A z i lv (.long y :: .long x :: st) := by
  intro q hq H locs ls hRl hS hl
  cases Option.some.inj (hi.symm.trans hq)
  obtain ⟨q2, hq2, e2⟩ := X.2.2.2.1.fall hi rfl
  have K := kk q2 hq2 H locs ls hRl hS hl
  rw [e2] at K
  have h3 : ((st.map (trV B od)).map fun v => v.category).sum = (st.map fun v => v.category).sum := by
    rw [List.map_map, show ((fun v : Value => v.category) ∘ trV B od) = (fun v => v.category) from funext fun v => trV_cat B od v]
  exact va_mmin_long X.1.1 X.1.2.1 (X.1.2.2.1.trans hl.1.symm) X.1.2.2.2.1 (X.1.2.2.2.2 _ hL) (X.1.2.2.2.2 _ ma_nl.1) (X.1.2.2.2.2 _ ma_ini) (X.1.2.2.2.2 _ ma_nl.2) hR.1 (by rw [h3]; omega) hf.1 hf.2 (X.2.2.2.1.dec hi) K
theorem g_m_max_i (X : Cx p s m args meth c D cy B od cc nL tab own ret) {ix : Nat} {x y : Int32} (hi : tab[i]? = some (pc, .invokestatic ix, 3, nx, tg)) (hL : Cond.methodLink own ix Lib.Math.max.name ∈ lw_good) (hst : (st.map fun v => v.category).sum ≤ 6) (hR : 1 ≤ R.frames ∧ 21 ≤ R.locals) (hf : cells ≤ R.cells ∧ slots ≤ R.slots) (kk : G p l e R s m args below meth c D B od nL tab F cells slots A z nx lv (.int (if x < y then y else x) :: st)) : G p l e R s m args below meth c D B od nL tab F cells slots A z i lv (.int y :: .int x :: st) := by
  intro q hq H locs ls hRl hS hl
  cases Option.some.inj (hi.symm.trans hq)
  obtain ⟨q2, hq2, e2⟩ := X.2.2.2.1.fall hi rfl
  have K := kk q2 hq2 H locs ls hRl hS hl
  rw [e2] at K
  have h3 : ((st.map (trV B od)).map fun v => v.category).sum = (st.map fun v => v.category).sum := by
    rw [List.map_map, show ((fun v : Value => v.category) ∘ trV B od) = (fun v => v.category) from funext fun v => trV_cat B od v]
  exact va_mmax X.1.1 X.1.2.1 (X.1.2.2.1.trans hl.1.symm) X.1.2.2.2.1 (X.1.2.2.2.2 _ hL) (X.1.2.2.2.2 _ ma_xi.1) (X.1.2.2.2.2 _ ma_ini) (X.1.2.2.2.2 _ ma_xi.2) hR.1 (by rw [h3]; omega) hf.1 hf.2 (X.2.2.2.1.dec hi) K
theorem g_m_min_i (X : Cx p s m args meth c D cy B od cc nL tab own ret) {ix : Nat} {x y : Int32} (hi : tab[i]? = some (pc, .invokestatic ix, 3, nx, tg)) (hL : Cond.methodLink own ix Lib.Math.min.name ∈ lw_good) (hst : (st.map fun v => v.category).sum ≤ 6) (hR : 1 ≤ R.frames ∧ 21 ≤ R.locals) (hf : cells ≤ R.cells ∧ slots ≤ R.slots) (kk : G p l e R s m args below meth c D B od nL tab F cells slots A z nx lv (.int (if y < x then y else x) :: st)) : G p l e R s m args below meth c D B od nL tab F cells slots A z i lv (.int y :: .int x :: st) := by
  intro q hq H locs ls hRl hS hl
  cases Option.some.inj (hi.symm.trans hq)
  obtain ⟨q2, hq2, e2⟩ := X.2.2.2.1.fall hi rfl
  have K := kk q2 hq2 H locs ls hRl hS hl
  rw [e2] at K
  have h3 : ((st.map (trV B od)).map fun v => v.category).sum = (st.map fun v => v.category).sum := by
    rw [List.map_map, show ((fun v : Value => v.category) ∘ trV B od) = (fun v => v.category) from funext fun v => trV_cat B od v]
  exact va_mmin X.1.1 X.1.2.1 (X.1.2.2.1.trans hl.1.symm) X.1.2.2.2.1 (X.1.2.2.2.2 _ hL) (X.1.2.2.2.2 _ ma_ni.1) (X.1.2.2.2.2 _ ma_ini) (X.1.2.2.2.2 _ ma_ni.2) hR.1 (by rw [h3]; omega) hf.1 hf.2 (X.2.2.2.1.dec hi) K
-- throws
def dcls : List Cond := [.declares (Bundle.initS "java/lang/RuntimeException"), .declares (Bundle.initS "java/lang/Exception"), .declares (Bundle.initS "java/lang/Throwable")]
theorem dcl_of {y : MethodName} {b : ByteArray} {n : Nat} {rt : Option FieldType} (hts : ∀ v ∈ lw_good, v.before args s = true) (h1 : Cond.instanceMethod y ∈ lw_good) (h2 : Cond.code y b n rt ∈ lw_good) : (Cond.declares y).before args s = true := by
  obtain ⟨r0, r, a1, a2, a3, a4⟩ := va_Decl.of (hts _ h1) (hts _ h2)
  simp [Cond.before, Cond.holds, Cond.value, a1, a2, a3, a4]
theorem dcls_ok (hts : ∀ v ∈ lw_good, v.before args s = true) : ∀ w ∈ dcls, w.before args s = true := by
  intro w hw
  simp only [dcls, List.mem_cons, List.not_mem_nil, or_false] at hw
  rcases hw with rfl | rfl | rfl
  · exact dcl_of (b := prog_19_method_2_code) (n := 2) (rt := none) hts (lw_good_in (n := 820) (by decide +kernel) rfl) (lw_good_in (n := 821) (by decide +kernel) rfl)
  · exact dcl_of (b := prog_14_method_2_code) (n := 2) (rt := none) hts (lw_good_in (n := 823) (by decide +kernel) rfl) (lw_good_in (n := 824) (by decide +kernel) rfl)
  · exact dcl_of (b := prog_23_method_2_code) (n := 2) (rt := none) hts (lw_good_in (n := 826) (by decide +kernel) rfl) (lw_good_in (n := 827) (by decide +kernel) rfl)
def ThOk (own cls : String) (ik ic : Nat) (names : List String) : Prop := Bundle.fit cls = true ∧ (∀ n ∈ names, Bundle.fit n = true) ∧ Cond.classLink own ik cls ∈ lw_good ∧ Cond.initialized cls ∈ lw_good ∧ Cond.instantiable cls 6 ∈ lw_good ∧ ((vx_atS own ic cls names).all (fun w => (decide (w ∈ lw_tbl) && goodWord w) || decide (w = .castable cls cls) || decide (w ∈ dcls))) = true ∧ ((Cond.classLink own ik cls :: Cond.initialized cls :: vx_atS own ic cls names).all vx_ot) = true
theorem cast_self {E : String} {A' : Array Value} (h : (Cond.instantiable E 6).before A' s = true) : (Cond.castable E E).before args s = true := by
  obtain ⟨c1, k, h1, -⟩ := Cond.instantiable_spec h
  show (Cond.castable E E).holds args s none s [] = true
  have hs : s.vm.assignable c1 c1 = true := by
    show s.vm.assignableAux (255 + 1) c1 c1 = true
    rw [Vm.assignableAux, beq_self_eq_true, Bool.true_or]
  simp [Cond.holds, Cond.value, h1, hs]
theorem thr_words {cls : String} {ik ic : Nat} {names : List String} (hts : ∀ v ∈ lw_good, v.before args s = true) (h : ThOk own cls ik ic names) : ∀ w ∈ vx_atS own ic cls names, w.before args s = true := by
  intro w hw
  have h1 := List.all_eq_true.mp h.2.2.2.2.2.1 w hw
  rw [Bool.or_eq_true, Bool.or_eq_true, Bool.and_eq_true] at h1
  rcases h1 with (h2 | h2) | h2
  · exact hts w (List.mem_filter.mpr ⟨of_decide_eq_true h2.1, h2.2⟩)
  · rw [of_decide_eq_true h2]
    exact cast_self (hts _ h.2.2.2.2.1)
  · exact dcls_ok hts w (of_decide_eq_true h2)
theorem thr_heap {H : Heap} {t : State} (hR : RelA D B od A z H) (h1 : H.size ≤ t.heap.size) (h2 : ∀ q : Nat, q < H.size → t.heap[q]? = H[q]?) : RelA D B od A 0 t.heap := ⟨fun k x hk => ⟨(hR.1 k x hk).1, (hR.1 k x hk).2.kept (h2 _ (hR.1 k x hk).2.lt)⟩, fun h => absurd rfl h⟩
theorem thr_F {H : Heap} {locs : List Loc} {t : State} (hS : va_S (fun q => B ≤ q) s.heap H locs) (h1 : H.size ≤ t.heap.size) (h2 : ∀ q : Nat, q < H.size → t.heap[q]? = H[q]?) : va_F (fun q => B ≤ q) s t := ⟨Nat.le_trans hS.1 h1, fun q h3 h4 => (h2 q (Nat.lt_of_lt_of_le h3 hS.1)).trans (hS.2.1 q h3 h4)⟩
theorem g_throw2 (X : Cx p s m args meth c D cy B od cc nL tab own ret) (hl : l.stackTraces = false) (hnt : ∀ x ∈ c.exceptionTable.toList, False) {cls text : String} {ik is ic j : Nat} {names : List String} (hT : ThOk own cls ik ic names) (hs : strT[j]? = some (own, is, text)) {i1 i2 i3 i4 a4 b1 b2 b3 b4 : Nat} (d0 : tab[i]? = some (pc, .new ik, 3, i1, tg)) (d1 : tab[i1]? = some (pc + 3, .dup, 1, i2, b1)) (d2 : tab[i2]? = some (pc + 4, .ldc is, 2, i3, b2)) (d3 : tab[i3]? = some (pc + 6, .invokespecial ic, 3, i4, b3)) (d4 : tab[i4]? = some (pc + 9, .athrow, 1, a4, b4)) (hRm : names.length + 3 < R.frames ∧ (st.map fun v => v.category).sum + (13 * (names.length + 1) + 43) ≤ R.locals) {mc ms : Nat} (hRc : cells + 1 ≤ R.cells ∧ slots + 6 ≤ R.slots) (hc : cells + 1 ≤ mc) (hs9 : slots + 6 ≤ ms) {Q : QT} {Qx : QX} (hx : Qx cls A) : G p l e R s m args below meth c D B od nL tab (FinQ true D B od Q Qx args s below mc ms) cells slots A z i lv st := by
  intro q hq H locs ls hR hS hL
  cases Option.some.inj (d0.symm.trans hq)
  obtain ⟨-, -, -, -, -, hlk, -, hO⟩ := id X
  obtain ⟨sa, -, hsa⟩ := hO.2.2.1 j _ hs
  have hT2 := hT
  obtain ⟨t1, t2, t3, t4, t5, t6, t7⟩ := hT
  have h3 : ((st.map (trV B od)).map fun v => v.category).sum = (st.map fun v => v.category).sum := by
    rw [List.map_map, show ((fun v : Value => v.category) ∘ trV B od) = (fun v => v.category) from funext fun v => trV_cat B od v]
  exact vx_throwS X.1.1 X.1.2.1 hl X.1.2.2.2.1 t1 t2 (X.1.2.2.2.2 _ t3) (X.1.2.2.2.2 _ t4) hsa (thr_words X.1.2.2.2.2 hT2) (fun w hw => List.all_eq_true.mp t7 w hw) hO.1 hO.2.1 hS (hL.1.trans X.1.2.2.1.symm) (X.2.2.2.1.dec d0) (X.2.2.2.1.dec d1) (X.2.2.2.1.dec d2) (X.2.2.2.1.dec d3) (X.2.2.2.1.dec d4) (fun x hx9 => (hnt x hx9).elim) hRm.1 (by rw [h3]; exact hRm.2) hRc.1 hRc.2 hlk (fun t _ h1 h2 => ⟨⟨A, hx, thr_heap hR h1 h2⟩, thr_F hS h1 h2⟩) hS.2.2 hc hs9
theorem g_throw3 (X : Cx p s m args meth c D cy B od cc nL tab own ret) (hl : l.stackTraces = false) (hnt : ∀ x ∈ c.exceptionTable.toList, False) {cls text : String} {ik is ic j : Nat} {names : List String} (hT : ThOk own cls ik ic names) (hs : strT[j]? = some (own, is, text)) {i1 i2 i3 i4 a4 b1 b2 b3 b4 : Nat} (d0 : tab[i]? = some (pc, .new ik, 3, i1, tg)) (d1 : tab[i1]? = some (pc + 3, .dup, 1, i2, b1)) (d2 : tab[i2]? = some (pc + 4, .ldc_w is, 3, i3, b2)) (d3 : tab[i3]? = some (pc + 7, .invokespecial ic, 3, i4, b3)) (d4 : tab[i4]? = some (pc + 10, .athrow, 1, a4, b4)) (hRm : names.length + 3 < R.frames ∧ (st.map fun v => v.category).sum + (13 * (names.length + 1) + 43) ≤ R.locals) {mc ms : Nat} (hRc : cells + 1 ≤ R.cells ∧ slots + 6 ≤ R.slots) (hc : cells + 1 ≤ mc) (hs9 : slots + 6 ≤ ms) {Q : QT} {Qx : QX} (hx : Qx cls A) : G p l e R s m args below meth c D B od nL tab (FinQ true D B od Q Qx args s below mc ms) cells slots A z i lv st := by
  intro q hq H locs ls hR hS hL
  cases Option.some.inj (d0.symm.trans hq)
  obtain ⟨-, -, -, -, -, hlk, -, hO⟩ := id X
  obtain ⟨sa, -, hsa⟩ := hO.2.2.1 j _ hs
  have hT2 := hT
  obtain ⟨t1, t2, t3, t4, t5, t6, t7⟩ := hT
  have h3 : ((st.map (trV B od)).map fun v => v.category).sum = (st.map fun v => v.category).sum := by
    rw [List.map_map, show ((fun v : Value => v.category) ∘ trV B od) = (fun v => v.category) from funext fun v => trV_cat B od v]
  exact vx_throwSW X.1.1 X.1.2.1 hl X.1.2.2.2.1 t1 t2 (X.1.2.2.2.2 _ t3) (X.1.2.2.2.2 _ t4) hsa (thr_words X.1.2.2.2.2 hT2) (fun w hw => List.all_eq_true.mp t7 w hw) hO.1 hO.2.1 hS (hL.1.trans X.1.2.2.1.symm) (X.2.2.2.1.dec d0) (X.2.2.2.1.dec d1) (X.2.2.2.1.dec d2) (X.2.2.2.1.dec d3) (X.2.2.2.1.dec d4) (fun x hx9 => (hnt x hx9).elim) hRm.1 (by rw [h3]; exact hRm.2) hRc.1 hRc.2 hlk (fun t _ h1 h2 => ⟨⟨A, hx, thr_heap hR h1 h2⟩, thr_F hS h1 h2⟩) hS.2.2 hc hs9
theorem g_throwE (X : Cx p s m args meth c D cy B od cc nL tab own ret) (hl : l.stackTraces = false) (hnt : ∀ x ∈ c.exceptionTable.toList, False) {cls text : String} {ik is ic j : Nat} {names : List String} (hcls : cls = "java/util/NoSuchElementException" ∧ own = RX7 ∧ ik = 346 ∧ ic = 350 ∧ names = ["java/lang/RuntimeException", "java/lang/Exception"]) (hs : strT[j]? = some (own, is, text)) {i1 i2 i3 i4 a4 b1 b2 b3 b4 : Nat} (d0 : tab[i]? = some (pc, .new ik, 3, i1, tg)) (d1 : tab[i1]? = some (pc + 3, .dup, 1, i2, b1)) (d2 : tab[i2]? = some (pc + 4, .ldc_w is, 3, i3, b2)) (d3 : tab[i3]? = some (pc + 7, .invokespecial ic, 3, i4, b3)) (d4 : tab[i4]? = some (pc + 10, .athrow, 1, a4, b4)) (hRm : names.length + 3 < R.frames ∧ (st.map fun v => v.category).sum + (13 * (names.length + 1) + 43) ≤ R.locals) {mc ms : Nat} (hRc : cells + 1 ≤ R.cells ∧ slots + 6 ≤ R.slots) (hc : cells + 1 ≤ mc) (hs9 : slots + 6 ≤ ms) {Q : QT} {Qx : QX} (hx : Qx cls A) : G p l e R s m args below meth c D B od nL tab (FinQ true D B od Q Qx args s below mc ms) cells slots A z i lv st := by
  sorry
-- calls that may throw
section XCALLS
variable {y : MethodName} {bytes : ByteArray} {maxL n ix : Nat} {rt : Option FieldType} {rm : Room} {As rest : List Value} {b : Nat} {Q' : QT} {Qx' : QX}
theorem xrun_go {H : Heap} {locs : List Loc} {mc ms : Nat} {ls : Array Slot} {st0 rs : List Value} {a : Array Value} (hr : vx_Run p l e R s m args below meth c H locs cells slots mc ms (F0 m pc ls st0) rs (QcA D B od Q' a) (XcA D B od Qx') (fun q => B ≤ q)) (hS : va_S (fun q => B ≤ q) s.heap H locs)
    (kx : ∀ (E : String) (ce : Cell) (q9 : Addr) (A' : AH) (H1 : Heap) (locs1 : List Loc), Qx' E A' → RelA D B od A' 0 H1 → va_S (fun q => B ≤ q) s.heap H1 locs1 → H1[q9]? = some ce → ce.vm = .none → s.vm.findClass E = some ce.cls → vx_W p l e R s m args below meth c H1 locs1 (cells + mc) (slots + ms) F (F0 m pc ls rs) q9)
    (kk : ∀ (v : Option Value) (A' : AH) (z' : Nat) (H1 : Heap) (locs1 : List Loc), Q' v A' z' → RelA D B od A' z' H1 → va_S (fun q => B ≤ q) s.heap H1 locs1 → W p l e R s m args below meth c H1 locs1 (cells + mc) (slots + ms) F (F0 m (pc + 3) ls ((v.map (trV B od)).toList ++ rs))) : W p l e R s m args below meth c H locs cells slots F (F0 m pc ls st0) := by
  intro T hT X
  rcases hr T hT X with ⟨v, st₀, t, T', L, h0, X', hL, e1, e2, ⟨⟨v', A', z', hv, hp, hb⟩, hF⟩, st⟩ | ⟨q, st₀, t, T', L, E, ce, h0, X', hL, e1, e2, ⟨⟨A', hp, hb⟩, hF⟩, hce, hcv, hcl, st⟩
  · have hv : v = v'.map (trV B od) := by cases hv; rfl
    subst hv
    obtain ⟨k1, k2, k3⟩ := vx_keep h0 e1 hS (fun q _ h => h) (fun q h => h) hL hF
    obtain ⟨t2, a1, b1⟩ := kk v' A' z' T'.heap (locs ++ L) hp (by rw [e1]; exact hb) k3 T' rfl X'
    exact ⟨t2, st t2 a1, b1⟩
  · obtain ⟨k1, k2, k3⟩ := vx_keep h0 e1 hS (fun q _ h => h) (fun q h => h) hL hF
    obtain ⟨t2, a1, b1⟩ := kx E ce q A' T'.heap (locs ++ L) hp (by rw [e1]; exact hb) k3 (by rw [e1]; exact hce) hcv hcl T' rfl X'
    exact ⟨t2, st.trans a1, b1⟩
theorem gx_out {H : Heap} {locs : List Loc} {ls : Array Slot} {rs : List Value} {mc ms : Nat} {Q : QT} {Qx : QX} (X : Cx p s m args meth c D cy B od cc nL tab own ret) (hnt : ∀ x ∈ c.exceptionTable.toList, False) (hc : cells ≤ mc) (hs : slots ≤ ms) {E : String} {ce : Cell} {q9 : Addr} {A' : AH} (hx : Qx E A') (hR : RelA D B od A' 0 H) (hS : va_S (fun q => B ≤ q) s.heap H locs) (h1 : H[q9]? = some ce) (h2 : ce.vm = .none) (h3 : s.vm.findClass E = some ce.cls) : vx_W p l e R s m args below meth c H locs cells slots (FinQ true D B od Q Qx args s below mc ms) (F0 m pc ls rs) q9 :=
  vx_out (fun x hx9 => (hnt x hx9).elim) X.2.2.2.2.2.1 h1 h2 h3 (fun t ht _ => ⟨⟨A', hx, by rw [ht]; exact hR⟩, hS.F ht⟩) hS.2.2 hc hs
theorem gx_callS (X : Cx p s m args meth c D cy B od cc nL tab own ret) (hnt : ∀ x ∈ c.exceptionTable.toList, False) (hi : tab[i]? = some (pc, .invokestatic ix, 3, nx, tg)) (hL : LkC y bytes maxL rt n) (hM : LkM own ix y) (hSt : Cond.static y ∈ lw_good) (hC : CX l D cy B od y bytes maxL rt rm As A z Q' Qx') (hst : st = As.reverse ++ rest) (hn : As.length = n) (hw : (rest.map fun v => v.category).sum ≤ 8) (hRm : rm.frames + 1 ≤ R.frames ∧ 8 + (maxL + 11) + rm.locals ≤ R.locals) (hf : cells + rm.cells ≤ R.cells ∧ slots + rm.slots ≤ R.slots) {mc ms : Nat} (hc : cells + rm.cells ≤ mc) (hs : slots + rm.slots ≤ ms) {Q : QT} {Qx : QX} (hx : ∀ E A', Qx' E A' → Qx E A')
    (kk : ∀ (v : Option Value) (A' : AH) (z' : Nat), Q' v A' z' → G p l e R s m args below meth c D B od nL tab (FinQ true D B od Q Qx args s below mc ms) (cells + rm.cells) (slots + rm.slots) A' z' nx lv (v.toList ++ rest)) : G p l e R s m args below meth c D B od nL tab (FinQ true D B od Q Qx args s below mc ms) cells slots A z i lv st := by
  intro q hq H locs ls hR hS hl
  cases Option.some.inj (hi.symm.trans hq)
  obtain ⟨q2, hq2, e2⟩ := X.2.2.2.1.fall hi rfl
  subst hst
  rw [List.map_append, List.map_reverse]
  refine xrun_go (vx_runS (As := As.map (trV B od)) (rest := rest.map (trV B od)) X.1 hC ⟨mkB X hL hM hRm, X.1.2.2.2.2 _ hSt⟩ ⟨PcA.blind, fun U hU hW => ⟨rfl, X.world hR hS U hU hW⟩⟩ rfl ((List.length_map _).trans hn) hl.1 rfl (lv_room (st_cat hw)) (X.2.2.2.1.dec hi) hf) hS (fun E ce q9 A' H1 locs1 h1 h2 h3 h4 h5 h6 => gx_out X hnt hc hs (hx E A' h1) h2 h3 h4 h5 h6) (fun v A' z' H1 locs1 hq hR1 hS1 => ?_)
  have K := kk v A' z' hq q2 hq2 H1 locs1 ls hR1 hS1 hl
  rw [e2, ← st_ret] at K
  exact K
end XCALLS
end CORE11
/-- a check that may throw E: when it holds nothing happens -/
def CQ (l : Launch) (D : va_G) (cy : Nat → ClassId) (B : Nat) (od : Nat → Option Nat) (y : MethodName) (bytes : ByteArray) (maxL : Nat) (rt : Option FieldType) (rm : Room) (av : List Value) (A : AH) (E : String) (q : Prop) : Prop := ∀ z, CX l D cy B od y bytes maxL rt rm av A z (fun v A' z' => v = none ∧ A' = A ∧ z' = z ∧ q) (fun E' A' => E' = E ∧ A' = A ∧ ¬ q)
