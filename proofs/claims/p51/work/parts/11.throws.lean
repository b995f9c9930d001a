/-! 11: the machine's max and min; throws; calls that may throw -/
-- NoSuchElementException: its constructor hands the text on by the link 13
abbrev nsE : String := "java/util/NoSuchElementException"
abbrev rtE : String := "java/lang/RuntimeException"
def six13 : ByteArray := ⟨#[0x2a, 0x2b, 0xb7, 0x00, 0x0d, 0xb1]⟩
theorem s13_0 : decode six13 0 = .ok (.aload_n 0, 1) := by decide +kernel
theorem s13_1 : decode six13 1 = .ok (.aload_n 1, 1) := by decide +kernel
theorem s13_2 : decode six13 2 = .ok (.invokespecial 13, 3) := by decide +kernel
theorem s13_5 : decode six13 5 = .ok (.return_, 1) := by decide +kernel
def atE : List Cond := (Bundle.ownAtoms RX7 350 nsE [rtE, "java/lang/Exception"]).filter (fun w => decide (w ≠ .code (Bundle.initS nsE) Bundle.six 2 none) && decide (w ≠ .methodLink nsE 7 (Bundle.initS rtE))) ++ [.code (Bundle.initS nsE) six13 2 none, .methodLink nsE 13 (Bundle.initS rtE)]
theorem inE {L : List Cond} (h : L.all (fun w => decide (w ∈ atE)) = true) : ∀ w ∈ L, w ∈ atE := fun w hw => of_decide_eq_true (List.all_eq_true.mp h w hw)
section ETHR
variable {p : Program} {l : Launch} {e : Env} {R : Room} {s : State} {m₀ : MethodId} {args : Array Value} {below : List Frame} {meth : Method} {c : Code} {W : State} {locs : List Loc} {cells slots : Nat}
set_option maxHeartbeats 1000000 in
theorem ctorE (X : Stand p l e R s m₀ args below meth c W locs cells slots) (hexec : p.tables.exec = Jvm.exec) (htr : e.platform.stackTraces = false)
    (hown : s.vm.findClass RX7 = some m₀.cls) (h : ∀ a ∈ atE, a.before args s = true)
    (hlocs : ∀ x ∈ locs, ∀ cell, s.heap[x.base]? = some cell → cell.vm.isStatics = false)
    {a : Addr} {cX : ClassId} {kX : Class} (hfoundX : s.vm.findClass nsE = some cX) (hkX : s.vm.classes[cX]? = some kX) (hcell : W.heap[a]? = some (freshCell cX kX)) (hnew : s.heap.size ≤ a)
    {msg : Value} (hmsg : msg.isRef = true)
    {g : JFrame} (hg : g.method = m₀) (hsize : g.locals.size = c.maxLocals) {rest : List Value} (hstack : g.stack = msg :: .ref a :: .ref a :: rest)
    (hd6 : decode c.code g.pc = .ok (.invokespecial 350, 3))
    (hRframes : 5 < R.frames) (hRlocals : 2 * g.monitorRoom + ((Value.ref a :: rest).map fun v => v.category).sum + (13 * (2 + 1) + 42) ≤ R.locals) :
    ∃ (V : State) (ce : Cell) (L : List Loc), Stand p l e R s m₀ args below meth c (V.setCell a ce) (locs ++ L) cells slots ∧ (∀ y ∈ L, y.base = a) ∧ a < V.heap.size ∧ ce.cls = cX ∧ ce.vm = .none ∧
      ∀ target, Steps p.tables e below ((V.setCell a ce).setTop { g with stack := .ref a :: rest, pc := g.pc + 3 }) target → Steps p.tables e below (W.setTop g) target := by
  have howns : e.platform.frameOwnsMonitors = true := by rw [X.admits.platform]
  have hfin : e.platform.finalization = false := by rw [X.admits.platform]
  have hpl : e.platform.magicAccessors = ({} : Platform).magicAccessors := by rw [X.admits.platform]
  have a' : ∀ x, x ∈ atE → x.holds args s none s [] = true := fun x hx => h x hx
  obtain ⟨T, Z0, L, -, Y⟩ := ThrowableC.of_atoms (args := args) howns hfin hpl (fun x hx => h x (inE (by decide +kernel) x hx))
  obtain ⟨Z, M, LZ, LM, hnZ⟩ := Init0T.ofS_atoms (args := args) hpl L Y (fun x hx => h x (inE (by decide +kernel) x hx))
  obtain ⟨P1, L1, hP1m, hP1s⟩ := PassC.ofS_atoms (args := args) (s := s) hpl (X := nsE) (Y := rtE) (index := 13) (bytes := six13) (Bundle.fit_spec (by decide +kernel)).1 (Bundle.fit_spec (by decide +kernel)).2 s13_0 s13_1 s13_2 s13_5 (fun x hx => h x (inE (by decide +kernel) x hx))
  obtain ⟨P2, Ps, hlen, L2, hL, hP2m, hlink2, hlink⟩ := Bundle.chainS (args := args) hpl hnZ ["java/lang/Exception"] rtE (by decide +kernel) (by decide +kernel) (fun x hx => h x (inE (by decide +kernel) x hx))
  have hlink1 : P1.sup = P2.m := Option.some.inj (hP1s.symm.trans hP2m)
  have hfound : s.vm.findClass nsE = some P1.m.cls := findClass_of_methodNamed hP1m
  cases Option.some.inj (hfoundX.symm.trans hfound)
  obtain ⟨c1, kX', hc1, hk, hord, -, -, hn6⟩ := Cond.instantiable_spec (a' (.instantiable nsE 6) (by decide +kernel))
  cases Option.some.inj (hc1.symm.trans hfound)
  cases Option.some.inj (hkX.symm.trans hk)
  have hsel0 : selectMethod e.platform s.vm P1.m.cls T.fill0 = .method T.fill0 := by
    obtain ⟨c2, r2, m2, q1, q2, q3, q4, -⟩ := Cond.selects_spec (a' (.selects nsE Bundle.tFill0 Bundle.tFill0) (by decide +kernel))
    cases Option.some.inj (q1.symm.trans hfound)
    cases Option.some.inj (q2.symm.trans (State.methodFound?_of_named Y.fill0 (by decide)))
    cases Option.some.inj (q3.symm.trans Y.fill0)
    rw [Launch.admits_selectMethod X.admits]; exact q4
  have hselF : selectMethod e.platform s.vm P1.m.cls T.fill = .method T.fill := by
    obtain ⟨c2, r2, m2, q1, q2, q3, q4, -⟩ := Cond.selects_spec (a' (.selects nsE Bundle.tFill Bundle.tFill) (by decide +kernel))
    cases Option.some.inj (q1.symm.trans hfound)
    cases Option.some.inj (q2.symm.trans (State.methodFound?_of_named Y.fill (by decide)))
    cases Option.some.inj (q3.symm.trans Y.fill)
    rw [Launch.admits_selectMethod X.admits]; exact q4
  obtain ⟨cellS0, hcS0, hiss⟩ := Y.statics
  obtain ⟨u0, hu0⟩ := Cond.staticRefV Y.unassigned L.unassignedStatic L.statics hcS0 hiss (a' (.isRef (.static Bundle.tN "UNASSIGNED_STACK" Bundle.steD)) (by decide +kernel))
  obtain ⟨sen, hsen⟩ := Cond.staticRefV Y.sentinel L.sentinelStatic L.statics hcS0 hiss (a' (.isRef (.static Bundle.tN "SUPPRESSED_SENTINEL" Bundle.listD)) (by decide +kernel))
  obtain ⟨ci198, i198, fB, hk198, hg198, ha198, hsB, -, hnB, htB, hffB⟩ := Cond.ownField (t := .object "java/lang/Object") Y.found L.cls (by decide +kernel) (a' (.fieldLink Bundle.tN 198 Bundle.tN "backtrace" "Ljava/lang/Object;") (by decide +kernel)) (a' (.lays Bundle.tN Bundle.tN "backtrace" "Ljava/lang/Object;") (by decide +kernel)) e.platform hpl
  obtain ⟨cellS, hcS', heS, -, hkeep⟩ := X.same.2.2.2.2.2 T.aS cellS0 hcS0
  have hcellS : W.heap[T.aS]? = some cellS := hcS'
  have hout' : ∀ i, (⟨T.aS, i⟩ : Loc) ∉ locs := fun i hmem => by
    have := hlocs _ hmem cellS0 hcS0
    rw [hiss] at this; cases this
  have hknownS : cellS.vm ≠ .unknown := by
    rw [heS]; intro hu
    rw [show cellS0.vm = .unknown from hu] at hiss
    cases hiss
  have hneS : T.aS ≠ a := Nat.ne_of_lt (Nat.lt_of_lt_of_le (Array.getElem?_eq_some_iff.mp hcS0).1 hnew)
  obtain ⟨iM, hffM⟩ := Y.msg
  obtain ⟨tyC, dC, hdC, hdnC⟩ := Cond.laysAt hfound hk Y.cause (a' (.lays nsE Bundle.tN "cause" "Ljava/lang/Throwable;") (by decide +kernel))
  obtain ⟨tyS, dS, hdS, hdnS⟩ := Cond.laysAt hfound hk Y.stack (a' (.lays nsE Bundle.tN "stackTrace" Bundle.steD) (by decide +kernel))
  obtain ⟨tyP, dP, hdP, hdnP⟩ := Cond.laysAt hfound hk Y.supp (a' (.lays nsE Bundle.tN "suppressedExceptions" Bundle.listD) (by decide +kernel))
  obtain ⟨tyM, dM, hdM, hdnM⟩ := Cond.laysAt hfound hk hffM (a' (.lays nsE Bundle.tN "detailMessage" "Ljava/lang/String;") (by decide +kernel))
  obtain ⟨tyB, dB, hdB, hdnB⟩ := Cond.laysAt hfound hk hffB (a' (.lays nsE Bundle.tN "backtrace" "Ljava/lang/Object;") (by decide +kernel))
  have bC := Cond.laysApart hdB hdC hdnB hdnC (by rw [hnB, Y.causeName]; decide)
  have bS := Cond.laysApart hdB hdS hdnB hdnS (by rw [hnB, Y.stackName]; decide)
  have bP := Cond.laysApart hdB hdP hdnB hdnP (by rw [hnB, Y.suppName]; decide)
  have hskip : SkipFacts T e.platform s (fun u => u) u0 ((preparedCellV T.toThrowableT (freshCell P1.m.cls kX) a u0 sen).withEntry W.cur) :=
    ⟨{ ci198 := ci198, i198 := i198, fBack := fB }, ⟨hk198, hg198, ha198, hsB⟩, by
      have := fresh_default (c := P1.m.cls) tyB
      rw [htB] at this
      simpa [preparedCellV, Cell.setSlot, Cell.withEntry, Array.getElem?_setIfInBounds, bC, bS, bP, bC.symm, bS.symm, bP.symm, defaultValue] using this, fun _ _ => rfl⟩
  obtain ⟨tm, methC, cdC, kC, vm₁, hnC, -, -, -, -, -, -, -, hW₁, st1⟩ := Steps.initColdS (tb := p.tables) (e := e) (below := below) (s := s) (U := W) X.here hexec X.warmed hpl hown (t := Bundle.initS nsE) rfl rfl (Bundle.fit_spec (by decide +kernel)).2
    (a' (.methodLink RX7 350 (Bundle.initS nsE)) (by decide +kernel)) (h (.instanceMethod (Bundle.initS nsE)) (by decide +kernel)) (bytes := six13) (maxL := 2) (h (.code (Bundle.initS nsE) six13 2 none) (by decide +kernel))
    (f := g) hg (a := a) (msg := msg) (rest := .ref a :: rest) hstack hd6
  cases Option.some.inj (hnC.symm.trans hP1m)
  have X₁ := X.noted hW₁
  obtain ⟨vm₂, X₂, st2⟩ := X₁.ctorMessageOffV hexec (g := { g with stack := .ref a :: rest }) hg hsize T L Z LZ M LM (P1 :: P2 :: Ps)
    (fun P hP => by
      rcases List.mem_cons.mp hP with rfl | hP
      · exact L1
      · rcases List.mem_cons.mp hP with rfl | hP
        · exact L2
        · exact hL P hP) ⟨hlink1, hlink2, hlink⟩ (u0 := u0) (sen := sen) (self := a) hmsg (cell := freshCell P1.m.cls kX) (cellS := cellS)
    hcell (fun _ => by simp) (by simp) rfl rfl hsel0 hselF hcellS hneS hknownS (by rw [hkeep _ (hout' _)]; exact hu0) (by rw [hkeep _ (hout' _)]; exact hsen)
    (Takes.of_laid hk hord tyC (by rw [Y.causeType]; rfl)) (Takes.of_laid hk hord tyS (by rw [Y.stackType]; exact fits_refV_array _ u0)) (Takes.of_laid hk hord tyP (by rw [Y.suppType]; exact fits_refV_object _ sen))
    (Takes.of_laid hk hord tyM (by rw [Y.msgType]; exact fits_refV_object _ ⟨msg, hmsg⟩)) Y.objLocals hskip htr [] hd6
    (by simp only [List.length_cons, List.length_nil, hlen]; omega) (by simp only [List.length_cons, List.length_nil, hlen]; first | exact hRlocals | omega)
  have hlt : a < ((W.setVm vm₁).setVm vm₂).heap.size := (Array.getElem?_eq_some_iff.mp hcell).1
  refine ⟨(W.setVm vm₁).setVm vm₂, _, _, X₂, fun y hy => ?_, hlt, rfl, rfl, fun target hwalk => st1 _ (fun acts => ?_)⟩
  · simp only [List.mem_cons, List.not_mem_nil, or_false] at hy
    rcases hy with rfl | rfl | rfl | rfl | rfl <;> rfl
  · rw [doInvoke_state]
    exact st2 _ hwalk
end ETHR
section ETHW
variable {p : Program} {l : Launch} {e : Env} {R : Room} {s : State} {m : MethodId} {args : Array Value} {below : List Frame} {meth : Method} {c : Code} {H : Heap} {locs : List Loc} {cells slots : Nat}
variable {mc ms : Nat} {free : Addr → Prop} {A0 A1 : Nat → Prop} {H0 : Heap} {a : Array Value} {ls : Array Slot} {st0 rest : List Value}
variable {Qc : Array Value → State → Outcome → State → Prop} {XC : String → State → State → Prop}
/-- 'throw new NoSuchElementException("text")' in the class, the text by a wide index -/
theorem throwE {cc : ByteArray} {pc : Nat} (hexec : p.tables.exec = Jvm.exec) (hb : c.code = cc) (hl : l.stackTraces = false) {text : String} {is mc ms sa : Nat} {A : Nat → Prop}
    (hown : s.vm.findClass RX7 = some m.cls)
    (hk : (Cond.classLink RX7 346 nsE).before args s = true) (hini : (Cond.initialized nsE).before args s = true) (hstr : vk_R RX7 is text sa s) (hat : ∀ w ∈ atE.filter vx_no, w.before args s = true)
    (hU : vx_Zq Bundle.tN "UNASSIGNED_STACK" Bundle.steD A s s.heap) (hN : vx_Zq Bundle.tN "SUPPRESSED_SENTINEL" Bundle.listD A s s.heap) (hS : va_S A s.heap H locs) (hsize : ls.size = c.maxLocals)
    (d0 : decode cc pc = .ok (.new 346, 3)) (d3 : decode cc (pc + 3) = .ok (.dup, 1)) (d4 : decode cc (pc + 4) = .ok (.ldc_w is, 3)) (d7 : decode cc (pc + 7) = .ok (.invokespecial 350, 3)) (d10 : decode cc (pc + 10) = .ok (.athrow, 1))
    (hout : ∀ x ∈ c.exceptionTable.toList, covers x (pc + 10) = false)
    (hRframes : 5 < R.frames) (hRlocals : (rest.map fun v => v.category).sum + (13 * (2 + 1) + 43) ≤ R.locals) (hRcells : cells + 1 ≤ R.cells) (hRslots : slots + 6 ≤ R.slots) (hlocks : meth.locks = false)
    (hx : ∀ t : State, s.vm.Alike t.vm → H.size ≤ t.heap.size → (∀ q : Nat, q < H.size → t.heap[q]? = H[q]?) → XC nsE s t)
    (hf : ∀ z ∈ locs, free z.base) (hc : cells + 1 ≤ mc) (hs : slots + 6 ≤ ms) :
    W p l e R s m args below meth c H locs cells slots (vx_MQ below Qc XC args s mc ms free) (F0 m pc ls rest) := by
  intro T hT X
  have hgood : ((Cond.classLink RX7 346 nsE :: Cond.initialized nsE :: atE.filter vx_no).all vx_ot) = true := by decide +kernel
  have hgood := List.all_eq_true.mp hgood
  have htr : e.platform.stackTraces = false := (show e.platform.stackTraces = l.stackTraces by rw [X.admits.platform]).trans hl
  have Y := vx_rebase X (R' := { frames := R.frames, locals := R.locals, cells := 1, slots := 6 }) (Nat.le_refl _) (Nat.le_refl _) hRcells hRslots
  obtain ⟨s', hA⟩ : ∃ z, z = (T.setVm s.vm).setFrames (.invoking m args :: below) := ⟨_, rfl⟩
  rw [← hA] at Y
  have hvm : s'.vm = s.vm := by rw [hA]; rfl
  have hhp : s'.heap = H := by rw [hA]; exact hT
  have hW0 : s.WarmedH s'.vm := by rw [hvm]; exact State.WarmedH.refl s
  have hat' : ∀ w ∈ atE.filter vx_no, w.before args s' = true := fun w hw => vx_ot_at hW0 hvm.symm (hgood w (List.mem_cons_of_mem _ (List.mem_cons_of_mem _ hw))) (hat w hw)
  have hk' : (Cond.classLink RX7 346 nsE).before args s' = true := vx_ot_at hW0 hvm.symm (hgood _ List.mem_cons_self) hk
  have hini' : (Cond.initialized nsE).before args s' = true := vx_ot_at hW0 hvm.symm (hgood _ (List.mem_cons_of_mem _ List.mem_cons_self)) hini
  have hU' : vx_Zq Bundle.tN "UNASSIGNED_STACK" Bundle.steD A s' s'.heap := by rw [hhp]; exact vx_Zq.moved hW0.alike (hU.kept hS.2.1)
  have hN' : vx_Zq Bundle.tN "SUPPRESSED_SENTINEL" Bundle.listD A s' s'.heap := by rw [hhp]; exact vx_Zq.moved hW0.alike (hN.kept hS.2.1)
  have h : ∀ w ∈ atE, w.before args s' = true := vx_own hat' (vx_isRefq hU'.1) (vx_isRefq hN'.1) hU'.2.word hN'.2.word
  have hown' : s'.vm.findClass RX7 = some m.cls := by rw [hvm]; exact hown
  have hins : (Cond.instantiable nsE 6).before args s' = true := h _ (by decide +kernel)
  obtain ⟨vm₁, cX, kX, hfX, hkX, -, -, X₁, st1⟩ := Y.newCold hexec (own := RX7) (C := nsE) (index := 346) (n := 6) hown' hk' hins hini'
    (g := F0 m pc ls rest) rfl (by rw [hb]; exact d0) (Nat.le_refl _) (Nat.le_refl _)
  generalize hT1 : (T.setVm vm₁).pushCell { cls := cX, slots := kX.instanceTypes.map defaultValue, vm := .none } = T1 at X₁ st1
  have hcat : (Value.ref T.heap.size).category = 1 := rfl
  have hcellA : T1.heap[T.heap.size]? = some (freshCell cX kX) := by rw [← hT1]; exact State.heap_pushCell_size _ _
  have d3' : decode c.code (pc + 3) = .ok (.dup, 1) := by rw [hb]; exact d3
  have d4' : decode c.code (pc + 4) = .ok (.ldc_w is, 3) := by rw [hb]; exact d4
  have hstr' : vk_R RX7 is text sa s' := vk_R.warm hW0 hstr
  obtain ⟨V, ce, L, Z, hL, hlt, hcl9, hvm9, st⟩ := ctorE X₁ hexec htr hown' h (fun x hx => nomatch hx) hfX hkX hcellA (by rw [hhp, hT]; exact Nat.le_refl _) (msg := .ref sa) rfl
    (g := { method := m, pc := pc + 7, locals := ls, stack := .ref sa :: .ref T.heap.size :: .ref T.heap.size :: rest, locked := none }) rfl hsize (rest := rest) rfl
    (by rw [hb]; exact d7) hRframes (by simp only [List.map_cons, List.sum_cons, hcat]; omega)
  have Z0 := Stand.forget (locs := []) Z (fun y hy => by rw [hL y hy, hhp, hT]; exact Nat.le_refl _)
  obtain ⟨hwalk, hrun, hend, hW, hsame⟩ := Z0.athrowLeaves hexec (g := { method := m, pc := pc + 7 + 3, locals := ls, stack := .ref T.heap.size :: rest, locked := none }) rfl rfl rfl hout (a := T.heap.size) (rest := rest) rfl (by rw [hb]; exact d10) hlocks
  obtain ⟨f1, f2⟩ := vx_frame hsame
  rw [hhp] at f1 f2
  have hWs := State.WarmedH.trans hW0 hW
  have hce : ((V.setCell T.heap.size ce).setFrames (.throwing T.heap.size :: below)).heap[T.heap.size]? = some ce := heapAt_setCell_self (s := V) ce hlt
  have hcl : s.vm.findClass nsE = some ce.cls := by
    rw [hcl9, ← hvm]
    exact hfX
  have hall : s.sameButNew ({ (V.setCell T.heap.size ce).setFrames (.throwing T.heap.size :: below) with vm := s.vm } : State) locs mc ms := by
    subst hA
    obtain ⟨e1, e2⟩ := hsame
    rw [State.setFrames_setFrames] at e1
    have h2 : (T.setVm s.vm).sameButNew ({ (V.setCell T.heap.size ce).setFrames (.throwing T.heap.size :: below) with vm := s.vm } : State) [] (0 + 1) (0 + 6) := ⟨e1, e2⟩
    have h3 := X.same.trans h2
    rw [List.append_nil] at h3
    exact h3.mono hc hs
  refine ⟨(V.setCell T.heap.size ce).setFrames (.throwing T.heap.size :: below), ?_, .threw T.heap.size, hrun, hend, Or.inr ⟨T.heap.size, rfl, nsE, ce, locs, hx _ hWs.alike f1 (fun q hq => f2 q hq (fun z hz => nomatch hz)), hce, hvm9, hcl, hWs, hall, hf⟩⟩
  refine st1 _ ?_
  show Steps p.tables e below (T1.setTop { method := m, pc := pc + 3, locals := ls, stack := .ref T.heap.size :: rest, locked := none }) _
  jvm_step X₁.here [X₁.here.top, hexec, d3', Value.category]
  exact X₁.ldcStringW hexec (own := RX7) (text := text) (index := is) (a := sa) hown' hstr'.1 hstr'.2
    (g := { method := m, pc := pc + 4, locals := ls, stack := .ref T.heap.size :: .ref T.heap.size :: rest, locked := none }) rfl d4' _ (st _ hwalk)
end ETHW
section CORE11
variable {p : Program} {l : Launch} {e : Env} {R : Room} {s : State} {m : MethodId} {args : Array Value} {below : List Frame} {meth : Method} {c : Code}
variable {D : va_G} {cy : Nat → ClassId} {B : Nat} {od : Nat → Option Nat} {cc : ByteArray} {nL : Nat} {tab : List PT} {own : String} {ret : Option FieldType}
variable {F : State → Prop} {cells slots : Nat} {A : AH} {z i pc len nx tg : Nat} {lv : List (Option Value)} {st : List Value}
theorem ma_ini : Cond.initialized "java/lang/Math" ∈ lw_good := lw_good_in (n := 75) (by decide +kernel) rfl
theorem ma_xl : Cond.static Lib.MathLoose.max_long.x ∈ lw_good ∧ Cond.code Lib.MathLoose.max_long.x Lib.MathLoose.max_long.code 4 (some .long) ∈ lw_good := ⟨lw_good_in (n := 1339) (by decide +kernel) rfl, lw_good_in (n := 1340) (by decide +kernel) rfl⟩
theorem ma_nl : Cond.static Lib.MathLoose.min_long.x ∈ lw_good ∧ Cond.code Lib.MathLoose.min_long.x Lib.MathLoose.min_long.code 4 (some .long) ∈ lw_good := ⟨lw_good_in (n := 1346) (by decide +kernel) rfl, lw_good_in (n := 1347) (by decide +kernel) rfl⟩
theorem ma_xi : Cond.static Lib.Math.max.name ∈ lw_good ∧ Cond.code Lib.Math.max.name Lib.Math.max.code 2 (some .int) ∈ lw_good := ⟨lw_good_in (n := 662) (by decide +kernel) rfl, lw_good_in (n := 663) (by decide +kernel) rfl⟩
theorem ma_ni : Cond.static Lib.Math.min.name ∈ lw_good ∧ Cond.code Lib.Math.min.name Lib.Math.min.code 2 (some .int) ∈ lw_good := ⟨lw_good_in (n := 416) (by decide +kernel) rfl, lw_good_in (n := 417) (by decide +kernel) rfl⟩
theorem g_m_max_l (X : Cx p s m args meth c D cy B od cc nL tab own ret) {ix : Nat} {x y : Int64} (hi : tab[i]? = some (pc, .invokestatic ix, 3, nx, tg)) (hL : Cond.methodLink own ix Lib.MathLoose.max_long.x ∈ lw_good) (hst : (st.map fun v => v.category).sum ≤ 6) (hR : 1 ≤ R.frames ∧ 21 ≤ R.locals) (hf : cells ≤ R.cells ∧ slots ≤ R.slots) (kk : G p l e R s m args below meth c D B od nL tab F cells slots A z nx lv (.long (if y < x then x else y) :: st)) : G p l e R s m args below meth c D B od nL tab F cells slots A z i lv (.long y :: .long x :: st) := by
  intro q hq H locs ls hRl hS hl
  cases Option.some.inj (hi.symm.trans hq)
  obtain ⟨q2, hq2, e2⟩ := X.2.2.2.1.fall hi rfl
  have K := kk q2 hq2 H locs ls hRl hS hl
  rw [e2] at K
  have h3 : ((st.map (trV B od)).map fun v => v.category).sum = (st.map fun v => v.category).sum := by
    rw [List.map_map, show ((fun v : Value => v.category) ∘ trV B od) = (fun v => v.category) from funext fun v => trV_cat B od v]
  exact va_mmax_long X.1.1 X.1.2.1 (X.1.2.2.1.trans hl.1.symm) X.1.2.2.2.1 (X.1.2.2.2.2 _ hL) (X.1.2.2.2.2 _ ma_xl.1) (X.1.2.2.2.2 _ ma_ini) (X.1.2.2.2.2 _ ma_xl.2) hR.1 (by rw [h3]; omega) hf.1 hf.2 (X.2.2.2.1.dec hi) K
theorem g_m_min_l (X : Cx p s m args meth c D cy B od cc nL tab own ret) {ix : Nat} {x y : Int64} (hi : tab[i]? = some (pc, .invokestatic ix, 3, nx, tg)) (hL : Cond.methodLink own ix Lib.MathLoose.min_long.x ∈ lw_good) (hst : (st.map fun v => v.category).sum ≤ 6) (hR : 1 ≤ R.frames ∧ 21 ≤ R.locals) (hf : cells ≤ R.cells ∧ slots ≤ R.slots) (kk : G p l e R s m args below meth c D B od nL tab F cells slots A z nx lv (.long (if y < x then y else x) :: st)) : G p l e R s m args below meth c D B od nL tab F cells slots A z i lv (.long y :: .long x :: st) := by
  intro q hq H locs ls hRl hS hl
  cases Option.some.inj (hi.symm.trans hq)
  obtain ⟨q2, hq2, e2⟩ := X.2.2.2.1.fall hi rfl
  have K := kk q2 hq2 H locs ls hRl hS hl
  rw [e2] at K
  have h3 : ((st.map (trV B od)).map fun v => v.category).sum = (st.map fun v => v.category).sum := by
    rw [List.map_map, show ((fun v : Value => v.category) ∘ trV B od) = (fun v => v.category) from funext fun v => trV_cat B od v]
  exact va_mmin_long X.1.1 X.1.2.1 (X.1.2.2.1.trans hl.1.symm) X.1.2.2.2.1 (X.1.2.2.2.2 _ hL) (X.1.2.2.2.2 _ ma_nl.1) (X.1.2.2.2.2 _ ma_ini) (X.1.2.2.2.2 _ ma_nl.2) hR.1 (by rw [h3]; omega) hf.1 hf.2 (X.2.2.2.1.dec hi) K
theorem g_m_max_i (X : Cx p s m args meth c D cy B od cc nL tab own ret) {ix : Nat} {x y : Int32} (hi : tab[i]? = some (pc, .invokestatic ix, 3, nx, tg)) (hL : Cond.methodLink own ix Lib.Math.max.name ∈ lw_good) (hst : (st.map fun v => v.category).sum ≤ 6) (hR : 1 ≤ R.frames ∧ 21 ≤ R.locals) (hf : cells ≤ R.cells ∧ slots ≤ R.slots) (kk : G p l e R s m args below meth c D B od nL tab F cells slots A z nx lv (.int (if x < y then y else x) :: st)) : G p l e R s m args below meth c D B od nL tab F cells slots A z i lv (.int y :: .int x :: st) := by
  intro q hq H locs ls hRl hS hl
  cases Option.some.inj (hi.symm.trans hq)
  obtain ⟨q2, hq2, e2⟩ := X.2.2.2.1.fall hi rfl
  have K := kk q2 hq2 H locs ls hRl hS hl
  rw [e2] at K
  have h3 : ((st.map (trV B od)).map fun v => v.category).sum = (st.map fun v => v.category).sum := by
    rw [List.map_map, show ((fun v : Value => v.category) ∘ trV B od) = (fun v => v.category) from funext fun v => trV_cat B od v]
  exact va_mmax X.1.1 X.1.2.1 (X.1.2.2.1.trans hl.1.symm) X.1.2.2.2.1 (X.1.2.2.2.2 _ hL) (X.1.2.2.2.2 _ ma_xi.1) (X.1.2.2.2.2 _ ma_ini) (X.1.2.2.2.2 _ ma_xi.2) hR.1 (by rw [h3]; omega) hf.1 hf.2 (X.2.2.2.1.dec hi) K
theorem g_m_min_i (X : Cx p s m args meth c D cy B od cc nL tab own ret) {ix : Nat} {x y : Int32} (hi : tab[i]? = some (pc, .invokestatic ix, 3, nx, tg)) (hL : Cond.methodLink own ix Lib.Math.min.name ∈ lw_good) (hst : (st.map fun v => v.category).sum ≤ 6) (hR : 1 ≤ R.frames ∧ 21 ≤ R.locals) (hf : cells ≤ R.cells ∧ slots ≤ R.slots) (kk : G p l e R s m args below meth c D B od nL tab F cells slots A z nx lv (.int (if y < x then y else x) :: st)) : G p l e R s m args below meth c D B od nL tab F cells slots A z i lv (.int y :: .int x :: st) := by
  intro q hq H locs ls hRl hS hl
  cases Option.some.inj (hi.symm.trans hq)
  obtain ⟨q2, hq2, e2⟩ := X.2.2.2.1.fall hi rfl
  have K := kk q2 hq2 H locs ls hRl hS hl
  rw [e2] at K
  have h3 : ((st.map (trV B od)).map fun v => v.category).sum = (st.map fun v => v.category).sum := by
    rw [List.map_map, show ((fun v : Value => v.category) ∘ trV B od) = (fun v => v.category) from funext fun v => trV_cat B od v]
  exact va_mmin X.1.1 X.1.2.1 (X.1.2.2.1.trans hl.1.symm) X.1.2.2.2.1 (X.1.2.2.2.2 _ hL) (X.1.2.2.2.2 _ ma_ni.1) (X.1.2.2.2.2 _ ma_ini) (X.1.2.2.2.2 _ ma_ni.2) hR.1 (by rw [h3]; omega) hf.1 hf.2 (X.2.2.2.1.dec hi) K
-- throws
def dcls : List Cond := [.declares (Bundle.initS "java/lang/RuntimeException"), .declares (Bundle.initS "java/lang/Exception"), .declares (Bundle.initS "java/lang/Throwable")]
theorem dcl_of {y : MethodName} {b : ByteArray} {n : Nat} {rt : Option FieldType} (hts : ∀ v ∈ lw_good, v.before args s = true) (h1 : Cond.instanceMethod y ∈ lw_good) (h2 : Cond.code y b n rt ∈ lw_good) : (Cond.declares y).before args s = true := by
  obtain ⟨r0, r, a1, a2, a3, a4⟩ := va_Decl.of (hts _ h1) (hts _ h2)
  simp [Cond.before, Cond.holds, Cond.value, a1, a2, a3, a4]
theorem dcls_ok (hts : ∀ v ∈ lw_good, v.before args s = true) : ∀ w ∈ dcls, w.before args s = true := by
  intro w hw
  simp only [dcls, List.mem_cons, List.not_mem_nil, or_false] at hw
  rcases hw with rfl | rfl | rfl
  · exact dcl_of (b := prog_27_method_2_code) (n := 2) (rt := none) hts (lw_good_in (n := 1030) (by decide +kernel) rfl) (lw_good_in (n := 1031) (by decide +kernel) rfl)
  · exact dcl_of (b := prog_18_method_2_code) (n := 2) (rt := none) hts (lw_good_in (n := 1033) (by decide +kernel) rfl) (lw_good_in (n := 1034) (by decide +kernel) rfl)
  · exact dcl_of (b := prog_33_method_2_code) (n := 2) (rt := none) hts (lw_good_in (n := 1036) (by decide +kernel) rfl) (lw_good_in (n := 1037) (by decide +kernel) rfl)
def ThOk (own cls : String) (ik ic : Nat) (names : List String) : Prop := Bundle.fit cls = true ∧ (∀ n ∈ names, Bundle.fit n = true) ∧ Cond.classLink own ik cls ∈ lw_good ∧ Cond.initialized cls ∈ lw_good ∧ Cond.instantiable cls 6 ∈ lw_good ∧ ((vx_atS own ic cls names).all (fun w => (decide (w ∈ lw_tbl) && goodWord w) || decide (w = .castable cls cls) || decide (w ∈ dcls))) = true ∧ ((Cond.classLink own ik cls :: Cond.initialized cls :: vx_atS own ic cls names).all vx_ot) = true
theorem cast_self {E : String} {A' : Array Value} (h : (Cond.instantiable E 6).before A' s = true) : (Cond.castable E E).before args s = true := by
  obtain ⟨c1, k, h1, -⟩ := Cond.instantiable_spec h
  show (Cond.castable E E).holds args s none s [] = true
  have hs : s.vm.assignable c1 c1 = true := by
    show s.vm.assignableAux (255 + 1) c1 c1 = true
    rw [Vm.assignableAux, beq_self_eq_true, Bool.true_or]
  simp [Cond.holds, Cond.value, h1, hs]
theorem thr_words {cls : String} {ik ic : Nat} {names : List String} (hts : ∀ v ∈ lw_good, v.before args s = true) (h : ThOk own cls ik ic names) : ∀ w ∈ vx_atS own ic cls names, w.before args s = true := by
  intro w hw
  have h1 := List.all_eq_true.mp h.2.2.2.2.2.1 w hw
  rw [Bool.or_eq_true, Bool.or_eq_true, Bool.and_eq_true] at h1
  rcases h1 with (h2 | h2) | h2
  · exact hts w (List.mem_filter.mpr ⟨of_decide_eq_true h2.1, h2.2⟩)
  · rw [of_decide_eq_true h2]
    exact cast_self (hts _ h.2.2.2.2.1)
  · exact dcls_ok hts w (of_decide_eq_true h2)
theorem thr_heap {H : Heap} {t : State} (hR : RelA D B od A z H) (h1 : H.size ≤ t.heap.size) (h2 : ∀ q : Nat, q < H.size → t.heap[q]? = H[q]?) : RelA D B od A 0 t.heap := ⟨fun k x hk => ⟨(hR.1 k x hk).1, (hR.1 k x hk).2.kept (h2 _ (hR.1 k x hk).2.lt)⟩, fun h => absurd rfl h⟩
theorem thr_F {H : Heap} {locs : List Loc} {t : State} (hS : va_S (fun q => B ≤ q) s.heap H locs) (h1 : H.size ≤ t.heap.size) (h2 : ∀ q : Nat, q < H.size → t.heap[q]? = H[q]?) : va_F (fun q => B ≤ q) s t := ⟨Nat.le_trans hS.1 h1, fun q h3 h4 => (h2 q (Nat.lt_of_lt_of_le h3 hS.1)).trans (hS.2.1 q h3 h4)⟩
theorem g_throw2 (X : Cx p s m args meth c D cy B od cc nL tab own ret) (hl : l.stackTraces = false) (hnt : ∀ x ∈ c.exceptionTable.toList, False) {cls text : String} {ik is ic j : Nat} {names : List String} (hT : ThOk own cls ik ic names) (hs : strT[j]? = some (own, is, text)) {i1 i2 i3 i4 a4 b1 b2 b3 b4 : Nat} (d0 : tab[i]? = some (pc, .new ik, 3, i1, tg)) (d1 : tab[i1]? = some (pc + 3, .dup, 1, i2, b1)) (d2 : tab[i2]? = some (pc + 4, .ldc is, 2, i3, b2)) (d3 : tab[i3]? = some (pc + 6, .invokespecial ic, 3, i4, b3)) (d4 : tab[i4]? = some (pc + 9, .athrow, 1, a4, b4)) (hRm : names.length + 3 < R.frames ∧ (st.map fun v => v.category).sum + (13 * (names.length + 1) + 43) ≤ R.locals) {mc ms : Nat} (hRc : cells + 1 ≤ R.cells ∧ slots + 6 ≤ R.slots) (hc : cells + 1 ≤ mc) (hs9 : slots + 6 ≤ ms) {Q : QT} {Qx : QX} (hx : Qx cls A) : G p l e R s m args below meth c D B od nL tab (FinQ true D B od Q Qx args s below mc ms) cells slots A z i lv st := by
  intro q hq H locs ls hR hS hL
  cases Option.some.inj (d0.symm.trans hq)
  obtain ⟨-, -, -, -, -, hlk, -, hO⟩ := id X
  obtain ⟨sa, -, hsa⟩ := hO.2.2.1 j _ hs
  have hT2 := hT
  obtain ⟨t1, t2, t3, t4, t5, t6, t7⟩ := hT
  have h3 : ((st.map (trV B od)).map fun v => v.category).sum = (st.map fun v => v.category).sum := by
    rw [List.map_map, show ((fun v : Value => v.category) ∘ trV B od) = (fun v => v.category) from funext fun v => trV_cat B od v]
  exact vx_throwS X.1.1 X.1.2.1 hl X.1.2.2.2.1 t1 t2 (X.1.2.2.2.2 _ t3) (X.1.2.2.2.2 _ t4) hsa (thr_words X.1.2.2.2.2 hT2) (fun w hw => List.all_eq_true.mp t7 w hw) hO.1 hO.2.1 hS (hL.1.trans X.1.2.2.1.symm) (X.2.2.2.1.dec d0) (X.2.2.2.1.dec d1) (X.2.2.2.1.dec d2) (X.2.2.2.1.dec d3) (X.2.2.2.1.dec d4) (fun x hx9 => (hnt x hx9).elim) hRm.1 (by rw [h3]; exact hRm.2) hRc.1 hRc.2 hlk (fun t _ h1 h2 => ⟨⟨A, hx, thr_heap hR h1 h2⟩, thr_F hS h1 h2⟩) hS.2.2 hc hs9
theorem g_throw3 (X : Cx p s m args meth c D cy B od cc nL tab own ret) (hl : l.stackTraces = false) (hnt : ∀ x ∈ c.exceptionTable.toList, False) {cls text : String} {ik is ic j : Nat} {names : List String} (hT : ThOk own cls ik ic names) (hs : strT[j]? = some (own, is, text)) {i1 i2 i3 i4 a4 b1 b2 b3 b4 : Nat} (d0 : tab[i]? = some (pc, .new ik, 3, i1, tg)) (d1 : tab[i1]? = some (pc + 3, .dup, 1, i2, b1)) (d2 : tab[i2]? = some (pc + 4, .ldc_w is, 3, i3, b2)) (d3 : tab[i3]? = some (pc + 7, .invokespecial ic, 3, i4, b3)) (d4 : tab[i4]? = some (pc + 10, .athrow, 1, a4, b4)) (hRm : names.length + 3 < R.frames ∧ (st.map fun v => v.category).sum + (13 * (names.length + 1) + 43) ≤ R.locals) {mc ms : Nat} (hRc : cells + 1 ≤ R.cells ∧ slots + 6 ≤ R.slots) (hc : cells + 1 ≤ mc) (hs9 : slots + 6 ≤ ms) {Q : QT} {Qx : QX} (hx : Qx cls A) : G p l e R s m args below meth c D B od nL tab (FinQ true D B od Q Qx args s below mc ms) cells slots A z i lv st := by
  intro q hq H locs ls hR hS hL
  cases Option.some.inj (d0.symm.trans hq)
  obtain ⟨-, -, -, -, -, hlk, -, hO⟩ := id X
  obtain ⟨sa, -, hsa⟩ := hO.2.2.1 j _ hs
  have hT2 := hT
  obtain ⟨t1, t2, t3, t4, t5, t6, t7⟩ := hT
  have h3 : ((st.map (trV B od)).map fun v => v.category).sum = (st.map fun v => v.category).sum := by
    rw [List.map_map, show ((fun v : Value => v.category) ∘ trV B od) = (fun v => v.category) from funext fun v => trV_cat B od v]
  exact vx_throwSW X.1.1 X.1.2.1 hl X.1.2.2.2.1 t1 t2 (X.1.2.2.2.2 _ t3) (X.1.2.2.2.2 _ t4) hsa (thr_words X.1.2.2.2.2 hT2) (fun w hw => List.all_eq_true.mp t7 w hw) hO.1 hO.2.1 hS (hL.1.trans X.1.2.2.1.symm) (X.2.2.2.1.dec d0) (X.2.2.2.1.dec d1) (X.2.2.2.1.dec d2) (X.2.2.2.1.dec d3) (X.2.2.2.1.dec d4) (fun x hx9 => (hnt x hx9).elim) hRm.1 (by rw [h3]; exact hRm.2) hRc.1 hRc.2 hlk (fun t _ h1 h2 => ⟨⟨A, hx, thr_heap hR h1 h2⟩, thr_F hS h1 h2⟩) hS.2.2 hc hs9
theorem g_throwE (X : Cx p s m args meth c D cy B od cc nL tab own ret) (hl : l.stackTraces = false) (hnt : ∀ x ∈ c.exceptionTable.toList, False) {cls text : String} {ik is ic j : Nat} {names : List String} (hcls : cls = "java/util/NoSuchElementException" ∧ own = RX7 ∧ ik = 346 ∧ ic = 350 ∧ names = ["java/lang/RuntimeException", "java/lang/Exception"]) (hs : strT[j]? = some (own, is, text)) {i1 i2 i3 i4 a4 b1 b2 b3 b4 : Nat} (d0 : tab[i]? = some (pc, .new ik, 3, i1, tg)) (d1 : tab[i1]? = some (pc + 3, .dup, 1, i2, b1)) (d2 : tab[i2]? = some (pc + 4, .ldc_w is, 3, i3, b2)) (d3 : tab[i3]? = some (pc + 7, .invokespecial ic, 3, i4, b3)) (d4 : tab[i4]? = some (pc + 10, .athrow, 1, a4, b4)) (hRm : names.length + 3 < R.frames ∧ (st.map fun v => v.category).sum + (13 * (names.length + 1) + 43) ≤ R.locals) {mc ms : Nat} (hRc : cells + 1 ≤ R.cells ∧ slots + 6 ≤ R.slots) (hc : cells + 1 ≤ mc) (hs9 : slots + 6 ≤ ms) {Q : QT} {Qx : QX} (hx : Qx cls A) : G p l e R s m args below meth c D B od nL tab (FinQ true D B od Q Qx args s below mc ms) cells slots A z i lv st := by
  obtain ⟨rfl, rfl, rfl, rfl, rfl⟩ := hcls
  intro q hq H locs ls hR hS hL
  cases Option.some.inj (d0.symm.trans hq)
  obtain ⟨-, -, -, -, -, hlk, -, hO⟩ := id X
  obtain ⟨sa, -, hsa⟩ := hO.2.2.1 j _ hs
  have h3 : ((st.map (trV B od)).map fun v => v.category).sum = (st.map fun v => v.category).sum := by
    rw [List.map_map, show ((fun v : Value => v.category) ∘ trV B od) = (fun v => v.category) from funext fun v => trV_cat B od v]
  have hw9 : ((atE.filter vx_no).all (fun w => (decide (w ∈ lw_tbl) && goodWord w) || decide (w = .castable nsE nsE) || decide (w ∈ dcls))) = true := by decide +kernel
  have hat : ∀ w ∈ atE.filter vx_no, w.before args s = true := by
    intro w hw
    have h1 := List.all_eq_true.mp hw9 w hw
    rw [Bool.or_eq_true, Bool.or_eq_true, Bool.and_eq_true] at h1
    rcases h1 with (h2 | h2) | h2
    · exact X.1.2.2.2.2 w (List.mem_filter.mpr ⟨of_decide_eq_true h2.1, h2.2⟩)
    · rw [of_decide_eq_true h2]
      exact cast_self (X.1.2.2.2.2 (Cond.instantiable nsE 6) (lw_good_in (n := 1200) (by decide +kernel) rfl))
    · exact dcls_ok X.1.2.2.2.2 w (of_decide_eq_true h2)
  exact throwE X.1.1 X.1.2.1 hl X.1.2.2.2.1 (X.1.2.2.2.2 _ (lw_good_in (n := 1199) (by decide +kernel) rfl)) (X.1.2.2.2.2 _ (lw_good_in (n := 90) (by decide +kernel) rfl)) hsa hat hO.1 hO.2.1 hS (hL.1.trans X.1.2.2.1.symm) (X.2.2.2.1.dec d0) (X.2.2.2.1.dec d1) (X.2.2.2.1.dec d2) (X.2.2.2.1.dec d3) (X.2.2.2.1.dec d4) (fun x hx9 => (hnt x hx9).elim) hRm.1 (by rw [h3]; exact hRm.2) hRc.1 hRc.2 hlk (fun t _ h1 h2 => ⟨⟨A, hx, thr_heap hR h1 h2⟩, thr_F hS h1 h2⟩) hS.2.2 hc hs9
-- calls that may throw
section XCALLS
variable {y : MethodName} {bytes : ByteArray} {maxL n ix : Nat} {rt : Option FieldType} {rm : Room} {As rest : List Value} {b : Nat} {Q' : QT} {Qx' : QX}
theorem xrun_go {H : Heap} {locs : List Loc} {mc ms : Nat} {ls : Array Slot} {st0 rs : List Value} {a : Array Value} (hr : vx_Run p l e R s m args below meth c H locs cells slots mc ms (F0 m pc ls st0) rs (QcA D B od Q' a) (XcA D B od Qx') (fun q => B ≤ q)) (hS : va_S (fun q => B ≤ q) s.heap H locs)
    (kx : ∀ (E : String) (ce : Cell) (q9 : Addr) (A' : AH) (H1 : Heap) (locs1 : List Loc), Qx' E A' → RelA D B od A' 0 H1 → va_S (fun q => B ≤ q) s.heap H1 locs1 → H1[q9]? = some ce → ce.vm = .none → s.vm.findClass E = some ce.cls → vx_W p l e R s m args below meth c H1 locs1 (cells + mc) (slots + ms) F (F0 m pc ls rs) q9)
    (kk : ∀ (v : Option Value) (A' : AH) (z' : Nat) (H1 : Heap) (locs1 : List Loc), Q' v A' z' → RelA D B od A' z' H1 → va_S (fun q => B ≤ q) s.heap H1 locs1 → W p l e R s m args below meth c H1 locs1 (cells + mc) (slots + ms) F (F0 m (pc + 3) ls ((v.map (trV B od)).toList ++ rs))) : W p l e R s m args below meth c H locs cells slots F (F0 m pc ls st0) := by
  intro T hT X
  rcases hr T hT X with ⟨v, st₀, t, T', L, h0, X', hL, e1, e2, ⟨⟨v', A', z', hv, hp, hb⟩, hF⟩, st⟩ | ⟨q, st₀, t, T', L, E, ce, h0, X', hL, e1, e2, ⟨⟨A', hp, hb⟩, hF⟩, hce, hcv, hcl, st⟩
  · have hv : v = v'.map (trV B od) := by cases hv; rfl
    subst hv
    obtain ⟨k1, k2, k3⟩ := vx_keep h0 e1 hS (fun q _ h => h) (fun q h => h) hL hF
    obtain ⟨t2, a1, b1⟩ := kk v' A' z' T'.heap (locs ++ L) hp (by rw [e1]; exact hb) k3 T' rfl X'
    exact ⟨t2, st t2 a1, b1⟩
  · obtain ⟨k1, k2, k3⟩ := vx_keep h0 e1 hS (fun q _ h => h) (fun q h => h) hL hF
    obtain ⟨t2, a1, b1⟩ := kx E ce q A' T'.heap (locs ++ L) hp (by rw [e1]; exact hb) k3 (by rw [e1]; exact hce) hcv hcl T' rfl X'
    exact ⟨t2, st.trans a1, b1⟩
theorem gx_out {H : Heap} {locs : List Loc} {ls : Array Slot} {rs : List Value} {mc ms : Nat} {Q : QT} {Qx : QX} (X : Cx p s m args meth c D cy B od cc nL tab own ret) (hnt : ∀ x ∈ c.exceptionTable.toList, False) (hc : cells ≤ mc) (hs : slots ≤ ms) {E : String} {ce : Cell} {q9 : Addr} {A' : AH} (hx : Qx E A') (hR : RelA D B od A' 0 H) (hS : va_S (fun q => B ≤ q) s.heap H locs) (h1 : H[q9]? = some ce) (h2 : ce.vm = .none) (h3 : s.vm.findClass E = some ce.cls) : vx_W p l e R s m args below meth c H locs cells slots (FinQ true D B od Q Qx args s below mc ms) (F0 m pc ls rs) q9 :=
  vx_out (fun x hx9 => (hnt x hx9).elim) X.2.2.2.2.2.1 h1 h2 h3 (fun t ht _ => ⟨⟨A', hx, by rw [ht]; exact hR⟩, hS.F ht⟩) hS.2.2 hc hs
theorem gx_callS (X : Cx p s m args meth c D cy B od cc nL tab own ret) (hnt : ∀ x ∈ c.exceptionTable.toList, False) (hi : tab[i]? = some (pc, .invokestatic ix, 3, nx, tg)) (hL : LkC y bytes maxL rt n) (hM : LkM own ix y) (hSt : Cond.static y ∈ lw_good) (hC : CX l D cy B od y bytes maxL rt rm As A z Q' Qx') (hst : st = As.reverse ++ rest) (hn : As.length = n) (hw : (rest.map fun v => v.category).sum ≤ 8) (hRm : rm.frames + 1 ≤ R.frames ∧ 8 + (maxL + 11) + rm.locals ≤ R.locals) (hf : cells + rm.cells ≤ R.cells ∧ slots + rm.slots ≤ R.slots) {mc ms : Nat} (hc : cells + rm.cells ≤ mc) (hs : slots + rm.slots ≤ ms) {Q : QT} {Qx : QX} (hx : ∀ E A', Qx' E A' → Qx E A')
    (kk : ∀ (v : Option Value) (A' : AH) (z' : Nat), Q' v A' z' → G p l e R s m args below meth c D B od nL tab (FinQ true D B od Q Qx args s below mc ms) (cells + rm.cells) (slots + rm.slots) A' z' nx lv (v.toList ++ rest)) : G p l e R s m args below meth c D B od nL tab (FinQ true D B od Q Qx args s below mc ms) cells slots A z i lv st := by
  intro q hq H locs ls hR hS hl
  cases Option.some.inj (hi.symm.trans hq)
  obtain ⟨q2, hq2, e2⟩ := X.2.2.2.1.fall hi rfl
  subst hst
  rw [List.map_append, List.map_reverse]
  refine xrun_go (vx_runS (As := As.map (trV B od)) (rest := rest.map (trV B od)) X.1 hC ⟨mkB X hL hM hRm, X.1.2.2.2.2 _ hSt⟩ ⟨PcA.blind, fun U hU hW => ⟨rfl, X.world hR hS U hU hW⟩⟩ rfl ((List.length_map _).trans hn) hl.1 rfl (lv_room (st_cat hw)) (X.2.2.2.1.dec hi) hf) hS (fun E ce q9 A' H1 locs1 h1 h2 h3 h4 h5 h6 => gx_out X hnt hc hs (hx E A' h1) h2 h3 h4 h5 h6) (fun v A' z' H1 locs1 hq hR1 hS1 => ?_)
  have K := kk v A' z' hq q2 hq2 H1 locs1 ls hR1 hS1 hl
  rw [e2, ← st_ret] at K
  exact K
end XCALLS
end CORE11
/-- a check that may throw E: when it holds nothing happens -/
def CQ (l : Launch) (D : va_G) (cy : Nat → ClassId) (B : Nat) (od : Nat → Option Nat) (y : MethodName) (bytes : ByteArray) (maxL : Nat) (rt : Option FieldType) (rm : Room) (av : List Value) (A : AH) (E : String) (q : Prop) : Prop := ∀ z, CX l D cy B od y bytes maxL rt rm av A z (fun v A' z' => v = none ∧ A' = A ∧ z' = z ∧ q) (fun E' A' => E' = E ∧ A' = A ∧ ¬ q)
