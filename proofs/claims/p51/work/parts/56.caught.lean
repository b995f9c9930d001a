/-! 56: calls that are caught; the law's helpers with handlers -/
section CORE55
variable {p : Program} {l : Launch} {e : Env} {R : Room} {s : State} {m : MethodId} {args : Array Value} {below : List Frame} {meth : Method} {c : Code}
variable {D : va_G} {cy : Nat → ClassId} {B : Nat} {od : Nat → Option Nat} {cc : ByteArray} {nL : Nat} {tab : List PT} {own : String} {ret : Option FieldType}
variable {F : State → Prop} {cells slots : Nat} {A : AH} {z i pc len nx tg : Nat} {lv : List (Option Value)} {st : List Value}
/-- the contract of a method with a table of handlers that throws nothing -/
def CTW (l : Launch) (D : va_G) (cy : Nat → ClassId) (B : Nat) (od : Nat → Option Nat) (y : MethodName) (bytes : ByteArray) (maxL : Nat) (rt : Option FieldType) (hh : List (Nat × Nat × Nat × Nat)) (rm : Room) (av : List Value) (A : AH) (z : Nat) (Q : QT) : Prop := Met l y (Cond.codeWith y bytes maxL rt hh :: lw_good) rm (PcA D cy B od av A z) (QcA D B od Q) rm.cells rm.slots (fun q => B ≤ q)
theorem CTW.of {y : MethodName} {bytes : ByteArray} {maxL : Nat} {rt : Option FieldType} {hh : List (Nat × Nat × Nat × Nat)} {rm : Room} {av : List Value} {Q : QT} (hy : plainName y.cls = true) (tb : List PT) (hok : OkTab bytes tb) (hlen : (entL av).length ≤ maxL) {q0 : PT} (h0 : tb[0]? = some q0) (h00 : q0.1 = 0)
    (body : ∀ (p : Program) (e : Env) (s : State) (m : MethodId) (args : Array Value) (below : List Frame) (meth : Method) (c : Code), Cx p s m args meth c D cy B od bytes maxL tb y.cls rt → c.exceptionTable.toList = tableOf hh → G p l e rm s m args below meth c D B od maxL tb (FinQ false D B od Q (fun _ _ => True) args s below rm.cells rm.slots) 0 0 A z 0 (entN av maxL) []) : CTW l D cy B od y bytes maxL rt hh rm av A z Q := by
  show MetFree l y (headSpec (Cond.codeWith y bytes maxL rt hh :: lw_good) rm) (PcA D cy B od av A z) (fun _ _ _ _ _ => True) (fun a st o t => QcA D B od Q a st o t ∧ ∃ L, FrameEnd st o t L rm.cells rm.slots ∧ ∀ q ∈ L, B ≤ q.base)
  refine MetFree.of_bodyS (code := bytes) (maxLocals := maxL) (ret := rt) hy ?_ ?_
  · intro args s m h hn
    obtain ⟨m9, meth, c, hn9, h1, h2, h3, h4, -, h5, h6, -⟩ := Cond.codeWith_spec (atoms_spec (ws := Cond.codeWith y bytes maxL rt hh :: lw_good) h _ List.mem_cons_self)
    cases hn.symm.trans hn9
    exact ⟨meth, c, h1, h2, h3, h4, h5, h6⟩
  · intro p e s m args below meth c s₁ Bd hml hv _
    have hh0 : s₁.heap = s.heap := by rw [Bd.state]; rfl
    have htb := vx_table (x := y) Bd (atoms_spec (ws := Cond.codeWith y bytes maxL rt hh :: lw_good) Bd.pre _ List.mem_cons_self)
    obtain ⟨hav, hK, hN, hR, hB, hO⟩ := hv
    have X : Cx p s m args meth c D cy B od bytes maxL tb y.cls rt := ⟨⟨Bd.exec, Bd.bytes, hml, findClass_of_methodNamed Bd.named, fun v hv => atoms_spec Bd.pre _ (List.mem_cons_of_mem _ hv)⟩, hK, hN, hok, Bd.returns, Bd.notSynchronized, hB, hO⟩
    have g := body p e s m args below meth c X htb
    have hl := lv_entry (av.map (trV B od)) (n := maxL) (by rw [lg_len]; exact hlen)
    have K := g q0 h0 s.heap [] _ hR va_S.rf (LR.entry hl)
    rw [h00] at K
    have K2 : W p l e (headSpec (Cond.codeWith y bytes maxL rt hh :: lw_good) rm).room s m args below meth c s.heap [] 0 0 (FinQ false D B od Q (fun _ _ => True) args s below rm.cells rm.slots) (entryFrame m args maxL) := by
      rw [hav, lg_entry_eq]
      exact hav ▸ K
    obtain ⟨t, a1, o, b1, b2, b3⟩ := K2 s₁ hh0 (Stand.of_body Bd)
    exact ⟨t, o, a1, b1, b2, ⟨b3.1, b3.2⟩⟩
/-- how a throw is caught -/
def Cat (own : String) (hh : List (Nat × Nat × Nat × Nat)) (pc : Nat) (E : String) (pcH : Nat) : Prop := ∃ (pre : List ExceptionTableEntry) (x : ExceptionTableEntry) (suf : List ExceptionTableEntry), tableOf hh = pre ++ x :: suf ∧ (∀ z ∈ pre, z.catchType ≠ 0 ∧ ∃ nm : String, Cond.classLink own z.catchType nm ∈ lw_good ∧ nm ∈ exL ∧ E ≠ nm) ∧ covers x pc = true ∧ x.catchType ≠ 0 ∧ Cond.classLink own x.catchType E ∈ lw_good ∧ E ∈ exL ∧ Cond.instantiable E 6 ∈ lw_good ∧ x.handlerPc = pcH
/-- a call whose throws are caught here; the handler puts them away -/
theorem gx_catchV (X : Cx p s m args meth c D cy B od cc nL tab own ret) {hh : List (Nat × Nat × Nat × Nat)} (hti : c.exceptionTable.toList = tableOf hh) {y : MethodName} {bytes : ByteArray} {maxL n ix : Nat} {rt : Option FieldType} {rm : Room} {As rest : List Value} {b : Nat} {Q' : QT} {Qx' : QX} (hi : tab[i]? = some (pc, .invokevirtual ix, 3, nx, tg)) (hL : LkC y bytes maxL rt n) (hM : LkM own ix y) (hSe : LkSel y) (hC : CX l D cy B od y bytes maxL rt rm (.ref b :: As) A z Q' Qx') {ci : Nat} {fs : List Value} {T : u_T} {N : Nat} (hA : A b = some (.inr (ci, fs))) (hc : vwCl[ci]? = some (y.cls, T, N)) (hst : st = As.reverse ++ .ref b :: rest) (hn : As.length = n) (hw : (rest.map fun v => v.category).sum ≤ 8) (hRm : rm.frames + 1 ≤ R.frames ∧ 8 + (maxL + 11) + rm.locals ≤ R.locals) (hf : cells + rm.cells ≤ R.cells ∧ slots + rm.slots ≤ R.slots)
    (kx : ∀ E A', Qx' E A' → ∃ (pcH j k nH tH w : Nat), Cat own hh pc E pcH ∧ k < nL ∧ ((tab[j]? = some (pcH, .astore k, 2, nH, tH)) ∨ ∃ kf : Fin 4, (kf : Nat) = k ∧ tab[j]? = some (pcH, .astore_n kf, 1, nH, tH)) ∧ G p l e R s m args below meth c D B od nL tab F (cells + rm.cells) (slots + rm.slots) A' 0 nH [] [])
    (kk : ∀ (v : Option Value) (A' : AH) (z' : Nat), Q' v A' z' → G p l e R s m args below meth c D B od nL tab F (cells + rm.cells) (slots + rm.slots) A' z' nx lv (v.toList ++ rest)) : G p l e R s m args below meth c D B od nL tab F cells slots A z i lv st := by
  intro q hq H locs ls hR hS hl
  cases Option.some.inj (hi.symm.trans hq)
  obtain ⟨q2, hq2, e2⟩ := X.2.2.2.1.fall hi rfl
  subst hst
  rw [List.map_append, List.map_reverse, List.map_cons]
  refine xrun_go (vx_runV (As := As.map (trV B od)) (b := rho B od b) (rest := rest.map (trV B od)) X.1 hC ⟨mkB X hL hM hRm, X.1.2.2.2.2 _ hSe.1, X.1.2.2.2.2 _ hSe.2⟩ ⟨PcA.blind, recv X hR hA hc, fun U hU hW => ⟨rfl, X.world hR hS U hU hW⟩⟩ rfl ((List.length_map _).trans hn) hl.1 rfl (lv_room (st_cat hw)) (X.2.2.2.1.dec hi) hf) hS (fun E ce q9 A' H1 locs1 h1 h2 h3 h4 h5 h6 => ?_) (fun v A' z' H1 locs1 hq hR1 hS1 => ?_)
  · obtain ⟨pcH, j, k, nH, tH, w, ⟨pre, x, suf, c1, c2, c3, c4, c5, c6, c7, c8⟩, hk, hj, hG⟩ := kx E A' h1
    refine vx_catch X.1.2.2.2.1 pre x suf (hti.trans c1) (fun z hz => ?_) c3 c4 (X.1.2.2.2.2 _ c5) (cast_self (X.1.2.2.2.2 _ c7)) h4 h5 h6 ?_
    · obtain ⟨d1, nm, d2, d3, d4⟩ := c2 z hz
      exact Or.inr ⟨d1, nm, X.1.2.2.2.2 _ d2, X.str.2.2.2.1 E c6 nm d3 d4⟩
    · rw [c8]
      rcases hj with hj | ⟨kf, hkf, hj⟩
      · obtain ⟨q3, hq3, e3⟩ := X.2.2.2.1.fall hj rfl
        refine lv_astore X.1.1 X.1.2.1 (X.2.2.2.1.dec hj) hl.has hk rfl (fun ls2 hl2 => ?_)
        have K := hG q3 hq3 H1 locs1 ls2 h2 h3 ⟨hl2.1, hl2.2.1, fun i v hv => by cases hv⟩
        rw [e3] at K
        exact K
      · subst hkf
        obtain ⟨q3, hq3, e3⟩ := X.2.2.2.1.fall hj rfl
        refine lv_astore_n X.1.1 X.1.2.1 (X.2.2.2.1.dec hj) rfl hl.has hk rfl (fun ls2 hl2 => ?_)
        have K := hG q3 hq3 H1 locs1 ls2 h2 h3 ⟨hl2.1, hl2.2.1, fun i v hv => by cases hv⟩
        rw [e3] at K
        exact K
  · have K := kk v A' z' hq q2 hq2 H1 locs1 ls hR1 hS1 hl
    rw [e2, ← st_ret] at K
    exact K
end CORE55
section CORE56
variable {p : Program} {l : Launch} {e : Env} {R : Room} {s : State} {m : MethodId} {args : Array Value} {below : List Frame} {meth : Method} {c : Code}
variable {D : va_G} {cy : Nat → ClassId} {B : Nat} {od : Nat → Option Nat} {cc : ByteArray} {nL : Nat} {tab : List PT} {own : String} {ret : Option FieldType}
variable {F : State → Prop} {cells slots : Nat} {A : AH} {z i pc len nx tg : Nat} {lv : List (Option Value)} {st : List Value}
theorem g_z0 (kk : G p l e R s m args below meth c D B od nL tab F cells slots A 0 i lv st) : G p l e R s m args below meth c D B od nL tab F cells slots A z i lv st :=
  fun q hq H locs ls hR hS hl => kk q hq H locs ls (hR.weak (fun _ _ h => h) (Or.inr rfl)) hS hl
theorem g_tab {tb2 : List PT} {j : Nat} {q1 q2 : PT} (h1 : tab[i]? = some q1) (h2 : tb2[j]? = some q2) (he : q2.1 = q1.1) (kk : G p l e R s m args below meth c D B od nL tb2 F cells slots A z j lv st) : G p l e R s m args below meth c D B od nL tab F cells slots A z i lv st := by
  intro q hq H locs ls hR hS hl
  cases Option.some.inj (h1.symm.trans hq)
  have K := kk q2 h2 H locs ls hR hS hl
  rw [he] at K
  exact K
theorem Cx.tb (X : Cx p s m args meth c D cy B od cc nL tab own ret) {tb2 : List PT} (h : OkTab cc tb2) : Cx p s m args meth c D cy B od cc nL tb2 own ret := ⟨X.1, X.2.1, X.2.2.1, h, X.2.2.2.2⟩
def LkW (y : MethodName) (bytes : ByteArray) (maxL : Nat) (rt : Option FieldType) (hh : List (Nat × Nat × Nat × Nat)) (n : Nat) : Prop := Cond.codeWith y bytes maxL rt hh ∈ lw_good ∧ Cond.initialized y.cls ∈ lw_good ∧ (y.cls ≠ "java/lang/invoke/MethodHandle" ∧ y.cls ≠ "java/lang/invoke/VarHandle") ∧ (parseMethodDescriptor y.desc).map (fun d => d.parameters.length) = some n
theorem g_hp (X : Cx p s m args meth c D cy B od cc nL tab own ret) {y : MethodName} {bytes : ByteArray} {maxL n ix : Nat} {rt : Option FieldType} {hh : List (Nat × Nat × Nat × Nat)} {rm : Room} {As rest : List Value} {Q' : QT} (hi : tab[i]? = some (pc, .invokestatic ix, 3, nx, tg)) (hL : LkW y bytes maxL rt hh n) (hM : LkM own ix y) (hSt : Cond.static y ∈ lw_good) (hC : CTW l D cy B od y bytes maxL rt hh rm As A z Q') (hst : st = As.reverse ++ rest) (hn : As.length = n) (hw : (rest.map fun v => v.category).sum ≤ 8) (hRm : rm.frames + 1 ≤ R.frames ∧ 8 + (maxL + 11) + rm.locals ≤ R.locals) (hf : cells + rm.cells ≤ R.cells ∧ slots + rm.slots ≤ R.slots)
    (kk : ∀ (v : Option Value) (A' : AH) (z' : Nat), Q' v A' z' → G p l e R s m args below meth c D B od nL tab F (cells + rm.cells) (slots + rm.slots) A' z' nx lv (v.toList ++ rest)) : G p l e R s m args below meth c D B od nL tab F cells slots A z i lv st := by
  intro q hq H locs ls hR hS hl
  cases Option.some.inj (hi.symm.trans hq)
  obtain ⟨q2, hq2, e2⟩ := X.2.2.2.1.fall hi rfl
  subst hst
  rw [List.map_append, List.map_reverse]
  refine run_go (vx_runSW (As := As.map (trV B od)) (rest := rest.map (trV B od)) (hh := hh) (bytes := bytes) (maxL := maxL) (ret := rt) X.1 hC ⟨⟨rfl, rfl, hRm.1, hRm.2, pay_in X.1.2.2.2.2 (lw_good_ok hL.1), List.mem_cons_self⟩, X.1.2.2.2.2 _ hL.1, X.1.2.2.2.2 _ hL.2.1, hL.2.2.1, lk_len hL.2.2.2, X.1.2.2.2.2 _ hM, X.1.2.2.2.2 _ hSt⟩ ⟨PcA.blind, fun U hU hW => ⟨rfl, X.world hR hS U hU hW⟩⟩ rfl ((List.length_map _).trans hn) hl.1 rfl (lv_room (st_cat hw)) (X.2.2.2.1.dec hi) hf) hS (fun v A' z' H1 locs1 hq hR1 hS1 => ?_)
  have K := kk v A' z' hq q2 hq2 H1 locs1 ls hR1 hS1 hl
  rw [e2, ← st_ret] at K
  exact K
end CORE56
/-- what the law calls a throw -/
def ecode (E : String) : Int32 := if E = eIOB then -1000000001 else if E = eIAE then -1000000002 else -1000000003
def ocI : OC → Int32
  | .inl E => ecode E
  | .inr (.int x) => x
  | .inr _ => 0
/-- a helper's answer, and what became of the heap -/
def HQ2 (oc : OC) (P : AH → Prop) (A : AH) : QT := fun v A' _ => v = some (.int (ocI oc)) ∧ ((∃ r, oc = .inr r ∧ P A') ∨ (∃ E, oc = .inl E ∧ A' = A))
set_option maxRecDepth 100000 in
set_option maxHeartbeats 400000 in
theorem hp_L_append (l : Launch) (D : va_G) (cy : Nat → ClassId) (B : Nat) (od : Nat → Option Nat) {A : AH} {x0 : Int32} {oc : OC} {P : AH → Prop} (hC : CP l D cy B od yX7_append cX7_append 7 (some .int) rmX7_append [.ref 0, .int x0, .int (nI 0), .int (nI 0), .int (nI 0), .int (nI 0)] A oc P (fun A' => A' = A)) {fs : List Value} (h0 : A 0 = some (.inr (7, fs))) (hr : ∀ r, oc = .inr r → ∃ x, r = .int x) (hE : ∀ E, oc = .inl E → E ∈ [eISE]) (z : Nat) : CTW l D cy B od yL_append cL_append 3 (some .int) hhL_append rmL_append [.ref 0, .int x0] A z (HQ2 oc P A) := by
  refine CTW.of (by decide) tL_append okL_append (Nat.le_of_ble_eq_true rfl) (q0 := tL_append[0]) rfl rfl ?_
  intro p e s m args below meth c X hti
  refine g_aload_n X rfl rfl ?_
  refine g_iload_n X rfl rfl ?_
  refine g_iconst X rfl (v := nI 0) (by decide) ?_
  refine g_iconst X rfl (v := nI 0) (by decide) ?_
  refine g_iconst X rfl (v := nI 0) (by decide) ?_
  refine g_iconst X rfl (v := nI 0) (by decide) ?_
  refine gx_catchV X hti rfl lcX7_append lmL_14 lsX7_append (hC z) (ci := 7) h0 rfl (rest := []) rfl rfl (Nat.le_of_ble_eq_true rfl) ⟨by decide, by decide⟩ ⟨Nat.le_of_ble_eq_true rfl, Nat.le_of_ble_eq_true rfl⟩ (fun E A1 hx => ?_) (fun v A1 z1 hq => ?_)
  · have hm := hE E hx.1
    simp only [List.mem_cons, List.not_mem_nil, or_false] at hm
    subst hm
    refine ⟨10, 8, 2, 9, 0, 0, ⟨(tableOf hhL_append).take 0, (tableOf hhL_append)[0]'(by decide), (tableOf hhL_append).drop 1, rfl, fun _ h => absurd h List.not_mem_nil, by decide, by decide, cl9_20, by decide, ins_eISE, rfl⟩, by decide, Or.inr ⟨2, rfl, rfl⟩, ?_⟩
    refine g_ldc X rfl kcL_22 ?_
    exact g_iret X rfl rfl rfl (Nat.le_of_ble_eq_true rfl) (Nat.le_of_ble_eq_true rfl) ⟨by rw [hx.1]; rfl, Or.inr ⟨_, hx.1, hx.2⟩⟩
  · obtain ⟨r, h1, rfl, -, hP⟩ := hq
    obtain ⟨x, rfl⟩ := hr r h1
    exact g_iret X rfl rfl rfl (Nat.le_of_ble_eq_true rfl) (Nat.le_of_ble_eq_true rfl) ⟨by rw [h1]; rfl, Or.inl ⟨_, h1, hP⟩⟩
set_option maxRecDepth 100000 in
set_option maxHeartbeats 400000 in
theorem hp_L_addEntry (l : Launch) (D : va_G) (cy : Nat → ClassId) (B : Nat) (od : Nat → Option Nat) {A : AH} {x0 x1 x2 x3 x4 : Int32} {oc : OC} {P : AH → Prop} (hC : CP l D cy B od yX7_addEntry cX7_addEntry 7 (some .int) rmX7_addEntry [.ref 0, .int x0, .int x1, .int x2, .int x3, .int x4] A oc P (fun A' => A' = A)) {fs : List Value} (h0 : A 0 = some (.inr (7, fs))) (hr : ∀ r, oc = .inr r → ∃ x, r = .int x) (hE : ∀ E, oc = .inl E → E ∈ [eIAE, eISE]) (z : Nat) : CTW l D cy B od yL_addEntry cL_addEntry 7 (some .int) hhL_addEntry rmL_addEntry [.ref 0, .int x0, .int x1, .int x2, .int x3, .int x4] A z (HQ2 oc P A) := by
  refine CTW.of (by decide) tL_addEntry okL_addEntry (Nat.le_of_ble_eq_true rfl) (q0 := tL_addEntry[0]) rfl rfl ?_
  intro p e s m args below meth c X hti
  refine g_aload_n X rfl rfl ?_
  refine g_iload_n X rfl rfl ?_
  refine g_iload_n X rfl rfl ?_
  refine g_iload_n X rfl rfl ?_
  refine g_iload X rfl rfl ?_
  refine g_iload X rfl rfl ?_
  refine gx_catchV X hti rfl lcX7_addEntry lmL_46 lsX7_addEntry (hC z) (ci := 7) h0 rfl (rest := []) rfl rfl (Nat.le_of_ble_eq_true rfl) ⟨by decide, by decide⟩ ⟨Nat.le_of_ble_eq_true rfl, Nat.le_of_ble_eq_true rfl⟩ (fun E A1 hx => ?_) (fun v A1 z1 hq => ?_)
  · have hm := hE E hx.1
    simp only [List.mem_cons, List.not_mem_nil, or_false] at hm
    rcases hm with rfl | rfl
    · refine ⟨12, 8, 6, 9, 0, 0, ⟨(tableOf hhL_addEntry).take 0, (tableOf hhL_addEntry)[0]'(by decide), (tableOf hhL_addEntry).drop 1, rfl, fun _ h => absurd h List.not_mem_nil, by decide, by decide, cl9_27, by decide, ins_eIAE, rfl⟩, by decide, Or.inl rfl, ?_⟩
      refine g_ldc X rfl kcL_29 ?_
      exact g_iret X rfl rfl rfl (Nat.le_of_ble_eq_true rfl) (Nat.le_of_ble_eq_true rfl) ⟨by rw [hx.1]; rfl, Or.inr ⟨_, hx.1, hx.2⟩⟩
    · refine ⟨17, 11, 6, 12, 0, 0, ⟨(tableOf hhL_addEntry).take 1, (tableOf hhL_addEntry)[1]'(by decide), (tableOf hhL_addEntry).drop 2, rfl, List.forall_mem_cons.mpr ⟨⟨by decide, _, cl9_27, by decide, by decide⟩, fun _ h => absurd h List.not_mem_nil⟩, by decide, by decide, cl9_20, by decide, ins_eISE, rfl⟩, by decide, Or.inl rfl, ?_⟩
      refine g_ldc X rfl kcL_22 ?_
      exact g_iret X rfl rfl rfl (Nat.le_of_ble_eq_true rfl) (Nat.le_of_ble_eq_true rfl) ⟨by rw [hx.1]; rfl, Or.inr ⟨_, hx.1, hx.2⟩⟩
  · obtain ⟨r, h1, rfl, -, hP⟩ := hq
    obtain ⟨x, rfl⟩ := hr r h1
    exact g_iret X rfl rfl rfl (Nat.le_of_ble_eq_true rfl) (Nat.le_of_ble_eq_true rfl) ⟨by rw [h1]; rfl, Or.inl ⟨_, h1, hP⟩⟩
set_option maxRecDepth 100000 in
set_option maxHeartbeats 400000 in
theorem hp_L_addAsset (l : Launch) (D : va_G) (cy : Nat → ClassId) (B : Nat) (od : Nat → Option Nat) {A : AH} {x0 x1 x2 : Int32} {oc : OC} {P : AH → Prop} (hC : CP l D cy B od yX7_addAsset cX7_addAsset 4 (some .int) rmX7_addAsset [.ref 0, .int x0, .int x1, .int x2] A oc P (fun A' => A' = A)) {fs : List Value} (h0 : A 0 = some (.inr (7, fs))) (hr : ∀ r, oc = .inr r → ∃ x, r = .int x) (hE : ∀ E, oc = .inl E → E ∈ [eIAE, eISE]) (z : Nat) : CTW l D cy B od yL_addAsset cL_addAsset 5 (some .int) hhL_addAsset rmL_addAsset [.ref 0, .int x0, .int x1, .int x2] A z (HQ2 oc P A) := by
  refine CTW.of (by decide) tL_addAsset okL_addAsset (Nat.le_of_ble_eq_true rfl) (q0 := tL_addAsset[0]) rfl rfl ?_
  intro p e s m args below meth c X hti
  refine g_aload_n X rfl rfl ?_
  refine g_iload_n X rfl rfl ?_
  refine g_iload_n X rfl rfl ?_
  refine g_iload_n X rfl rfl ?_
  refine gx_catchV X hti rfl lcX7_addAsset lmL_49 lsX7_addAsset (hC z) (ci := 7) h0 rfl (rest := []) rfl rfl (Nat.le_of_ble_eq_true rfl) ⟨by decide, by decide⟩ ⟨Nat.le_of_ble_eq_true rfl, Nat.le_of_ble_eq_true rfl⟩ (fun E A1 hx => ?_) (fun v A1 z1 hq => ?_)
  · have hm := hE E hx.1
    simp only [List.mem_cons, List.not_mem_nil, or_false] at hm
    rcases hm with rfl | rfl
    · refine ⟨8, 6, 4, 7, 0, 0, ⟨(tableOf hhL_addAsset).take 0, (tableOf hhL_addAsset)[0]'(by decide), (tableOf hhL_addAsset).drop 1, rfl, fun _ h => absurd h List.not_mem_nil, by decide, by decide, cl9_27, by decide, ins_eIAE, rfl⟩, by decide, Or.inl rfl, ?_⟩
      refine g_ldc X rfl kcL_29 ?_
      exact g_iret X rfl rfl rfl (Nat.le_of_ble_eq_true rfl) (Nat.le_of_ble_eq_true rfl) ⟨by rw [hx.1]; rfl, Or.inr ⟨_, hx.1, hx.2⟩⟩
    · refine ⟨13, 9, 4, 10, 0, 0, ⟨(tableOf hhL_addAsset).take 1, (tableOf hhL_addAsset)[1]'(by decide), (tableOf hhL_addAsset).drop 2, rfl, List.forall_mem_cons.mpr ⟨⟨by decide, _, cl9_27, by decide, by decide⟩, fun _ h => absurd h List.not_mem_nil⟩, by decide, by decide, cl9_20, by decide, ins_eISE, rfl⟩, by decide, Or.inl rfl, ?_⟩
      refine g_ldc X rfl kcL_22 ?_
      exact g_iret X rfl rfl rfl (Nat.le_of_ble_eq_true rfl) (Nat.le_of_ble_eq_true rfl) ⟨by rw [hx.1]; rfl, Or.inr ⟨_, hx.1, hx.2⟩⟩
  · obtain ⟨r, h1, rfl, -, hP⟩ := hq
    obtain ⟨x, rfl⟩ := hr r h1
    exact g_iret X rfl rfl rfl (Nat.le_of_ble_eq_true rfl) (Nat.le_of_ble_eq_true rfl) ⟨by rw [h1]; rfl, Or.inl ⟨_, h1, hP⟩⟩
set_option maxRecDepth 100000 in
set_option maxHeartbeats 400000 in
theorem hp_L_sellAsset (l : Launch) (D : va_G) (cy : Nat → ClassId) (B : Nat) (od : Nat → Option Nat) {A : AH} {x0 x1 x2 : Int32} {oc : OC} {P : AH → Prop} (hC : CP l D cy B od yX7_sellAsset cX7_sellAsset 5 (some .int) rmX7_sellAsset [.ref 0, .int x0, .int x1, .int x2] A oc P (fun A' => A' = A)) {fs : List Value} (h0 : A 0 = some (.inr (7, fs))) (hr : ∀ r, oc = .inr r → ∃ x, r = .int x) (hE : ∀ E, oc = .inl E → E ∈ [eIOB, eIAE, eISE]) (z : Nat) : CTW l D cy B od yL_sellAsset cL_sellAsset 5 (some .int) hhL_sellAsset rmL_sellAsset [.ref 0, .int x0, .int x1, .int x2] A z (HQ2 oc P A) := by
  refine CTW.of (by decide) tL_sellAsset okL_sellAsset (Nat.le_of_ble_eq_true rfl) (q0 := tL_sellAsset[0]) rfl rfl ?_
  intro p e s m args below meth c X hti
  refine g_aload_n X rfl rfl ?_
  refine g_iload_n X rfl rfl ?_
  refine g_iload_n X rfl rfl ?_
  refine g_iload_n X rfl rfl ?_
  refine gx_catchV X hti rfl lcX7_sellAsset lmL_53 lsX7_sellAsset (hC z) (ci := 7) h0 rfl (rest := []) rfl rfl (Nat.le_of_ble_eq_true rfl) ⟨by decide, by decide⟩ ⟨Nat.le_of_ble_eq_true rfl, Nat.le_of_ble_eq_true rfl⟩ (fun E A1 hx => ?_) (fun v A1 z1 hq => ?_)
  · have hm := hE E hx.1
    simp only [List.mem_cons, List.not_mem_nil, or_false] at hm
    rcases hm with rfl | rfl | rfl
    · refine ⟨8, 6, 4, 7, 0, 0, ⟨(tableOf hhL_sellAsset).take 0, (tableOf hhL_sellAsset)[0]'(by decide), (tableOf hhL_sellAsset).drop 1, rfl, fun _ h => absurd h List.not_mem_nil, by decide, by decide, cl9_56, by decide, ins_eIOB, rfl⟩, by decide, Or.inl rfl, ?_⟩
      refine g_ldc X rfl kcL_58 ?_
      exact g_iret X rfl rfl rfl (Nat.le_of_ble_eq_true rfl) (Nat.le_of_ble_eq_true rfl) ⟨by rw [hx.1]; rfl, Or.inr ⟨_, hx.1, hx.2⟩⟩
    · refine ⟨13, 9, 4, 10, 0, 0, ⟨(tableOf hhL_sellAsset).take 1, (tableOf hhL_sellAsset)[1]'(by decide), (tableOf hhL_sellAsset).drop 2, rfl, List.forall_mem_cons.mpr ⟨⟨by decide, _, cl9_56, by decide, by decide⟩, fun _ h => absurd h List.not_mem_nil⟩, by decide, by decide, cl9_27, by decide, ins_eIAE, rfl⟩, by decide, Or.inl rfl, ?_⟩
      refine g_ldc X rfl kcL_29 ?_
      exact g_iret X rfl rfl rfl (Nat.le_of_ble_eq_true rfl) (Nat.le_of_ble_eq_true rfl) ⟨by rw [hx.1]; rfl, Or.inr ⟨_, hx.1, hx.2⟩⟩
    · refine ⟨18, 12, 4, 13, 0, 0, ⟨(tableOf hhL_sellAsset).take 2, (tableOf hhL_sellAsset)[2]'(by decide), (tableOf hhL_sellAsset).drop 3, rfl, List.forall_mem_cons.mpr ⟨⟨by decide, _, cl9_56, by decide, by decide⟩, List.forall_mem_cons.mpr ⟨⟨by decide, _, cl9_27, by decide, by decide⟩, fun _ h => absurd h List.not_mem_nil⟩⟩, by decide, by decide, cl9_20, by decide, ins_eISE, rfl⟩, by decide, Or.inl rfl, ?_⟩
      refine g_ldc X rfl kcL_22 ?_
      exact g_iret X rfl rfl rfl (Nat.le_of_ble_eq_true rfl) (Nat.le_of_ble_eq_true rfl) ⟨by rw [hx.1]; rfl, Or.inr ⟨_, hx.1, hx.2⟩⟩
  · obtain ⟨r, h1, rfl, -, hP⟩ := hq
    obtain ⟨x, rfl⟩ := hr r h1
    exact g_iret X rfl rfl rfl (Nat.le_of_ble_eq_true rfl) (Nat.le_of_ble_eq_true rfl) ⟨by rw [h1]; rfl, Or.inl ⟨_, h1, hP⟩⟩
set_option maxRecDepth 100000 in
set_option maxHeartbeats 400000 in
theorem hp_L_closeQuarter (l : Launch) (D : va_G) (cy : Nat → ClassId) (B : Nat) (od : Nat → Option Nat) {A : AH} {oc : OC} {P : AH → Prop} (hC : CP l D cy B od yX7_closeQuarter cX7_closeQuarter 5 (some .int) rmX7_closeQuarter [.ref 0] A oc P (fun A' => A' = A)) {fs : List Value} (h0 : A 0 = some (.inr (7, fs))) (hr : ∀ r, oc = .inr r → ∃ x, r = .int x) (hE : ∀ E, oc = .inl E → E ∈ [eISE]) (z : Nat) : CTW l D cy B od yL_closeQuarter cL_closeQuarter 2 (some .int) hhL_closeQuarter rmL_closeQuarter [.ref 0] A z (HQ2 oc P A) := by
  refine CTW.of (by decide) tL_closeQuarter okL_closeQuarter (Nat.le_of_ble_eq_true rfl) (q0 := tL_closeQuarter[0]) rfl rfl ?_
  intro p e s m args below meth c X hti
  refine g_aload_n X rfl rfl ?_
  refine gx_catchV X hti rfl lcX7_closeQuarter lmL_59 lsX7_closeQuarter (hC z) (ci := 7) h0 rfl (rest := []) rfl rfl (Nat.le_of_ble_eq_true rfl) ⟨by decide, by decide⟩ ⟨Nat.le_of_ble_eq_true rfl, Nat.le_of_ble_eq_true rfl⟩ (fun E A1 hx => ?_) (fun v A1 z1 hq => ?_)
  · have hm := hE E hx.1
    simp only [List.mem_cons, List.not_mem_nil, or_false] at hm
    subst hm
    refine ⟨5, 3, 1, 4, 0, 0, ⟨(tableOf hhL_closeQuarter).take 0, (tableOf hhL_closeQuarter)[0]'(by decide), (tableOf hhL_closeQuarter).drop 1, rfl, fun _ h => absurd h List.not_mem_nil, by decide, by decide, cl9_20, by decide, ins_eISE, rfl⟩, by decide, Or.inr ⟨1, rfl, rfl⟩, ?_⟩
    refine g_ldc X rfl kcL_22 ?_
    exact g_iret X rfl rfl rfl (Nat.le_of_ble_eq_true rfl) (Nat.le_of_ble_eq_true rfl) ⟨by rw [hx.1]; rfl, Or.inr ⟨_, hx.1, hx.2⟩⟩
  · obtain ⟨r, h1, rfl, -, hP⟩ := hq
    obtain ⟨x, rfl⟩ := hr r h1
    exact g_iret X rfl rfl rfl (Nat.le_of_ble_eq_true rfl) (Nat.le_of_ble_eq_true rfl) ⟨by rw [h1]; rfl, Or.inl ⟨_, h1, hP⟩⟩
set_option maxRecDepth 100000 in
set_option maxHeartbeats 400000 in
theorem hp_L_setOffice (l : Launch) (D : va_G) (cy : Nat → ClassId) (B : Nat) (od : Nat → Option Nat) {A : AH} {x0 x1 x2 : Int32} {oc : OC} {P : AH → Prop} (hC : CP l D cy B od yX7_setOffice cX7_setOffice 5 (some .int) rmX7_setOffice [.ref 0, .int x0, .int x1, .int x2] A oc P (fun A' => A' = A)) {fs : List Value} (h0 : A 0 = some (.inr (7, fs))) (hr : ∀ r, oc = .inr r → ∃ x, r = .int x) (hE : ∀ E, oc = .inl E → E ∈ [eIOB, eIAE]) (z : Nat) : CTW l D cy B od yL_setOffice cL_setOffice 5 (some .int) hhL_setOffice rmL_setOffice [.ref 0, .int x0, .int x1, .int x2] A z (HQ2 oc P A) := by
  refine CTW.of (by decide) tL_setOffice okL_setOffice (Nat.le_of_ble_eq_true rfl) (q0 := tL_setOffice[0]) rfl rfl ?_
  intro p e s m args below meth c X hti
  refine g_aload_n X rfl rfl ?_
  refine g_iload_n X rfl rfl ?_
  refine g_iload_n X rfl rfl ?_
  refine g_iload_n X rfl rfl ?_
  refine gx_catchV X hti rfl lcX7_setOffice lmL_62 lsX7_setOffice (hC z) (ci := 7) h0 rfl (rest := []) rfl rfl (Nat.le_of_ble_eq_true rfl) ⟨by decide, by decide⟩ ⟨Nat.le_of_ble_eq_true rfl, Nat.le_of_ble_eq_true rfl⟩ (fun E A1 hx => ?_) (fun v A1 z1 hq => ?_)
  · have hm := hE E hx.1
    simp only [List.mem_cons, List.not_mem_nil, or_false] at hm
    rcases hm with rfl | rfl
    · refine ⟨8, 6, 4, 7, 0, 0, ⟨(tableOf hhL_setOffice).take 0, (tableOf hhL_setOffice)[0]'(by decide), (tableOf hhL_setOffice).drop 1, rfl, fun _ h => absurd h List.not_mem_nil, by decide, by decide, cl9_56, by decide, ins_eIOB, rfl⟩, by decide, Or.inl rfl, ?_⟩
      refine g_ldc X rfl kcL_58 ?_
      exact g_iret X rfl rfl rfl (Nat.le_of_ble_eq_true rfl) (Nat.le_of_ble_eq_true rfl) ⟨by rw [hx.1]; rfl, Or.inr ⟨_, hx.1, hx.2⟩⟩
    · refine ⟨13, 9, 4, 10, 0, 0, ⟨(tableOf hhL_setOffice).take 1, (tableOf hhL_setOffice)[1]'(by decide), (tableOf hhL_setOffice).drop 2, rfl, List.forall_mem_cons.mpr ⟨⟨by decide, _, cl9_56, by decide, by decide⟩, fun _ h => absurd h List.not_mem_nil⟩, by decide, by decide, cl9_27, by decide, ins_eIAE, rfl⟩, by decide, Or.inl rfl, ?_⟩
      refine g_ldc X rfl kcL_29 ?_
      exact g_iret X rfl rfl rfl (Nat.le_of_ble_eq_true rfl) (Nat.le_of_ble_eq_true rfl) ⟨by rw [hx.1]; rfl, Or.inr ⟨_, hx.1, hx.2⟩⟩
  · obtain ⟨r, h1, rfl, -, hP⟩ := hq
    obtain ⟨x, rfl⟩ := hr r h1
    exact g_iret X rfl rfl rfl (Nat.le_of_ble_eq_true rfl) (Nat.le_of_ble_eq_true rfl) ⟨by rw [h1]; rfl, Or.inl ⟨_, h1, hP⟩⟩
set_option maxRecDepth 100000 in
set_option maxHeartbeats 400000 in
theorem hp_L_pay (l : Launch) (D : va_G) (cy : Nat → ClassId) (B : Nat) (od : Nat → Option Nat) {A : AH} {x0 x1 : Int32} {oc : OC} {P : AH → Prop} (hC : CP l D cy B od yX7_pay cX7_pay 4 (some .int) rmX7_pay [.ref 0, .int x0, .int x1] A oc P (fun A' => A' = A)) {fs : List Value} (h0 : A 0 = some (.inr (7, fs))) (hr : ∀ r, oc = .inr r → ∃ x, r = .int x) (hE : ∀ E, oc = .inl E → E ∈ [eIOB, eIAE, eISE]) (z : Nat) : CTW l D cy B od yL_pay cL_pay 4 (some .int) hhL_pay rmL_pay [.ref 0, .int x0, .int x1] A z (HQ2 oc P A) := by
  refine CTW.of (by decide) tL_pay okL_pay (Nat.le_of_ble_eq_true rfl) (q0 := tL_pay[0]) rfl rfl ?_
  intro p e s m args below meth c X hti
  refine g_aload_n X rfl rfl ?_
  refine g_iload_n X rfl rfl ?_
  refine g_iload_n X rfl rfl ?_
  refine gx_catchV X hti rfl lcX7_pay lmL_65 lsX7_pay (hC z) (ci := 7) h0 rfl (rest := []) rfl rfl (Nat.le_of_ble_eq_true rfl) ⟨by decide, by decide⟩ ⟨Nat.le_of_ble_eq_true rfl, Nat.le_of_ble_eq_true rfl⟩ (fun E A1 hx => ?_) (fun v A1 z1 hq => ?_)
  · have hm := hE E hx.1
    simp only [List.mem_cons, List.not_mem_nil, or_false] at hm
    rcases hm with rfl | rfl | rfl
    · refine ⟨7, 5, 3, 6, 0, 0, ⟨(tableOf hhL_pay).take 0, (tableOf hhL_pay)[0]'(by decide), (tableOf hhL_pay).drop 1, rfl, fun _ h => absurd h List.not_mem_nil, by decide, by decide, cl9_56, by decide, ins_eIOB, rfl⟩, by decide, Or.inr ⟨3, rfl, rfl⟩, ?_⟩
      refine g_ldc X rfl kcL_58 ?_
      exact g_iret X rfl rfl rfl (Nat.le_of_ble_eq_true rfl) (Nat.le_of_ble_eq_true rfl) ⟨by rw [hx.1]; rfl, Or.inr ⟨_, hx.1, hx.2⟩⟩
    · refine ⟨11, 8, 3, 9, 0, 0, ⟨(tableOf hhL_pay).take 1, (tableOf hhL_pay)[1]'(by decide), (tableOf hhL_pay).drop 2, rfl, List.forall_mem_cons.mpr ⟨⟨by decide, _, cl9_56, by decide, by decide⟩, fun _ h => absurd h List.not_mem_nil⟩, by decide, by decide, cl9_27, by decide, ins_eIAE, rfl⟩, by decide, Or.inr ⟨3, rfl, rfl⟩, ?_⟩
      refine g_ldc X rfl kcL_29 ?_
      exact g_iret X rfl rfl rfl (Nat.le_of_ble_eq_true rfl) (Nat.le_of_ble_eq_true rfl) ⟨by rw [hx.1]; rfl, Or.inr ⟨_, hx.1, hx.2⟩⟩
    · refine ⟨15, 11, 3, 12, 0, 0, ⟨(tableOf hhL_pay).take 2, (tableOf hhL_pay)[2]'(by decide), (tableOf hhL_pay).drop 3, rfl, List.forall_mem_cons.mpr ⟨⟨by decide, _, cl9_56, by decide, by decide⟩, List.forall_mem_cons.mpr ⟨⟨by decide, _, cl9_27, by decide, by decide⟩, fun _ h => absurd h List.not_mem_nil⟩⟩, by decide, by decide, cl9_20, by decide, ins_eISE, rfl⟩, by decide, Or.inr ⟨3, rfl, rfl⟩, ?_⟩
      refine g_ldc X rfl kcL_22 ?_
      exact g_iret X rfl rfl rfl (Nat.le_of_ble_eq_true rfl) (Nat.le_of_ble_eq_true rfl) ⟨by rw [hx.1]; rfl, Or.inr ⟨_, hx.1, hx.2⟩⟩
  · obtain ⟨r, h1, rfl, -, hP⟩ := hq
    obtain ⟨x, rfl⟩ := hr r h1
    exact g_iret X rfl rfl rfl (Nat.le_of_ble_eq_true rfl) (Nat.le_of_ble_eq_true rfl) ⟨by rw [h1]; rfl, Or.inl ⟨_, h1, hP⟩⟩
set_option maxRecDepth 100000 in
set_option maxHeartbeats 400000 in
theorem hp_L_cancel (l : Launch) (D : va_G) (cy : Nat → ClassId) (B : Nat) (od : Nat → Option Nat) {A : AH} {x0 : Int32} {oc : OC} {P : AH → Prop} (hC : CP l D cy B od yX7_cancel cX7_cancel 2 (some .int) rmX7_cancel [.ref 0, .int x0] A oc P (fun A' => A' = A)) {fs : List Value} (h0 : A 0 = some (.inr (7, fs))) (hr : ∀ r, oc = .inr r → ∃ x, r = .int x) (hE : ∀ E, oc = .inl E → E ∈ [eIOB, eISE]) (z : Nat) : CTW l D cy B od yL_cancel cL_cancel 3 (some .int) hhL_cancel rmL_cancel [.ref 0, .int x0] A z (HQ2 oc P A) := by
  refine CTW.of (by decide) tL_cancel okL_cancel (Nat.le_of_ble_eq_true rfl) (q0 := tL_cancel[0]) rfl rfl ?_
  intro p e s m args below meth c X hti
  refine g_aload_n X rfl rfl ?_
  refine g_iload_n X rfl rfl ?_
  refine gx_catchV X hti rfl lcX7_cancel lmL_69 lsX7_cancel (hC z) (ci := 7) h0 rfl (rest := []) rfl rfl (Nat.le_of_ble_eq_true rfl) ⟨by decide, by decide⟩ ⟨Nat.le_of_ble_eq_true rfl, Nat.le_of_ble_eq_true rfl⟩ (fun E A1 hx => ?_) (fun v A1 z1 hq => ?_)
  · have hm := hE E hx.1
    simp only [List.mem_cons, List.not_mem_nil, or_false] at hm
    rcases hm with rfl | rfl
    · refine ⟨6, 4, 2, 5, 0, 0, ⟨(tableOf hhL_cancel).take 0, (tableOf hhL_cancel)[0]'(by decide), (tableOf hhL_cancel).drop 1, rfl, fun _ h => absurd h List.not_mem_nil, by decide, by decide, cl9_56, by decide, ins_eIOB, rfl⟩, by decide, Or.inr ⟨2, rfl, rfl⟩, ?_⟩
      refine g_ldc X rfl kcL_58 ?_
      exact g_iret X rfl rfl rfl (Nat.le_of_ble_eq_true rfl) (Nat.le_of_ble_eq_true rfl) ⟨by rw [hx.1]; rfl, Or.inr ⟨_, hx.1, hx.2⟩⟩
    · refine ⟨10, 7, 2, 8, 0, 0, ⟨(tableOf hhL_cancel).take 1, (tableOf hhL_cancel)[1]'(by decide), (tableOf hhL_cancel).drop 2, rfl, List.forall_mem_cons.mpr ⟨⟨by decide, _, cl9_56, by decide, by decide⟩, fun _ h => absurd h List.not_mem_nil⟩, by decide, by decide, cl9_20, by decide, ins_eISE, rfl⟩, by decide, Or.inr ⟨2, rfl, rfl⟩, ?_⟩
      refine g_ldc X rfl kcL_22 ?_
      exact g_iret X rfl rfl rfl (Nat.le_of_ble_eq_true rfl) (Nat.le_of_ble_eq_true rfl) ⟨by rw [hx.1]; rfl, Or.inr ⟨_, hx.1, hx.2⟩⟩
  · obtain ⟨r, h1, rfl, -, hP⟩ := hq
    obtain ⟨x, rfl⟩ := hr r h1
    exact g_iret X rfl rfl rfl (Nat.le_of_ble_eq_true rfl) (Nat.le_of_ble_eq_true rfl) ⟨by rw [h1]; rfl, Or.inl ⟨_, h1, hP⟩⟩
set_option maxRecDepth 100000 in
set_option maxHeartbeats 400000 in
theorem hp_L_addRoom (l : Launch) (D : va_G) (cy : Nat → ClassId) (B : Nat) (od : Nat → Option Nat) {A : AH} {x0 : Int32} {oc : OC} {P : AH → Prop} (hC : CP l D cy B od yX7_addRoom cX7_addRoom 2 (some .int) rmX7_addRoom [.ref 0, .int x0] A oc P (fun A' => A' = A)) {fs : List Value} (h0 : A 0 = some (.inr (7, fs))) (hr : ∀ r, oc = .inr r → ∃ x, r = .int x) (hE : ∀ E, oc = .inl E → E ∈ [eIAE, eISE]) (z : Nat) : CTW l D cy B od yL_addRoom cL_addRoom 3 (some .int) hhL_addRoom rmL_addRoom [.ref 0, .int x0] A z (HQ2 oc P A) := by
  refine CTW.of (by decide) tL_addRoom okL_addRoom (Nat.le_of_ble_eq_true rfl) (q0 := tL_addRoom[0]) rfl rfl ?_
  intro p e s m args below meth c X hti
  refine g_aload_n X rfl rfl ?_
  refine g_iload_n X rfl rfl ?_
  refine gx_catchV X hti rfl lcX7_addRoom lmL_72 lsX7_addRoom (hC z) (ci := 7) h0 rfl (rest := []) rfl rfl (Nat.le_of_ble_eq_true rfl) ⟨by decide, by decide⟩ ⟨Nat.le_of_ble_eq_true rfl, Nat.le_of_ble_eq_true rfl⟩ (fun E A1 hx => ?_) (fun v A1 z1 hq => ?_)
  · have hm := hE E hx.1
    simp only [List.mem_cons, List.not_mem_nil, or_false] at hm
    rcases hm with rfl | rfl
    · refine ⟨6, 4, 2, 5, 0, 0, ⟨(tableOf hhL_addRoom).take 0, (tableOf hhL_addRoom)[0]'(by decide), (tableOf hhL_addRoom).drop 1, rfl, fun _ h => absurd h List.not_mem_nil, by decide, by decide, cl9_27, by decide, ins_eIAE, rfl⟩, by decide, Or.inr ⟨2, rfl, rfl⟩, ?_⟩
      refine g_ldc X rfl kcL_29 ?_
      exact g_iret X rfl rfl rfl (Nat.le_of_ble_eq_true rfl) (Nat.le_of_ble_eq_true rfl) ⟨by rw [hx.1]; rfl, Or.inr ⟨_, hx.1, hx.2⟩⟩
    · refine ⟨10, 7, 2, 8, 0, 0, ⟨(tableOf hhL_addRoom).take 1, (tableOf hhL_addRoom)[1]'(by decide), (tableOf hhL_addRoom).drop 2, rfl, List.forall_mem_cons.mpr ⟨⟨by decide, _, cl9_27, by decide, by decide⟩, fun _ h => absurd h List.not_mem_nil⟩, by decide, by decide, cl9_20, by decide, ins_eISE, rfl⟩, by decide, Or.inr ⟨2, rfl, rfl⟩, ?_⟩
      refine g_ldc X rfl kcL_22 ?_
      exact g_iret X rfl rfl rfl (Nat.le_of_ble_eq_true rfl) (Nat.le_of_ble_eq_true rfl) ⟨by rw [hx.1]; rfl, Or.inr ⟨_, hx.1, hx.2⟩⟩
  · obtain ⟨r, h1, rfl, -, hP⟩ := hq
    obtain ⟨x, rfl⟩ := hr r h1
    exact g_iret X rfl rfl rfl (Nat.le_of_ble_eq_true rfl) (Nat.le_of_ble_eq_true rfl) ⟨by rw [h1]; rfl, Or.inl ⟨_, h1, hP⟩⟩
set_option maxRecDepth 100000 in
set_option maxHeartbeats 400000 in
theorem hp_L_setStart (l : Launch) (D : va_G) (cy : Nat → ClassId) (B : Nat) (od : Nat → Option Nat) {A : AH} {x0 : Int32} {oc : OC} {P : AH → Prop} (hC : CP l D cy B od yX7_setStart cX7_setStart 3 (some .int) rmX7_setStart [.ref 0, .int x0] A oc P (fun A' => A' = A)) {fs : List Value} (h0 : A 0 = some (.inr (7, fs))) (hr : ∀ r, oc = .inr r → ∃ x, r = .int x) (hE : ∀ E, oc = .inl E → E ∈ [eIAE]) (z : Nat) : CTW l D cy B od yL_setStart cL_setStart 3 (some .int) hhL_setStart rmL_setStart [.ref 0, .int x0] A z (HQ2 oc P A) := by
  refine CTW.of (by decide) tL_setStart okL_setStart (Nat.le_of_ble_eq_true rfl) (q0 := tL_setStart[0]) rfl rfl ?_
  intro p e s m args below meth c X hti
  refine g_aload_n X rfl rfl ?_
  refine g_iload_n X rfl rfl ?_
  refine gx_catchV X hti rfl lcX7_setStart lmL_75 lsX7_setStart (hC z) (ci := 7) h0 rfl (rest := []) rfl rfl (Nat.le_of_ble_eq_true rfl) ⟨by decide, by decide⟩ ⟨Nat.le_of_ble_eq_true rfl, Nat.le_of_ble_eq_true rfl⟩ (fun E A1 hx => ?_) (fun v A1 z1 hq => ?_)
  · have hm := hE E hx.1
    simp only [List.mem_cons, List.not_mem_nil, or_false] at hm
    subst hm
    refine ⟨6, 4, 2, 5, 0, 0, ⟨(tableOf hhL_setStart).take 0, (tableOf hhL_setStart)[0]'(by decide), (tableOf hhL_setStart).drop 1, rfl, fun _ h => absurd h List.not_mem_nil, by decide, by decide, cl9_27, by decide, ins_eIAE, rfl⟩, by decide, Or.inr ⟨2, rfl, rfl⟩, ?_⟩
    refine g_ldc X rfl kcL_29 ?_
    exact g_iret X rfl rfl rfl (Nat.le_of_ble_eq_true rfl) (Nat.le_of_ble_eq_true rfl) ⟨by rw [hx.1]; rfl, Or.inr ⟨_, hx.1, hx.2⟩⟩
  · obtain ⟨r, h1, rfl, -, hP⟩ := hq
    obtain ⟨x, rfl⟩ := hr r h1
    exact g_iret X rfl rfl rfl (Nat.le_of_ble_eq_true rfl) (Nat.le_of_ble_eq_true rfl) ⟨by rw [h1]; rfl, Or.inl ⟨_, h1, hP⟩⟩
set_option maxRecDepth 100000 in
set_option maxHeartbeats 400000 in
theorem hp_L_undo (l : Launch) (D : va_G) (cy : Nat → ClassId) (B : Nat) (od : Nat → Option Nat) {A : AH} {oc : OC} {P : AH → Prop} (hC : CP l D cy B od yX7_undo cX7_undo 1 (some .int) rmX7_undo [.ref 0] A oc P (fun A' => A' = A)) {fs : List Value} (h0 : A 0 = some (.inr (7, fs))) (hr : ∀ r, oc = .inr r → ∃ x, r = .int x) (hE : ∀ E, oc = .inl E → E ∈ [eISE]) (z : Nat) : CTW l D cy B od yL_undo cL_undo 2 (some .int) hhL_undo rmL_undo [.ref 0] A z (HQ2 oc P A) := by
  refine CTW.of (by decide) tL_undo okL_undo (Nat.le_of_ble_eq_true rfl) (q0 := tL_undo[0]) rfl rfl ?_
  intro p e s m args below meth c X hti
  refine g_aload_n X rfl rfl ?_
  refine gx_catchV X hti rfl lcX7_undo lmL_78 lsX7_undo (hC z) (ci := 7) h0 rfl (rest := []) rfl rfl (Nat.le_of_ble_eq_true rfl) ⟨by decide, by decide⟩ ⟨Nat.le_of_ble_eq_true rfl, Nat.le_of_ble_eq_true rfl⟩ (fun E A1 hx => ?_) (fun v A1 z1 hq => ?_)
  · have hm := hE E hx.1
    simp only [List.mem_cons, List.not_mem_nil, or_false] at hm
    subst hm
    refine ⟨5, 3, 1, 4, 0, 0, ⟨(tableOf hhL_undo).take 0, (tableOf hhL_undo)[0]'(by decide), (tableOf hhL_undo).drop 1, rfl, fun _ h => absurd h List.not_mem_nil, by decide, by decide, cl9_20, by decide, ins_eISE, rfl⟩, by decide, Or.inr ⟨1, rfl, rfl⟩, ?_⟩
    refine g_ldc X rfl kcL_22 ?_
    exact g_iret X rfl rfl rfl (Nat.le_of_ble_eq_true rfl) (Nat.le_of_ble_eq_true rfl) ⟨by rw [hx.1]; rfl, Or.inr ⟨_, hx.1, hx.2⟩⟩
  · obtain ⟨r, h1, rfl, -, hP⟩ := hq
    obtain ⟨x, rfl⟩ := hr r h1
    exact g_iret X rfl rfl rfl (Nat.le_of_ble_eq_true rfl) (Nat.le_of_ble_eq_true rfl) ⟨by rw [h1]; rfl, Or.inl ⟨_, h1, hP⟩⟩
set_option maxRecDepth 100000 in
set_option maxHeartbeats 400000 in
theorem hp_L_restore (l : Launch) (D : va_G) (cy : Nat → ClassId) (B : Nat) (od : Nat → Option Nat) {A : AH} {oc : OC} {P : AH → Prop} (hC : CP l D cy B od yX7_restore cX7_restore 1 (some .int) rmX7_restore [.ref 0] A oc P (fun A' => A' = A)) {fs : List Value} (h0 : A 0 = some (.inr (7, fs))) (hr : ∀ r, oc = .inr r → ∃ x, r = .int x) (hE : ∀ E, oc = .inl E → E ∈ [eISE]) (z : Nat) : CTW l D cy B od yL_restore cL_restore 2 (some .int) hhL_restore rmL_restore [.ref 0] A z (HQ2 oc P A) := by
  refine CTW.of (by decide) tL_restore okL_restore (Nat.le_of_ble_eq_true rfl) (q0 := tL_restore[0]) rfl rfl ?_
  intro p e s m args below meth c X hti
  refine g_aload_n X rfl rfl ?_
  refine gx_catchV X hti rfl lcX7_restore lmL_81 lsX7_restore (hC z) (ci := 7) h0 rfl (rest := []) rfl rfl (Nat.le_of_ble_eq_true rfl) ⟨by decide, by decide⟩ ⟨Nat.le_of_ble_eq_true rfl, Nat.le_of_ble_eq_true rfl⟩ (fun E A1 hx => ?_) (fun v A1 z1 hq => ?_)
  · have hm := hE E hx.1
    simp only [List.mem_cons, List.not_mem_nil, or_false] at hm
    subst hm
    refine ⟨5, 3, 1, 4, 0, 0, ⟨(tableOf hhL_restore).take 0, (tableOf hhL_restore)[0]'(by decide), (tableOf hhL_restore).drop 1, rfl, fun _ h => absurd h List.not_mem_nil, by decide, by decide, cl9_20, by decide, ins_eISE, rfl⟩, by decide, Or.inr ⟨1, rfl, rfl⟩, ?_⟩
    refine g_ldc X rfl kcL_22 ?_
    exact g_iret X rfl rfl rfl (Nat.le_of_ble_eq_true rfl) (Nat.le_of_ble_eq_true rfl) ⟨by rw [hx.1]; rfl, Or.inr ⟨_, hx.1, hx.2⟩⟩
  · obtain ⟨r, h1, rfl, -, hP⟩ := hq
    obtain ⟨x, rfl⟩ := hr r h1
    exact g_iret X rfl rfl rfl (Nat.le_of_ble_eq_true rfl) (Nat.le_of_ble_eq_true rfl) ⟨by rw [h1]; rfl, Or.inl ⟨_, h1, hP⟩⟩
set_option maxRecDepth 100000 in
set_option maxHeartbeats 400000 in
theorem hp_L_load (l : Launch) (D : va_G) (cy : Nat → ClassId) (B : Nat) (od : Nat → Option Nat) {A : AH} {Q : Option Value → AH → Prop} {Qx : String → AH → Prop} (hC : CPX l D cy B od yX7_load cX7_load 1 (some .int) rmX7_load [.ref 0] A Q Qx) {fs : List Value} (h0 : A 0 = some (.inr (7, fs))) (hr : ∀ v A', Q v A' → ∃ x, v = some (.int x)) (hE : ∀ E A', Qx E A' → E = eIAE) (z : Nat) : CTW l D cy B od yL_load cL_load 2 (some .int) hhL_load rmL_load [.ref 0] A z (fun v A' _ => Q v A' ∨ (v = some (.int (-1000000002)) ∧ ∃ E, Qx E A')) := by
  refine CTW.of (by decide) tL_load okL_load (Nat.le_of_ble_eq_true rfl) (q0 := tL_load[0]) rfl rfl ?_
  intro p e s m args below meth c X hti
  refine g_aload_n X rfl rfl ?_
  refine gx_catchV X hti rfl lcX7_load lmL_23 lsX7_load (hC z) (ci := 7) h0 rfl (rest := []) rfl rfl (Nat.le_of_ble_eq_true rfl) ⟨by decide, by decide⟩ ⟨Nat.le_of_ble_eq_true rfl, Nat.le_of_ble_eq_true rfl⟩ (fun E A1 hx => ?_) (fun v A1 z1 hq => ?_)
  · have hm := hE E A1 hx
    subst hm
    refine ⟨5, 3, 1, 4, 0, 0, ⟨(tableOf hhL_load).take 0, (tableOf hhL_load)[0]'(by decide), (tableOf hhL_load).drop 1, rfl, fun _ h => absurd h List.not_mem_nil, by decide, by decide, cl9_27, by decide, ins_eIAE, rfl⟩, by decide, Or.inr ⟨1, rfl, rfl⟩, ?_⟩
    refine g_ldc X rfl kcL_29 ?_
    exact g_iret X rfl rfl rfl (Nat.le_of_ble_eq_true rfl) (Nat.le_of_ble_eq_true rfl) (Or.inr ⟨rfl, _, hx⟩)
  · obtain ⟨-, hQ⟩ := hq
    obtain ⟨x, rfl⟩ := hr v A1 hQ
    exact g_iret X rfl rfl rfl (Nat.le_of_ble_eq_true rfl) (Nat.le_of_ble_eq_true rfl) (Or.inl hQ)
theorem lwL_append : LkW yL_append cL_append 3 (some .int) hhL_append 2 := ⟨cwL_append, lw_good_in (n := 62) (by decide +kernel) rfl, ⟨by decide +kernel, by decide +kernel⟩, by decide +kernel⟩
theorem lwL_load : LkW yL_load cL_load 2 (some .int) hhL_load 1 := ⟨cwL_load, lw_good_in (n := 62) (by decide +kernel) rfl, ⟨by decide +kernel, by decide +kernel⟩, by decide +kernel⟩
theorem lwL_addEntry : LkW yL_addEntry cL_addEntry 7 (some .int) hhL_addEntry 6 := ⟨cwL_addEntry, lw_good_in (n := 62) (by decide +kernel) rfl, ⟨by decide +kernel, by decide +kernel⟩, by decide +kernel⟩
theorem lwL_addAsset : LkW yL_addAsset cL_addAsset 5 (some .int) hhL_addAsset 4 := ⟨cwL_addAsset, lw_good_in (n := 62) (by decide +kernel) rfl, ⟨by decide +kernel, by decide +kernel⟩, by decide +kernel⟩
theorem lwL_sellAsset : LkW yL_sellAsset cL_sellAsset 5 (some .int) hhL_sellAsset 4 := ⟨cwL_sellAsset, lw_good_in (n := 62) (by decide +kernel) rfl, ⟨by decide +kernel, by decide +kernel⟩, by decide +kernel⟩
theorem lwL_closeQuarter : LkW yL_closeQuarter cL_closeQuarter 2 (some .int) hhL_closeQuarter 1 := ⟨cwL_closeQuarter, lw_good_in (n := 62) (by decide +kernel) rfl, ⟨by decide +kernel, by decide +kernel⟩, by decide +kernel⟩
theorem lwL_setOffice : LkW yL_setOffice cL_setOffice 5 (some .int) hhL_setOffice 4 := ⟨cwL_setOffice, lw_good_in (n := 62) (by decide +kernel) rfl, ⟨by decide +kernel, by decide +kernel⟩, by decide +kernel⟩
theorem lwL_pay : LkW yL_pay cL_pay 4 (some .int) hhL_pay 3 := ⟨cwL_pay, lw_good_in (n := 62) (by decide +kernel) rfl, ⟨by decide +kernel, by decide +kernel⟩, by decide +kernel⟩
theorem lwL_cancel : LkW yL_cancel cL_cancel 3 (some .int) hhL_cancel 2 := ⟨cwL_cancel, lw_good_in (n := 62) (by decide +kernel) rfl, ⟨by decide +kernel, by decide +kernel⟩, by decide +kernel⟩
theorem lwL_addRoom : LkW yL_addRoom cL_addRoom 3 (some .int) hhL_addRoom 2 := ⟨cwL_addRoom, lw_good_in (n := 62) (by decide +kernel) rfl, ⟨by decide +kernel, by decide +kernel⟩, by decide +kernel⟩
theorem lwL_setStart : LkW yL_setStart cL_setStart 3 (some .int) hhL_setStart 2 := ⟨cwL_setStart, lw_good_in (n := 62) (by decide +kernel) rfl, ⟨by decide +kernel, by decide +kernel⟩, by decide +kernel⟩
theorem lwL_undo : LkW yL_undo cL_undo 2 (some .int) hhL_undo 1 := ⟨cwL_undo, lw_good_in (n := 62) (by decide +kernel) rfl, ⟨by decide +kernel, by decide +kernel⟩, by decide +kernel⟩
theorem lwL_restore : LkW yL_restore cL_restore 2 (some .int) hhL_restore 1 := ⟨cwL_restore, lw_good_in (n := 62) (by decide +kernel) rfl, ⟨by decide +kernel, by decide +kernel⟩, by decide +kernel⟩
