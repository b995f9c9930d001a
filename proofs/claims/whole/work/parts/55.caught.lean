/-! 55: calls that are caught -/
section CORE55
variable {p : Program} {l : Launch} {e : Env} {R : Room} {s : State} {m : MethodId} {args : Array Value} {below : List Frame} {meth : Method} {c : Code}
variable {D : va_G} {cy : Nat → ClassId} {B : Nat} {od : Nat → Option Nat} {cc : ByteArray} {nL : Nat} {tab : List PT} {own : String} {ret : Option FieldType}
variable {F : State → Prop} {cells slots : Nat} {A : AH} {z i pc len nx tg : Nat} {lv : List (Option Value)} {st : List Value}
/-- the contract of a method with a table of handlers that throws nothing -/
def CTW (l : Launch) (D : va_G) (cy : Nat → ClassId) (B : Nat) (od : Nat → Option Nat) (y : MethodName) (bytes : ByteArray) (maxL : Nat) (rt : Option FieldType) (hh : List (Nat × Nat × Nat × Nat)) (rm : Room) (av : List Value) (A : AH) (z : Nat) (Q : QT) : Prop := Met l y (Cond.codeWith y bytes maxL rt hh :: lw_good) rm (PcA D cy B od av A z) (QcA D B od Q) rm.cells rm.slots (fun q => B ≤ q)
theorem CTW.of {y : MethodName} {bytes : ByteArray} {maxL : Nat} {rt : Option FieldType} {hh : List (Nat × Nat × Nat × Nat)} {rm : Room} {av : List Value} {Q : QT} (hy : plainName y.cls = true) (tb : List PT) (hok : OkTab bytes tb) (hlen : (entL av).length ≤ maxL) {q0 : PT} (h0 : tb[0]? = some q0) (h00 : q0.1 = 0)
    (body : ∀ (p : Program) (e : Env) (s : State) (m : MethodId) (args : Array Value) (below : List Frame) (meth : Method) (c : Code), Cx p s m args meth c D cy B od bytes maxL tb y.cls rt → c.exceptionTable.toList = tableOf hh → G p l e rm s m args below meth c D B od maxL tb (FinQ false D B od Q (fun _ _ => True) args s below rm.cells rm.slots) 0 0 A z 0 (entN av maxL) []) : CTW l D cy B od y bytes maxL rt hh rm av A z Q := by
  show MetFree l y (headSpec (Cond.codeWith y bytes maxL rt hh :: lw_good) rm) (PcA D cy B od av A z) (fun _ _ _ _ _ => True) (fun a st o t => QcA D B od Q a st o t ∧ ∃ L, FrameEnd st o t L rm.cells rm.slots ∧ ∀ q ∈ L, B ≤ q.base)
  refine MetFree.of_bodyS (code := bytes) (maxLocals := maxL) (ret := rt) hy ?_ ?_
  · intro args s m h hn
    obtain ⟨m9, meth, c, hn9, h1, h2, h3, h4, -, h5, h6, -⟩ := Cond.codeWith_spec (atoms_spec (ws := Cond.codeWith y bytes maxL rt hh :: lw_good) h _ List.mem_cons_self)
    cases hn.symm.trans hn9
    exact ⟨meth, c, h1, h2, h3, h4, h5, h6⟩
  · intro p e s m args below meth c s₁ Bd hml hv _
    have hh0 : s₁.heap = s.heap := by rw [Bd.state]; rfl
    have htb := vx_table (x := y) Bd (atoms_spec (ws := Cond.codeWith y bytes maxL rt hh :: lw_good) Bd.pre _ List.mem_cons_self)
    obtain ⟨hav, hK, hN, hR, hB, hO⟩ := hv
    have X : Cx p s m args meth c D cy B od bytes maxL tb y.cls rt := ⟨⟨Bd.exec, Bd.bytes, hml, findClass_of_methodNamed Bd.named, fun v hv => atoms_spec Bd.pre _ (List.mem_cons_of_mem _ hv)⟩, hK, hN, hok, Bd.returns, Bd.notSynchronized, hB, hO⟩
    have g := body p e s m args below meth c X htb
    have hl := lv_entry (av.map (trV B od)) (n := maxL) (by rw [lg_len]; exact hlen)
    have K := g q0 h0 s.heap [] _ hR va_S.rf (LR.entry hl)
    rw [h00] at K
    have K2 : W p l e (headSpec (Cond.codeWith y bytes maxL rt hh :: lw_good) rm).room s m args below meth c s.heap [] 0 0 (FinQ false D B od Q (fun _ _ => True) args s below rm.cells rm.slots) (entryFrame m args maxL) := by
      rw [hav, lg_entry_eq]
      exact hav ▸ K
    obtain ⟨t, a1, o, b1, b2, b3⟩ := K2 s₁ hh0 (Stand.of_body Bd)
    exact ⟨t, o, a1, b1, b2, ⟨b3.1, b3.2⟩⟩
/-- how a throw is caught -/
def Cat (own : String) (hh : List (Nat × Nat × Nat × Nat)) (pc : Nat) (E : String) (pcH : Nat) : Prop := ∃ (pre : List ExceptionTableEntry) (x : ExceptionTableEntry) (suf : List ExceptionTableEntry), tableOf hh = pre ++ x :: suf ∧ (∀ z ∈ pre, z.catchType ≠ 0 ∧ ∃ nm : String, Cond.classLink own z.catchType nm ∈ lw_good ∧ nm ∈ exL ∧ E ≠ nm) ∧ covers x pc = true ∧ x.catchType ≠ 0 ∧ Cond.classLink own x.catchType E ∈ lw_good ∧ E ∈ exL ∧ Cond.instantiable E 6 ∈ lw_good ∧ x.handlerPc = pcH
/-- a call whose throws are caught here; the handler puts them away -/
theorem gx_catchV (X : Cx p s m args meth c D cy B od cc nL tab own ret) {hh : List (Nat × Nat × Nat × Nat)} (hti : c.exceptionTable.toList = tableOf hh) {y : MethodName} {bytes : ByteArray} {maxL n ix : Nat} {rt : Option FieldType} {rm : Room} {As rest : List Value} {b : Nat} {Q' : QT} {Qx' : QX} (hi : tab[i]? = some (pc, .invokevirtual ix, 3, nx, tg)) (hL : LkC y bytes maxL rt n) (hM : LkM own ix y) (hSe : LkSel y) (hC : CX l D cy B od y bytes maxL rt rm (.ref b :: As) A z Q' Qx') {ci : Nat} {fs : List Value} {T : u_T} {N : Nat} (hA : A b = some (.inr (ci, fs))) (hc : vwCl[ci]? = some (y.cls, T, N)) (hst : st = As.reverse ++ .ref b :: rest) (hn : As.length = n) (hw : (rest.map fun v => v.category).sum ≤ 8) (hRm : rm.frames + 1 ≤ R.frames ∧ 8 + (maxL + 11) + rm.locals ≤ R.locals) (hf : cells + rm.cells ≤ R.cells ∧ slots + rm.slots ≤ R.slots)
    (kx : ∀ E A', Qx' E A' → ∃ (pcH j k nH tH w : Nat), Cat own hh pc E pcH ∧ k < nL ∧ ((tab[j]? = some (pcH, .astore k, 2, nH, tH)) ∨ ∃ kf : Fin 4, (kf : Nat) = k ∧ tab[j]? = some (pcH, .astore_n kf, 1, nH, tH)) ∧ G p l e R s m args below meth c D B od nL tab F (cells + rm.cells) (slots + rm.slots) A' 0 nH [] [])
    (kk : ∀ (v : Option Value) (A' : AH) (z' : Nat), Q' v A' z' → G p l e R s m args below meth c D B od nL tab F (cells + rm.cells) (slots + rm.slots) A' z' nx lv (v.toList ++ rest)) : G p l e R s m args below meth c D B od nL tab F cells slots A z i lv st := by
  intro q hq H locs ls hR hS hl
  cases Option.some.inj (hi.symm.trans hq)
  obtain ⟨q2, hq2, e2⟩ := X.2.2.2.1.fall hi rfl
  subst hst
  rw [List.map_append, List.map_reverse, List.map_cons]
  refine xrun_go (vx_runV (As := As.map (trV B od)) (b := rho B od b) (rest := rest.map (trV B od)) X.1 hC ⟨mkB X hL hM hRm, X.1.2.2.2.2 _ hSe.1, X.1.2.2.2.2 _ hSe.2⟩ ⟨PcA.blind, recv X hR hA hc, fun U hU hW => ⟨rfl, X.world hR hS U hU hW⟩⟩ rfl ((List.length_map _).trans hn) hl.1 rfl (lv_room (st_cat hw)) (X.2.2.2.1.dec hi) hf) hS (fun E ce q9 A' H1 locs1 h1 h2 h3 h4 h5 h6 => ?_) (fun v A' z' H1 locs1 hq hR1 hS1 => ?_)
  · obtain ⟨pcH, j, k, nH, tH, w, ⟨pre, x, suf, c1, c2, c3, c4, c5, c6, c7, c8⟩, hk, hj, hG⟩ := kx E A' h1
    refine vx_catch X.1.2.2.2.1 pre x suf (hti.trans c1) (fun z hz => ?_) c3 c4 (X.1.2.2.2.2 _ c5) (cast_self (X.1.2.2.2.2 _ c7)) h4 h5 h6 ?_
    · obtain ⟨d1, nm, d2, d3, d4⟩ := c2 z hz
      exact Or.inr ⟨d1, nm, X.1.2.2.2.2 _ d2, X.str.2.2.2.1 E c6 nm d3 d4⟩
    · rw [c8]
      rcases hj with hj | ⟨kf, hkf, hj⟩
      · obtain ⟨q3, hq3, e3⟩ := X.2.2.2.1.fall hj rfl
        refine lv_astore X.1.1 X.1.2.1 (X.2.2.2.1.dec hj) hl.has hk rfl (fun ls2 hl2 => ?_)
        have K := hG q3 hq3 H1 locs1 ls2 h2 h3 ⟨hl2.1, hl2.2.1, fun i v hv => by cases hv⟩
        rw [e3] at K
        exact K
      · subst hkf
        obtain ⟨q3, hq3, e3⟩ := X.2.2.2.1.fall hj rfl
        refine lv_astore_n X.1.1 X.1.2.1 (X.2.2.2.1.dec hj) rfl hl.has hk rfl (fun ls2 hl2 => ?_)
        have K := hG q3 hq3 H1 locs1 ls2 h2 h3 ⟨hl2.1, hl2.2.1, fun i v hv => by cases hv⟩
        rw [e3] at K
        exact K
  · have K := kk v A' z' hq q2 hq2 H1 locs1 ls hR1 hS1 hl
    rw [e2, ← st_ret] at K
    exact K
end CORE55
def valL : Value → Int64
  | .int x => x.toInt64
  | .long x => x
  | _ => 0
/-- what a helper leaves: its code, and the answer in out -/
def HelpQ (cy : Nat → ClassId) (ex : List String) (oc : OC) (P Px : AH → Prop) : QT := fun v A' _ => v = some (.int (nI (cX ex oc))) ∧ ((∃ r A1 g, oc = .inr r ∧ P A1 ∧ A' = upA A1 238 (.inl (cy 1, 1, .inr (.inl g))) ∧ g 0 = valL r) ∨ (∃ E, oc = .inl E ∧ Px A'))
def tL_append : List PT := [(0, .aload 6, 2, 1, 0), (2, .iconst 0, 1, 2, 0), (3, .aload_n 0, 1, 3, 0), (4, .iload_n 1, 1, 4, 0), (5, .iload_n 2, 1, 5, 0), (6, .iload_n 3, 1, 6, 0), (7, .iload 4, 2, 7, 0), (9, .iload 5, 2, 8, 0), (11, .invokevirtual 7, 3, 9, 0), (14, .i2l, 1, 10, 0), (15, .lastore, 1, 11, 0), (16, .goto 7, 3, 12, 15), (19, .astore 7, 2, 13, 0), (21, .iconst 1, 1, 14, 0), (22, .ireturn, 1, 15, 0), (23, .iconst 0, 1, 16, 0), (24, .ireturn, 1, 17, 0)]
set_option maxRecDepth 100000 in
theorem okL_append : OkTab cL_append tL_append := ⟨by decide +kernel, by decide +kernel⟩
abbrev rmL_append : Room := { frames := 8, cells := 1, slots := 6, locals := 141 }
abbrev hhL_append : List (Nat × Nat × Nat × Nat) := [(0, 16, 19, 13)]
theorem cwL_append : Cond.codeWith yL_append cL_append 8 (some .int) hhL_append ∈ lw_good := lw_good_in (n := 761) (by decide +kernel) rfl
theorem stL_append : Cond.static yL_append ∈ lw_good := lw_good_in (n := 760) (by decide +kernel) rfl
theorem cl9_13 : Cond.classLink RL 13 eISE ∈ lw_good := lw_good_in (n := 762) (by decide +kernel) rfl
theorem lmL_7 : LkM RL 7 yX7_append := lw_good_in (n := 763) (by decide +kernel) rfl
def tL_truncate : List PT := [(0, .aload_n 2, 1, 1, 0), (1, .iconst 0, 1, 2, 0), (2, .aload_n 0, 1, 3, 0), (3, .iload_n 1, 1, 4, 0), (4, .invokevirtual 15, 3, 5, 0), (7, .i2l, 1, 6, 0), (8, .lastore, 1, 7, 0), (9, .goto 6, 3, 8, 11), (12, .astore_n 3, 1, 9, 0), (13, .iconst 1, 1, 10, 0), (14, .ireturn, 1, 11, 0), (15, .iconst 0, 1, 12, 0), (16, .ireturn, 1, 13, 0)]
set_option maxRecDepth 100000 in
theorem okL_truncate : OkTab cL_truncate tL_truncate := ⟨by decide +kernel, by decide +kernel⟩
abbrev rmL_truncate : Room := { frames := 8, cells := 1, slots := 6, locals := 136 }
abbrev hhL_truncate : List (Nat × Nat × Nat × Nat) := [(0, 9, 12, 19)]
theorem cwL_truncate : Cond.codeWith yL_truncate cL_truncate 4 (some .int) hhL_truncate ∈ lw_good := lw_good_in (n := 847) (by decide +kernel) rfl
theorem stL_truncate : Cond.static yL_truncate ∈ lw_good := lw_good_in (n := 846) (by decide +kernel) rfl
theorem cl9_19 : Cond.classLink RL 19 eIAE ∈ lw_good := lw_good_in (n := 848) (by decide +kernel) rfl
theorem lmL_15 : LkM RL 15 yX7_truncate := lw_good_in (n := 849) (by decide +kernel) rfl
def tL_load : List PT := [(0, .aload_n 1, 1, 1, 0), (1, .iconst 0, 1, 2, 0), (2, .aload_n 0, 1, 3, 0), (3, .invokevirtual 21, 3, 4, 0), (6, .i2l, 1, 5, 0), (7, .lastore, 1, 6, 0), (8, .goto 6, 3, 7, 10), (11, .astore_n 2, 1, 8, 0), (12, .iconst 1, 1, 9, 0), (13, .ireturn, 1, 10, 0), (14, .iconst 0, 1, 11, 0), (15, .ireturn, 1, 12, 0)]
set_option maxRecDepth 100000 in
theorem okL_load : OkTab cL_load tL_load := ⟨by decide +kernel, by decide +kernel⟩
abbrev rmL_load : Room := { frames := 11, cells := 1, slots := 6, locals := 288 }
abbrev hhL_load : List (Nat × Nat × Nat × Nat) := [(0, 8, 11, 19)]
theorem cwL_load : Cond.codeWith yL_load cL_load 3 (some .int) hhL_load ∈ lw_good := lw_good_in (n := 875) (by decide +kernel) rfl
theorem stL_load : Cond.static yL_load ∈ lw_good := lw_good_in (n := 874) (by decide +kernel) rfl
theorem lmL_21 : LkM RL 21 yX7_load := lw_good_in (n := 876) (by decide +kernel) rfl
def tL_addEntry : List PT := [(0, .aload 6, 2, 1, 0), (2, .iconst 0, 1, 2, 0), (3, .aload_n 0, 1, 3, 0), (4, .iload_n 1, 1, 4, 0), (5, .iload_n 2, 1, 5, 0), (6, .iload_n 3, 1, 6, 0), (7, .iload 4, 2, 7, 0), (9, .iload 5, 2, 8, 0), (11, .invokevirtual 25, 3, 9, 0), (14, .i2l, 1, 10, 0), (15, .lastore, 1, 11, 0), (16, .goto 11, 3, 12, 18), (19, .astore 7, 2, 13, 0), (21, .iconst 1, 1, 14, 0), (22, .ireturn, 1, 15, 0), (23, .astore 7, 2, 16, 0), (25, .iconst 2, 1, 17, 0), (26, .ireturn, 1, 18, 0), (27, .iconst 0, 1, 19, 0), (28, .ireturn, 1, 20, 0)]
set_option maxRecDepth 100000 in
theorem okL_addEntry : OkTab cL_addEntry tL_addEntry := ⟨by decide +kernel, by decide +kernel⟩
abbrev rmL_addEntry : Room := { frames := 8, cells := 2, slots := 12, locals := 141 }
abbrev hhL_addEntry : List (Nat × Nat × Nat × Nat) := [(0, 16, 19, 19), (0, 16, 23, 13)]
theorem cwL_addEntry : Cond.codeWith yL_addEntry cL_addEntry 8 (some .int) hhL_addEntry ∈ lw_good := lw_good_in (n := 890) (by decide +kernel) rfl
theorem stL_addEntry : Cond.static yL_addEntry ∈ lw_good := lw_good_in (n := 889) (by decide +kernel) rfl
theorem lmL_25 : LkM RL 25 yX7_addEntry := lw_good_in (n := 891) (by decide +kernel) rfl
def tL_pay : List PT := [(0, .aload_n 3, 1, 1, 0), (1, .iconst 0, 1, 2, 0), (2, .aload_n 0, 1, 3, 0), (3, .iload_n 1, 1, 4, 0), (4, .iload_n 2, 1, 5, 0), (5, .invokevirtual 28, 3, 6, 0), (8, .i2l, 1, 7, 0), (9, .lastore, 1, 8, 0), (10, .goto 15, 3, 9, 18), (13, .astore 4, 2, 10, 0), (15, .iconst 1, 1, 11, 0), (16, .ireturn, 1, 12, 0), (17, .astore 4, 2, 13, 0), (19, .iconst 2, 1, 14, 0), (20, .ireturn, 1, 15, 0), (21, .astore 4, 2, 16, 0), (23, .iconst 3, 1, 17, 0), (24, .ireturn, 1, 18, 0), (25, .iconst 0, 1, 19, 0), (26, .ireturn, 1, 20, 0)]
set_option maxRecDepth 100000 in
theorem okL_pay : OkTab cL_pay tL_pay := ⟨by decide +kernel, by decide +kernel⟩
abbrev rmL_pay : Room := { frames := 8, cells := 3, slots := 18, locals := 139 }
abbrev hhL_pay : List (Nat × Nat × Nat × Nat) := [(0, 10, 13, 32), (0, 10, 17, 19), (0, 10, 21, 13)]
theorem cwL_pay : Cond.codeWith yL_pay cL_pay 5 (some .int) hhL_pay ∈ lw_good := lw_good_in (n := 911) (by decide +kernel) rfl
theorem stL_pay : Cond.static yL_pay ∈ lw_good := lw_good_in (n := 910) (by decide +kernel) rfl
theorem cl9_32 : Cond.classLink RL 32 eIOB ∈ lw_good := lw_good_in (n := 912) (by decide +kernel) rfl
theorem lmL_28 : LkM RL 28 yX7_pay := lw_good_in (n := 913) (by decide +kernel) rfl
def tL_cancel : List PT := [(0, .aload_n 2, 1, 1, 0), (1, .iconst 0, 1, 2, 0), (2, .aload_n 0, 1, 3, 0), (3, .iload_n 1, 1, 4, 0), (4, .invokevirtual 34, 3, 5, 0), (7, .i2l, 1, 6, 0), (8, .lastore, 1, 7, 0), (9, .goto 9, 3, 8, 14), (12, .astore_n 3, 1, 9, 0), (13, .iconst 1, 1, 10, 0), (14, .ireturn, 1, 11, 0), (15, .astore_n 3, 1, 12, 0), (16, .iconst 2, 1, 13, 0), (17, .ireturn, 1, 14, 0), (18, .iconst 0, 1, 15, 0), (19, .ireturn, 1, 16, 0)]
set_option maxRecDepth 100000 in
theorem okL_cancel : OkTab cL_cancel tL_cancel := ⟨by decide +kernel, by decide +kernel⟩
abbrev rmL_cancel : Room := { frames := 8, cells := 2, slots := 12, locals := 137 }
abbrev hhL_cancel : List (Nat × Nat × Nat × Nat) := [(0, 9, 12, 32), (0, 9, 15, 13)]
theorem cwL_cancel : Cond.codeWith yL_cancel cL_cancel 4 (some .int) hhL_cancel ∈ lw_good := lw_good_in (n := 938) (by decide +kernel) rfl
theorem stL_cancel : Cond.static yL_cancel ∈ lw_good := lw_good_in (n := 937) (by decide +kernel) rfl
theorem lmL_34 : LkM RL 34 yX7_cancel := lw_good_in (n := 939) (by decide +kernel) rfl
def tL_addRoom : List PT := [(0, .aload_n 2, 1, 1, 0), (1, .iconst 0, 1, 2, 0), (2, .aload_n 0, 1, 3, 0), (3, .iload_n 1, 1, 4, 0), (4, .invokevirtual 37, 3, 5, 0), (7, .i2l, 1, 6, 0), (8, .lastore, 1, 7, 0), (9, .goto 9, 3, 8, 14), (12, .astore_n 3, 1, 9, 0), (13, .iconst 1, 1, 10, 0), (14, .ireturn, 1, 11, 0), (15, .astore_n 3, 1, 12, 0), (16, .iconst 2, 1, 13, 0), (17, .ireturn, 1, 14, 0), (18, .iconst 0, 1, 15, 0), (19, .ireturn, 1, 16, 0)]
set_option maxRecDepth 100000 in
theorem okL_addRoom : OkTab cL_addRoom tL_addRoom := ⟨by decide +kernel, by decide +kernel⟩
abbrev rmL_addRoom : Room := { frames := 8, cells := 2, slots := 12, locals := 136 }
abbrev hhL_addRoom : List (Nat × Nat × Nat × Nat) := [(0, 9, 12, 19), (0, 9, 15, 13)]
theorem cwL_addRoom : Cond.codeWith yL_addRoom cL_addRoom 4 (some .int) hhL_addRoom ∈ lw_good := lw_good_in (n := 945) (by decide +kernel) rfl
theorem stL_addRoom : Cond.static yL_addRoom ∈ lw_good := lw_good_in (n := 944) (by decide +kernel) rfl
theorem lmL_37 : LkM RL 37 yX7_addRoom := lw_good_in (n := 946) (by decide +kernel) rfl
def tL_setOffice : List PT := [(0, .aload 4, 2, 1, 0), (2, .iconst 0, 1, 2, 0), (3, .aload_n 0, 1, 3, 0), (4, .iload_n 1, 1, 4, 0), (5, .iload_n 2, 1, 5, 0), (6, .iload_n 3, 1, 6, 0), (7, .invokevirtual 40, 3, 7, 0), (10, .i2l, 1, 8, 0), (11, .lastore, 1, 9, 0), (12, .goto 11, 3, 10, 16), (15, .astore 5, 2, 11, 0), (17, .iconst 1, 1, 12, 0), (18, .ireturn, 1, 13, 0), (19, .astore 5, 2, 14, 0), (21, .iconst 2, 1, 15, 0), (22, .ireturn, 1, 16, 0), (23, .iconst 0, 1, 17, 0), (24, .ireturn, 1, 18, 0)]
set_option maxRecDepth 100000 in
theorem okL_setOffice : OkTab cL_setOffice tL_setOffice := ⟨by decide +kernel, by decide +kernel⟩
abbrev rmL_setOffice : Room := { frames := 8, cells := 2, slots := 12, locals := 140 }
abbrev hhL_setOffice : List (Nat × Nat × Nat × Nat) := [(0, 12, 15, 32), (0, 12, 19, 19)]
theorem cwL_setOffice : Cond.codeWith yL_setOffice cL_setOffice 6 (some .int) hhL_setOffice ∈ lw_good := lw_good_in (n := 953) (by decide +kernel) rfl
theorem stL_setOffice : Cond.static yL_setOffice ∈ lw_good := lw_good_in (n := 952) (by decide +kernel) rfl
theorem lmL_40 : LkM RL 40 yX7_setOffice := lw_good_in (n := 954) (by decide +kernel) rfl
def tL_addAsset : List PT := [(0, .aload 4, 2, 1, 0), (2, .iconst 0, 1, 2, 0), (3, .aload_n 0, 1, 3, 0), (4, .iload_n 1, 1, 4, 0), (5, .iload_n 2, 1, 5, 0), (6, .iload_n 3, 1, 6, 0), (7, .invokevirtual 44, 3, 7, 0), (10, .i2l, 1, 8, 0), (11, .lastore, 1, 9, 0), (12, .goto 11, 3, 10, 16), (15, .astore 5, 2, 11, 0), (17, .iconst 1, 1, 12, 0), (18, .ireturn, 1, 13, 0), (19, .astore 5, 2, 14, 0), (21, .iconst 2, 1, 15, 0), (22, .ireturn, 1, 16, 0), (23, .iconst 0, 1, 17, 0), (24, .ireturn, 1, 18, 0)]
set_option maxRecDepth 100000 in
theorem okL_addAsset : OkTab cL_addAsset tL_addAsset := ⟨by decide +kernel, by decide +kernel⟩
abbrev rmL_addAsset : Room := { frames := 8, cells := 2, slots := 12, locals := 138 }
abbrev hhL_addAsset : List (Nat × Nat × Nat × Nat) := [(0, 12, 15, 19), (0, 12, 19, 13)]
theorem cwL_addAsset : Cond.codeWith yL_addAsset cL_addAsset 6 (some .int) hhL_addAsset ∈ lw_good := lw_good_in (n := 961) (by decide +kernel) rfl
theorem stL_addAsset : Cond.static yL_addAsset ∈ lw_good := lw_good_in (n := 960) (by decide +kernel) rfl
theorem lmL_44 : LkM RL 44 yX7_addAsset := lw_good_in (n := 962) (by decide +kernel) rfl
def tL_sellAsset : List PT := [(0, .aload 4, 2, 1, 0), (2, .iconst 0, 1, 2, 0), (3, .aload_n 0, 1, 3, 0), (4, .iload_n 1, 1, 4, 0), (5, .iload_n 2, 1, 5, 0), (6, .iload_n 3, 1, 6, 0), (7, .invokevirtual 47, 3, 7, 0), (10, .i2l, 1, 8, 0), (11, .lastore, 1, 9, 0), (12, .goto 15, 3, 10, 19), (15, .astore 5, 2, 11, 0), (17, .iconst 1, 1, 12, 0), (18, .ireturn, 1, 13, 0), (19, .astore 5, 2, 14, 0), (21, .iconst 2, 1, 15, 0), (22, .ireturn, 1, 16, 0), (23, .astore 5, 2, 17, 0), (25, .iconst 3, 1, 18, 0), (26, .ireturn, 1, 19, 0), (27, .iconst 0, 1, 20, 0), (28, .ireturn, 1, 21, 0)]
set_option maxRecDepth 100000 in
theorem okL_sellAsset : OkTab cL_sellAsset tL_sellAsset := ⟨by decide +kernel, by decide +kernel⟩
abbrev rmL_sellAsset : Room := { frames := 8, cells := 3, slots := 18, locals := 140 }
abbrev hhL_sellAsset : List (Nat × Nat × Nat × Nat) := [(0, 12, 15, 32), (0, 12, 19, 19), (0, 12, 23, 13)]
theorem cwL_sellAsset : Cond.codeWith yL_sellAsset cL_sellAsset 6 (some .int) hhL_sellAsset ∈ lw_good := lw_good_in (n := 977) (by decide +kernel) rfl
theorem stL_sellAsset : Cond.static yL_sellAsset ∈ lw_good := lw_good_in (n := 976) (by decide +kernel) rfl
theorem lmL_47 : LkM RL 47 yX7_sellAsset := lw_good_in (n := 978) (by decide +kernel) rfl
def tL_closeQuarter : List PT := [(0, .aload_n 1, 1, 1, 0), (1, .iconst 0, 1, 2, 0), (2, .aload_n 0, 1, 3, 0), (3, .invokevirtual 50, 3, 4, 0), (6, .i2l, 1, 5, 0), (7, .lastore, 1, 6, 0), (8, .goto 6, 3, 7, 10), (11, .astore_n 2, 1, 8, 0), (12, .iconst 1, 1, 9, 0), (13, .ireturn, 1, 10, 0), (14, .iconst 0, 1, 11, 0), (15, .ireturn, 1, 12, 0)]
set_option maxRecDepth 100000 in
theorem okL_closeQuarter : OkTab cL_closeQuarter tL_closeQuarter := ⟨by decide +kernel, by decide +kernel⟩
abbrev rmL_closeQuarter : Room := { frames := 8, cells := 1, slots := 6, locals := 144 }
abbrev hhL_closeQuarter : List (Nat × Nat × Nat × Nat) := [(0, 8, 11, 13)]
theorem cwL_closeQuarter : Cond.codeWith yL_closeQuarter cL_closeQuarter 3 (some .int) hhL_closeQuarter ∈ lw_good := lw_good_in (n := 988) (by decide +kernel) rfl
theorem stL_closeQuarter : Cond.static yL_closeQuarter ∈ lw_good := lw_good_in (n := 987) (by decide +kernel) rfl
theorem lmL_50 : LkM RL 50 yX7_closeQuarter := lw_good_in (n := 989) (by decide +kernel) rfl
def tL_setStart : List PT := [(0, .aload_n 2, 1, 1, 0), (1, .iconst 0, 1, 2, 0), (2, .aload_n 0, 1, 3, 0), (3, .iload_n 1, 1, 4, 0), (4, .invokevirtual 53, 3, 5, 0), (7, .i2l, 1, 6, 0), (8, .lastore, 1, 7, 0), (9, .goto 6, 3, 8, 11), (12, .astore_n 3, 1, 9, 0), (13, .iconst 1, 1, 10, 0), (14, .ireturn, 1, 11, 0), (15, .iconst 0, 1, 12, 0), (16, .ireturn, 1, 13, 0)]
set_option maxRecDepth 100000 in
theorem okL_setStart : OkTab cL_setStart tL_setStart := ⟨by decide +kernel, by decide +kernel⟩
abbrev rmL_setStart : Room := { frames := 8, cells := 1, slots := 6, locals := 137 }
abbrev hhL_setStart : List (Nat × Nat × Nat × Nat) := [(0, 9, 12, 19)]
theorem cwL_setStart : Cond.codeWith yL_setStart cL_setStart 4 (some .int) hhL_setStart ∈ lw_good := lw_good_in (n := 999) (by decide +kernel) rfl
theorem stL_setStart : Cond.static yL_setStart ∈ lw_good := lw_good_in (n := 998) (by decide +kernel) rfl
theorem lmL_53 : LkM RL 53 yX7_setStart := lw_good_in (n := 1000) (by decide +kernel) rfl
def tL_undo : List PT := [(0, .aload_n 1, 1, 1, 0), (1, .iconst 0, 1, 2, 0), (2, .aload_n 0, 1, 3, 0), (3, .invokevirtual 56, 3, 4, 0), (6, .i2l, 1, 5, 0), (7, .lastore, 1, 6, 0), (8, .goto 6, 3, 7, 10), (11, .astore_n 2, 1, 8, 0), (12, .iconst 1, 1, 9, 0), (13, .ireturn, 1, 10, 0), (14, .iconst 0, 1, 11, 0), (15, .ireturn, 1, 12, 0)]
set_option maxRecDepth 100000 in
theorem okL_undo : OkTab cL_undo tL_undo := ⟨by decide +kernel, by decide +kernel⟩
abbrev rmL_undo : Room := { frames := 8, cells := 1, slots := 6, locals := 135 }
abbrev hhL_undo : List (Nat × Nat × Nat × Nat) := [(0, 8, 11, 13)]
theorem cwL_undo : Cond.codeWith yL_undo cL_undo 3 (some .int) hhL_undo ∈ lw_good := lw_good_in (n := 1007) (by decide +kernel) rfl
theorem stL_undo : Cond.static yL_undo ∈ lw_good := lw_good_in (n := 1006) (by decide +kernel) rfl
theorem lmL_56 : LkM RL 56 yX7_undo := lw_good_in (n := 1008) (by decide +kernel) rfl
def tL_restore : List PT := [(0, .aload_n 1, 1, 1, 0), (1, .iconst 0, 1, 2, 0), (2, .aload_n 0, 1, 3, 0), (3, .invokevirtual 59, 3, 4, 0), (6, .i2l, 1, 5, 0), (7, .lastore, 1, 6, 0), (8, .goto 6, 3, 7, 10), (11, .astore_n 2, 1, 8, 0), (12, .iconst 1, 1, 9, 0), (13, .ireturn, 1, 10, 0), (14, .iconst 0, 1, 11, 0), (15, .ireturn, 1, 12, 0)]
set_option maxRecDepth 100000 in
theorem okL_restore : OkTab cL_restore tL_restore := ⟨by decide +kernel, by decide +kernel⟩
abbrev rmL_restore : Room := { frames := 8, cells := 1, slots := 6, locals := 135 }
abbrev hhL_restore : List (Nat × Nat × Nat × Nat) := [(0, 8, 11, 13)]
theorem cwL_restore : Cond.codeWith yL_restore cL_restore 3 (some .int) hhL_restore ∈ lw_good := lw_good_in (n := 1021) (by decide +kernel) rfl
theorem stL_restore : Cond.static yL_restore ∈ lw_good := lw_good_in (n := 1020) (by decide +kernel) rfl
theorem lmL_59 : LkM RL 59 yX7_restore := lw_good_in (n := 1022) (by decide +kernel) rfl
def tL_count : List PT := [(0, .aload_n 2, 1, 1, 0), (1, .iconst 0, 1, 2, 0), (2, .aload_n 0, 1, 3, 0), (3, .iload_n 1, 1, 4, 0), (4, .invokevirtual 62, 3, 5, 0), (7, .i2l, 1, 6, 0), (8, .lastore, 1, 7, 0), (9, .goto 6, 3, 8, 11), (12, .astore_n 3, 1, 9, 0), (13, .iconst 1, 1, 10, 0), (14, .ireturn, 1, 11, 0), (15, .iconst 0, 1, 12, 0), (16, .ireturn, 1, 13, 0)]
set_option maxRecDepth 100000 in
theorem okL_count : OkTab cL_count tL_count := ⟨by decide +kernel, by decide +kernel⟩
abbrev rmL_count : Room := { frames := 7, cells := 1, slots := 6, locals := 116 }
abbrev hhL_count : List (Nat × Nat × Nat × Nat) := [(0, 9, 12, 19)]
theorem cwL_count : Cond.codeWith yL_count cL_count 4 (some .int) hhL_count ∈ lw_good := lw_good_in (n := 1028) (by decide +kernel) rfl
theorem stL_count : Cond.static yL_count ∈ lw_good := lw_good_in (n := 1027) (by decide +kernel) rfl
theorem lmL_62 : LkM RL 62 yX7_count := lw_good_in (n := 1029) (by decide +kernel) rfl
def tL_entry : List PT := [(0, .aload_n 3, 1, 1, 0), (1, .iconst 0, 1, 2, 0), (2, .aload_n 0, 1, 3, 0), (3, .iload_n 1, 1, 4, 0), (4, .iload_n 2, 1, 5, 0), (5, .invokevirtual 65, 3, 6, 0), (8, .i2l, 1, 7, 0), (9, .lastore, 1, 8, 0), (10, .goto 11, 3, 9, 15), (13, .astore 4, 2, 10, 0), (15, .iconst 1, 1, 11, 0), (16, .ireturn, 1, 12, 0), (17, .astore 4, 2, 13, 0), (19, .iconst 2, 1, 14, 0), (20, .ireturn, 1, 15, 0), (21, .iconst 0, 1, 16, 0), (22, .ireturn, 1, 17, 0)]
set_option maxRecDepth 100000 in
theorem okL_entry : OkTab cL_entry tL_entry := ⟨by decide +kernel, by decide +kernel⟩
abbrev rmL_entry : Room := { frames := 8, cells := 2, slots := 12, locals := 138 }
abbrev hhL_entry : List (Nat × Nat × Nat × Nat) := [(0, 10, 13, 32), (0, 10, 17, 19)]
theorem cwL_entry : Cond.codeWith yL_entry cL_entry 5 (some .int) hhL_entry ∈ lw_good := lw_good_in (n := 1056) (by decide +kernel) rfl
theorem stL_entry : Cond.static yL_entry ∈ lw_good := lw_good_in (n := 1055) (by decide +kernel) rfl
theorem lmL_65 : LkM RL 65 yX7_entry := lw_good_in (n := 1057) (by decide +kernel) rfl
def tL_deductible : List PT := [(0, .aload_n 2, 1, 1, 0), (1, .iconst 0, 1, 2, 0), (2, .aload_n 0, 1, 3, 0), (3, .iload_n 1, 1, 4, 0), (4, .invokevirtual 68, 3, 5, 0), (7, .i2l, 1, 6, 0), (8, .lastore, 1, 7, 0), (9, .goto 6, 3, 8, 11), (12, .astore_n 3, 1, 9, 0), (13, .iconst 1, 1, 10, 0), (14, .ireturn, 1, 11, 0), (15, .iconst 0, 1, 12, 0), (16, .ireturn, 1, 13, 0)]
set_option maxRecDepth 100000 in
theorem okL_deductible : OkTab cL_deductible tL_deductible := ⟨by decide +kernel, by decide +kernel⟩
abbrev rmL_deductible : Room := { frames := 8, cells := 1, slots := 6, locals := 137 }
abbrev hhL_deductible : List (Nat × Nat × Nat × Nat) := [(0, 9, 12, 32)]
theorem cwL_deductible : Cond.codeWith yL_deductible cL_deductible 4 (some .int) hhL_deductible ∈ lw_good := lw_good_in (n := 1063) (by decide +kernel) rfl
theorem stL_deductible : Cond.static yL_deductible ∈ lw_good := lw_good_in (n := 1062) (by decide +kernel) rfl
theorem lmL_68 : LkM RL 68 yX7_deductible := lw_good_in (n := 1064) (by decide +kernel) rfl
def tL_total : List PT := [(0, .aload 4, 2, 1, 0), (2, .iconst 0, 1, 2, 0), (3, .aload_n 0, 1, 3, 0), (4, .iload_n 1, 1, 4, 0), (5, .iload_n 2, 1, 5, 0), (6, .iload_n 3, 1, 6, 0), (7, .invokevirtual 71, 3, 7, 0), (10, .lastore, 1, 8, 0), (11, .goto 7, 3, 9, 12), (14, .astore 5, 2, 10, 0), (16, .iconst 1, 1, 11, 0), (17, .ireturn, 1, 12, 0), (18, .iconst 0, 1, 13, 0), (19, .ireturn, 1, 14, 0)]
set_option maxRecDepth 100000 in
theorem okL_total : OkTab cL_total tL_total := ⟨by decide +kernel, by decide +kernel⟩
abbrev rmL_total : Room := { frames := 8, cells := 1, slots := 6, locals := 138 }
abbrev hhL_total : List (Nat × Nat × Nat × Nat) := [(0, 11, 14, 19)]
theorem cwL_total : Cond.codeWith yL_total cL_total 6 (some .int) hhL_total ∈ lw_good := lw_good_in (n := 1074) (by decide +kernel) rfl
theorem stL_total : Cond.static yL_total ∈ lw_good := lw_good_in (n := 1073) (by decide +kernel) rfl
theorem lmL_71 : LkM RL 71 yX7_total := lw_good_in (n := 1075) (by decide +kernel) rfl
def tL_byCategory : List PT := [(0, .aload_n 3, 1, 1, 0), (1, .iconst 0, 1, 2, 0), (2, .aload_n 0, 1, 3, 0), (3, .iload_n 1, 1, 4, 0), (4, .iload_n 2, 1, 5, 0), (5, .invokevirtual 75, 3, 6, 0), (8, .lastore, 1, 7, 0), (9, .goto 7, 3, 8, 11), (12, .astore 4, 2, 9, 0), (14, .iconst 1, 1, 10, 0), (15, .ireturn, 1, 11, 0), (16, .iconst 0, 1, 12, 0), (17, .ireturn, 1, 13, 0)]
set_option maxRecDepth 100000 in
theorem okL_byCategory : OkTab cL_byCategory tL_byCategory := ⟨by decide +kernel, by decide +kernel⟩
abbrev rmL_byCategory : Room := { frames := 8, cells := 1, slots := 6, locals := 141 }
abbrev hhL_byCategory : List (Nat × Nat × Nat × Nat) := [(0, 9, 12, 19)]
theorem cwL_byCategory : Cond.codeWith yL_byCategory cL_byCategory 5 (some .int) hhL_byCategory ∈ lw_good := lw_good_in (n := 1082) (by decide +kernel) rfl
theorem stL_byCategory : Cond.static yL_byCategory ∈ lw_good := lw_good_in (n := 1081) (by decide +kernel) rfl
theorem lmL_75 : LkM RL 75 yX7_byCategory := lw_good_in (n := 1083) (by decide +kernel) rfl
def tL_open : List PT := [(0, .aload_n 2, 1, 1, 0), (1, .iconst 0, 1, 2, 0), (2, .aload_n 0, 1, 3, 0), (3, .iload_n 1, 1, 4, 0), (4, .invokevirtual 79, 3, 5, 0), (7, .lastore, 1, 6, 0), (8, .goto 6, 3, 7, 10), (11, .astore_n 3, 1, 8, 0), (12, .iconst 1, 1, 9, 0), (13, .ireturn, 1, 10, 0), (14, .iconst 0, 1, 11, 0), (15, .ireturn, 1, 12, 0)]
set_option maxRecDepth 100000 in
theorem okL_open : OkTab cL_open tL_open := ⟨by decide +kernel, by decide +kernel⟩
abbrev rmL_open : Room := { frames := 8, cells := 1, slots := 6, locals := 136 }
abbrev hhL_open : List (Nat × Nat × Nat × Nat) := [(0, 8, 11, 19)]
theorem cwL_open : Cond.codeWith yL_open cL_open 4 (some .int) hhL_open ∈ lw_good := lw_good_in (n := 1098) (by decide +kernel) rfl
theorem stL_open : Cond.static yL_open ∈ lw_good := lw_good_in (n := 1097) (by decide +kernel) rfl
theorem lmL_79 : LkM RL 79 yX7_open := lw_good_in (n := 1099) (by decide +kernel) rfl
def tL_oldestOpen : List PT := [(0, .aload_n 1, 1, 1, 0), (1, .iconst 0, 1, 2, 0), (2, .aload_n 0, 1, 3, 0), (3, .invokevirtual 83, 3, 4, 0), (6, .i2l, 1, 5, 0), (7, .lastore, 1, 6, 0), (8, .goto 6, 3, 7, 10), (11, .astore_n 2, 1, 8, 0), (12, .iconst 1, 1, 9, 0), (13, .ireturn, 1, 10, 0), (14, .iconst 0, 1, 11, 0), (15, .ireturn, 1, 12, 0)]
set_option maxRecDepth 100000 in
theorem okL_oldestOpen : OkTab cL_oldestOpen tL_oldestOpen := ⟨by decide +kernel, by decide +kernel⟩
abbrev rmL_oldestOpen : Room := { frames := 8, cells := 1, slots := 6, locals := 136 }
abbrev hhL_oldestOpen : List (Nat × Nat × Nat × Nat) := [(0, 8, 11, 86)]
theorem cwL_oldestOpen : Cond.codeWith yL_oldestOpen cL_oldestOpen 3 (some .int) hhL_oldestOpen ∈ lw_good := lw_good_in (n := 1109) (by decide +kernel) rfl
theorem stL_oldestOpen : Cond.static yL_oldestOpen ∈ lw_good := lw_good_in (n := 1108) (by decide +kernel) rfl
theorem cl9_86 : Cond.classLink RL 86 eNSE ∈ lw_good := lw_good_in (n := 1110) (by decide +kernel) rfl
theorem lmL_83 : LkM RL 83 yX7_oldestOpen := lw_good_in (n := 1111) (by decide +kernel) rfl
def tL_room : List PT := [(0, .aload_n 3, 1, 1, 0), (1, .iconst 0, 1, 2, 0), (2, .aload_n 0, 1, 3, 0), (3, .iload_n 1, 1, 4, 0), (4, .iload_n 2, 1, 5, 0), (5, .invokevirtual 88, 3, 6, 0), (8, .i2l, 1, 7, 0), (9, .lastore, 1, 8, 0), (10, .goto 11, 3, 9, 15), (13, .astore 4, 2, 10, 0), (15, .iconst 1, 1, 11, 0), (16, .ireturn, 1, 12, 0), (17, .astore 4, 2, 13, 0), (19, .iconst 2, 1, 14, 0), (20, .ireturn, 1, 15, 0), (21, .iconst 0, 1, 16, 0), (22, .ireturn, 1, 17, 0)]
set_option maxRecDepth 100000 in
theorem okL_room : OkTab cL_room tL_room := ⟨by decide +kernel, by decide +kernel⟩
abbrev rmL_room : Room := { frames := 8, cells := 2, slots := 12, locals := 138 }
abbrev hhL_room : List (Nat × Nat × Nat × Nat) := [(0, 10, 13, 32), (0, 10, 17, 19)]
theorem cwL_room : Cond.codeWith yL_room cL_room 5 (some .int) hhL_room ∈ lw_good := lw_good_in (n := 1140) (by decide +kernel) rfl
theorem stL_room : Cond.static yL_room ∈ lw_good := lw_good_in (n := 1139) (by decide +kernel) rfl
theorem lmL_88 : LkM RL 88 yX7_room := lw_good_in (n := 1141) (by decide +kernel) rfl
def tL_share : List PT := [(0, .aload_n 3, 1, 1, 0), (1, .iconst 0, 1, 2, 0), (2, .aload_n 0, 1, 3, 0), (3, .iload_n 1, 1, 4, 0), (4, .iload_n 2, 1, 5, 0), (5, .invokevirtual 91, 3, 6, 0), (8, .i2l, 1, 7, 0), (9, .lastore, 1, 8, 0), (10, .goto 7, 3, 9, 12), (13, .astore 4, 2, 10, 0), (15, .iconst 1, 1, 11, 0), (16, .ireturn, 1, 12, 0), (17, .iconst 0, 1, 13, 0), (18, .ireturn, 1, 14, 0)]
set_option maxRecDepth 100000 in
theorem okL_share : OkTab cL_share tL_share := ⟨by decide +kernel, by decide +kernel⟩
abbrev rmL_share : Room := { frames := 8, cells := 1, slots := 6, locals := 140 }
abbrev hhL_share : List (Nat × Nat × Nat × Nat) := [(0, 10, 13, 19)]
theorem cwL_share : Cond.codeWith yL_share cL_share 5 (some .int) hhL_share ∈ lw_good := lw_good_in (n := 1147) (by decide +kernel) rfl
theorem stL_share : Cond.static yL_share ∈ lw_good := lw_good_in (n := 1146) (by decide +kernel) rfl
theorem lmL_91 : LkM RL 91 yX7_share := lw_good_in (n := 1148) (by decide +kernel) rfl
def tL_asset : List PT := [(0, .aload_n 3, 1, 1, 0), (1, .iconst 0, 1, 2, 0), (2, .aload_n 0, 1, 3, 0), (3, .iload_n 1, 1, 4, 0), (4, .iload_n 2, 1, 5, 0), (5, .invokevirtual 95, 3, 6, 0), (8, .i2l, 1, 7, 0), (9, .lastore, 1, 8, 0), (10, .goto 11, 3, 9, 15), (13, .astore 4, 2, 10, 0), (15, .iconst 1, 1, 11, 0), (16, .ireturn, 1, 12, 0), (17, .astore 4, 2, 13, 0), (19, .iconst 2, 1, 14, 0), (20, .ireturn, 1, 15, 0), (21, .iconst 0, 1, 16, 0), (22, .ireturn, 1, 17, 0)]
set_option maxRecDepth 100000 in
theorem okL_asset : OkTab cL_asset tL_asset := ⟨by decide +kernel, by decide +kernel⟩
abbrev rmL_asset : Room := { frames := 8, cells := 2, slots := 12, locals := 138 }
abbrev hhL_asset : List (Nat × Nat × Nat × Nat) := [(0, 10, 13, 32), (0, 10, 17, 19)]
theorem cwL_asset : Cond.codeWith yL_asset cL_asset 5 (some .int) hhL_asset ∈ lw_good := lw_good_in (n := 1159) (by decide +kernel) rfl
theorem stL_asset : Cond.static yL_asset ∈ lw_good := lw_good_in (n := 1158) (by decide +kernel) rfl
theorem lmL_95 : LkM RL 95 yX7_asset := lw_good_in (n := 1160) (by decide +kernel) rfl
def tL_written : List PT := [(0, .aload_n 3, 1, 1, 0), (1, .iconst 0, 1, 2, 0), (2, .aload_n 0, 1, 3, 0), (3, .iload_n 1, 1, 4, 0), (4, .iload_n 2, 1, 5, 0), (5, .invokevirtual 98, 3, 6, 0), (8, .i2l, 1, 7, 0), (9, .lastore, 1, 8, 0), (10, .goto 11, 3, 9, 15), (13, .astore 4, 2, 10, 0), (15, .iconst 1, 1, 11, 0), (16, .ireturn, 1, 12, 0), (17, .astore 4, 2, 13, 0), (19, .iconst 2, 1, 14, 0), (20, .ireturn, 1, 15, 0), (21, .iconst 0, 1, 16, 0), (22, .ireturn, 1, 17, 0)]
set_option maxRecDepth 100000 in
theorem okL_written : OkTab cL_written tL_written := ⟨by decide +kernel, by decide +kernel⟩
abbrev rmL_written : Room := { frames := 8, cells := 2, slots := 12, locals := 138 }
abbrev hhL_written : List (Nat × Nat × Nat × Nat) := [(0, 10, 13, 32), (0, 10, 17, 19)]
theorem cwL_written : Cond.codeWith yL_written cL_written 5 (some .int) hhL_written ∈ lw_good := lw_good_in (n := 1166) (by decide +kernel) rfl
theorem stL_written : Cond.static yL_written ∈ lw_good := lw_good_in (n := 1165) (by decide +kernel) rfl
theorem lmL_98 : LkM RL 98 yX7_written := lw_good_in (n := 1167) (by decide +kernel) rfl
def tL_bookValue : List PT := [(0, .aload_n 3, 1, 1, 0), (1, .iconst 0, 1, 2, 0), (2, .aload_n 0, 1, 3, 0), (3, .iload_n 1, 1, 4, 0), (4, .iload_n 2, 1, 5, 0), (5, .invokevirtual 101, 3, 6, 0), (8, .i2l, 1, 7, 0), (9, .lastore, 1, 8, 0), (10, .goto 11, 3, 9, 15), (13, .astore 4, 2, 10, 0), (15, .iconst 1, 1, 11, 0), (16, .ireturn, 1, 12, 0), (17, .astore 4, 2, 13, 0), (19, .iconst 2, 1, 14, 0), (20, .ireturn, 1, 15, 0), (21, .iconst 0, 1, 16, 0), (22, .ireturn, 1, 17, 0)]
set_option maxRecDepth 100000 in
theorem okL_bookValue : OkTab cL_bookValue tL_bookValue := ⟨by decide +kernel, by decide +kernel⟩
abbrev rmL_bookValue : Room := { frames := 8, cells := 2, slots := 12, locals := 138 }
abbrev hhL_bookValue : List (Nat × Nat × Nat × Nat) := [(0, 10, 13, 32), (0, 10, 17, 19)]
theorem cwL_bookValue : Cond.codeWith yL_bookValue cL_bookValue 5 (some .int) hhL_bookValue ∈ lw_good := lw_good_in (n := 1177) (by decide +kernel) rfl
theorem stL_bookValue : Cond.static yL_bookValue ∈ lw_good := lw_good_in (n := 1176) (by decide +kernel) rfl
theorem lmL_101 : LkM RL 101 yX7_bookValue := lw_good_in (n := 1178) (by decide +kernel) rfl
def tL_pool : List PT := [(0, .aload_n 2, 1, 1, 0), (1, .iconst 0, 1, 2, 0), (2, .aload_n 0, 1, 3, 0), (3, .iload_n 1, 1, 4, 0), (4, .invokevirtual 104, 3, 5, 0), (7, .i2l, 1, 6, 0), (8, .lastore, 1, 7, 0), (9, .goto 6, 3, 8, 11), (12, .astore_n 3, 1, 9, 0), (13, .iconst 1, 1, 10, 0), (14, .ireturn, 1, 11, 0), (15, .iconst 0, 1, 12, 0), (16, .ireturn, 1, 13, 0)]
set_option maxRecDepth 100000 in
theorem okL_pool : OkTab cL_pool tL_pool := ⟨by decide +kernel, by decide +kernel⟩
abbrev rmL_pool : Room := { frames := 9, cells := 1, slots := 6, locals := 156 }
abbrev hhL_pool : List (Nat × Nat × Nat × Nat) := [(0, 9, 12, 19)]
theorem cwL_pool : Cond.codeWith yL_pool cL_pool 4 (some .int) hhL_pool ∈ lw_good := lw_good_in (n := 1184) (by decide +kernel) rfl
theorem stL_pool : Cond.static yL_pool ∈ lw_good := lw_good_in (n := 1183) (by decide +kernel) rfl
theorem lmL_104 : LkM RL 104 yX7_pool := lw_good_in (n := 1185) (by decide +kernel) rfl
def tL_poolWritten : List PT := [(0, .aload_n 2, 1, 1, 0), (1, .iconst 0, 1, 2, 0), (2, .aload_n 0, 1, 3, 0), (3, .iload_n 1, 1, 4, 0), (4, .invokevirtual 107, 3, 5, 0), (7, .i2l, 1, 6, 0), (8, .lastore, 1, 7, 0), (9, .goto 6, 3, 8, 11), (12, .astore_n 3, 1, 9, 0), (13, .iconst 1, 1, 10, 0), (14, .ireturn, 1, 11, 0), (15, .iconst 0, 1, 12, 0), (16, .ireturn, 1, 13, 0)]
set_option maxRecDepth 100000 in
theorem okL_poolWritten : OkTab cL_poolWritten tL_poolWritten := ⟨by decide +kernel, by decide +kernel⟩
abbrev rmL_poolWritten : Room := { frames := 9, cells := 1, slots := 6, locals := 156 }
abbrev hhL_poolWritten : List (Nat × Nat × Nat × Nat) := [(0, 9, 12, 19)]
theorem cwL_poolWritten : Cond.codeWith yL_poolWritten cL_poolWritten 4 (some .int) hhL_poolWritten ∈ lw_good := lw_good_in (n := 1195) (by decide +kernel) rfl
theorem stL_poolWritten : Cond.static yL_poolWritten ∈ lw_good := lw_good_in (n := 1194) (by decide +kernel) rfl
theorem lmL_107 : LkM RL 107 yX7_poolWritten := lw_good_in (n := 1196) (by decide +kernel) rfl
def tL_profit : List PT := [(0, .aload_n 2, 1, 1, 0), (1, .iconst 0, 1, 2, 0), (2, .aload_n 0, 1, 3, 0), (3, .iload_n 1, 1, 4, 0), (4, .invokevirtual 110, 3, 5, 0), (7, .lastore, 1, 6, 0), (8, .goto 6, 3, 7, 10), (11, .astore_n 3, 1, 8, 0), (12, .iconst 1, 1, 9, 0), (13, .ireturn, 1, 10, 0), (14, .iconst 0, 1, 11, 0), (15, .ireturn, 1, 12, 0)]
set_option maxRecDepth 100000 in
theorem okL_profit : OkTab cL_profit tL_profit := ⟨by decide +kernel, by decide +kernel⟩
abbrev rmL_profit : Room := { frames := 9, cells := 1, slots := 6, locals := 156 }
abbrev hhL_profit : List (Nat × Nat × Nat × Nat) := [(0, 8, 11, 19)]
theorem cwL_profit : Cond.codeWith yL_profit cL_profit 4 (some .int) hhL_profit ∈ lw_good := lw_good_in (n := 1206) (by decide +kernel) rfl
theorem stL_profit : Cond.static yL_profit ∈ lw_good := lw_good_in (n := 1205) (by decide +kernel) rfl
theorem lmL_110 : LkM RL 110 yX7_profit := lw_good_in (n := 1207) (by decide +kernel) rfl
def tL_profitTo : List PT := [(0, .aload_n 2, 1, 1, 0), (1, .iconst 0, 1, 2, 0), (2, .aload_n 0, 1, 3, 0), (3, .iload_n 1, 1, 4, 0), (4, .invokevirtual 113, 3, 5, 0), (7, .lastore, 1, 6, 0), (8, .goto 6, 3, 7, 10), (11, .astore_n 3, 1, 8, 0), (12, .iconst 1, 1, 9, 0), (13, .ireturn, 1, 10, 0), (14, .iconst 0, 1, 11, 0), (15, .ireturn, 1, 12, 0)]
set_option maxRecDepth 100000 in
theorem okL_profitTo : OkTab cL_profitTo tL_profitTo := ⟨by decide +kernel, by decide +kernel⟩
abbrev rmL_profitTo : Room := { frames := 9, cells := 1, slots := 6, locals := 156 }
abbrev hhL_profitTo : List (Nat × Nat × Nat × Nat) := [(0, 8, 11, 19)]
theorem cwL_profitTo : Cond.codeWith yL_profitTo cL_profitTo 4 (some .int) hhL_profitTo ∈ lw_good := lw_good_in (n := 1213) (by decide +kernel) rfl
theorem stL_profitTo : Cond.static yL_profitTo ∈ lw_good := lw_good_in (n := 1212) (by decide +kernel) rfl
theorem lmL_113 : LkM RL 113 yX7_profitTo := lw_good_in (n := 1214) (by decide +kernel) rfl
def tL_prepayment : List PT := [(0, .aload_n 2, 1, 1, 0), (1, .iconst 0, 1, 2, 0), (2, .aload_n 0, 1, 3, 0), (3, .iload_n 1, 1, 4, 0), (4, .invokevirtual 116, 3, 5, 0), (7, .i2l, 1, 6, 0), (8, .lastore, 1, 7, 0), (9, .goto 9, 3, 8, 14), (12, .astore_n 3, 1, 9, 0), (13, .iconst 1, 1, 10, 0), (14, .ireturn, 1, 11, 0), (15, .astore_n 3, 1, 12, 0), (16, .iconst 2, 1, 13, 0), (17, .ireturn, 1, 14, 0), (18, .iconst 0, 1, 15, 0), (19, .ireturn, 1, 16, 0)]
set_option maxRecDepth 100000 in
theorem okL_prepayment : OkTab cL_prepayment tL_prepayment := ⟨by decide +kernel, by decide +kernel⟩
abbrev rmL_prepayment : Room := { frames := 9, cells := 2, slots := 12, locals := 156 }
abbrev hhL_prepayment : List (Nat × Nat × Nat × Nat) := [(0, 9, 12, 19), (0, 9, 15, 86)]
theorem cwL_prepayment : Cond.codeWith yL_prepayment cL_prepayment 4 (some .int) hhL_prepayment ∈ lw_good := lw_good_in (n := 1220) (by decide +kernel) rfl
theorem stL_prepayment : Cond.static yL_prepayment ∈ lw_good := lw_good_in (n := 1219) (by decide +kernel) rfl
theorem lmL_116 : LkM RL 116 yX7_prepayment := lw_good_in (n := 1221) (by decide +kernel) rfl
def tL_recomputed : List PT := [(0, .aload_n 2, 1, 1, 0), (1, .iconst 0, 1, 2, 0), (2, .aload_n 0, 1, 3, 0), (3, .iload_n 1, 1, 4, 0), (4, .invokevirtual 119, 3, 5, 0), (7, .i2l, 1, 6, 0), (8, .lastore, 1, 7, 0), (9, .goto 6, 3, 8, 11), (12, .astore_n 3, 1, 9, 0), (13, .iconst 1, 1, 10, 0), (14, .ireturn, 1, 11, 0), (15, .iconst 0, 1, 12, 0), (16, .ireturn, 1, 13, 0)]
set_option maxRecDepth 100000 in
theorem okL_recomputed : OkTab cL_recomputed tL_recomputed := ⟨by decide +kernel, by decide +kernel⟩
abbrev rmL_recomputed : Room := { frames := 9, cells := 1, slots := 6, locals := 167 }
abbrev hhL_recomputed : List (Nat × Nat × Nat × Nat) := [(0, 9, 12, 19)]
theorem cwL_recomputed : Cond.codeWith yL_recomputed cL_recomputed 4 (some .int) hhL_recomputed ∈ lw_good := lw_good_in (n := 1227) (by decide +kernel) rfl
theorem stL_recomputed : Cond.static yL_recomputed ∈ lw_good := lw_good_in (n := 1226) (by decide +kernel) rfl
theorem lmL_119 : LkM RL 119 yX7_recomputed := lw_good_in (n := 1228) (by decide +kernel) rfl
def tL_correction : List PT := [(0, .aload_n 2, 1, 1, 0), (1, .iconst 0, 1, 2, 0), (2, .aload_n 0, 1, 3, 0), (3, .iload_n 1, 1, 4, 0), (4, .invokevirtual 122, 3, 5, 0), (7, .i2l, 1, 6, 0), (8, .lastore, 1, 7, 0), (9, .goto 9, 3, 8, 14), (12, .astore_n 3, 1, 9, 0), (13, .iconst 1, 1, 10, 0), (14, .ireturn, 1, 11, 0), (15, .astore_n 3, 1, 12, 0), (16, .iconst 2, 1, 13, 0), (17, .ireturn, 1, 14, 0), (18, .iconst 0, 1, 15, 0), (19, .ireturn, 1, 16, 0)]
set_option maxRecDepth 100000 in
theorem okL_correction : OkTab cL_correction tL_correction := ⟨by decide +kernel, by decide +kernel⟩
abbrev rmL_correction : Room := { frames := 9, cells := 2, slots := 12, locals := 167 }
abbrev hhL_correction : List (Nat × Nat × Nat × Nat) := [(0, 9, 12, 19), (0, 9, 15, 86)]
theorem cwL_correction : Cond.codeWith yL_correction cL_correction 4 (some .int) hhL_correction ∈ lw_good := lw_good_in (n := 1234) (by decide +kernel) rfl
theorem stL_correction : Cond.static yL_correction ∈ lw_good := lw_good_in (n := 1233) (by decide +kernel) rfl
theorem lmL_122 : LkM RL 122 yX7_correction := lw_good_in (n := 1235) (by decide +kernel) rfl
def tL_settlement : List PT := [(0, .aload_n 1, 1, 1, 0), (1, .iconst 0, 1, 2, 0), (2, .aload_n 0, 1, 3, 0), (3, .invokevirtual 125, 3, 4, 0), (6, .lastore, 1, 5, 0), (7, .goto 6, 3, 6, 9), (10, .astore_n 2, 1, 7, 0), (11, .iconst 1, 1, 8, 0), (12, .ireturn, 1, 9, 0), (13, .iconst 0, 1, 10, 0), (14, .ireturn, 1, 11, 0)]
set_option maxRecDepth 100000 in
theorem okL_settlement : OkTab cL_settlement tL_settlement := ⟨by decide +kernel, by decide +kernel⟩
abbrev rmL_settlement : Room := { frames := 8, cells := 1, slots := 6, locals := 160 }
abbrev hhL_settlement : List (Nat × Nat × Nat × Nat) := [(0, 7, 10, 13)]
theorem cwL_settlement : Cond.codeWith yL_settlement cL_settlement 3 (some .int) hhL_settlement ∈ lw_good := lw_good_in (n := 1241) (by decide +kernel) rfl
theorem stL_settlement : Cond.static yL_settlement ∈ lw_good := lw_good_in (n := 1240) (by decide +kernel) rfl
theorem lmL_125 : LkM RL 125 yX7_settlement := lw_good_in (n := 1242) (by decide +kernel) rfl
def tL_effectiveRate : List PT := [(0, .aload_n 1, 1, 1, 0), (1, .iconst 0, 1, 2, 0), (2, .aload_n 0, 1, 3, 0), (3, .invokevirtual 129, 3, 4, 0), (6, .dastore, 1, 5, 0), (7, .goto 6, 3, 6, 9), (10, .astore_n 2, 1, 7, 0), (11, .iconst 1, 1, 8, 0), (12, .ireturn, 1, 9, 0), (13, .iconst 0, 1, 10, 0), (14, .ireturn, 1, 11, 0)]
set_option maxRecDepth 100000 in
theorem okL_effectiveRate : OkTab cL_effectiveRate tL_effectiveRate := ⟨by decide +kernel, by decide +kernel⟩
abbrev rmL_effectiveRate : Room := { frames := 8, cells := 1, slots := 6, locals := 162 }
abbrev hhL_effectiveRate : List (Nat × Nat × Nat × Nat) := [(0, 7, 10, 86)]
theorem cwL_effectiveRate : Cond.codeWith yL_effectiveRate cL_effectiveRate 3 (some .int) hhL_effectiveRate ∈ lw_good := lw_good_in (n := 1248) (by decide +kernel) rfl
theorem stL_effectiveRate : Cond.static yL_effectiveRate ∈ lw_good := lw_good_in (n := 1247) (by decide +kernel) rfl
theorem lmL_129 : LkM RL 129 yX7_effectiveRate := lw_good_in (n := 1249) (by decide +kernel) rfl
def tL_whatIf : List PT := [(0, .aload 4, 2, 1, 0), (2, .iconst 0, 1, 2, 0), (3, .aload_n 0, 1, 3, 0), (4, .iload_n 1, 1, 4, 0), (5, .iload_n 2, 1, 5, 0), (6, .iload_n 3, 1, 6, 0), (7, .invokevirtual 133, 3, 7, 0), (10, .lastore, 1, 8, 0), (11, .goto 7, 3, 9, 12), (14, .astore 5, 2, 10, 0), (16, .iconst 1, 1, 11, 0), (17, .ireturn, 1, 12, 0), (18, .iconst 0, 1, 13, 0), (19, .ireturn, 1, 14, 0)]
set_option maxRecDepth 100000 in
theorem okL_whatIf : OkTab cL_whatIf tL_whatIf := ⟨by decide +kernel, by decide +kernel⟩
abbrev rmL_whatIf : Room := { frames := 8, cells := 1, slots := 6, locals := 165 }
abbrev hhL_whatIf : List (Nat × Nat × Nat × Nat) := [(0, 11, 14, 19)]
theorem cwL_whatIf : Cond.codeWith yL_whatIf cL_whatIf 6 (some .int) hhL_whatIf ∈ lw_good := lw_good_in (n := 1256) (by decide +kernel) rfl
theorem stL_whatIf : Cond.static yL_whatIf ∈ lw_good := lw_good_in (n := 1255) (by decide +kernel) rfl
theorem lmL_133 : LkM RL 133 yX7_whatIf := lw_good_in (n := 1257) (by decide +kernel) rfl
def tL_neededIncome : List PT := [(0, .aload_n 2, 1, 1, 0), (1, .iconst 0, 1, 2, 0), (2, .aload_n 0, 1, 3, 0), (3, .iload_n 1, 1, 4, 0), (4, .invokevirtual 136, 3, 5, 0), (7, .i2l, 1, 6, 0), (8, .lastore, 1, 7, 0), (9, .goto 9, 3, 8, 14), (12, .astore_n 3, 1, 9, 0), (13, .iconst 1, 1, 10, 0), (14, .ireturn, 1, 11, 0), (15, .astore_n 3, 1, 12, 0), (16, .iconst 2, 1, 13, 0), (17, .ireturn, 1, 14, 0), (18, .iconst 0, 1, 15, 0), (19, .ireturn, 1, 16, 0)]
set_option maxRecDepth 100000 in
theorem okL_neededIncome : OkTab cL_neededIncome tL_neededIncome := ⟨by decide +kernel, by decide +kernel⟩
abbrev rmL_neededIncome : Room := { frames := 8, cells := 2, slots := 12, locals := 167 }
abbrev hhL_neededIncome : List (Nat × Nat × Nat × Nat) := [(0, 9, 12, 19), (0, 9, 15, 86)]
theorem cwL_neededIncome : Cond.codeWith yL_neededIncome cL_neededIncome 4 (some .int) hhL_neededIncome ∈ lw_good := lw_good_in (n := 1268) (by decide +kernel) rfl
theorem stL_neededIncome : Cond.static yL_neededIncome ∈ lw_good := lw_good_in (n := 1267) (by decide +kernel) rfl
theorem lmL_136 : LkM RL 136 yX7_neededIncome := lw_good_in (n := 1269) (by decide +kernel) rfl
def tL_balance : List PT := [(0, .aload_n 2, 1, 1, 0), (1, .iconst 0, 1, 2, 0), (2, .aload_n 0, 1, 3, 0), (3, .iload_n 1, 1, 4, 0), (4, .invokevirtual 139, 3, 5, 0), (7, .lastore, 1, 6, 0), (8, .goto 6, 3, 7, 10), (11, .astore_n 3, 1, 8, 0), (12, .iconst 1, 1, 9, 0), (13, .ireturn, 1, 10, 0), (14, .iconst 0, 1, 11, 0), (15, .ireturn, 1, 12, 0)]
set_option maxRecDepth 100000 in
theorem okL_balance : OkTab cL_balance tL_balance := ⟨by decide +kernel, by decide +kernel⟩
abbrev rmL_balance : Room := { frames := 8, cells := 1, slots := 6, locals := 136 }
abbrev hhL_balance : List (Nat × Nat × Nat × Nat) := [(0, 8, 11, 19)]
theorem cwL_balance : Cond.codeWith yL_balance cL_balance 4 (some .int) hhL_balance ∈ lw_good := lw_good_in (n := 1280) (by decide +kernel) rfl
theorem stL_balance : Cond.static yL_balance ∈ lw_good := lw_good_in (n := 1279) (by decide +kernel) rfl
theorem lmL_139 : LkM RL 139 yX7_balance := lw_good_in (n := 1281) (by decide +kernel) rfl
theorem ins_eIAE : Cond.instantiable eIAE 6 ∈ lw_good := lw_good_in (n := 858) (by decide +kernel) rfl
theorem ins_eISE : Cond.instantiable eISE 6 ∈ lw_good := lw_good_in (n := 774) (by decide +kernel) rfl
theorem ins_eIOB : Cond.instantiable eIOB 6 ∈ lw_good := lw_good_in (n := 921) (by decide +kernel) rfl
theorem ins_eNSE : Cond.instantiable eNSE 6 ∈ lw_good := lw_good_in (n := 1123) (by decide +kernel) rfl
