/-! 57: rules for the law: its script, its helpers, its tables -/
/-! THE CLAIM OUT OF ONE WALK OF THE LAW'S BODY. Your part is whole_start (and what it stands on); all else here is the same for every law, but numbers. -/
def R_law : String := "CashLedgerLaw"
def lw_P (b : Addr) (xs : List Int32) (args : Array Value) (s : State) : Prop := args = #[.ref b] ∧ s.IntsAt b xs ∧ xs.length ≤ 3072 ∧ (Jvm.Cond.and given_1 narrow_1).before args s = true
/-- what a walk over the start with the record d0 says of its end, said of the start itself -/
theorem lw_closed {s t : State} {o : Outcome} {d0 : Drawn} {L : List Loc} {k n : Nat} (hd0 : s.drawn.sameBut d0 lw_cs) (hv : ∃ v, o = .returned v) (hW : (s.setDrawn d0).WarmedH t.vm) (hs : (s.setDrawn d0).sameButNew ({ t with vm := s.vm } : State) L k n) : State.butDraws s t lw_cs (fun t1 => Framed s o t1 L k n) := by
  have h2 : t.drawn = d0 := congrArg State.drawn hs.1
  refine ⟨⟨hv, hW, State.sameButNew.setDrawn hs s.drawn⟩, ?_, by decide⟩
  rw [h2]
  exact hd0
def lw_Q (_ : Array Value) (s : State) (o : Outcome) (t : State) : Prop := o = .returned (some (.int 1)) ∧ State.butDraws s t lw_cs (fun t1 => Framed s o t1 [] 601024 7293034)
def lw_Z (below : List Frame) (a : Array Value) (s : State) : State → Prop := fun t => ∃ o, t.status = .running ∧ Ended t below o ∧ lw_Q a s o t
/-- the law's own end, with 1 on the stack, nothing written that was there before, its room as the claim has it; d0: the record of draws at this point (at the entry s.drawn: begin with 'refine W.base ?_' and 'have hd0 := Drawn.sameBut.refl s.drawn lw_cs') -/
theorem lw_ret {p : Program} {l : Launch} {e : Env} {s : State} {m : MethodId} {below : List Frame} {meth : Method} {c : Code} {b : Nat} {d0 : Drawn} (hd0 : s.drawn.sameBut d0 lw_cs) (hx : p.tables.exec = Jvm.exec) (hb : c.code = code) (hr : meth.sig.returnType = ret) (hlocks : meth.locks = false) {pc : Nat} {H : Heap} {ls : Array Slot} (hdg : decode code pc = .ok (.ireturn, 1)) : W p l e room_1 (s.setDrawn d0) m #[Value.ref b] below meth c H [] 601024 7293034 (lw_Z below #[Value.ref b] s) (F0 m pc ls [.int 1]) := by
  intro T hT X
  obtain ⟨fs, hret, hrun, hended, hW, hframe⟩ := X.leave (v := some (.int 1)) (hlocks := hlocks) (fun h => by rw [hr] at h; cases h)
  have hmeth' : T.vm.method? m = some meth := X.method'
  refine ⟨T.setFrames fs, ?_, .returned (some (.int 1)), hrun, hended, rfl, lw_closed hd0 ⟨_, rfl⟩ hW hframe⟩
  jvm_step X.here [X.here.top, hx, hb, hdg, hmeth', hr, ret, narrow_b1]
  (try refine ⟨rfl, ?_⟩); (try refine ⟨rfl, ?_⟩)
  first | (intro acts; rw [hret _ acts rfl rfl rfl]) | rw [hret _ _ rfl rfl rfl]
  exact Steps.refl _
/-- what holds at the law's entry: the machine, the code, the tables' words (any of lw_tbl by 'hts w (by decide +kernel)'), the script of L ints xs at the cell b, what the Statement gives of the start (any of its parts by flat_of_before) -/
def lw_At (p : Program) (s : State) (m : MethodId) (meth : Method) (c : Code) (b L : Nat) (xs : Nat → Int32) : Prop :=
  p.tables.exec = Jvm.exec ∧ c.code = code ∧ meth.sig.returnType = ret ∧ c.maxLocals = 9 ∧ s.vm.findClass R_law = some m.cls ∧ (∀ w ∈ lw_tbl, w.before #[Value.ref b] s = true) ∧ va_X b L xs s s.heap ∧ b < s.heap.size ∧ meth.locks = false ∧ (Jvm.Cond.and given_1 narrow_1).before #[Value.ref b] s = true
section CORE57
variable {p : Program} {l : Launch} {e : Env} {R : Room} {s : State} {m : MethodId} {args : Array Value} {below : List Frame} {meth : Method} {c : Code}
variable {D : va_G} {cy : Nat → ClassId} {B : Nat} {od : Nat → Option Nat} {cc : ByteArray} {nL : Nat} {tab : List PT} {own : String} {ret : Option FieldType}
variable {F : State → Prop} {cells slots : Nat} {A : AH} {z i pc len nx tg : Nat} {lv : List (Option Value)} {st : List Value}
theorem g_z0 (kk : G p l e R s m args below meth c D B od nL tab F cells slots A 0 i lv st) : G p l e R s m args below meth c D B od nL tab F cells slots A z i lv st :=
  fun q hq H locs ls hR hS hl => kk q hq H locs ls (hR.weak (fun _ _ h => h) (Or.inr rfl)) hS hl
theorem g_wid {k n : Nat} (h1 : cells ≤ k) (h2 : slots ≤ n) (kk : G p l e R s m args below meth c D B od nL tab F k n A z i lv st) : G p l e R s m args below meth c D B od nL tab F cells slots A z i lv st :=
  fun q hq H locs ls hR hS hl => W.widen h1 h2 (kk q hq H locs ls hR hS hl)
/-- on in another table of the same code -/
theorem g_tab {tb2 : List PT} {j : Nat} {q1 q2 : PT} (h1 : tab[i]? = some q1) (h2 : tb2[j]? = some q2) (he : q2.1 = q1.1) (kk : G p l e R s m args below meth c D B od nL tb2 F cells slots A z j lv st) : G p l e R s m args below meth c D B od nL tab F cells slots A z i lv st := by
  intro q hq H locs ls hR hS hl
  cases Option.some.inj (h1.symm.trans hq)
  have K := kk q2 h2 H locs ls hR hS hl
  rw [he] at K
  exact K
theorem Cx.tb (X : Cx p s m args meth c D cy B od cc nL tab own ret) {tb2 : List PT} (h : OkTab cc tb2) : Cx p s m args meth c D cy B od cc nL tb2 own ret := ⟨X.1, X.2.1, X.2.2.1, h, X.2.2.2.2⟩
/-- the script -/
def SCR (B : Nat) (od : Nat → Option Nat) (L : Nat) (xs : Nat → Int32) (s : State) : Prop := ∃ b : Nat, od 4000000 = some b ∧ va_X b L xs s s.heap ∧ b < s.heap.size ∧ ¬ B ≤ b
theorem rho_some {k b : Nat} (h : od k = some b) : rho B od k = b := by unfold rho; rw [h]
theorem g_slen (X : Cx p s m args meth c D cy B od cc nL tab own ret) {L : Nat} {xs : Nat → Int32} (hs : SCR B od L xs s) (hi : tab[i]? = some (pc, .arraylength, 1, nx, tg)) (kk : G p l e R s m args below meth c D B od nL tab F cells slots A z nx lv (.int (nI L) :: st)) : G p l e R s m args below meth c D B od nL tab F cells slots A z i lv (.ref 4000000 :: st) := by
  intro q hq H locs ls hR hS hl
  cases Option.some.inj (hi.symm.trans hq)
  obtain ⟨q2, hq2, e2⟩ := X.2.2.2.1.fall hi rfl
  obtain ⟨b, h1, h2, h3, h4⟩ := hs
  have hd : decode cc pc = .ok (.arraylength, 1) := X.2.2.2.1.dec hi
  have K := kk q2 hq2 H locs ls hR hS hl
  rw [e2] at K
  rw [List.map_cons, show trV B od (.ref 4000000) = .ref b from congrArg Value.ref (rho_some h1)]
  exact va_slen X.1.1 X.1.2.1 h2 h3 h4 hS hd K
theorem g_sld (X : Cx p s m args meth c D cy B od cc nL tab own ret) {L : Nat} {xs : Nat → Int32} (hs : SCR B od L xs s) (hi : tab[i]? = some (pc, .iaload, 1, nx, tg)) {j : Nat} (hj : j < L) (hL : L < 2 ^ 31) (kk : G p l e R s m args below meth c D B od nL tab F cells slots A z nx lv (.int (xs j) :: st)) : G p l e R s m args below meth c D B od nL tab F cells slots A z i lv (.int (nI j) :: .ref 4000000 :: st) := by
  intro q hq H locs ls hR hS hl
  cases Option.some.inj (hi.symm.trans hq)
  obtain ⟨q2, hq2, e2⟩ := X.2.2.2.1.fall hi rfl
  obtain ⟨b, h1, h2, h3, h4⟩ := hs
  have hd : decode cc pc = .ok (.iaload, 1) := X.2.2.2.1.dec hi
  have K := kk q2 hq2 H locs ls hR hS hl
  rw [e2] at K
  rw [List.map_cons, List.map_cons, show trV B od (.ref 4000000) = .ref b from congrArg Value.ref (rho_some h1)]
  refine va_sld X.1.1 X.1.2.1 h2 h3 h4 hS (vp_in_nI hj hL) hd ?_
  rw [nI_clamp (by omega)]
  exact K
/-- words of a method with handlers that is called -/
def LkW (y : MethodName) (bytes : ByteArray) (maxL : Nat) (rt : Option FieldType) (hh : List (Nat × Nat × Nat × Nat)) (n : Nat) : Prop := Cond.codeWith y bytes maxL rt hh ∈ lw_good ∧ Cond.initialized y.cls ∈ lw_good ∧ (y.cls ≠ "java/lang/invoke/MethodHandle" ∧ y.cls ≠ "java/lang/invoke/VarHandle") ∧ (parseMethodDescriptor y.desc).map (fun d => d.parameters.length) = some n
theorem g_hp (X : Cx p s m args meth c D cy B od cc nL tab own ret) {y : MethodName} {bytes : ByteArray} {maxL n ix : Nat} {rt : Option FieldType} {hh : List (Nat × Nat × Nat × Nat)} {rm : Room} {As rest : List Value} {Q' : QT} (hi : tab[i]? = some (pc, .invokestatic ix, 3, nx, tg)) (hL : LkW y bytes maxL rt hh n) (hM : LkM own ix y) (hSt : Cond.static y ∈ lw_good) (hC : CTW l D cy B od y bytes maxL rt hh rm As A z Q') (hst : st = As.reverse ++ rest) (hn : As.length = n) (hw : (rest.map fun v => v.category).sum ≤ 8) (hRm : rm.frames + 1 ≤ R.frames ∧ 8 + (maxL + 11) + rm.locals ≤ R.locals) (hf : cells + rm.cells ≤ R.cells ∧ slots + rm.slots ≤ R.slots)
    (kk : ∀ (v : Option Value) (A' : AH) (z' : Nat), Q' v A' z' → G p l e R s m args below meth c D B od nL tab F (cells + rm.cells) (slots + rm.slots) A' z' nx lv (v.toList ++ rest)) : G p l e R s m args below meth c D B od nL tab F cells slots A z i lv st := by
  intro q hq H locs ls hR hS hl
  cases Option.some.inj (hi.symm.trans hq)
  obtain ⟨q2, hq2, e2⟩ := X.2.2.2.1.fall hi rfl
  subst hst
  rw [List.map_append, List.map_reverse]
  refine run_go (vx_runSW (As := As.map (trV B od)) (rest := rest.map (trV B od)) (hh := hh) (bytes := bytes) (maxL := maxL) (ret := rt) X.1 hC ⟨⟨rfl, rfl, hRm.1, hRm.2, pay_in X.1.2.2.2.2 (lw_good_ok hL.1), List.mem_cons_self⟩, X.1.2.2.2.2 _ hL.1, X.1.2.2.2.2 _ hL.2.1, hL.2.2.1, lk_len hL.2.2.2, X.1.2.2.2.2 _ hM, X.1.2.2.2.2 _ hSt⟩ ⟨PcA.blind, fun U hU hW => ⟨rfl, X.world hR hS U hU hW⟩⟩ rfl ((List.length_map _).trans hn) hl.1 rfl (lv_room (st_cat hw)) (X.2.2.2.1.dec hi) hf) hS (fun v A' z' H1 locs1 hq hR1 hS1 => ?_)
  have K := kk v A' z' hq q2 hq2 H1 locs1 ls hR1 hS1 hl
  rw [e2, ← st_ret] at K
  exact K
/-- the law's own end -/
theorem g_lawend (X : Cx p s m args meth c D cy B od cc nL tab own ret) {b : Nat} (ha : args = #[Value.ref b]) (hb : cc = code) (hr : ret = some .boolean) (hR : R = room_1) (hB : s.heap.size ≤ B) (hi : tab[i]? = some (pc, .ireturn, 1, nx, tg)) (hc : cells ≤ 601024) (hs : slots ≤ 7293034) : G p l e R s m args below meth c D B od nL tab (lw_Z below args s) cells slots A z i lv [.int (nI 1)] := by
  intro q hq H locs ls hR2 hS hl
  cases Option.some.inj (hi.symm.trans hq)
  subst ha
  subst hR
  have h0 := W.forget (L := locs) (fun q hq => Nat.le_trans hB (hS.2.2 q hq)) (W.widen hc hs (W.base (lw_ret (p := p) (l := l) (e := e) (m := m) (below := below) (meth := meth) (c := c) (b := b) (H := H) (ls := ls) (pc := pc) (Drawn.sameBut.refl s.drawn lw_cs) X.1.1 (X.1.2.1.trans hb) (X.2.2.2.2.1.trans hr) X.2.2.2.2.2.1 (hb ▸ X.2.2.2.1.dec hi))))
  rw [List.nil_append] at h0
  exact h0
end CORE57
