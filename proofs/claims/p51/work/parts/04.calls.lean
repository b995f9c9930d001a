/-! 04: new objects, calls, ends, a method's contract out of its body -/
section CORE4
variable {p : Program} {l : Launch} {e : Env} {R : Room} {s : State} {m : MethodId} {args : Array Value} {below : List Frame} {meth : Method} {c : Code}
variable {D : va_G} {cy : Nat → ClassId} {B : Nat} {od : Nat → Option Nat} {cc : ByteArray} {nL : Nat} {tab : List PT} {own : String} {ret : Option FieldType}
variable {F : State → Prop} {cells slots : Nat} {A : AH} {z i pc len nx tg : Nat} {lv : List (Option Value)} {st : List Value}
theorem Cx.od0 (X : Cx p s m args meth c D cy B od cc nL tab own ret) {k : Nat} (h : k < 1000000) : od k = none := X.2.2.2.2.2.2.2.2.2.2.1 k h
theorem va_Spush {H H1 : Heap} {locs : List Loc} (hS : va_S (fun q => B ≤ q) s.heap H locs) (z1 : H1.size = H.size + 1) (o1 : ∀ q : Nat, q < H.size → H1[q]? = H[q]?) : va_S (fun q => B ≤ q) s.heap H1 locs := ⟨Nat.le_trans hS.1 (by omega), fun x h1 h2 => (o1 x (Nat.lt_of_lt_of_le h1 hS.1)).trans (hS.2.1 x h1 h2), hS.2.2⟩
/-- new C -/
def NWk (own : String) (ix : Nat) (C : String) (T : u_T) (N : Nat) (ty0 : Nat → FieldType) : Prop := (∀ w ∈ u_ws C T N, w ∈ lw_good) ∧ (∀ k, k < N → parseFieldDescriptor (T k).2.2.1 = some (ty0 k)) ∧ Cond.classLink own ix C ∈ lw_good ∧ Cond.instantiable C N ∈ lw_good ∧ Cond.initialized C ∈ lw_good
theorem g_new (X : Cx p s m args meth c D cy B od cc nL tab own ret) {ix : Nat} (hi : tab[i]? = some (pc, .new ix, 3, nx, tg)) {C : String} {T : u_T} {N : Nat} {ty0 : Nat → FieldType} (hf : NWk own ix C T N ty0) {ci : Nat} (hc : vwCl[ci]? = some (C, T, N)) {fs : List Value} (hfs : (List.range N).map (fun j => defaultValue (ty0 j)) = fs) (hnr : fs.map (trV B od) = fs) (hz : z < 1000000) (hcells : cells + 1 ≤ R.cells) (hslots : slots + N ≤ R.slots)
    (kk : G p l e R s m args below meth c D B od nL tab F (cells + 1) (slots + N) (upA A z (.inr (ci, fs))) (z + 2) nx lv (.ref z :: st)) : G p l e R s m args below meth c D B od nL tab F cells slots A (z + 1) i lv st := by
  intro q hq H locs ls hR hS hl
  cases Option.some.inj (hi.symm.trans hq)
  obtain ⟨q2, hq2, e2⟩ := X.2.2.2.1.fall hi rfl
  obtain ⟨hin, hty, h1, h2, h3⟩ := hf
  have hKn := X.2.1.1 ci _ hc
  refine W.newcK X.1.1 X.1.2.1 X.1.2.2.2.1 (X.1.2.2.2.2 _ h1) (X.1.2.2.2.2 _ h2) (X.1.2.2.2.2 _ h3) rfl (X.2.2.2.1.dec hi) hcells hslots hKn.2.1 rfl fun H1 kC hkC e1 z1 o1 => ?_
  have hat : va_at D vwCl (H.size, trE B od (.inr (ci, fs))) H1 := by
    show va_at D vwCl (H.size, .inr (ci, fs.map (trV B od))) H1
    rw [hnr]
    refine ⟨_, hc, (u_born ty0 X.1.2.2.2.2 hin hKn hkC e1 hty).to (fun j hj => ?_)⟩
    unfold vp_V
    rw [← hfs, List.getD_eq_getElem?_getD, List.getElem?_map, List.getElem?_range hj]
    rfl
  obtain ⟨hR2, hr⟩ := hR.push (X.od0 hz) hat z1 o1
  have K := kk q2 hq2 H1 locs ls hR2 (va_Spush hS z1 o1) hl
  rw [e2] at K
  rw [hr]
  exact K
theorem tysc_cls {t0 : Nat} {ty : FieldType} (hK : va_K D vwCl (tysc cy) s) (ht : (tysc cy)[t0]? = some (cy t0, ty)) : va_RA s (cy t0) ty := (hK.2 t0 _ ht).2
theorem g_newai (X : Cx p s m args meth c D cy B od cc nL tab own ret) (hi : tab[i]? = some (pc, .newarray .int, 2, nx, tg)) (hw : Cond.arrayClass .int ∈ lw_good) {x : Int32} {N : Nat} (hx : ¬ x < 0) (hN : x.toNatClampNeg = N) (hbytes : N * 4 ≤ 536870912) (hz : z < 1000000) (hcells : cells + 1 ≤ R.cells) (hslots : slots + N ≤ R.slots)
    (kk : G p l e R s m args below meth c D B od nL tab F (cells + 1) (slots + N) (upA A z (.inl (cy 0, N, .inl (fun _ => 0)))) (z + 2) nx lv (.ref z :: st)) : G p l e R s m args below meth c D B od nL tab F cells slots A (z + 1) i lv (.int x :: st) := by
  intro q hq H locs ls hR hS hl
  cases Option.some.inj (hi.symm.trans hq)
  obtain ⟨q2, hq2, e2⟩ := X.2.2.2.1.fall hi rfl
  refine va_newaK (atype := .int) X.1.1 X.1.2.1 (X.1.2.2.2.2 _ hw) rfl (X.2.2.2.1.dec hi) rfl hx hN hbytes hcells hslots rfl fun H1 cA e1 z1 o1 hAr hNm => ?_
  have hcA : cA = cy 0 := Option.some.inj (hNm.symm.trans (tysc_cls (t0 := 0) (ty := .int) X.2.1 rfl))
  have hat : va_at D vwCl (H.size, trE B od (.inl (cy 0, N, .inl (fun _ => 0)))) H1 := by
    show H1[H.size]? = some (vp_cell (cy 0) (N, .inl (fun _ => 0)))
    rw [← hcA]; exact e1
  obtain ⟨hR2, hr⟩ := hR.push (X.od0 hz) hat z1 o1
  have K := kk q2 hq2 H1 locs ls hR2 (va_Spush hS z1 o1) hl
  rw [e2] at K
  rw [hr]
  exact K
theorem g_newaz (X : Cx p s m args meth c D cy B od cc nL tab own ret) (hi : tab[i]? = some (pc, .newarray .boolean, 2, nx, tg)) (hw : Cond.arrayClass .boolean ∈ lw_good) {x : Int32} {N : Nat} (hx : ¬ x < 0) (hN : x.toNatClampNeg = N) (hbytes : N * 1 ≤ 536870912) (hz : z < 1000000) (hcells : cells + 1 ≤ R.cells) (hslots : slots + N ≤ R.slots)
    (kk : G p l e R s m args below meth c D B od nL tab F (cells + 1) (slots + N) (upA A z (.inl (cy 2, N, .inl (fun _ => 0)))) (z + 2) nx lv (.ref z :: st)) : G p l e R s m args below meth c D B od nL tab F cells slots A (z + 1) i lv (.int x :: st) := by
  intro q hq H locs ls hR hS hl
  cases Option.some.inj (hi.symm.trans hq)
  obtain ⟨q2, hq2, e2⟩ := X.2.2.2.1.fall hi rfl
  refine va_newaK (atype := .boolean) X.1.1 X.1.2.1 (X.1.2.2.2.2 _ hw) rfl (X.2.2.2.1.dec hi) rfl hx hN hbytes hcells hslots rfl fun H1 cA e1 z1 o1 hAr hNm => ?_
  have hcA : cA = cy 2 := Option.some.inj (hNm.symm.trans (tysc_cls (t0 := 2) (ty := .boolean) X.2.1 rfl))
  have hat : va_at D vwCl (H.size, trE B od (.inl (cy 2, N, .inl (fun _ => 0)))) H1 := by
    show H1[H.size]? = some (vp_cell (cy 2) (N, .inl (fun _ => 0)))
    rw [← hcA]; exact e1
  obtain ⟨hR2, hr⟩ := hR.push (X.od0 hz) hat z1 o1
  have K := kk q2 hq2 H1 locs ls hR2 (va_Spush hS z1 o1) hl
  rw [e2] at K
  rw [hr]
  exact K
theorem g_newal (X : Cx p s m args meth c D cy B od cc nL tab own ret) (hi : tab[i]? = some (pc, .newarray .long, 2, nx, tg)) (hw : Cond.arrayClass .long ∈ lw_good) {x : Int32} {N : Nat} (hx : ¬ x < 0) (hN : x.toNatClampNeg = N) (hbytes : N * 8 ≤ 536870912) (hz : z < 1000000) (hcells : cells + 1 ≤ R.cells) (hslots : slots + N ≤ R.slots)
    (kk : G p l e R s m args below meth c D B od nL tab F (cells + 1) (slots + N) (upA A z (.inl (cy 1, N, .inr (.inl (fun _ => 0))))) (z + 2) nx lv (.ref z :: st)) : G p l e R s m args below meth c D B od nL tab F cells slots A (z + 1) i lv (.int x :: st) := by
  intro q hq H locs ls hR hS hl
  cases Option.some.inj (hi.symm.trans hq)
  obtain ⟨q2, hq2, e2⟩ := X.2.2.2.1.fall hi rfl
  refine va_newaK (atype := .long) X.1.1 X.1.2.1 (X.1.2.2.2.2 _ hw) rfl (X.2.2.2.1.dec hi) rfl hx hN hbytes hcells hslots rfl fun H1 cA e1 z1 o1 hAr hNm => ?_
  have hcA : cA = cy 1 := Option.some.inj (hNm.symm.trans (tysc_cls (t0 := 1) (ty := .long) X.2.1 rfl))
  have hat : va_at D vwCl (H.size, trE B od (.inl (cy 1, N, .inr (.inl (fun _ => 0))))) H1 := by
    show H1[H.size]? = some (vp_cell (cy 1) (N, .inr (.inl (fun _ => 0))))
    rw [← hcA]; exact e1
  obtain ⟨hR2, hr⟩ := hR.push (X.od0 hz) hat z1 o1
  have K := kk q2 hq2 H1 locs ls hR2 (va_Spush hS z1 o1) hl
  rw [e2] at K
  rw [hr]
  exact K
theorem g_objInit (X : Cx p s m args meth c D cy B od cc nL tab own ret) {ix : Nat} (hi : tab[i]? = some (pc, .invokespecial ix, 3, nx, tg)) {a : Nat} (hw : Cond.methodLink own ix objectInit ∈ lw_good ∧ Cond.instanceMethod objectInit ∈ lw_good ∧ Cond.code objectInit ⟨#[0xb1]⟩ 1 none ∈ lw_good) (hf : 1 ≤ R.frames) (hst : (st.map fun v => v.category).sum ≤ 8) (hlo : 20 ≤ R.locals)
    (kk : G p l e R s m args below meth c D B od nL tab F cells slots A z nx lv st) : G p l e R s m args below meth c D B od nL tab F cells slots A z i lv (.ref a :: st) := by
  intro q hq H locs ls hR hS hl
  cases Option.some.inj (hi.symm.trans hq)
  obtain ⟨q2, hq2, e2⟩ := X.2.2.2.1.fall hi rfl
  have K := kk q2 hq2 H locs ls hR hS hl
  rw [e2] at K
  have hst2 : ((st.map (trV B od)).map fun v => v.category).sum ≤ 8 := by
    rw [List.map_map, show ((fun v : Value => v.category) ∘ trV B od) = (fun v => v.category) from funext fun v => trV_cat B od v]; exact hst
  have hrm := lv_room (m := m) (pc := pc) (ls := ls) (rest := st.map (trV B od)) hst2
  refine W.objInit X.1.1 X.1.2.1 X.1.2.2.2.1 (X.1.2.2.2.2 _ hw.1) (X.1.2.2.2.2 _ hw.2.1) (X.1.2.2.2.2 _ hw.2.2) rfl (hl.1.trans X.1.2.2.1.symm) rfl (X.2.2.2.1.dec hi) hf ?_ K
  have : 2 * (F0 m pc ls (st.map (trV B od))).monitorRoom + ((st.map (trV B od)).map fun v => v.category).sum + 12 ≤ R.locals := by omega
  exact this
-- ends
theorem g_retW {Q : QT} {Qx : QX} {mc ms : Nat} {b : Bool} {g : JFrame} {H : Heap} {locs : List Loc} (hc : cells ≤ mc) (hs : slots ≤ ms) (k : W p l e R s m args below meth c H locs mc ms (MQ below (QcA D B od Q) args s mc ms (fun q => B ≤ q)) g) : W p l e R s m args below meth c H locs cells slots (FinQ b D B od Q Qx args s below mc ms) g := by
  refine W.widen hc hs ?_
  cases b
  · exact k
  · exact vx_ret k
theorem g_iret (X : Cx p s m args meth c D cy B od cc nL tab own ret) (hi : tab[i]? = some (pc, .ireturn, 1, nx, tg)) {Q : QT} {Qx : QX} {mc ms : Nat} {b : Bool} {ty : FieldType} {v : Int32} (hr : ret = some ty) (hn : narrow ty (.int v) = .int v) (hc : cells ≤ mc) (hs : slots ≤ ms) (hQ : Q (some (.int v)) A z) : G p l e R s m args below meth c D B od nL tab (FinQ b D B od Q Qx args s below mc ms) cells slots A z i lv [.int v] := by
  intro q hq H locs ls hR hS hl
  cases Option.some.inj (hi.symm.trans hq)
  have hret := X.2.2.2.2.1
  have hlk := X.2.2.2.2.2.1
  exact g_retW hc hs (W.zret (v := v) X.1.1 X.1.2.1 (hret.trans hr) hn (fun t ht _ => ⟨⟨some (.int v), A, z, rfl, hQ, by rw [ht]; exact hR⟩, hS.F ht⟩) hS.2.2 (X.2.2.2.1.dec hi) hlk)
theorem g_lret (X : Cx p s m args meth c D cy B od cc nL tab own ret) (hi : tab[i]? = some (pc, .lreturn, 1, nx, tg)) {Q : QT} {Qx : QX} {mc ms : Nat} {b : Bool} {v : Int64} (hr : ret = some .long) (hc : cells ≤ mc) (hs : slots ≤ ms) (hQ : Q (some (.long v)) A z) : G p l e R s m args below meth c D B od nL tab (FinQ b D B od Q Qx args s below mc ms) cells slots A z i lv [.long v] := by
  intro q hq H locs ls hR hS hl
  cases Option.some.inj (hi.symm.trans hq)
  have hret := X.2.2.2.2.1
  have hlk := X.2.2.2.2.2.1
  exact g_retW hc hs (W.lret (v := v) X.1.1 X.1.2.1 (hret.trans hr) (fun t ht _ => ⟨⟨some (.long v), A, z, rfl, hQ, by rw [ht]; exact hR⟩, hS.F ht⟩) hS.2.2 (X.2.2.2.1.dec hi) hlk)
theorem g_dret (X : Cx p s m args meth c D cy B od cc nL tab own ret) (hi : tab[i]? = some (pc, .dreturn, 1, nx, tg)) {Q : QT} {Qx : QX} {mc ms : Nat} {b : Bool} {v : UInt64} (hr : ret = some .double) (hc : cells ≤ mc) (hs : slots ≤ ms) (hQ : Q (some (.double v)) A z) : G p l e R s m args below meth c D B od nL tab (FinQ b D B od Q Qx args s below mc ms) cells slots A z i lv [.double v] := by
  intro q hq H locs ls hR hS hl
  cases Option.some.inj (hi.symm.trans hq)
  have hret := X.2.2.2.2.1
  have hlk := X.2.2.2.2.2.1
  exact g_retW hc hs (W.dret (v := v) X.1.1 X.1.2.1 (hret.trans hr) (fun t ht _ => ⟨⟨some (.double v), A, z, rfl, hQ, by rw [ht]; exact hR⟩, hS.F ht⟩) hS.2.2 (X.2.2.2.1.dec hi) hlk)
theorem g_aret (X : Cx p s m args meth c D cy B od cc nL tab own ret) (hi : tab[i]? = some (pc, .areturn, 1, nx, tg)) {Q : QT} {Qx : QX} {mc ms : Nat} {b : Bool} {v : Nat} {nm : String} (hr : ret = some (.object nm)) (hc : cells ≤ mc) (hs : slots ≤ ms) (hQ : Q (some (.ref v)) A z) : G p l e R s m args below meth c D B od nL tab (FinQ b D B od Q Qx args s below mc ms) cells slots A z i lv [.ref v] := by
  intro q hq H locs ls hR hS hl
  cases Option.some.inj (hi.symm.trans hq)
  have hret := X.2.2.2.2.1
  have hlk := X.2.2.2.2.2.1
  exact g_retW hc hs (W.aret (v := .ref (rho B od v)) X.1.1 X.1.2.1 (hret.trans hr) (Or.inl ⟨nm, rfl⟩) (Or.inr ⟨_, rfl⟩) (fun t ht _ => ⟨⟨some (.ref v), A, z, rfl, hQ, by rw [ht]; exact hR⟩, hS.F ht⟩) hS.2.2 (X.2.2.2.1.dec hi) hlk)
theorem g_vret (X : Cx p s m args meth c D cy B od cc nL tab own ret) (hi : tab[i]? = some (pc, .return_, 1, nx, tg)) {Q : QT} {Qx : QX} {mc ms : Nat} {b : Bool} (hr : ret = none) (hc : cells ≤ mc) (hs : slots ≤ ms) (hQ : Q none A z) : G p l e R s m args below meth c D B od nL tab (FinQ b D B od Q Qx args s below mc ms) cells slots A z i lv [] := by
  intro q hq H locs ls hR hS hl
  cases Option.some.inj (hi.symm.trans hq)
  have hret := X.2.2.2.2.1
  have hlk := X.2.2.2.2.2.1
  exact g_retW hc hs (W.vret X.1.1 X.1.2.1 (hret.trans hr) (fun t ht _ => ⟨⟨none, A, z, rfl, hQ, by rw [ht]; exact hR⟩, hS.F ht⟩) hS.2.2 (X.2.2.2.1.dec hi) hlk)
-- links of calls
def LkC (y : MethodName) (bytes : ByteArray) (maxL : Nat) (rt : Option FieldType) (n : Nat) : Prop := Cond.code y bytes maxL rt ∈ lw_good ∧ Cond.initialized y.cls ∈ lw_good ∧ (y.cls ≠ "java/lang/invoke/MethodHandle" ∧ y.cls ≠ "java/lang/invoke/VarHandle") ∧ (parseMethodDescriptor y.desc).map (fun d => d.parameters.length) = some n
def LkM (own : String) (ix : Nat) (y : MethodName) : Prop := Cond.methodLink own ix y ∈ lw_good
def LkN (own : String) (ix : Nat) (y : MethodName) : Prop := ∃ host, Cond.methodLinkNest own ix y host ∈ nw_all
def LkSel (y : MethodName) : Prop := Cond.instanceMethod y ∈ lw_good ∧ Cond.selects y.cls y y ∈ lw_good
theorem lk_len {y : MethodName} {n : Nat} (h : (parseMethodDescriptor y.desc).map (fun d => d.parameters.length) = some n) : ∀ sig, parseMethodDescriptor y.desc = some sig → n = sig.parameters.length := by
  intro sig hs
  rw [hs] at h
  exact (Option.some.inj h).symm
section CALLS
variable {y : MethodName} {bytes : ByteArray} {maxL n ix : Nat} {rt : Option FieldType} {rm : Room} {As rest : List Value} {b : Nat} {Q' : QT} {Qx' : QX}
theorem mkB (X : Cx p s m args meth c D cy B od cc nL tab own ret) (h : LkC y bytes maxL rt n) (hl : LkM own ix y) (hR : rm.frames + 1 ≤ R.frames ∧ 8 + (maxL + 11) + rm.locals ≤ R.locals) : CallB R s args own ix y bytes maxL rt (Cond.code y bytes maxL rt :: lw_good) rm rm.cells rm.slots n :=
  ⟨rfl, rfl, hR.1, hR.2, pay_in X.1.2.2.2.2 (lw_good_ok h.1), List.mem_cons_self, X.1.2.2.2.2 _ h.1, X.1.2.2.2.2 _ h.2.1, h.2.2.1, lk_len h.2.2.2, X.1.2.2.2.2 _ hl⟩
theorem mkN (X : Cx p s m args meth c D cy B od cc nL tab own ret) (h : LkC y bytes maxL rt n) {host : String} (hl : Cond.methodLinkNest own ix y host ∈ nw_all) (hR : rm.frames + 1 ≤ R.frames ∧ 8 + (maxL + 11) + rm.locals ≤ R.locals) : va_CN R s args own ix y host bytes maxL rt (Cond.code y bytes maxL rt :: lw_good) rm rm.cells rm.slots n :=
  ⟨⟨rfl, rfl, hR.1, hR.2, pay_in X.1.2.2.2.2 (lw_good_ok h.1), List.mem_cons_self⟩, X.1.2.2.2.2 _ h.1, X.1.2.2.2.2 _ h.2.1, h.2.2.1, lk_len h.2.2.2, va_Nw.use rfl (X.2.2.1 _ hl)⟩
theorem run_go {H : Heap} {locs : List Loc} {mc ms : Nat} {ls : Array Slot} {st0 rs : List Value} {a : Array Value} (hr : va_Run p l e R s m args below meth c H locs cells slots mc ms (F0 m pc ls st0) rs (QcA D B od Q' a) (fun q => B ≤ q)) (hS : va_S (fun q => B ≤ q) s.heap H locs)
    (kk : ∀ (v : Option Value) (A' : AH) (z' : Nat) (H1 : Heap) (locs1 : List Loc), Q' v A' z' → RelA D B od A' z' H1 → va_S (fun q => B ≤ q) s.heap H1 locs1 → W p l e R s m args below meth c H1 locs1 (cells + mc) (slots + ms) F (F0 m (pc + 3) ls ((v.map (trV B od)).toList ++ rs))) : W p l e R s m args below meth c H locs cells slots F (F0 m pc ls st0) := by
  intro T hT X
  obtain ⟨v, st₀, t, T', L, h0, X', hL, e1, e2, ⟨⟨v', A', z', hv, hp, hb⟩, hz, hk⟩, st⟩ := hr T hT X
  have hv : v = v'.map (trV B od) := by cases hv; rfl
  subst hv
  rw [h0] at hz hk
  obtain ⟨t2, a1, b1⟩ := kk v' A' z' T'.heap (locs ++ L) hp (by rw [e1]; exact hb)
    ⟨Nat.le_trans hS.1 (by rw [e1]; exact hz), fun q h1 h2 => by rw [e1, hk q (Nat.lt_of_lt_of_le h1 hS.1) h2]; exact hS.2.1 q h1 h2, fun q hq => by
      rcases List.mem_append.mp hq with h | h
      · exact hS.2.2 q h
      · exact hL q h⟩ T' rfl X'
  exact ⟨t2, st t2 a1, b1⟩
theorem st_cat {rest : List Value} (hst : (rest.map fun v => v.category).sum ≤ 8) : ((rest.map (trV B od)).map fun v => v.category).sum ≤ 8 := by
  rw [List.map_map, show ((fun v : Value => v.category) ∘ trV B od) = (fun v => v.category) from funext fun v => trV_cat B od v]; exact hst
theorem st_ret {v : Option Value} {rest : List Value} : (v.map (trV B od)).toList ++ rest.map (trV B od) = (v.toList ++ rest).map (trV B od) := by cases v <;> rfl
theorem recv {H : Heap} {ci : Nat} {fs : List Value} {C : String} {T : u_T} {N : Nat} (X : Cx p s m args meth c D cy B od cc nL tab own ret) (hR : RelA D B od A z H) (hA : A b = some (.inr (ci, fs))) (hc : vwCl[ci]? = some (C, T, N)) : ∃ cell : Cell, H[rho B od b]? = some cell ∧ cell.vm.isStatics = false ∧ s.vm.findClass C = some cell.cls := va_recv (q := (C, T, N)) (ws := [(rho B od b, .inr (ci, fs.map (trV B od)))]) X.2.1 (va_P1 (hR.1 b _ hA).2) (q0 := 0) hc rfl
theorem g_callV (X : Cx p s m args meth c D cy B od cc nL tab own ret) (hi : tab[i]? = some (pc, .invokevirtual ix, 3, nx, tg)) (hL : LkC y bytes maxL rt n) (hM : LkM own ix y) (hSe : LkSel y) (hC : CT l D cy B od y bytes maxL rt rm (.ref b :: As) A z Q') {ci : Nat} {fs : List Value} {T : u_T} {N : Nat} (hA : A b = some (.inr (ci, fs))) (hc : vwCl[ci]? = some (y.cls, T, N)) (hst : st = As.reverse ++ .ref b :: rest) (hn : As.length = n) (hw : (rest.map fun v => v.category).sum ≤ 8) (hRm : rm.frames + 1 ≤ R.frames ∧ 8 + (maxL + 11) + rm.locals ≤ R.locals) (hf : cells + rm.cells ≤ R.cells ∧ slots + rm.slots ≤ R.slots)
    (kk : ∀ (v : Option Value) (A' : AH) (z' : Nat), Q' v A' z' → G p l e R s m args below meth c D B od nL tab F (cells + rm.cells) (slots + rm.slots) A' z' nx lv (v.toList ++ rest)) : G p l e R s m args below meth c D B od nL tab F cells slots A z i lv st := by
  intro q hq H locs ls hR hS hl
  cases Option.some.inj (hi.symm.trans hq)
  obtain ⟨q2, hq2, e2⟩ := X.2.2.2.1.fall hi rfl
  subst hst
  rw [List.map_append, List.map_reverse, List.map_cons]
  refine run_go (va_runV (As := As.map (trV B od)) (b := rho B od b) (rest := rest.map (trV B od)) X.1 hC ⟨mkB X hL hM hRm, X.1.2.2.2.2 _ hSe.1, X.1.2.2.2.2 _ hSe.2⟩ ⟨PcA.blind, recv X hR hA hc, fun U hU hW => ⟨rfl, X.world hR hS U hU hW⟩⟩ rfl ((List.length_map _).trans hn) hl.1 rfl (lv_room (st_cat hw)) (X.2.2.2.1.dec hi) hf) hS (fun v A' z' H1 locs1 hq hR1 hS1 => ?_)
  have K := kk v A' z' hq q2 hq2 H1 locs1 ls hR1 hS1 hl
  rw [e2, ← st_ret] at K
  exact K
theorem g_callVN (X : Cx p s m args meth c D cy B od cc nL tab own ret) (hi : tab[i]? = some (pc, .invokevirtual ix, 3, nx, tg)) (hL : LkC y bytes maxL rt n) (hM : LkN own ix y) (hSe : LkSel y) (hC : CT l D cy B od y bytes maxL rt rm (.ref b :: As) A z Q') {ci : Nat} {fs : List Value} {T : u_T} {N : Nat} (hA : A b = some (.inr (ci, fs))) (hc : vwCl[ci]? = some (y.cls, T, N)) (hst : st = As.reverse ++ .ref b :: rest) (hn : As.length = n) (hw : (rest.map fun v => v.category).sum ≤ 8) (hRm : rm.frames + 1 ≤ R.frames ∧ 8 + (maxL + 11) + rm.locals ≤ R.locals) (hf : cells + rm.cells ≤ R.cells ∧ slots + rm.slots ≤ R.slots)
    (kk : ∀ (v : Option Value) (A' : AH) (z' : Nat), Q' v A' z' → G p l e R s m args below meth c D B od nL tab F (cells + rm.cells) (slots + rm.slots) A' z' nx lv (v.toList ++ rest)) : G p l e R s m args below meth c D B od nL tab F cells slots A z i lv st := by
  intro q hq H locs ls hR hS hl
  cases Option.some.inj (hi.symm.trans hq)
  obtain ⟨q2, hq2, e2⟩ := X.2.2.2.1.fall hi rfl
  obtain ⟨host, hM⟩ := hM
  subst hst
  rw [List.map_append, List.map_reverse, List.map_cons]
  refine run_go (va_runVN (As := As.map (trV B od)) (b := rho B od b) (rest := rest.map (trV B od)) X.1 hC ⟨mkN X hL hM hRm, X.1.2.2.2.2 _ hSe.1, X.1.2.2.2.2 _ hSe.2⟩ ⟨PcA.blind, recv X hR hA hc, fun U hU hW => ⟨rfl, X.world hR hS U hU hW⟩⟩ rfl ((List.length_map _).trans hn) hl.1 rfl (lv_room (st_cat hw)) (X.2.2.2.1.dec hi) hf) hS (fun v A' z' H1 locs1 hq hR1 hS1 => ?_)
  have K := kk v A' z' hq q2 hq2 H1 locs1 ls hR1 hS1 hl
  rw [e2, ← st_ret] at K
  exact K
theorem g_callS (X : Cx p s m args meth c D cy B od cc nL tab own ret) (hi : tab[i]? = some (pc, .invokestatic ix, 3, nx, tg)) (hL : LkC y bytes maxL rt n) (hM : LkM own ix y) (hSt : Cond.static y ∈ lw_good) (hC : CT l D cy B od y bytes maxL rt rm As A z Q') (hst : st = As.reverse ++ rest) (hn : As.length = n) (hw : (rest.map fun v => v.category).sum ≤ 8) (hRm : rm.frames + 1 ≤ R.frames ∧ 8 + (maxL + 11) + rm.locals ≤ R.locals) (hf : cells + rm.cells ≤ R.cells ∧ slots + rm.slots ≤ R.slots)
    (kk : ∀ (v : Option Value) (A' : AH) (z' : Nat), Q' v A' z' → G p l e R s m args below meth c D B od nL tab F (cells + rm.cells) (slots + rm.slots) A' z' nx lv (v.toList ++ rest)) : G p l e R s m args below meth c D B od nL tab F cells slots A z i lv st := by
  intro q hq H locs ls hR hS hl
  cases Option.some.inj (hi.symm.trans hq)
  obtain ⟨q2, hq2, e2⟩ := X.2.2.2.1.fall hi rfl
  subst hst
  rw [List.map_append, List.map_reverse]
  refine run_go (va_runS (As := As.map (trV B od)) (rest := rest.map (trV B od)) X.1 hC ⟨mkB X hL hM hRm, X.1.2.2.2.2 _ hSt⟩ ⟨PcA.blind, fun U hU hW => ⟨rfl, X.world hR hS U hU hW⟩⟩ rfl ((List.length_map _).trans hn) hl.1 rfl (lv_room (st_cat hw)) (X.2.2.2.1.dec hi) hf) hS (fun v A' z' H1 locs1 hq hR1 hS1 => ?_)
  have K := kk v A' z' hq q2 hq2 H1 locs1 ls hR1 hS1 hl
  rw [e2, ← st_ret] at K
  exact K
theorem g_callSN (X : Cx p s m args meth c D cy B od cc nL tab own ret) (hi : tab[i]? = some (pc, .invokestatic ix, 3, nx, tg)) (hL : LkC y bytes maxL rt n) (hM : LkN own ix y) (hSt : Cond.static y ∈ lw_good) (hC : CT l D cy B od y bytes maxL rt rm As A z Q') (hst : st = As.reverse ++ rest) (hn : As.length = n) (hw : (rest.map fun v => v.category).sum ≤ 8) (hRm : rm.frames + 1 ≤ R.frames ∧ 8 + (maxL + 11) + rm.locals ≤ R.locals) (hf : cells + rm.cells ≤ R.cells ∧ slots + rm.slots ≤ R.slots)
    (kk : ∀ (v : Option Value) (A' : AH) (z' : Nat), Q' v A' z' → G p l e R s m args below meth c D B od nL tab F (cells + rm.cells) (slots + rm.slots) A' z' nx lv (v.toList ++ rest)) : G p l e R s m args below meth c D B od nL tab F cells slots A z i lv st := by
  intro q hq H locs ls hR hS hl
  cases Option.some.inj (hi.symm.trans hq)
  obtain ⟨q2, hq2, e2⟩ := X.2.2.2.1.fall hi rfl
  obtain ⟨host, hM⟩ := hM
  subst hst
  rw [List.map_append, List.map_reverse]
  refine run_go (va_runSN (As := As.map (trV B od)) (rest := rest.map (trV B od)) X.1 hC ⟨mkN X hL hM hRm, X.1.2.2.2.2 _ hSt, trivial⟩ ⟨PcA.blind, fun U hU hW => ⟨rfl, X.world hR hS U hU hW⟩⟩ rfl ((List.length_map _).trans hn) hl.1 rfl (lv_room (st_cat hw)) (X.2.2.2.1.dec hi) hf) hS (fun v A' z' H1 locs1 hq hR1 hS1 => ?_)
  have K := kk v A' z' hq q2 hq2 H1 locs1 ls hR1 hS1 hl
  rw [e2, ← st_ret] at K
  exact K
theorem g_callI (X : Cx p s m args meth c D cy B od cc nL tab own ret) (hi : tab[i]? = some (pc, .invokespecial ix, 3, nx, tg)) (hL : LkC y bytes maxL none n) (hM : LkM own ix y) (hI : Cond.instanceMethod y ∈ lw_good) (hy : y.name = "<init>") (hC : CT l D cy B od y bytes maxL none rm (.ref b :: As) A z Q') (hst : st = As.reverse ++ .ref b :: rest) (hn : As.length = n) (hw : (rest.map fun v => v.category).sum ≤ 8) (hRm : rm.frames + 1 ≤ R.frames ∧ 8 + (maxL + 11) + rm.locals ≤ R.locals) (hf : cells + rm.cells ≤ R.cells ∧ slots + rm.slots ≤ R.slots)
    (kk : ∀ (v : Option Value) (A' : AH) (z' : Nat), Q' v A' z' → G p l e R s m args below meth c D B od nL tab F (cells + rm.cells) (slots + rm.slots) A' z' nx lv (v.toList ++ rest)) : G p l e R s m args below meth c D B od nL tab F cells slots A z i lv st := by
  intro q hq H locs ls hR hS hl
  cases Option.some.inj (hi.symm.trans hq)
  obtain ⟨q2, hq2, e2⟩ := X.2.2.2.1.fall hi rfl
  subst hst
  rw [List.map_append, List.map_reverse, List.map_cons]
  refine run_go (va_runI (As := As.map (trV B od)) (b := rho B od b) (rest := rest.map (trV B od)) X.1 hC ⟨mkB X hL hM hRm, hy, X.1.2.2.2.2 _ hI⟩ ⟨PcA.blind, fun U hU hW => ⟨rfl, X.world hR hS U hU hW⟩⟩ rfl ((List.length_map _).trans hn) hl.1 rfl (lv_room (st_cat hw)) (X.2.2.2.1.dec hi) hf) hS (fun v A' z' H1 locs1 hq hR1 hS1 => ?_)
  have K := kk v A' z' hq q2 hq2 H1 locs1 ls hR1 hS1 hl
  rw [e2, ← st_ret] at K
  exact K
theorem g_callIN (X : Cx p s m args meth c D cy B od cc nL tab own ret) (hi : tab[i]? = some (pc, .invokespecial ix, 3, nx, tg)) (hL : LkC y bytes maxL none n) (hM : LkN own ix y) (hI : Cond.instanceMethod y ∈ lw_good) (hy : y.name = "<init>") (hC : CT l D cy B od y bytes maxL none rm (.ref b :: As) A z Q') (hst : st = As.reverse ++ .ref b :: rest) (hn : As.length = n) (hw : (rest.map fun v => v.category).sum ≤ 8) (hRm : rm.frames + 1 ≤ R.frames ∧ 8 + (maxL + 11) + rm.locals ≤ R.locals) (hf : cells + rm.cells ≤ R.cells ∧ slots + rm.slots ≤ R.slots)
    (kk : ∀ (v : Option Value) (A' : AH) (z' : Nat), Q' v A' z' → G p l e R s m args below meth c D B od nL tab F (cells + rm.cells) (slots + rm.slots) A' z' nx lv (v.toList ++ rest)) : G p l e R s m args below meth c D B od nL tab F cells slots A z i lv st := by
  intro q hq H locs ls hR hS hl
  cases Option.some.inj (hi.symm.trans hq)
  obtain ⟨q2, hq2, e2⟩ := X.2.2.2.1.fall hi rfl
  obtain ⟨host, hM⟩ := hM
  subst hst
  rw [List.map_append, List.map_reverse, List.map_cons]
  refine run_go (va_runIN (As := As.map (trV B od)) (b := rho B od b) (rest := rest.map (trV B od)) X.1 hC ⟨mkN X hL hM hRm, hy, X.1.2.2.2.2 _ hI⟩ ⟨PcA.blind, fun U hU hW => ⟨rfl, X.world hR hS U hU hW⟩⟩ rfl ((List.length_map _).trans hn) hl.1 rfl (lv_room (st_cat hw)) (X.2.2.2.1.dec hi) hf) hS (fun v A' z' H1 locs1 hq hR1 hS1 => ?_)
  have K := kk v A' z' hq q2 hq2 H1 locs1 ls hR1 hS1 hl
  rw [e2, ← st_ret] at K
  exact K
end CALLS
-- contracts out of bodies
theorem CT.of {y : MethodName} {bytes : ByteArray} {maxL : Nat} {rt : Option FieldType} {rm : Room} {av : List Value} {Q : QT} (hy : plainName y.cls = true) (tb : List PT) (hok : OkTab bytes tb) (hlen : (entL av).length ≤ maxL) {q0 : PT} (h0 : tb[0]? = some q0) (h00 : q0.1 = 0)
    (body : ∀ (p : Program) (e : Env) (s : State) (m : MethodId) (args : Array Value) (below : List Frame) (meth : Method) (c : Code), Cx p s m args meth c D cy B od bytes maxL tb y.cls rt → meth.name = y.name → G p l e rm s m args below meth c D B od maxL tb (FinQ false D B od Q (fun _ _ => True) args s below rm.cells rm.slots) 0 0 A z 0 (entN av maxL) []) : CT l D cy B od y bytes maxL rt rm av A z Q := by
  refine Met.ofW (cc := bytes) (maxL := maxL) (ret := rt) hy rfl ?_
  intro p e s m args below meth c s₁ Bd hml hv
  obtain ⟨hav, hK, hN, hR, hB, hO⟩ := hv
  have X : Cx p s m args meth c D cy B od bytes maxL tb y.cls rt := ⟨⟨Bd.exec, Bd.bytes, hml, findClass_of_methodNamed Bd.named, fun v hv => atoms_spec Bd.pre _ (List.mem_cons_of_mem _ hv)⟩, hK, hN, hok, Bd.returns, Bd.notSynchronized, hB, hO⟩
  have g := body p e s m args below meth c X (name_of_methodNamed Bd.named Bd.method).1
  have hl := lv_entry (av.map (trV B od)) (n := maxL) (by rw [lg_len]; exact hlen)
  have K := g q0 h0 s.heap [] _ hR va_S.rf (LR.entry hl)
  rw [h00] at K
  rw [hav, lg_entry_eq]
  exact hav ▸ K
theorem CX.of {y : MethodName} {bytes : ByteArray} {maxL : Nat} {rt : Option FieldType} {rm : Room} {av : List Value} {Q : QT} {Qx : QX} (hy : plainName y.cls = true) (tb : List PT) (hok : OkTab bytes tb) (hlen : (entL av).length ≤ maxL) {q0 : PT} (h0 : tb[0]? = some q0) (h00 : q0.1 = 0)
    (body : ∀ (p : Program) (e : Env) (s : State) (m : MethodId) (args : Array Value) (below : List Frame) (meth : Method) (c : Code), Cx p s m args meth c D cy B od bytes maxL tb y.cls rt → (∀ x ∈ c.exceptionTable.toList, False) → G p l e rm s m args below meth c D B od maxL tb (FinQ true D B od Q Qx args s below rm.cells rm.slots) 0 0 A z 0 (entN av maxL) []) : CX l D cy B od y bytes maxL rt rm av A z Q Qx := by
  refine vx_ofW (cc := bytes) (maxL := maxL) (ret := rt) hy rfl ?_
  intro p e s m args below meth c s₁ Bd hml hxt hv
  obtain ⟨hav, hK, hN, hR, hB, hO⟩ := hv
  have X : Cx p s m args meth c D cy B od bytes maxL tb y.cls rt := ⟨⟨Bd.exec, Bd.bytes, hml, findClass_of_methodNamed Bd.named, fun v hv => atoms_spec Bd.pre _ (List.mem_cons_of_mem _ hv)⟩, hK, hN, hok, Bd.returns, Bd.notSynchronized, hB, hO⟩
  have g := body p e s m args below meth c X hxt
  have hl := lv_entry (av.map (trV B od)) (n := maxL) (by rw [lg_len]; exact hlen)
  have K := g q0 h0 s.heap [] _ hR va_S.rf (LR.entry hl)
  rw [h00] at K
  rw [hav, lg_entry_eq]
  exact hav ▸ K
end CORE4
