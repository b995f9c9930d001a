/-! 03: the rules that touch the heap; calls; ends -/
section CORE3
variable {p : Program} {l : Launch} {e : Env} {R : Room} {s : State} {m : MethodId} {args : Array Value} {below : List Frame} {meth : Method} {c : Code}
variable {D : va_G} {cy : Nat → ClassId} {B : Nat} {od : Nat → Option Nat} {cc : ByteArray} {nL : Nat} {tab : List PT} {own : String} {ret : Option FieldType}
variable {F : State → Prop} {cells slots : Nat} {A : AH} {z i pc len nx tg : Nat} {lv : List (Option Value)} {st : List Value}
theorem va_P1 {cl : List vw_C} {q : Nat × va_E} {H : Heap} (h : va_at D cl q H) : va_P D cl [q] H := fun k r hk => by
  match k, hk with
  | 0, hk => cases hk; exact h
  | k + 1, hk => simp at hk
/-- a field, linked by its number in a class: class C has N slots with names T and types ty0, it is the slot k -/
def FLk (own : String) (ix : Nat) (C : String) (T : u_T) (N : Nat) (ty0 : Nat → FieldType) (k : Nat) : Prop := k < N ∧ (∀ w ∈ u_ws C T N, w ∈ lw_good) ∧ (∀ k, k < N → parseFieldDescriptor (T k).2.2.1 = some (ty0 k)) ∧ (∀ a, a < N → ∀ b, b < N → a ≠ b → (T a).2.1 ≠ (T b).2.1) ∧ (Cond.fieldLink own ix (T k).1 (T k).2.1 (T k).2.2.1 ∈ lw_good ∨ ∃ host, Cond.fieldLinkNest own ix (T k).1 (T k).2.1 (T k).2.2.1 host ∈ nw_all)
set_option maxHeartbeats 100000 in
theorem wv_iast {pc : Nat} {ls : Array Slot} {rest : List Value} {locs : List Loc} {H : Heap} (hexec : p.tables.exec = Jvm.exec) (hb : c.code = cc) {a n : Nat} {f : Nat → Int32} {cA : ClassId} (hat : H[a]? = some (vp_cell cA (n, .inl f))) (harr : ArrOfT s cA .int) {x : Int32} {v : Int32} (hin : vp_in x n) (hdg : decode cc pc = .ok (.iastore, 1))
    (kk : ∀ H1 : Heap, H1[a]? = some (vp_cell cA (n, .inl (upd f x.toNatClampNeg v))) → H1.size = H.size → (∀ q : Nat, q ≠ a → H1[q]? = H[q]?) → W p l e R s m args below meth c H1 (locs ++ [⟨a, x.toNatClampNeg⟩]) cells slots F (F0 m (pc + 1) ls rest)) : W p l e R s m args below meth c H locs cells slots F (F0 m pc ls (.int v :: .int x :: .ref a :: rest)) := by
  refine W.iast hexec hb hat (harr n (fun j => .int (f j))) (fun q => by cases q) (by show ¬ (x < 0 ∨ (arrV _ _ _).slots.size ≤ _); rw [arrV_size]; exact hin) rfl rfl hdg fun H1 e1 z9 oq => ?_
  refine kk H1 ?_ z9 oq
  rw [e1]
  rw [vp_cell_i, vp_cell_i, arrV_store]
  congr 2
  funext q
  by_cases hq : q = x.toNatClampNeg
  · subst hq
    simp [updV, upd]
  · simp [updV, upd, vp_updL, vf_upd, hq]
set_option maxHeartbeats 100000 in
theorem wv_zast {pc : Nat} {ls : Array Slot} {rest : List Value} {locs : List Loc} {H : Heap} (hexec : p.tables.exec = Jvm.exec) (hb : c.code = cc) {a n : Nat} {f : Nat → Int32} {cA : ClassId} (hat : H[a]? = some (vp_cell cA (n, .inl f))) (harr : ArrOfT s cA .boolean) {x : Int32} {v : Int32} (hin : vp_in x n) (hv : v = 0 ∨ v = 1) (hdg : decode cc pc = .ok (.bastore, 1))
    (kk : ∀ H1 : Heap, H1[a]? = some (vp_cell cA (n, .inl (upd f x.toNatClampNeg v))) → H1.size = H.size → (∀ q : Nat, q ≠ a → H1[q]? = H[q]?) → W p l e R s m args below meth c H1 (locs ++ [⟨a, x.toNatClampNeg⟩]) cells slots F (F0 m (pc + 1) ls rest)) : W p l e R s m args below meth c H locs cells slots F (F0 m pc ls (.int v :: .int x :: .ref a :: rest)) := by
  refine W.zast hexec hb hat (harr n (fun j => .int (f j))) (fun q => by cases q) (by show ¬ (x < 0 ∨ (arrV _ _ _).slots.size ≤ _); rw [arrV_size]; exact hin) rfl rfl hdg fun H1 e1 z9 oq => ?_
  refine kk H1 ?_ z9 oq
  rw [e1]
  rw [vp_cell_i, vp_cell_i, arrV_store]
  congr 2
  funext q
  by_cases hq : q = x.toNatClampNeg
  · subst hq
    rcases hv with rfl | rfl <;> simp [updV, upd] <;> rfl
  · simp [updV, upd, vp_updL, vf_upd, hq]
set_option maxHeartbeats 100000 in
theorem wv_last {pc : Nat} {ls : Array Slot} {rest : List Value} {locs : List Loc} {H : Heap} (hexec : p.tables.exec = Jvm.exec) (hb : c.code = cc) {a n : Nat} {f : Nat → Int64} {cA : ClassId} (hat : H[a]? = some (vp_cell cA (n, .inr (.inl (f))))) (harr : ArrOfT s cA .long) {x : Int32} {v : Int64} (hin : vp_in x n) (hdg : decode cc pc = .ok (.lastore, 1))
    (kk : ∀ H1 : Heap, H1[a]? = some (vp_cell cA (n, .inr (.inl (vp_updL f x.toNatClampNeg v)))) → H1.size = H.size → (∀ q : Nat, q ≠ a → H1[q]? = H[q]?) → W p l e R s m args below meth c H1 (locs ++ [⟨a, x.toNatClampNeg⟩]) cells slots F (F0 m (pc + 1) ls rest)) : W p l e R s m args below meth c H locs cells slots F (F0 m pc ls (.long v :: .int x :: .ref a :: rest)) := by
  refine W.last hexec hb hat (harr n (fun j => .long (f j))) (fun q => by cases q) (by show ¬ (x < 0 ∨ (arrV _ _ _).slots.size ≤ _); rw [arrV_size]; exact hin) rfl rfl hdg fun H1 e1 z9 oq => ?_
  refine kk H1 ?_ z9 oq
  rw [e1]
  rw [vp_cell_l, vp_cell_l, arrV_store]
  congr 2
  funext q
  by_cases hq : q = x.toNatClampNeg
  · subst hq
    simp [updV, vp_updL]
  · simp [updV, upd, vp_updL, vf_upd, hq]
set_option maxHeartbeats 100000 in
theorem wv_put {pc : Nat} {ls : Array Slot} {rest : List Value} {locs : List Loc} {H : Heap} (hexec : p.tables.exec = Jvm.exec) (hb : c.code = cc) (hts : ∀ w ∈ lw_good, w.before args s = true) (hNW : NW s) (hown : s.vm.findClass own = some m.cls) (hK : va_K D vwCl (tysc cy) s) {ix : Nat} {C : String} {T : u_T} {N : Nat} {ty0 : Nat → FieldType} {k : Nat} (hf : FLk own ix C T N ty0 k) (hfin : (T k).2.2.2 = false) {ci : Nat} (hc : vwCl[ci]? = some (C, T, N)) {a : Nat} {fs : List Value} (hat : va_at D vwCl (a, .inr (ci, fs)) H) (hl9 : k < fs.length) {v : Value} (hn : narrow (ty0 k) v = v) (hfit : fits (ty0 k) v = true) (hdg : decode cc pc = .ok (.putfield ix, 3))
    (kk : ∀ (H1 : Heap) (j : Nat), va_at D vwCl (a, .inr (ci, fs.set k v)) H1 → H1.size = H.size → (∀ q : Nat, q ≠ a → H1[q]? = H[q]?) → W p l e R s m args below meth c H1 (locs ++ [⟨a, j⟩]) cells slots F (F0 m (pc + 3) ls rest)) : W p l e R s m args below meth c H locs cells slots F (F0 m pc ls (v :: .ref a :: rest)) := by
  obtain ⟨hk, hin, hty, hnm, hlk⟩ := hf
  have hap := va_apart (own := own) hts hin ty0 hty hnm hK hc
  obtain ⟨r, h1, cell, q1, q2, q3, q4⟩ := hat
  have hr : r = (C, T, N) := Option.some.inj (h1.symm.trans hc)
  subst hr
  obtain ⟨hS, hfc, kC, hkC, hkind⟩ := hK.1 ci _ hc
  obtain ⟨cf, kf, fi, f, hi, hsl⟩ := hS k hk
  have hlay := hts _ (hin _ (u_in_lay hk))
  unfold u_lay at hlay
  rw [if_neg (by rw [hfin]; decide)] at hlay
  have hst := (u_facts hfc hkC (u_lays hts hin hk) hi).1
  have h6 := u_store hfc hkC hkind hlay hi (hty k hk) hn hfit
  have fin : ∀ H' : Heap, H'[a]? = some (cell.setSlot f.slot v) → H'.size = H.size → (∀ q, q ≠ a → H'[q]? = H[q]?) → W p l e R s m args below meth c H' (locs ++ [⟨a, f.slot⟩]) cells slots F (F0 m (pc + 3) ls rest) := by
    intro H' e1 e2 e3
    rw [hsl] at e1
    exact kk H' f.slot ⟨_, hc, t_OB.to (V := updV (vp_V fs) k v) ⟨_, e1, q2, q3, t_set q4 hap hk v⟩ (fun j _ => vp_updV_set hl9 v j)⟩ e2 e3
  rcases hlk with h | ⟨host, h⟩
  · exact W.putK hexec hb (f := f) ⟨hown, hts _ h, ⟨_, _, _, hi⟩, hst⟩ (by rw [q2]; exact h6) q1 q3 (by rw [hsl]; exact k2_hasslot (q4 k hk)) rfl rfl hdg fun H' e1 e2 e3 => fin H' e1 e2 e3
  · exact va_WputK hexec hb (f := f) hown (va_Nw.use rfl (hNW _ h)) hi hst (by rw [q2]; exact h6) q1 q3 (by rw [hsl]; exact k2_hasslot (q4 k hk)) rfl rfl hdg fun H' e1 e2 e3 => fin H' e1 e2 e3
set_option maxHeartbeats 100000 in
theorem wv_putF {pc : Nat} {ls : Array Slot} {rest : List Value} {locs : List Loc} {H : Heap} (hexec : p.tables.exec = Jvm.exec) (hb : c.code = cc) (hts : ∀ w ∈ lw_good, w.before args s = true) (hNW : NW s) (hown : s.vm.findClass own = some m.cls) (hK : va_K D vwCl (tysc cy) s) {ix : Nat} {C : String} {T : u_T} {N : Nat} {ty0 : Nat → FieldType} {k : Nat} (hf : FLk own ix C T N ty0 k) (hfin : (T k).2.2.2 = true) (hin2 : meth.name = "<init>") (hdecl : (T k).1 = own) (hlf : Cond.fieldLink own ix (T k).1 (T k).2.1 (T k).2.2.1 ∈ lw_good) {ci : Nat} (hc : vwCl[ci]? = some (C, T, N)) {a : Nat} {fs : List Value} (hat : va_at D vwCl (a, .inr (ci, fs)) H) (hl9 : k < fs.length) {v : Value} (hn : narrow (ty0 k) v = v) (hfit : fits (ty0 k) v = true) (hdg : decode cc pc = .ok (.putfield ix, 3))
    (kk : ∀ (H1 : Heap) (j : Nat), va_at D vwCl (a, .inr (ci, fs.set k v)) H1 → H1.size = H.size → (∀ q : Nat, q ≠ a → H1[q]? = H[q]?) → W p l e R s m args below meth c H1 (locs ++ [⟨a, j⟩]) cells slots F (F0 m (pc + 3) ls rest)) : W p l e R s m args below meth c H locs cells slots F (F0 m pc ls (v :: .ref a :: rest)) := by
  obtain ⟨hk, hin, hty, hnm, hlk⟩ := hf
  have hap := va_apart (own := own) hts hin ty0 hty hnm hK hc
  obtain ⟨r, h1, cell, q1, q2, q3, q4⟩ := hat
  have hr : r = (C, T, N) := Option.some.inj (h1.symm.trans hc)
  subst hr
  obtain ⟨hS, hfc, kC, hkC, hkind⟩ := hK.1 ci _ hc
  obtain ⟨cf, kf, fi, f, hi, hsl⟩ := hS k hk
  have hlay := hts _ (hin _ (u_in_lay hk))
  unfold u_lay at hlay
  rw [if_pos hfin] at hlay
  have hst := (u_facts hfc hkC (u_lays hts hin hk) hi).1
  have hcf : m.cls = cf := by
    obtain ⟨_, _, c', _, _, _, -, -, hf', -, -, -, hown2, -⟩ := Cond.laysFinal_spec hlay
    have e1 : c' = cf := by have := hi.symm.trans hf'; simp at this; exact this.1.symm
    rw [hdecl] at hown2
    rw [← e1]; exact Option.some.inj (hown.symm.trans hown2)
  have h6 := u_fits hfc hkC hkind (Or.inr hlay) hi (hty k hk) hn hfit
  have fin : ∀ H' : Heap, H'[a]? = some (cell.setSlot f.slot v) → H'.size = H.size → (∀ q, q ≠ a → H'[q]? = H[q]?) → W p l e R s m args below meth c H' (locs ++ [⟨a, f.slot⟩]) cells slots F (F0 m (pc + 3) ls rest) := by
    intro H' e1 e2 e3
    rw [hsl] at e1
    exact kk H' f.slot ⟨_, hc, t_OB.to (V := updV (vp_V fs) k v) ⟨_, e1, q2, q3, t_set q4 hap hk v⟩ (fun j _ => vp_updV_set hl9 v j)⟩ e2 e3
  exact W.putFinK hexec hb hown (hts _ hlf) hi hst hcf hin2 (by rw [q2]; exact h6) q1 q3 (by rw [hsl]; exact k2_hasslot (q4 k hk)) rfl rfl hdg fun H' e1 e2 e3 => fin H' e1 e2 e3
theorem g_get (X : Cx p s m args meth c D cy B od cc nL tab own ret) {ix : Nat} (hi : tab[i]? = some (pc, .getfield ix, 3, nx, tg)) {C : String} {T : u_T} {N : Nat} {ty0 : Nat → FieldType} {k : Nat} (hf : FLk own ix C T N ty0 k) {ci : Nat} (hc : vwCl[ci]? = some (C, T, N)) {a : Nat} {fs : List Value} (hA : A a = some (.inr (ci, fs))) {v : Value} (hv : fs[k]? = some v)
    (kk : G p l e R s m args below meth c D B od nL tab F cells slots A z nx lv (v :: st)) : G p l e R s m args below meth c D B od nL tab F cells slots A z i lv (.ref a :: st) := by
  intro q hq H locs ls hR hS hl
  cases Option.some.inj (hi.symm.trans hq)
  obtain ⟨q2, hq2, e2⟩ := X.2.2.2.1.fall hi rfl
  have K := kk q2 hq2 H locs ls hR hS hl
  rw [e2] at K
  obtain ⟨hk, hin, -, -, hlk⟩ := hf
  have hP : va_P D vwCl [(rho B od a, .inr (ci, fs.map (trV B od)))] H := va_P1 (hR.1 a _ hA).2
  rcases hlk with h | ⟨host, h⟩
  · exact va_get X.1.1 X.1.2.1 X.1.2.2.2.2 hin X.1.2.2.2.1 X.2.1 hP 0 rfl hc k hk (X.1.2.2.2.2 _ h) (fun _ h => h) (v := trV B od v) (by rw [List.getElem?_map, hv]; rfl) (X.2.2.2.1.dec hi) K
  · exact va_getN X.1.1 X.1.2.1 X.1.2.2.2.2 hin X.1.2.2.2.1 X.2.1 hP 0 rfl hc k hk (va_Nw.use rfl (X.2.2.1 _ h)) (fun _ h => h) (v := trV B od v) (by rw [List.getElem?_map, hv]; rfl) (X.2.2.2.1.dec hi) K
theorem va_Sput {a : Nat} {j : Nat} {H H1 : Heap} {locs : List Loc} (hS : va_S (fun q => B ≤ q) s.heap H locs) (ha : od a = none) (z : H1.size = H.size) (oq : ∀ q : Nat, q ≠ rho B od a → H1[q]? = H[q]?) : va_S (fun q => B ≤ q) s.heap H1 (locs ++ [⟨rho B od a, j⟩]) := hS.put z oq (by show B ≤ rho B od a; rw [rho_lo ha]; omega)
set_option maxHeartbeats 100000 in
theorem g_put (X : Cx p s m args meth c D cy B od cc nL tab own ret) {ix : Nat} (hi : tab[i]? = some (pc, .putfield ix, 3, nx, tg)) {C : String} {T : u_T} {N : Nat} {ty0 : Nat → FieldType} {k : Nat} (hf : FLk own ix C T N ty0 k) (hfin : (T k).2.2.2 = false) {ci : Nat} (hc : vwCl[ci]? = some (C, T, N)) {a : Nat} {fs : List Value} (hA : A a = some (.inr (ci, fs))) (hl9 : k < fs.length) {v : Value} (hn : narrow (ty0 k) (trV B od v) = trV B od v) (hfit : fits (ty0 k) (trV B od v) = true)
    (kk : G p l e R s m args below meth c D B od nL tab F cells slots (upA A a (.inr (ci, fs.set k v))) z nx lv st) : G p l e R s m args below meth c D B od nL tab F cells slots A z i lv (v :: .ref a :: st) := by
  intro q hq H locs ls hR hS hl
  cases Option.some.inj (hi.symm.trans hq)
  obtain ⟨q2, hq2, e2⟩ := X.2.2.2.1.fall hi rfl
  obtain ⟨hlt, hat⟩ := hR.1 a _ hA
  have hd : decode cc pc = .ok (.putfield ix, 3) := X.2.2.2.1.dec hi
  refine wv_put X.1.1 X.1.2.1 X.1.2.2.2.2 X.2.2.1 X.1.2.2.2.1 X.2.1 hf hfin hc (fs := fs.map (trV B od)) hat (by rw [List.length_map]; exact hl9) hn hfit hd (fun H1 j h1 z9 oq => ?_)
  have h2 : va_at D vwCl (rho B od a, trE B od (.inr (ci, fs.set k v))) H1 := by
    show va_at D vwCl (rho B od a, .inr (ci, (fs.set k v).map (trV B od))) H1
    rw [List.map_set]; exact h1
  have K := kk q2 hq2 H1 _ ls (hR.put hlt h2 z9 oq) (va_Sput (j := j) hS hlt z9 oq) hl
  rw [e2] at K
  exact K
set_option maxHeartbeats 100000 in
theorem g_putF (X : Cx p s m args meth c D cy B od cc nL tab own ret) {ix : Nat} (hi : tab[i]? = some (pc, .putfield ix, 3, nx, tg)) {C : String} {T : u_T} {N : Nat} {ty0 : Nat → FieldType} {k : Nat} (hf : FLk own ix C T N ty0 k) (hfin : (T k).2.2.2 = true) (hin2 : meth.name = "<init>") (hdecl : (T k).1 = own) (hlf : Cond.fieldLink own ix (T k).1 (T k).2.1 (T k).2.2.1 ∈ lw_good) {ci : Nat} (hc : vwCl[ci]? = some (C, T, N)) {a : Nat} {fs : List Value} (hA : A a = some (.inr (ci, fs))) (hl9 : k < fs.length) {v : Value} (hn : narrow (ty0 k) (trV B od v) = trV B od v) (hfit : fits (ty0 k) (trV B od v) = true)
    (kk : G p l e R s m args below meth c D B od nL tab F cells slots (upA A a (.inr (ci, fs.set k v))) z nx lv st) : G p l e R s m args below meth c D B od nL tab F cells slots A z i lv (v :: .ref a :: st) := by
  intro q hq H locs ls hR hS hl
  cases Option.some.inj (hi.symm.trans hq)
  obtain ⟨q2, hq2, e2⟩ := X.2.2.2.1.fall hi rfl
  obtain ⟨hlt, hat⟩ := hR.1 a _ hA
  have hd : decode cc pc = .ok (.putfield ix, 3) := X.2.2.2.1.dec hi
  refine wv_putF X.1.1 X.1.2.1 X.1.2.2.2.2 X.2.2.1 X.1.2.2.2.1 X.2.1 hf hfin hin2 hdecl hlf hc (fs := fs.map (trV B od)) hat (by rw [List.length_map]; exact hl9) hn hfit hd (fun H1 j h1 z9 oq => ?_)
  have h2 : va_at D vwCl (rho B od a, trE B od (.inr (ci, fs.set k v))) H1 := by
    show va_at D vwCl (rho B od a, .inr (ci, (fs.set k v).map (trV B od))) H1
    rw [List.map_set]; exact h1
  have K := kk q2 hq2 H1 _ ls (hR.put hlt h2 z9 oq) (va_Sput (j := j) hS hlt z9 oq) hl
  rw [e2] at K
  exact K
theorem g_iald (X : Cx p s m args meth c D cy B od cc nL tab own ret) (hi : tab[i]? = some (pc, .iaload, 1, nx, tg)) {a n : Nat} {f : Nat → Int32} {x : Int32} (hA : A a = some (.inl (cy 0, n, .inl f))) (hin : vp_in x n) (kk : G p l e R s m args below meth c D B od nL tab F cells slots A z nx lv (.int (f x.toNatClampNeg) :: st)) : G p l e R s m args below meth c D B od nL tab F cells slots A z i lv (.int x :: .ref a :: st) := by
  intro q hq H locs ls hR hS hl
  cases Option.some.inj (hi.symm.trans hq)
  obtain ⟨q2, hq2, e2⟩ := X.2.2.2.1.fall hi rfl
  have K := kk q2 hq2 H locs ls hR hS hl
  rw [e2] at K
  exact va_iald X.1.1 X.1.2.1 X.2.1 (va_P1 (hR.1 a _ hA).2) 0 0 rfl rfl hin (X.2.2.2.1.dec hi) K
theorem g_lald (X : Cx p s m args meth c D cy B od cc nL tab own ret) (hi : tab[i]? = some (pc, .laload, 1, nx, tg)) {a n : Nat} {f : Nat → Int64} {x : Int32} (hA : A a = some (.inl (cy 1, n, .inr (.inl f)))) (hin : vp_in x n) (kk : G p l e R s m args below meth c D B od nL tab F cells slots A z nx lv (.long (f x.toNatClampNeg) :: st)) : G p l e R s m args below meth c D B od nL tab F cells slots A z i lv (.int x :: .ref a :: st) := by
  intro q hq H locs ls hR hS hl
  cases Option.some.inj (hi.symm.trans hq)
  obtain ⟨q2, hq2, e2⟩ := X.2.2.2.1.fall hi rfl
  have K := kk q2 hq2 H locs ls hR hS hl
  rw [e2] at K
  exact va_lald X.1.1 X.1.2.1 X.2.1 (va_P1 (hR.1 a _ hA).2) 0 1 rfl rfl hin (X.2.2.2.1.dec hi) K
theorem g_zald (X : Cx p s m args meth c D cy B od cc nL tab own ret) (hi : tab[i]? = some (pc, .baload, 1, nx, tg)) {a n : Nat} {f : Nat → Int32} {x : Int32} (hA : A a = some (.inl (cy 2, n, .inl f))) (hin : vp_in x n) (kk : G p l e R s m args below meth c D B od nL tab F cells slots A z nx lv (.int (f x.toNatClampNeg) :: st)) : G p l e R s m args below meth c D B od nL tab F cells slots A z i lv (.int x :: .ref a :: st) := by
  intro q hq H locs ls hR hS hl
  cases Option.some.inj (hi.symm.trans hq)
  obtain ⟨q2, hq2, e2⟩ := X.2.2.2.1.fall hi rfl
  have K := kk q2 hq2 H locs ls hR hS hl
  rw [e2] at K
  exact va_zald X.1.1 X.1.2.1 X.2.1 (va_P1 (hR.1 a _ hA).2) 0 2 rfl rfl hin (X.2.2.2.1.dec hi) K
theorem g_aald (X : Cx p s m args meth c D cy B od cc nL tab own ret) (hi : tab[i]? = some (pc, .aaload, 1, nx, tg)) {a n b : Nat} {f : Nat → Option Nat} {x : Int32} (hA : A a = some (.inl (cy 4, n, .inr (.inr (.inr (.inr f)))))) (hin : vp_in x n) (hb : f x.toNatClampNeg = some b) (kk : G p l e R s m args below meth c D B od nL tab F cells slots A z nx lv (.ref b :: st)) : G p l e R s m args below meth c D B od nL tab F cells slots A z i lv (.int x :: .ref a :: st) := by
  intro q hq H locs ls hR hS hl
  cases Option.some.inj (hi.symm.trans hq)
  obtain ⟨q2, hq2, e2⟩ := X.2.2.2.1.fall hi rfl
  have K := kk q2 hq2 H locs ls hR hS hl
  rw [e2] at K
  refine va_aldq X.1.1 X.1.2.1 X.2.1 (va_P1 (hR.1 a _ hA).2) 0 4 rfl rfl hin (X.2.2.2.1.dec hi) ?_
  dsimp only
  rw [hb]
  exact K
theorem g_alen (X : Cx p s m args meth c D cy B od cc nL tab own ret) (hi : tab[i]? = some (pc, .arraylength, 1, nx, tg)) {a n t0 : Nat} {ty : FieldType} {x : (Nat → Int32) ⊕ (Nat → Int64)} (ht : (tysc cy)[t0]? = some (cy t0, ty)) (hA : A a = some (.inl (cy t0, n, x.elim (fun f => .inl f) (fun f => .inr (.inl f))))) (kk : G p l e R s m args below meth c D B od nL tab F cells slots A z nx lv (.int (nI n) :: st)) : G p l e R s m args below meth c D B od nL tab F cells slots A z i lv (.ref a :: st) := by
  intro q hq H locs ls hR hS hl
  cases Option.some.inj (hi.symm.trans hq)
  obtain ⟨q2, hq2, e2⟩ := X.2.2.2.1.fall hi rfl
  have K := kk q2 hq2 H locs ls hR hS hl
  rw [e2] at K
  rcases x with f | f
  · exact va_alen X.1.1 X.1.2.1 X.2.1 (va_P1 (hR.1 a _ hA).2) 0 t0 rfl ht rfl (X.2.2.2.1.dec hi) K
  · exact va_alen X.1.1 X.1.2.1 X.2.1 (va_P1 (hR.1 a _ hA).2) 0 t0 rfl ht rfl (X.2.2.2.1.dec hi) K
set_option maxHeartbeats 100000 in
theorem g_iast (X : Cx p s m args meth c D cy B od cc nL tab own ret) (hi : tab[i]? = some (pc, .iastore, 1, nx, tg)) {a n : Nat} {f : Nat → Int32} {x : Int32} {v : Int32} (hA : A a = some (.inl (cy 0, n, .inl (f)))) (hin : vp_in x n) 
    (kk : G p l e R s m args below meth c D B od nL tab F cells slots (upA A a (.inl (cy 0, n, .inl (upd f x.toNatClampNeg v)))) z nx lv st) : G p l e R s m args below meth c D B od nL tab F cells slots A z i lv (.int v :: .int x :: .ref a :: st) := by
  intro q hq H locs ls hR hS hl
  cases Option.some.inj (hi.symm.trans hq)
  obtain ⟨q2, hq2, e2⟩ := X.2.2.2.1.fall hi rfl
  obtain ⟨hlt, hat⟩ := hR.1 a _ hA
  have hd : decode cc pc = .ok (.iastore, 1) := X.2.2.2.1.dec hi
  have hat : H[rho B od a]? = some (vp_cell (cy 0) (n, .inl (f))) := hat
  refine wv_iast X.1.1 X.1.2.1 hat (X.2.1.2 0 _ rfl).1 hin hd (fun H1 h1 z9 oq => ?_)
  have h2 : va_at D vwCl (rho B od a, trE B od (.inl (cy 0, n, .inl (upd f x.toNatClampNeg v)))) H1 := h1
  have K := kk q2 hq2 H1 _ ls (hR.put hlt h2 z9 oq) (va_Sput (j := x.toNatClampNeg) hS hlt z9 oq) hl
  rw [e2] at K
  exact K
set_option maxHeartbeats 100000 in
theorem g_zast (X : Cx p s m args meth c D cy B od cc nL tab own ret) (hi : tab[i]? = some (pc, .bastore, 1, nx, tg)) {a n : Nat} {f : Nat → Int32} {x : Int32} {v : Int32} (hA : A a = some (.inl (cy 2, n, .inl (f)))) (hin : vp_in x n) (hv : v = 0 ∨ v = 1)
    (kk : G p l e R s m args below meth c D B od nL tab F cells slots (upA A a (.inl (cy 2, n, .inl (upd f x.toNatClampNeg v)))) z nx lv st) : G p l e R s m args below meth c D B od nL tab F cells slots A z i lv (.int v :: .int x :: .ref a :: st) := by
  intro q hq H locs ls hR hS hl
  cases Option.some.inj (hi.symm.trans hq)
  obtain ⟨q2, hq2, e2⟩ := X.2.2.2.1.fall hi rfl
  obtain ⟨hlt, hat⟩ := hR.1 a _ hA
  have hd : decode cc pc = .ok (.bastore, 1) := X.2.2.2.1.dec hi
  have hat : H[rho B od a]? = some (vp_cell (cy 2) (n, .inl (f))) := hat
  refine wv_zast X.1.1 X.1.2.1 hat (X.2.1.2 2 _ rfl).1 hin hv hd (fun H1 h1 z9 oq => ?_)
  have h2 : va_at D vwCl (rho B od a, trE B od (.inl (cy 2, n, .inl (upd f x.toNatClampNeg v)))) H1 := h1
  have K := kk q2 hq2 H1 _ ls (hR.put hlt h2 z9 oq) (va_Sput (j := x.toNatClampNeg) hS hlt z9 oq) hl
  rw [e2] at K
  exact K
set_option maxHeartbeats 100000 in
theorem g_last (X : Cx p s m args meth c D cy B od cc nL tab own ret) (hi : tab[i]? = some (pc, .lastore, 1, nx, tg)) {a n : Nat} {f : Nat → Int64} {x : Int32} {v : Int64} (hA : A a = some (.inl (cy 1, n, .inr (.inl (f))))) (hin : vp_in x n) 
    (kk : G p l e R s m args below meth c D B od nL tab F cells slots (upA A a (.inl (cy 1, n, .inr (.inl (vp_updL f x.toNatClampNeg v))))) z nx lv st) : G p l e R s m args below meth c D B od nL tab F cells slots A z i lv (.long v :: .int x :: .ref a :: st) := by
  intro q hq H locs ls hR hS hl
  cases Option.some.inj (hi.symm.trans hq)
  obtain ⟨q2, hq2, e2⟩ := X.2.2.2.1.fall hi rfl
  obtain ⟨hlt, hat⟩ := hR.1 a _ hA
  have hd : decode cc pc = .ok (.lastore, 1) := X.2.2.2.1.dec hi
  have hat : H[rho B od a]? = some (vp_cell (cy 1) (n, .inr (.inl (f)))) := hat
  refine wv_last X.1.1 X.1.2.1 hat (X.2.1.2 1 _ rfl).1 hin hd (fun H1 h1 z9 oq => ?_)
  have h2 : va_at D vwCl (rho B od a, trE B od (.inl (cy 1, n, .inr (.inl (vp_updL f x.toNatClampNeg v))))) H1 := h1
  have K := kk q2 hq2 H1 _ ls (hR.put hlt h2 z9 oq) (va_Sput (j := x.toNatClampNeg) hS hlt z9 oq) hl
  rw [e2] at K
  exact K
end CORE3
