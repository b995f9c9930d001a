/-! 35: fields under an inherited name; private methods of a superclass -/
/-- a field under a name that is inherited -/
def FLkR (own : String) (ix : Nat) (ref : String) (C : String) (T : u_T) (N : Nat) (ty0 : Nat → FieldType) (k : Nat) : Prop := k < N ∧ (∀ w ∈ u_ws C T N, w ∈ lw_good) ∧ (∀ k, k < N → parseFieldDescriptor (T k).2.2.1 = some (ty0 k)) ∧ (∀ a, a < N → ∀ b, b < N → a ≠ b → (T a).2.1 ≠ (T b).2.1) ∧ Cond.fieldLink own ix ref (T k).2.1 (T k).2.2.1 ∈ lw_good ∧ Cond.sameField ref (T k).1 (T k).2.1 (T k).2.2.1 ∈ lw_good
section CORE35
variable {p : Program} {l : Launch} {e : Env} {R : Room} {s : State} {m : MethodId} {args : Array Value} {below : List Frame} {meth : Method} {c : Code}
variable {D : va_G} {cy : Nat → ClassId} {B : Nat} {od : Nat → Option Nat} {cc : ByteArray} {nL : Nat} {tab : List PT} {own : String} {ret : Option FieldType}
variable {F : State → Prop} {cells slots : Nat} {A : AH} {z i pc len nx tg : Nat} {lv : List (Option Value)} {st : List Value}
theorem g_getR (X : Cx p s m args meth c D cy B od cc nL tab own ret) {ix : Nat} (hi : tab[i]? = some (pc, .getfield ix, 3, nx, tg)) {ref C : String} {T : u_T} {N : Nat} {ty0 : Nat → FieldType} {k : Nat} (hf : FLkR own ix ref C T N ty0 k) {ci : Nat} (hc : vwCl[ci]? = some (C, T, N)) {a : Nat} {fs : List Value} (hA : A a = some (.inr (ci, fs))) {v : Value} (hv : fs[k]? = some v)
    (kk : G p l e R s m args below meth c D B od nL tab F cells slots A z nx lv (v :: st)) : G p l e R s m args below meth c D B od nL tab F cells slots A z i lv (.ref a :: st) := by
  intro q hq H locs ls hR hS hl
  cases Option.some.inj (hi.symm.trans hq)
  obtain ⟨q2, hq2, e2⟩ := X.2.2.2.1.fall hi rfl
  have K := kk q2 hq2 H locs ls hR hS hl
  rw [e2] at K
  obtain ⟨hk, hin, -, -, hlk, hsm⟩ := hf
  have hP : va_P D vwCl [(rho B od a, .inr (ci, fs.map (trV B od)))] H := va_P1 (hR.1 a _ hA).2
  exact va_get X.1.1 X.1.2.1 X.1.2.2.2.2 hin X.1.2.2.2.1 X.2.1 hP 0 rfl hc k hk (X.1.2.2.2.2 _ hlk) (fun x h => u_same (X.1.2.2.2.2 _ hsm) x h) (v := trV B od v) (by rw [List.getElem?_map, hv]; rfl) (X.2.2.2.1.dec hi) K
set_option maxHeartbeats 200000 in
theorem g_putR (X : Cx p s m args meth c D cy B od cc nL tab own ret) {ix : Nat} (hi : tab[i]? = some (pc, .putfield ix, 3, nx, tg)) {ref C : String} {T : u_T} {N : Nat} {ty0 : Nat → FieldType} {k : Nat} (hf : FLkR own ix ref C T N ty0 k) (hfin : (T k).2.2.2 = false) {ci : Nat} (hc : vwCl[ci]? = some (C, T, N)) {a : Nat} {fs : List Value} (hA : A a = some (.inr (ci, fs))) (hl9 : k < fs.length) {v : Value} (hn : narrow (ty0 k) (trV B od v) = trV B od v) (hfit : fits (ty0 k) (trV B od v) = true)
    (kk : G p l e R s m args below meth c D B od nL tab F cells slots (upA A a (.inr (ci, fs.set k v))) z nx lv st) : G p l e R s m args below meth c D B od nL tab F cells slots A z i lv (v :: .ref a :: st) := by
  intro q hq H locs ls hR hS hl
  cases Option.some.inj (hi.symm.trans hq)
  obtain ⟨q2, hq2, e2⟩ := X.2.2.2.1.fall hi rfl
  obtain ⟨hlt, hat⟩ := hR.1 a _ hA
  have hd : decode cc pc = .ok (.putfield ix, 3) := X.2.2.2.1.dec hi
  obtain ⟨hk, hin, hty, hnm, hlk, hsm⟩ := hf
  have hap := va_apart (own := own) X.1.2.2.2.2 hin ty0 hty hnm X.2.1 hc
  obtain ⟨r, h1, cell, q1, q2', q3, q4⟩ := hat
  have hr : r = (C, T, N) := Option.some.inj (h1.symm.trans hc)
  subst hr
  obtain ⟨hS9, hfc, kC, hkC, hkind⟩ := X.2.1.1 ci _ hc
  obtain ⟨cf, kf, fi, f, hi9, hsl⟩ := hS9 k hk
  have hlay := X.1.2.2.2.2 _ (hin _ (u_in_lay hk))
  unfold u_lay at hlay
  rw [if_neg (by rw [hfin]; decide)] at hlay
  have hst := (u_facts hfc hkC (u_lays X.1.2.2.2.2 hin hk) hi9).1
  have h6 := u_store hfc hkC hkind hlay hi9 (hty k hk) hn hfit
  refine W.putK X.1.1 X.1.2.1 (f := f) ⟨X.1.2.2.2.1, X.1.2.2.2.2 _ hlk, ⟨_, _, _, u_same (X.1.2.2.2.2 _ hsm) _ hi9⟩, hst⟩ (by rw [q2']; exact h6) q1 q3 (by rw [hsl]; exact k2_hasslot (q4 k hk)) rfl rfl hd fun H1 e1 z9 oq => ?_
  rw [hsl] at e1
  have h2 : va_at D vwCl (rho B od a, trE B od (.inr (ci, fs.set k v))) H1 := by
    show va_at D vwCl (rho B od a, .inr (ci, (fs.set k v).map (trV B od))) H1
    rw [List.map_set]
    exact ⟨_, hc, t_OB.to (V := updV (vp_V (fs.map (trV B od))) k (trV B od v)) ⟨_, e1, q2', q3, t_set q4 hap hk (trV B od v)⟩ (fun j _ => vp_updV_set (by rw [List.length_map]; exact hl9) (trV B od v) j)⟩
  have K := kk q2 hq2 H1 _ ls (hR.put hlt h2 z9 oq) (va_Sput (j := f.slot) hS hlt z9 oq) hl
  rw [e2] at K
  exact K
end CORE35
/-- a private method is the one that is run, whatever object of a class below it stands there; some word tells that its class is no interface -/
theorem sel_priv {args : Array Value} {s : State} {C C0 : String} {y y0 x0 : MethodName} {n : Nat} (hC : (Cond.instantiable C n).before args s = true) (hy : y.cls ≠ "java/lang/invoke/MethodHandle" ∧ y.cls ≠ "java/lang/invoke/VarHandle") (hpriv : (Cond.privateMethod y).before args s = true) (hinst : (Cond.instanceMethod y).before args s = true) (h0 : (Cond.selects C0 x0 y0).before args s = true) (hy0 : y0.cls = y.cls) : (Cond.selects C y y).before args s = true := by
  obtain ⟨c, k, hc, hk, -, hniab, -, -⟩ := Cond.instantiable_spec hC
  obtain ⟨mk, methM, hnamed, hmethM, -, -⟩ := Cond.instanceMethod_spec hinst
  have hfound : s.methodFound? y.cls y.name y.desc = some mk := State.methodFound?_of_named hnamed hy
  have hsel : selectMethod {} s.vm c mk = .method mk := selectMethod_private hmethM (Cond.privateMethod_at hpriv mk methM hnamed hmethM)
  have hni : (s.vm.classes[mk.cls]?).any (fun x => !x.isInterface) = true := by
    simp only [Cond.before, Cond.holds, Cond.value] at h0
    cases h1 : s.vm.findClass C0 with
    | none => simp [h1] at h0
    | some c0 =>
      cases h2 : s.methodFound? x0.cls x0.name x0.desc with
      | none => simp [h1, h2] at h0
      | some r0 =>
        cases h3 : s.methodNamed? y0 with
        | none => simp [h1, h2, h3] at h0
        | some m0 =>
          have e : m0.cls = mk.cls := by
            have a1 := findClass_of_methodNamed h3
            have a2 := findClass_of_methodNamed hnamed
            rw [hy0] at a1
            exact Option.some.inj (a1.symm.trans a2)
          simp only [h1, h2, h3] at h0
          rw [← e]
          split at h0
          · simp at h0
            first | exact h0.2 | simpa using h0.2 | (have h9 := h0.2; simp; exact h9)
          · simp at h0
  simp only [Cond.before, Cond.holds, Cond.value, hc, hfound, hnamed, hsel]
  simp at hni ⊢
  exact hni
