/-! 33: heaps that grow; rules for lists, texts and the law -/
/-- what stands in A stands in A' -/
def HLe (A A' : AH) : Prop := ∀ k x, A k = some x → A' k = some x
/-- nothing from z on -/
def FRs (A : AH) (z : Nat) : Prop := ∀ k, z ≤ k → A k = none
theorem HLe.rf (A : AH) : HLe A A := fun _ _ h => h
theorem HLe.tr {A A1 A2 : AH} (h1 : HLe A A1) (h2 : HLe A1 A2) : HLe A A2 := fun k x h => h2 k x (h1 k x h)
theorem HLe.up {A0 A : AH} {q : Nat} {x : va_E} (h : HLe A0 A) (h0 : A0 q = none) : HLe A0 (upA A q x) := by
  intro k y hk
  unfold upA
  by_cases e : k = q
  · subst e; rw [h0] at hk; cases hk
  · rw [if_neg e]; exact h k y hk
theorem FRs.at {A : AH} {z : Nat} (h : FRs A z) : A z = none := h z (Nat.le_refl _)
theorem FRs.new {A : AH} {z : Nat} {x : va_E} (h : FRs A z) : FRs (upA A z x) (z + 1) := by
  intro k hk; unfold upA; rw [if_neg (by omega)]; exact h k (by omega)
theorem FRs.up {A : AH} {z q : Nat} {x : va_E} (h : FRs A z) (hq : q < z) : FRs (upA A q x) z := by
  intro k hk; unfold upA; rw [if_neg (by omega)]; exact h k hk
theorem FRs.lt {A : AH} {z k : Nat} {x : va_E} (h : FRs A z) (hk : A k = some x) : k < z := Nat.not_le.mp fun q => by rw [h k q] at hk; cases hk
theorem FRs.mono {A : AH} {z z' : Nat} (h : FRs A z) (hz : z ≤ z') : FRs A z' := fun k hk => h k (Nat.le_trans hz hk)
theorem upA_ne2 {A : AH} {k j : Nat} {x y z : va_E} (h : A j = some z) (hk : A k = some y) (hn : z ≠ y) : upA A k x j = some z := by
  unfold upA; rw [if_neg (fun e => by subst e; rw [h] at hk; cases hk; exact hn rfl)]; exact h
/-- a method that may make things, but leaves what stands there as it is; n: how many cells it makes at most -/
def CA (l : Launch) (D : va_G) (cy : Nat → ClassId) (B : Nat) (od : Nat → Option Nat) (y : MethodName) (bytes : ByteArray) (maxL : Nat) (rt : Option FieldType) (rm : Room) (av : List Value) (A : AH) (n : Nat) (Q : Option Value → AH → Prop) : Prop := ∀ z, FRs A z → z + n ≤ 900000 → CT l D cy B od y bytes maxL rt rm av A (z + 1) (fun v A' z' => Q v A' ∧ HLe A A' ∧ ∃ z1, z' = z1 + 1 ∧ z ≤ z1 ∧ z1 ≤ z + n ∧ FRs A' z1)
theorem CX.mono {l : Launch} {D : va_G} {cy : Nat → ClassId} {B : Nat} {od : Nat → Option Nat} {A : AH} {y : MethodName} {bytes : ByteArray} {maxL : Nat} {rt : Option FieldType} {rm : Room} {av : List Value} {Q Q2 : QT} {Qx Qx2 : QX} {z : Nat} (h : CX l D cy B od y bytes maxL rt rm av A z Q Qx) (hq : ∀ v A' z', Q v A' z' → Q2 v A' z') (hx : ∀ E A', Qx E A' → Qx2 E A') : CX l D cy B od y bytes maxL rt rm av A z Q2 Qx2 := MetFree.mono h (fun _ _ h => h) (fun _ _ _ _ _ h => h) (fun a s o t _ h => by
  rcases h with ⟨⟨⟨v, A', z', h1, h2, h3⟩, h4⟩, h5⟩ | ⟨q, h1, E, ce, L, ⟨⟨A', h2, h3⟩, h4⟩, h5⟩
  · exact Or.inl ⟨⟨⟨v, A', z', h1, hq _ _ _ h2, h3⟩, h4⟩, h5⟩
  · exact Or.inr ⟨q, h1, E, ce, L, ⟨⟨A', hx _ _ h2, h3⟩, h4⟩, h5⟩)
theorem CT.mono {l : Launch} {D : va_G} {cy : Nat → ClassId} {B : Nat} {od : Nat → Option Nat} {A : AH} {y : MethodName} {bytes : ByteArray} {maxL : Nat} {rt : Option FieldType} {rm : Room} {av : List Value} {Q Q2 : QT} {z : Nat} (h : CT l D cy B od y bytes maxL rt rm av A z Q) (hq : ∀ v A' z', Q v A' z' → Q2 v A' z') : CT l D cy B od y bytes maxL rt rm av A z Q2 := by
  unfold CT Met at h ⊢
  refine MetFree.mono h (fun _ _ h => h) (fun _ _ _ _ _ h => h) (fun a s o t _ h => ?_)
  obtain ⟨⟨⟨v, A', z', h1, h2, h3⟩, h4⟩, h5⟩ := h
  exact ⟨⟨⟨v, A', z', h1, hq _ _ _ h2, h3⟩, h4⟩, h5⟩
section CORE33
variable {p : Program} {l : Launch} {e : Env} {R : Room} {s : State} {m : MethodId} {args : Array Value} {below : List Frame} {meth : Method} {c : Code}
variable {D : va_G} {cy : Nat → ClassId} {B : Nat} {od : Nat → Option Nat} {cc : ByteArray} {nL : Nat} {tab : List PT} {own : String} {ret : Option FieldType}
variable {F : State → Prop} {cells slots : Nat} {A : AH} {z i pc len nx tg : Nat} {lv : List (Option Value)} {st : List Value}
theorem Cx.ox (X : Cx p s m args meth c D cy B od cc nL tab own ret) : OldX B od s s.heap := X.str.2.2.2.2.2
/-- how large the heap is, when it wasn't known -/
theorem g_fr (X : Cx p s m args meth c D cy B od cc nL tab own ret) (kk : ∀ z1, FRs A z1 → B + z1 ≤ s.heap.size + cells → s.heap.size ≤ B + z1 → (z = 0 ∨ z = z1 + 1) → G p l e R s m args below meth c D B od nL tab F cells slots A (z1 + 1) i lv st) : G p l e R s m args below meth c D B od nL tab F cells slots A z i lv st := by
  intro q hq H locs ls hR hS hl T hT XS
  have hBs : B ≤ s.heap.size := X.2.2.2.2.2.2.1
  have hb : H.size ≤ s.heap.size + cells := by rw [← hT]; exact XS.same.2.2.1
  have h1 : s.heap.size ≤ H.size := hS.1
  refine kk (H.size - B) (fun k hk => ?_) (by omega) (by omega) ?_ q hq H locs ls ⟨hR.1, fun _ => by omega⟩ hS hl T hT XS
  · cases hA : A k with
    | none => rfl
    | some x =>
      obtain ⟨h3, h4⟩ := hR.1 k x hA
      have h5 := h4.lt
      rw [show ((rho B od k, trE B od x) : Nat × va_E).1 = B + k from rho_lo h3] at h5
      omega
  · by_cases h0 : z = 0
    · exact Or.inl h0
    · have := hR.2 h0; exact Or.inr (by omega)
theorem g_dup_x1 (X : Cx p s m args meth c D cy B od cc nL tab own ret) {va vb : Value} (hi : tab[i]? = some (pc, .dup_x1, 1, nx, tg)) (hva : va.category = 1) (hvb : vb.category = 1) (kk : G p l e R s m args below meth c D B od nL tab F cells slots A z nx lv (va :: vb :: va :: st)) : G p l e R s m args below meth c D B od nL tab F cells slots A z i lv (va :: vb :: st) := by
  intro q hq H locs ls hR hS hl
  cases Option.some.inj (hi.symm.trans hq)
  obtain ⟨q2, hq2, e2⟩ := X.2.2.2.1.fall hi rfl
  have K := kk q2 hq2 H locs ls hR hS hl
  rw [e2] at K
  exact lv_dup_x1 X.1.1 X.1.2.1 (X.2.2.2.1.dec hi) ((trV_cat B od va).trans hva) ((trV_cat B od vb).trans hvb) K
theorem g_null (X : Cx p s m args meth c D cy B od cc nL tab own ret) (hi : tab[i]? = some (pc, .aconst_null, 1, nx, tg)) (kk : G p l e R s m args below meth c D B od nL tab F cells slots A z nx lv (.null :: st)) : G p l e R s m args below meth c D B od nL tab F cells slots A z i lv st := by
  intro q hq H locs ls hR hS hl
  cases Option.some.inj (hi.symm.trans hq)
  obtain ⟨q2, hq2, e2⟩ := X.2.2.2.1.fall hi rfl
  have K := kk q2 hq2 H locs ls hR hS hl
  rw [e2] at K
  exact lv_null X.1.1 X.1.2.1 (X.2.2.2.1.dec hi) K
theorem g_i2b (X : Cx p s m args meth c D cy B od cc nL tab own ret) {x : Int32} (hi : tab[i]? = some (pc, .i2b, 1, nx, tg)) (kk : G p l e R s m args below meth c D B od nL tab F cells slots A z nx lv (.int x.toInt8.toInt32 :: st)) : G p l e R s m args below meth c D B od nL tab F cells slots A z i lv (.int x :: st) := by
  intro q hq H locs ls hR hS hl
  cases Option.some.inj (hi.symm.trans hq)
  obtain ⟨q2, hq2, e2⟩ := X.2.2.2.1.fall hi rfl
  have K := kk q2 hq2 H locs ls hR hS hl
  rw [e2] at K
  exact lv_i2b X.1.1 X.1.2.1 (X.2.2.2.1.dec hi) rfl K
theorem g_ifnonnull (X : Cx p s m args meth c D cy B od cc nL tab own ret) {d : Int} {x : Nat} (hi : tab[i]? = some (pc, .ifnonnull d, 3, nx, tg)) (kk : G p l e R s m args below meth c D B od nL tab F cells slots A z tg lv st) : G p l e R s m args below meth c D B od nL tab F cells slots A z i lv (.ref x :: st) := by
  intro q hq H locs ls hR hS hl
  cases Option.some.inj (hi.symm.trans hq)
  obtain ⟨q3, hq3, e3⟩ := X.2.2.2.1.br hi rfl
  exact lv_ifnonnull X.1.1 X.1.2.1 (X.2.2.2.1.dec hi) e3 (kk q3 hq3 H locs ls hR hS hl)
/-- the same reference twice -/
theorem g_acmp_eqT (X : Cx p s m args meth c D cy B od cc nL tab own ret) {d : Int} {x : Nat} (hi : tab[i]? = some (pc, .if_acmp .eq d, 3, nx, tg)) (kk : G p l e R s m args below meth c D B od nL tab F cells slots A z tg lv st) : G p l e R s m args below meth c D B od nL tab F cells slots A z i lv (.ref x :: .ref x :: st) := by
  intro q hq H locs ls hR hS hl
  cases Option.some.inj (hi.symm.trans hq)
  obtain ⟨q3, hq3, e3⟩ := X.2.2.2.1.br hi rfl
  exact lv_acmp_eq (rx := some (rho B od x)) (ry := some (rho B od x)) X.1.1 X.1.2.1 (X.2.2.2.1.dec hi) e3 (fun _ => kk q3 hq3 H locs ls hR hS hl) (fun h => absurd rfl h)
theorem g_acmp_neF (X : Cx p s m args meth c D cy B od cc nL tab own ret) {d : Int} {x : Nat} (hi : tab[i]? = some (pc, .if_acmp .ne d, 3, nx, tg)) (kk : G p l e R s m args below meth c D B od nL tab F cells slots A z nx lv st) : G p l e R s m args below meth c D B od nL tab F cells slots A z i lv (.ref x :: .ref x :: st) := by
  intro q hq H locs ls hR hS hl
  cases Option.some.inj (hi.symm.trans hq)
  obtain ⟨q2, hq2, e2⟩ := X.2.2.2.1.fall hi rfl
  obtain ⟨q3, hq3, e3⟩ := X.2.2.2.1.br hi rfl
  have K := kk q2 hq2 H locs ls hR hS hl
  rw [e2] at K
  exact lv_acmp_ne (rx := some (rho B od x)) (ry := some (rho B od x)) X.1.1 X.1.2.1 (X.2.2.2.1.dec hi) e3 (fun h => absurd rfl h) (fun _ => K)
/-- a static of the machine's own -/
theorem g_gst (X : Cx p s m args meth c D cy B od cc nL tab own ret) {ix : Nat} {C n d : String} {v : Value} (hi : tab[i]? = some (pc, .getstatic ix, 3, nx, tg)) (hw : Cond.fieldLink own ix C n d ∈ lw_good) (hZ : va_Z C n d (trV B od v) (fun q => B ≤ q) s s.heap) (kk : G p l e R s m args below meth c D B od nL tab F cells slots A z nx lv (v :: st)) : G p l e R s m args below meth c D B od nL tab F cells slots A z i lv st := by
  intro q hq H locs ls hR hS hl
  cases Option.some.inj (hi.symm.trans hq)
  obtain ⟨q2, hq2, e2⟩ := X.2.2.2.1.fall hi rfl
  have K := kk q2 hq2 H locs ls hR hS hl
  rw [e2] at K
  exact va_gets X.1.1 X.1.2.1 hZ hS X.1.2.2.2.1 (X.1.2.2.2.2 _ hw) (fun _ h => h) (X.2.2.2.1.dec hi) K
theorem Cx.zE (X : Cx p s m args meth c D cy B od cc nL tab own ret) : va_Z "java/util/ArrayList" "DEFAULTCAPACITY_EMPTY_ELEMENTDATA" "[Ljava/lang/Object;" (trV B od (.ref 3000001)) (fun q => B ≤ q) s s.heap := by
  obtain ⟨a, h1, h2, -⟩ := X.ox.2.2.2.2.2.1
  show va_Z _ _ _ (.ref (rho B od 3000001)) _ _ _
  rw [rho_od h1]; exact h2
theorem Cx.zC (X : Cx p s m args meth c D cy B od cc nL tab own ret) : va_Z "java/lang/Integer$IntegerCache" "cache" "[Ljava/lang/Integer;" (trV B od (.ref 3000002)) (fun q => B ≤ q) s s.heap := by
  obtain ⟨-, a, h1, h2, -⟩ := X.ox.2.2.2.2.2.2.1
  show va_Z _ _ _ (.ref (rho B od 3000002)) _ _ _
  rw [rho_od h1]; exact h2
theorem Cx.zH (X : Cx p s m args meth c D cy B od cc nL tab own ret) : va_Z "java/lang/Integer$IntegerCache" "high" "I" (trV B od (.int (nI 127))) (fun q => B ≤ q) s s.heap := X.ox.2.2.2.2.2.2.1.1
theorem Cx.zO (X : Cx p s m args meth c D cy B od cc nL tab own ret) : va_Z "java/lang/Integer" "DigitOnes" "[B" (trV B od (.ref 3000003)) (fun q => B ≤ q) s s.heap := by
  obtain ⟨a, h1, h2, -⟩ := X.ox.2.2.2.2.2.2.2.1
  show va_Z _ _ _ (.ref (rho B od 3000003)) _ _ _
  rw [rho_od h1]; exact h2
theorem Cx.zT (X : Cx p s m args meth c D cy B od cc nL tab own ret) : va_Z "java/lang/Integer" "DigitTens" "[B" (trV B od (.ref 3000004)) (fun q => B ≤ q) s s.heap := by
  obtain ⟨a, h1, h2, -⟩ := X.ox.2.2.2.2.2.2.2.2.1
  show va_Z _ _ _ (.ref (rho B od 3000004)) _ _ _
  rw [rho_od h1]; exact h2
/-- the empty list's array has no places -/
theorem g_elen (X : Cx p s m args meth c D cy B od cc nL tab own ret) (hi : tab[i]? = some (pc, .arraylength, 1, nx, tg)) (kk : G p l e R s m args below meth c D B od nL tab F cells slots A z nx lv (.int (nI 0) :: st)) : G p l e R s m args below meth c D B od nL tab F cells slots A z i lv (.ref 3000001 :: st) := by
  intro q hq H locs ls hR hS hl
  cases Option.some.inj (hi.symm.trans hq)
  obtain ⟨q2, hq2, e2⟩ := X.2.2.2.1.fall hi rfl
  have K := kk q2 hq2 H locs ls hR hS hl
  rw [e2] at K
  obtain ⟨a, h1, -, h3, -⟩ := X.ox.2.2.2.2.2.1
  show W p l e R s m args below meth c H locs cells slots F (F0 m pc ls (.ref (rho B od 3000001) :: st.map (trV B od)))
  rw [rho_od h1]
  exact va_tlen X.1.1 X.1.2.1 h3 hS rfl (X.2.2.2.1.dec hi) K
/-- a row of digits -/
theorem g_dgO (X : Cx p s m args meth c D cy B od cc nL tab own ret) {k : Nat} (hk : k < 100) (hi : tab[i]? = some (pc, .baload, 1, nx, tg)) (kk : G p l e R s m args below meth c D B od nL tab F cells slots A z nx lv (.int (dgO k) :: st)) : G p l e R s m args below meth c D B od nL tab F cells slots A z i lv (.int (nI k) :: .ref 3000003 :: st) := by
  intro q hq H locs ls hR hS hl
  cases Option.some.inj (hi.symm.trans hq)
  obtain ⟨q2, hq2, e2⟩ := X.2.2.2.1.fall hi rfl
  have K := kk q2 hq2 H locs ls hR hS hl
  rw [e2] at K
  obtain ⟨a, h1, -, h3⟩ := X.ox.2.2.2.2.2.2.2.1
  show W p l e R s m args below meth c H locs cells slots F (F0 m pc ls (.int (nI k) :: .ref (rho B od 3000003) :: st.map (trV B od)))
  rw [rho_od h1]
  exact va_tb X.1.1 X.1.2.1 h3 hS (vp_in_nI hk (by decide)) (by rw [nI_clamp (by omega)]; rfl) (X.2.2.2.1.dec hi) K
theorem g_dgT (X : Cx p s m args meth c D cy B od cc nL tab own ret) {k : Nat} (hk : k < 100) (hi : tab[i]? = some (pc, .baload, 1, nx, tg)) (kk : G p l e R s m args below meth c D B od nL tab F cells slots A z nx lv (.int (dgT k) :: st)) : G p l e R s m args below meth c D B od nL tab F cells slots A z i lv (.int (nI k) :: .ref 3000004 :: st) := by
  intro q hq H locs ls hR hS hl
  cases Option.some.inj (hi.symm.trans hq)
  obtain ⟨q2, hq2, e2⟩ := X.2.2.2.1.fall hi rfl
  have K := kk q2 hq2 H locs ls hR hS hl
  rw [e2] at K
  obtain ⟨a, h1, -, h3⟩ := X.ox.2.2.2.2.2.2.2.2.1
  show W p l e R s m args below meth c H locs cells slots F (F0 m pc ls (.int (nI k) :: .ref (rho B od 3000004) :: st.map (trV B od)))
  rw [rho_od h1]
  exact va_tb X.1.1 X.1.2.1 h3 hS (vp_in_nI hk (by decide)) (by rw [nI_clamp (by omega)]; rfl) (X.2.2.2.1.dec hi) K
/-- a cached box -/
theorem g_cache (X : Cx p s m args meth c D cy B od cc nL tab own ret) {k : Nat} (hk : k < 256) (hi : tab[i]? = some (pc, .aaload, 1, nx, tg)) (kk : G p l e R s m args below meth c D B od nL tab F cells slots A z nx lv (.ref (3001000 + k) :: st)) : G p l e R s m args below meth c D B od nL tab F cells slots A z i lv (.int (nI k) :: .ref 3000002 :: st) := by
  intro q hq H locs ls hR hS hl
  cases Option.some.inj (hi.symm.trans hq)
  obtain ⟨q2, hq2, e2⟩ := X.2.2.2.1.fall hi rfl
  have K := kk q2 hq2 H locs ls hR hS hl
  rw [e2] at K
  obtain ⟨-, a, h1, -, ad, h4, h5, -⟩ := X.ox.2.2.2.2.2.2.1
  have K2 : W p l e R s m args below meth c H locs cells slots F (F0 m (pc + 1) ls (.ref (rho B od (3001000 + k)) :: st.map (trV B od))) := K
  rw [rho_od (h4 k hk)] at K2
  show W p l e R s m args below meth c H locs cells slots F (F0 m pc ls (.int (nI k) :: .ref (rho B od 3000002) :: st.map (trV B od)))
  rw [rho_od h1]
  exact vb_tq X.1.1 X.1.2.1 h5 hS (vp_in_nI hk (by decide)) (by rw [nI_clamp (by omega)]) (X.2.2.2.1.dec hi) K2
/-- what a cached box holds -/
theorem g_cval (X : Cx p s m args meth c D cy B od cc nL tab own ret) {k ix : Nat} (hk : k < 256) (hi : tab[i]? = some (pc, .getfield ix, 3, nx, tg)) (hw : Cond.fieldLink own ix "java/lang/Integer" "value" "I" ∈ lw_good) (kk : G p l e R s m args below meth c D B od nL tab F cells slots A z nx lv (.int (vb_c k) :: st)) : G p l e R s m args below meth c D B od nL tab F cells slots A z i lv (.ref (3001000 + k) :: st) := by
  intro q hq H locs ls hR hS hl
  cases Option.some.inj (hi.symm.trans hq)
  obtain ⟨q2, hq2, e2⟩ := X.2.2.2.1.fall hi rfl
  have K := kk q2 hq2 H locs ls hR hS hl
  rw [e2] at K
  obtain ⟨-, a, h1, -, ad, h4, h5, h6⟩ := X.ox.2.2.2.2.2.2.1
  show W p l e R s m args below meth c H locs cells slots F (F0 m pc ls (.ref (rho B od (3001000 + k)) :: st.map (trV B od)))
  rw [rho_od (h4 k hk)]
  exact va_getX (i := k) (v := fun k => .int (vb_c k)) X.1.1 X.1.2.1 h6.2 hk hS X.1.2.2.2.1 (X.1.2.2.2.2 _ hw) (fun _ h => h) (X.2.2.2.1.dec hi) K
-- arrays of objects
theorem g_alenq (X : Cx p s m args meth c D cy B od cc nL tab own ret) (hi : tab[i]? = some (pc, .arraylength, 1, nx, tg)) {a n : Nat} {f : Nat → Option Nat} (hA : A a = some (.inl (cy 5, n, .inr (.inr (.inr (.inr f)))))) (kk : G p l e R s m args below meth c D B od nL tab F cells slots A z nx lv (.int (nI n) :: st)) : G p l e R s m args below meth c D B od nL tab F cells slots A z i lv (.ref a :: st) := by
  intro q hq H locs ls hR hS hl
  cases Option.some.inj (hi.symm.trans hq)
  obtain ⟨q2, hq2, e2⟩ := X.2.2.2.1.fall hi rfl
  have K := kk q2 hq2 H locs ls hR hS hl
  rw [e2] at K
  exact va_alen X.1.1 X.1.2.1 X.2.1 (va_P1 (hR.1 a _ hA).2) 0 5 rfl rfl rfl (X.2.2.2.1.dec hi) K
theorem g_alenb (X : Cx p s m args meth c D cy B od cc nL tab own ret) (hi : tab[i]? = some (pc, .arraylength, 1, nx, tg)) {a n : Nat} {f : Nat → Int32} (hA : A a = some (.inl (cy 3, n, .inl f))) (kk : G p l e R s m args below meth c D B od nL tab F cells slots A z nx lv (.int (nI n) :: st)) : G p l e R s m args below meth c D B od nL tab F cells slots A z i lv (.ref a :: st) := by
  intro q hq H locs ls hR hS hl
  cases Option.some.inj (hi.symm.trans hq)
  obtain ⟨q2, hq2, e2⟩ := X.2.2.2.1.fall hi rfl
  have K := kk q2 hq2 H locs ls hR hS hl
  rw [e2] at K
  exact va_alen X.1.1 X.1.2.1 X.2.1 (va_P1 (hR.1 a _ hA).2) 0 3 rfl rfl rfl (X.2.2.2.1.dec hi) K
theorem g_aaldO (X : Cx p s m args meth c D cy B od cc nL tab own ret) (hi : tab[i]? = some (pc, .aaload, 1, nx, tg)) {a n b k : Nat} {f : Nat → Option Nat} (hA : A a = some (.inl (cy 5, n, .inr (.inr (.inr (.inr f)))))) (hk : k < n) (hn : n < 2 ^ 31) (hb : f k = some b) (kk : G p l e R s m args below meth c D B od nL tab F cells slots A z nx lv (.ref b :: st)) : G p l e R s m args below meth c D B od nL tab F cells slots A z i lv (.int (nI k) :: .ref a :: st) := by
  intro q hq H locs ls hR hS hl
  cases Option.some.inj (hi.symm.trans hq)
  obtain ⟨q2, hq2, e2⟩ := X.2.2.2.1.fall hi rfl
  have K := kk q2 hq2 H locs ls hR hS hl
  rw [e2] at K
  refine va_aldq X.1.1 X.1.2.1 X.2.1 (va_P1 (hR.1 a _ hA).2) 0 5 rfl rfl (vp_in_nI hk hn) (X.2.2.2.1.dec hi) ?_
  dsimp only
  rw [nI_clamp (by omega), hb]
  exact K
theorem g_anewO (X : Cx p s m args meth c D cy B od cc nL tab own ret) {ix : Nat} (hi : tab[i]? = some (pc, .anewarray ix, 3, nx, tg)) (hw : Cond.classLink own ix "java/lang/Object" ∈ lw_good) {x : Int32} {N : Nat} (hx : ¬ x < 0) (hN : x.toNatClampNeg = N) (hbytes : N * 4 ≤ 536870912) (hz : z < 1000000) (hcells : cells + 1 ≤ R.cells) (hslots : slots + N ≤ R.slots)
    (kk : G p l e R s m args below meth c D B od nL tab F (cells + 1) (slots + N) (upA A z (.inl (cy 5, N, .inr (.inr (.inr (.inr (fun _ => none))))))) (z + 2) nx lv (.ref z :: st)) : G p l e R s m args below meth c D B od nL tab F cells slots A (z + 1) i lv (.int x :: st) := by
  intro q hq H locs ls hR hS hl
  cases Option.some.inj (hi.symm.trans hq)
  obtain ⟨q2, hq2, e2⟩ := X.2.2.2.1.fall hi rfl
  subst hN
  refine W.anew X.1.1 X.1.2.1 X.1.2.2.2.1 (X.1.2.2.2.2 _ hw) (va_AO.use X.ox.1) rfl (X.2.2.2.1.dec hi) rfl hx hbytes hcells hslots fun cA kA comp f1 f2 f3 f4 => ?_
  generalize hH1 : H.push ({ cls := cA, slots := Array.replicate x.toNatClampNeg .null, vm := .none } : Cell) = H1
  have z1 : H1.size = H.size + 1 := by rw [← hH1, Array.size_push]
  have e1 : H1[H.size]? = some (arrV cA x.toNatClampNeg (fun _ => .null)) := by rw [← hH1, Array.getElem?_push_size, ← arrV_new]
  have o1 : ∀ q : Nat, q < H.size → H1[q]? = H[q]? := fun q hq => by rw [← hH1, Array.getElem?_push, if_neg (Nat.ne_of_lt hq)]
  obtain ⟨kB, cmp, b1, b2, b3, b4⟩ := (X.2.1.2 5 _ rfl).2
  have hcA : cA = cy 5 := Option.some.inj (f1.symm.trans b4)
  have hat : va_at D vwCl (H.size, trE B od (.inl (cy 5, x.toNatClampNeg, .inr (.inr (.inr (.inr (fun _ => none))))))) H1 := by
    show H1[H.size]? = some (vp_cell (cy 5) (x.toNatClampNeg, .inr (.inr (.inr (.inr (fun _ => none))))))
    rw [e1, hcA, vp_cell_q]
    rfl
  obtain ⟨hR2, hr⟩ := hR.push (X.od0 hz) hat z1 o1
  have K := kk q2 hq2 H1 locs ls hR2 (va_Spush hS z1 o1) hl
  rw [e2] at K
  rw [hr]
  exact K
/-- what may be put into an array of objects -/
def ObjA (cy : Nat → ClassId) (A : AH) (b : Nat) : Prop := (∃ n f, A b = some (.inl (cy 0, n, .inl f))) ∨ (∃ fs, A b = some (.inr (8, fs))) ∨ (∃ fs, A b = some (.inr (11, fs))) ∨ ∃ k, k < 256 ∧ b = 3001000 + k
theorem ObjA.le {A A' : AH} {b : Nat} (h : ObjA cy A b) (hl : HLe A A') : ObjA cy A' b := by
  rcases h with ⟨n, f, h⟩ | ⟨fs, h⟩ | ⟨fs, h⟩ | h
  · exact Or.inl ⟨n, f, hl _ _ h⟩
  · exact Or.inr (Or.inl ⟨fs, hl _ _ h⟩)
  · exact Or.inr (Or.inr (Or.inl ⟨fs, hl _ _ h⟩))
  · exact Or.inr (Or.inr (Or.inr h))
theorem ObjA.cell (X : Cx p s m args meth c D cy B od cc nL tab own ret) {H : Heap} {locs : List Loc} (hR : RelA D B od A z H) (hS : va_S (fun q => B ≤ q) s.heap H locs) {b : Nat} (h : ObjA cy A b) : ∃ (C : String) (cellV : Cell), H[rho B od b]? = some cellV ∧ cellV.vm.isStatics = false ∧ s.vm.findClass C = some cellV.cls ∧ va_Nw (.castable C "java/lang/Object") s := by
  rcases h with ⟨n, f, h⟩ | ⟨fs, h⟩ | ⟨fs, h⟩ | ⟨k, hk, rfl⟩
  · have h1 : H[rho B od b]? = some (vp_cell (cy 0) (n, .inl f)) := (hR.1 b _ h).2
    have h2 : s.vm.findClass "[I" = some (cy 0) := tysc_cls (t0 := 0) (ty := .int) X.2.1 rfl
    exact ⟨"[I", _, h1, rfl, h2, X.ox.2.1 ("[I", "java/lang/Object") (by simp [castL])⟩
  · obtain ⟨cell, h1, h2, h3⟩ := recv (C := RX8) (T := TX8) (N := 10) X hR h rfl
    exact ⟨_, cell, h1, h2, h3, X.ox.2.1 ("CashLedgerLaw$Book", "java/lang/Object") (by simp [castL])⟩
  · obtain ⟨cell, h1, h2, h3⟩ := recv (C := RJ6) (T := TJ6) (N := 1) X hR h rfl
    exact ⟨_, cell, h1, h2, h3, X.ox.2.1 ("java/lang/Integer", "java/lang/Object") (by simp [castL])⟩
  · obtain ⟨-, a, h1, -, ad, h4, h5, h6⟩ := X.ox.2.2.2.2.2.2.1
    obtain ⟨cell, g1, g2, g3⟩ := va_Orecv (h6.1 k hk) hS
    exact ⟨_, cell, by rw [rho_od (h4 k hk)]; exact g1, g2, g3, X.ox.2.1 ("java/lang/Integer", "java/lang/Object") (by simp [castL])⟩
theorem g_aastO (X : Cx p s m args meth c D cy B od cc nL tab own ret) (hi : tab[i]? = some (pc, .aastore, 1, nx, tg)) {a n b k : Nat} {f : Nat → Option Nat} (hA : A a = some (.inl (cy 5, n, .inr (.inr (.inr (.inr f)))))) (hb : ObjA cy A b) (hk : k < n) (hn : n < 2 ^ 31)
    (kk : G p l e R s m args below meth c D B od nL tab F cells slots (upA A a (.inl (cy 5, n, .inr (.inr (.inr (.inr (va_up f k (some b)))))))) z nx lv st) : G p l e R s m args below meth c D B od nL tab F cells slots A z i lv (.ref b :: .int (nI k) :: .ref a :: st) := by
  intro q hq H locs ls hR hS hl
  cases Option.some.inj (hi.symm.trans hq)
  obtain ⟨q2, hq2, e2⟩ := X.2.2.2.1.fall hi rfl
  obtain ⟨hlt, hat⟩ := hR.1 a _ hA
  obtain ⟨C, cellV, g1, g3, g2, hca⟩ := hb.cell X hR hS
  have hin : vp_in (nI k) n := vp_in_nI hk hn
  have hlt9 : (nI k).toNatClampNeg < n := Nat.not_le.mp fun q => hin (Or.inr q)
  have h0 : ¬ nI k < 0 := fun q => hin (Or.inl q)
  obtain ⟨kA, comp, k1, k2, k3, -⟩ := (X.2.1.2 5 _ rfl).2
  obtain ⟨kE, hkE, -⟩ := Vm.findClass_spec k3
  obtain ⟨kC, hkC, -⟩ := Vm.findClass_spec g2
  have hat2 : H[rho B od a]? = some (vp_cell (cy 5) (n, .inr (.inr (.inr (.inr (fun j => (f j).map (rho B od))))))) := hat
  refine W.aast X.1.1 X.1.2.1 hat2 (fun q h => by cases h) (fun h => by cases h) k1 k2 rfl hkE ⟨h0, by show _ < (arrV _ _ _).slots.size; rw [arrV_size]; exact hlt9⟩ g1 (fun q h => by rw [h] at g3; cases g3) hkC (vb_asgC hca _ _ k3 g2) rfl rfl (X.2.2.2.1.dec hi) fun H1 e9 z9 oq => ?_
  have h2 : va_at D vwCl (rho B od a, trE B od (.inl (cy 5, n, .inr (.inr (.inr (.inr (va_up f k (some b)))))))) H1 := by
    show H1[rho B od a]? = some (vp_cell (cy 5) (n, .inr (.inr (.inr (.inr (fun j => (va_up f k (some b) j).map (rho B od)))))))
    rw [e9]
    rw [vp_cell_q, vp_cell_q, arrV_store, nI_clamp (by omega)]
    congr 2
    funext q
    by_cases hq : q = k
    · subst hq
      simp [updV, va_up, va_rf]
    · simp [updV, va_up, hq]
  have K := kk q2 hq2 H1 _ ls (hR.put hlt h2 z9 oq) (va_Sput (j := (nI k).toNatClampNeg) hS hlt z9 oq) hl
  rw [e2] at K
  exact K
theorem g_aastN (X : Cx p s m args meth c D cy B od cc nL tab own ret) (hi : tab[i]? = some (pc, .aastore, 1, nx, tg)) {a n k : Nat} {f : Nat → Option Nat} (hA : A a = some (.inl (cy 5, n, .inr (.inr (.inr (.inr f)))))) (hk : k < n) (hn : n < 2 ^ 31)
    (kk : G p l e R s m args below meth c D B od nL tab F cells slots (upA A a (.inl (cy 5, n, .inr (.inr (.inr (.inr (va_up f k none))))))) z nx lv st) : G p l e R s m args below meth c D B od nL tab F cells slots A z i lv (.null :: .int (nI k) :: .ref a :: st) := by
  intro q hq H locs ls hR hS hl
  cases Option.some.inj (hi.symm.trans hq)
  obtain ⟨q2, hq2, e2⟩ := X.2.2.2.1.fall hi rfl
  obtain ⟨hlt, hat⟩ := hR.1 a _ hA
  have hin : vp_in (nI k) n := vp_in_nI hk hn
  have hat2 : H[rho B od a]? = some (vp_cell (cy 5) (n, .inr (.inr (.inr (.inr (fun j => (f j).map (rho B od))))))) := hat
  refine va_WaastN (C := "java/lang/Object") X.1.1 X.1.2.1 hat2 ((X.2.1.2 5 _ rfl).1 n (fun j => va_rf ((f j).map (rho B od)))) (fun h => by cases h) (by show ¬ (nI k < 0 ∨ (arrV _ _ _).slots.size ≤ _); rw [arrV_size]; exact hin) rfl rfl (X.2.2.2.1.dec hi) fun H1 e9 z9 oq => ?_
  have h2 : va_at D vwCl (rho B od a, trE B od (.inl (cy 5, n, .inr (.inr (.inr (.inr (va_up f k none))))))) H1 := by
    show H1[rho B od a]? = some (vp_cell (cy 5) (n, .inr (.inr (.inr (.inr (fun j => (va_up f k none j).map (rho B od)))))))
    rw [e9]
    rw [vp_cell_q, vp_cell_q, arrV_store, nI_clamp (by omega)]
    congr 2
    funext q
    by_cases hq : q = k
    · subst hq
      simp [updV, va_up, va_rf]
    · simp [updV, va_up, hq]
  have K := kk q2 hq2 H1 _ ls (hR.put hlt h2 z9 oq) (va_Sput (j := (nI k).toNatClampNeg) hS hlt z9 oq) hl
  rw [e2] at K
  exact K
-- bytes
theorem g_newab (X : Cx p s m args meth c D cy B od cc nL tab own ret) (hi : tab[i]? = some (pc, .newarray .byte, 2, nx, tg)) (hw : Cond.arrayClass .byte ∈ lw_good) {x : Int32} {N : Nat} (hx : ¬ x < 0) (hN : x.toNatClampNeg = N) (hbytes : N * 1 ≤ 536870912) (hz : z < 1000000) (hcells : cells + 1 ≤ R.cells) (hslots : slots + N ≤ R.slots)
    (kk : G p l e R s m args below meth c D B od nL tab F (cells + 1) (slots + N) (upA A z (.inl (cy 3, N, .inl (fun _ => 0)))) (z + 2) nx lv (.ref z :: st)) : G p l e R s m args below meth c D B od nL tab F cells slots A (z + 1) i lv (.int x :: st) := by
  intro q hq H locs ls hR hS hl
  cases Option.some.inj (hi.symm.trans hq)
  obtain ⟨q2, hq2, e2⟩ := X.2.2.2.1.fall hi rfl
  refine va_newaK (atype := .byte) X.1.1 X.1.2.1 (X.1.2.2.2.2 _ hw) rfl (X.2.2.2.1.dec hi) rfl hx hN hbytes hcells hslots rfl fun H1 cA e1 z1 o1 hAr hNm => ?_
  have hcA : cA = cy 3 := Option.some.inj (hNm.symm.trans (tysc_cls (t0 := 3) (ty := .byte) X.2.1 rfl))
  have hat : va_at D vwCl (H.size, trE B od (.inl (cy 3, N, .inl (fun _ => 0)))) H1 := by
    show H1[H.size]? = some (vp_cell (cy 3) (N, .inl (fun _ => 0)))
    rw [← hcA]; exact e1
  obtain ⟨hR2, hr⟩ := hR.push (X.od0 hz) hat z1 o1
  have K := kk q2 hq2 H1 locs ls hR2 (va_Spush hS z1 o1) hl
  rw [e2] at K
  rw [hr]
  exact K
theorem g_bald (X : Cx p s m args meth c D cy B od cc nL tab own ret) (hi : tab[i]? = some (pc, .baload, 1, nx, tg)) {a n k : Nat} {f : Nat → Int32} (hA : A a = some (.inl (cy 3, n, .inl f))) (hk : k < n) (hn : n < 2 ^ 31) (kk : G p l e R s m args below meth c D B od nL tab F cells slots A z nx lv (.int (f k) :: st)) : G p l e R s m args below meth c D B od nL tab F cells slots A z i lv (.int (nI k) :: .ref a :: st) := by
  intro q hq H locs ls hR hS hl
  cases Option.some.inj (hi.symm.trans hq)
  obtain ⟨q2, hq2, e2⟩ := X.2.2.2.1.fall hi rfl
  have K := kk q2 hq2 H locs ls hR hS hl
  rw [e2] at K
  refine va_bald X.1.1 X.1.2.1 X.2.1 (va_P1 (hR.1 a _ hA).2) 0 3 rfl rfl (vp_in_nI hk hn) (X.2.2.2.1.dec hi) ?_
  rw [nI_clamp (by omega)]
  exact K
theorem g_bast (X : Cx p s m args meth c D cy B od cc nL tab own ret) (hi : tab[i]? = some (pc, .bastore, 1, nx, tg)) {a n k : Nat} {f : Nat → Int32} {v : Int32} (hA : A a = some (.inl (cy 3, n, .inl f))) (hk : k < n) (hn : n < 2 ^ 31) (hv : v.toInt8.toInt32 = v)
    (kk : G p l e R s m args below meth c D B od nL tab F cells slots (upA A a (.inl (cy 3, n, .inl (upd f k v)))) z nx lv st) : G p l e R s m args below meth c D B od nL tab F cells slots A z i lv (.int v :: .int (nI k) :: .ref a :: st) := by
  intro q hq H locs ls hR hS hl
  cases Option.some.inj (hi.symm.trans hq)
  obtain ⟨q2, hq2, e2⟩ := X.2.2.2.1.fall hi rfl
  obtain ⟨hlt, hat⟩ := hR.1 a _ hA
  have hin : vp_in (nI k) n := vp_in_nI hk hn
  have hat2 : H[rho B od a]? = some (vp_cell (cy 3) (n, .inl f)) := hat
  refine W.bast X.1.1 X.1.2.1 hat2 ((X.2.1.2 3 _ rfl).1 n (fun j => .int (f j))) (fun h => by cases h) (by show ¬ (nI k < 0 ∨ (arrV _ _ _).slots.size ≤ _); rw [arrV_size]; exact hin) rfl rfl (X.2.2.2.1.dec hi) fun H1 e9 z9 oq => ?_
  have h2 : va_at D vwCl (rho B od a, trE B od (.inl (cy 3, n, .inl (upd f k v)))) H1 := by
    show H1[rho B od a]? = some (vp_cell (cy 3) (n, .inl (upd f k v)))
    have hnar : narrow .byte (.int v) = .int v := by
      show Value.int v.toInt8.toInt32 = .int v
      rw [hv]
    rw [e9, hnar]
    rw [vp_cell_i, vp_cell_i, arrV_store, nI_clamp (by omega)]
    congr 2
    funext q
    by_cases hq : q = k
    · subst hq
      simp [updV, upd]
    · simp [updV, upd, hq]
  have K := kk q2 hq2 H1 _ ls (hR.put hlt h2 z9 oq) (va_Sput (j := (nI k).toNatClampNeg) hS hlt z9 oq) hl
  rw [e2] at K
  exact K
end CORE33
