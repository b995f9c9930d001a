/-! 61: the same call to both -/
def okO (ex : List String) (k : Nat) : OC → Prop
  | .inl E => E ∈ ex
  | .inr (.int _) => k = 0
  | .inr (.long _) => k = 1
  | .inr (.double _) => k = 2
  | .inr _ => False
def tyV (k : Nat) : Value → Prop
  | .int _ => k = 0
  | .long _ => k = 1
  | .double _ => k = 2
  | _ => False
theorem oki {ex : List String} {x : Int32} : okO ex 0 (.inr (.int x)) := rfl
theorem okg {ex : List String} {x : Int64} : okO ex 1 (.inr (.long x)) := rfl
theorem okd {ex : List String} {x : UInt64} : okO ex 2 (.inr (.double x)) := rfl
theorem okl {ex : List String} {k : Nat} {E : String} (h : E ∈ ex) : okO ex k (.inl E) := h
theorem okO.l {ex : List String} {k : Nat} {E : String} (h : okO ex k (.inl E)) : E ∈ ex := h
theorem okO.r {ex : List String} {k : Nat} {r : Value} (h : okO ex k (.inr r)) : tyV k r := by
  cases r <;> exact h
/-- what out may hold -/
def outE (cy : Nat → ClassId) (o : Nat) (e : va_E) : Prop := (o = 238 ∧ ∃ g, e = .inl (cy 1, 1, .inr (.inl g))) ∨ (o = 239 ∧ ∃ g, e = .inl (cy 3, 1, .inr (.inr (.inr (.inl g)))))
def SOK (cy : Nat → ClassId) (A : AH) (w : Nat) : Prop := ∃ W f mb rd r sv hy, INV cy A W f mb rd r sv hy ∧ f.1 = nI w
theorem outE.ne {cy : Nat → ClassId} {o : Nat} {e : va_E} (h : outE cy o e) : o ≠ 231 := by
  rcases h with ⟨rfl, -⟩ | ⟨rfl, -⟩ <;> decide
theorem INV.oE {cy : Nat → ClassId} {A : AH} {W : LW} {f : MF} {mb rd r sv hy : Nat → Int32} (h : INV cy A W f mb rd r sv hy) {o : Nat} {e : va_E} (he : outE cy o e) : INV cy (upA A o e) W f mb rd r sv hy := by
  rcases he with ⟨rfl, g, rfl⟩ | ⟨rfl, g, rfl⟩
  · exact h.out8
  · exact h.out9
/-- the class's answer to a call, and behind each of them the reference's to the same -/
def PAIR (l : Launch) (D : va_G) (cy : Nat → ClassId) (B : Nat) (od : Nat → Option Nat) (y1 : MethodName) (c1 : ByteArray) (m1 : Nat) (r1 : Option FieldType) (rm1 : Room) (y2 : MethodName) (c2 : ByteArray) (m2 : Nat) (r2 : Option FieldType) (rm2 : Room) (xs : List Value) (ex : List String) (k o : Nat) (A : AH) : Prop := ∃ (Qr : Value → AH → Prop) (Qx : String → AH → Prop), (∀ z, CX l D cy B od y1 c1 m1 r1 rm1 (.ref 0 :: xs) A z (fun v A' z' => ∃ r, v = some r ∧ Qr r A') Qx) ∧ (∀ r A1, Qr r A1 → tyV k r ∧ OutA cy A1) ∧ (∀ E A1, Qx E A1 → E ∈ ex) ∧ (∀ r A1 e, Qr r A1 → outE cy o e → (∃ f, (upA A1 o e) 231 = some (moE f)) ∧ CM l D cy B od y2 c2 m2 r2 rm2 (.ref 231 :: xs) (upA A1 o e) (fun v A3 => v = some r ∧ SOK cy A3 0 ∧ A3 o = some e)) ∧ (∀ E A1, Qx E A1 → (∃ f, A1 231 = some (moE f)) ∧ CM l D cy B od y2 c2 m2 r2 rm2 (.ref 231 :: xs) A1 (fun v A3 => (∃ d, tyV k d ∧ v = some d) ∧ SOK cy A3 (cX ex (.inl E))))
section PRS
variable {l : Launch} {D : va_G} {cy : Nat → ClassId} {B : Nat} {od : Nat → Option Nat} {y1 : MethodName} {c1 : ByteArray} {m1 : Nat} {r1 : Option FieldType} {rm1 : Room} {y2 : MethodName} {c2 : ByteArray} {m2 : Nat} {r2 : Option FieldType} {rm2 : Room} {xs : List Value} {ex : List String} {k o : Nat} {A A2 : AH} {W : LW} {f f9 : MF} {mb rd r sv hy mb9 rd9 r9 sv9 hy9 : Nat → Int32} {oc oc2 : OC} {d : Value} {P : AH → Prop}
theorem CX.mono {Q Q2 : QT} {Qx Qx2 : QX} {z : Nat} (h : CX l D cy B od y1 c1 m1 r1 rm1 xs A z Q Qx) (hq : ∀ v A' z', Q v A' z' → Q2 v A' z') (hx : ∀ E A', Qx E A' → Qx2 E A') : CX l D cy B od y1 c1 m1 r1 rm1 xs A z Q2 Qx2 := MetFree.mono h (fun _ _ h => h) (fun _ _ _ _ _ h => h) (fun a s o t _ h => by
  rcases h with ⟨⟨⟨v, A', z', h1, h2, h3⟩, h4⟩, h5⟩ | ⟨q, h1, E, ce, L, ⟨⟨A', h2, h3⟩, h4⟩, h5⟩
  · exact Or.inl ⟨⟨⟨v, A', z', h1, hq _ _ _ h2, h3⟩, h4⟩, h5⟩
  · exact Or.inr ⟨q, h1, E, ce, L, ⟨⟨A', hx _ _ h2, h3⟩, h4⟩, h5⟩)
theorem CT.mono {Q Q2 : QT} {z : Nat} (h : CT l D cy B od y1 c1 m1 r1 rm1 xs A z Q) (hq : ∀ v A' z', Q v A' z' → Q2 v A' z') : CT l D cy B od y1 c1 m1 r1 rm1 xs A z Q2 := by
  unfold CT Met at h ⊢
  refine MetFree.mono h (fun _ _ h => h) (fun _ _ _ _ _ h => h) (fun a s o t _ h => ?_)
  obtain ⟨⟨⟨v, A', z', h1, h2, h3⟩, h4⟩, h5⟩ := h
  exact ⟨⟨⟨v, A', z', h1, hq _ _ _ h2, h3⟩, h4⟩, h5⟩
theorem CO.cp (h : CO l D cy B od y1 c1 m1 r1 rm1 xs A oc A2) : CP l D cy B od y1 c1 m1 r1 rm1 xs A oc (fun A' => A' = A2) (fun A' => A' = A) := fun z => (h z).mono (fun v A' z' ⟨r, h1, h2, h3, h4⟩ => ⟨r, h1, h2, h4, h3⟩) (fun E A' h => h)
theorem CM.mo {Q Q2 : Option Value → AH → Prop} (h : CM l D cy B od y2 c2 m2 r2 rm2 xs A Q) (hq : ∀ v A', Q v A' → Q2 v A') : CM l D cy B od y2 c2 m2 r2 rm2 xs A Q2 := fun z => (h z).mono (fun v A' z' h => ⟨h.1, hq v A' h.2⟩)
theorem pr_read (hI : INV cy A W f mb rd r sv hy) (hC : CP l D cy B od y1 c1 m1 r1 rm1 (.ref 0 :: xs) A oc P (fun A' => A' = A)) (hP : ∀ A1, P A1 → INV cy A1 W f mb rd r sv hy) (hok : okO ex k oc) (hd : tyV k d) (ho : oc2 = oc) (hM : ∀ A1, INV cy A1 W f mb rd r sv hy → CM l D cy B od y2 c2 m2 r2 rm2 (.ref 231 :: xs) A1 (fun v A' => v = some (mV d oc2) ∧ A' = upA A1 231 (moE (nI (cX ex oc2), f.2)))) : PAIR l D cy B od y1 c1 m1 r1 rm1 y2 c2 m2 r2 rm2 xs ex k o A := by
  subst ho
  refine ⟨fun r A1 => oc2 = .inr r ∧ P A1, fun E A1 => oc2 = .inl E ∧ A1 = A, fun z => (hC z).mono (fun v A' z' ⟨r, h1, h2, h3, h4⟩ => ⟨r, h2, h1, h4⟩) (fun E A' h => h), fun r A1 ⟨h1, h2⟩ => ⟨okO.r (h1 ▸ hok), (hP A1 h2).2.2.2⟩, fun E A1 ⟨h1, h2⟩ => okO.l (k := k) (h1 ▸ hok), fun r A1 e ⟨h1, h2⟩ he => ?_, fun E A1 ⟨h1, h2⟩ => ?_⟩
  · have hJ := (hP A1 h2).oE he
    refine ⟨⟨f, hJ.2.1.1⟩, (hM _ hJ).mo fun v A' ⟨q1, q2⟩ => ?_⟩
    subst h1
    exact ⟨q1, ⟨W, _, mb, rd, _, sv, hy, q2 ▸ hJ.thr, rfl⟩, by rw [q2]; exact (upA_ne he.ne).trans upA_eq⟩
  · subst h2
    refine ⟨⟨f, hI.2.1.1⟩, (hM _ hI).mo fun v A' ⟨q1, q2⟩ => ?_⟩
    subst h1
    exact ⟨⟨d, hd, q1⟩, W, _, mb, rd, _, sv, hy, q2 ▸ hI.thr, rfl⟩
theorem pr_mut (hI : INV cy A W f mb rd r sv hy) (hC : CP l D cy B od y1 c1 m1 r1 rm1 (.ref 0 :: xs) A oc P (fun A' => A' = A)) (hP : ∀ A1, P A1 → SameOff A A1 0 231) (hok : okO ex k oc) (hd : tyV k d) (ho : oc2 = oc) (hF : f9.1 = nI 0) (hM : ∀ A1, MdR cy A1 f r (vZ W.1) (vS W.1) → MdA cy A1 f mb rd r sv hy → CM l D cy B od y2 c2 m2 r2 rm2 (.ref 231 :: xs) A1 (fun v A' => v = some (mV d oc2) ∧ ((∃ E, oc2 = .inl E ∧ A' = upA A1 231 (moE (nI (cX ex oc2), f.2))) ∨ ((∃ y9, oc2 = .inr y9) ∧ (MOff A1 A' ∧ MdA cy A' f9 mb9 rd9 r9 sv9 hy9))))) (hk : ∀ A1 A3 g y9, oc = .inr y9 → P A1 → MOff (upA A1 238 (.inl (cy 1, 1, .inr (.inl g)))) A3 → MdA cy A3 f9 mb9 rd9 r9 sv9 hy9 → ∃ W9, INV cy A3 W9 f9 mb9 rd9 r9 sv9 hy9) : PAIR l D cy B od y1 c1 m1 r1 rm1 y2 c2 m2 r2 rm2 xs ex k 238 A := by
  subst ho
  refine ⟨fun r A1 => oc2 = .inr r ∧ P A1, fun E A1 => oc2 = .inl E ∧ A1 = A, fun z => (hC z).mono (fun v A' z' ⟨r, h1, h2, h3, h4⟩ => ⟨r, h2, h1, h4⟩) (fun E A' h => h), fun r A1 ⟨h1, h2⟩ => ⟨okO.r (h1 ▸ hok), hI.2.2.2.fr fun k hk => hP A1 h2 k (by omega)⟩, fun E A1 ⟨h1, h2⟩ => okO.l (k := k) (h1 ▸ hok), fun r A1 e ⟨h1, h2⟩ he => ?_, fun E A1 ⟨h1, h2⟩ => ?_⟩
  · rcases he with ⟨-, g, rfl⟩ | ⟨h9, -⟩
    · refine ⟨⟨f, (hI.m1 (hP A1 h2)).1⟩, (hM _ (hI.mr1 (hP A1 h2)) (hI.m1 (hP A1 h2))).mo fun v A' ⟨q1, q2⟩ => ?_⟩
      rcases q2 with ⟨E, q2, -⟩ | ⟨-, q3, q4⟩
      · cases h1.symm.trans q2
      · obtain ⟨W9, hW9⟩ := hk A1 A' g r h1 h2 q3 q4
        refine ⟨?_, ⟨W9, f9, mb9, rd9, r9, sv9, hy9, hW9, hF⟩, (q3 238 (Or.inr (by omega))).trans upA_eq⟩
        rw [q1, h1]; rfl
    · cases h9
  · subst h2
    refine ⟨⟨f, hI.2.1.1⟩, (hM _ hI.mdr hI.2.1).mo fun v A' ⟨q1, q2⟩ => ?_⟩
    rcases q2 with ⟨E2, -, q2⟩ | ⟨⟨y9, q3⟩, -⟩
    · subst h1
      exact ⟨⟨d, hd, q1⟩, W, _, mb, rd, _, sv, hy, q2 ▸ hI.thr, rfl⟩
    · cases h1.symm.trans q3
theorem ChP.off {R9 : StV → Prop} {A1 : AH} (h : ChP cy A W R9 A1) : SameOff A A1 0 231 := h.1
end PRS
theorem ok_ocPool {V : LV} {x0 : Int32} : okO [eIAE] 0 (ocPool V x0) := by
  unfold ocPool
  repeat (first | exact oki | exact okg | exact okd | exact okl (by decide) | split)
theorem ok_ocPoolW {V : LV} {x0 : Int32} : okO [eIAE] 0 (ocPoolW V x0) := by
  unfold ocPoolW
  repeat (first | exact oki | exact okg | exact okd | exact okl (by decide) | split)
theorem ok_ocProf {V : LV} {x0 : Int32} : okO [eIAE] 1 (ocProf V x0) := by
  unfold ocProf
  repeat (first | exact oki | exact okg | exact okd | exact okl (by decide) | split)
theorem ok_ocProfT {V : LV} {x0 : Int32} : okO [eIAE] 1 (ocProfT V x0) := by
  unfold ocProfT
  repeat (first | exact oki | exact okg | exact okd | exact okl (by decide) | split)
theorem ok_ocRec {V : LV} {x0 : Int32} : okO [eIAE] 0 (ocRec V x0) := by
  unfold ocRec
  repeat (first | exact oki | exact okg | exact okd | exact okl (by decide) | split)
theorem ok_ocBal {V : LV} {x0 : Int32} : okO [eIAE] 1 (ocBal V x0) := by
  unfold ocBal
  repeat (first | exact oki | exact okg | exact okd | exact okl (by decide) | split)
theorem ok_ocPrep {V : LV} {x0 : Int32} : okO [eIAE, eNSE] 0 (ocPrep V x0) := by
  unfold ocPrep
  repeat (first | exact oki | exact okg | exact okd | exact okl (by decide) | split)
theorem ok_ocCorr {V : LV} {x0 : Int32} : okO [eIAE, eNSE] 0 (ocCorr V x0) := by
  unfold ocCorr
  repeat (first | exact oki | exact okg | exact okd | exact okl (by decide) | split)
theorem ok_ocCount {V : LV} {x0 : Int32} : okO [eIAE] 0 (ocCount V x0) := by
  unfold ocCount
  repeat (first | exact oki | exact okg | exact okd | exact okl (by decide) | split)
theorem ok_ocDed {V : LV} {x0 : Int32} : okO [eIOB] 0 (ocDed V x0) := by
  unfold ocDed
  repeat (first | exact oki | exact okg | exact okd | exact okl (by decide) | split)
theorem ok_ocEntry {V : LV} {x0 x1 : Int32} : okO [eIOB, eIAE] 0 (ocEntry V x0 x1) := by
  unfold ocEntry
  repeat (first | exact oki | exact okg | exact okd | exact okl (by decide) | split)
theorem ok_ocRoom {V : LV} {x0 x1 : Int32} : okO [eIOB, eIAE] 0 (ocRoom V x0 x1) := by
  unfold ocRoom
  repeat (first | exact oki | exact okg | exact okd | exact okl (by decide) | split)
theorem ok_ocAsset {V : LV} {x0 x1 : Int32} : okO [eIOB, eIAE] 0 (ocAsset V x0 x1) := by
  unfold ocAsset
  repeat (first | exact oki | exact okg | exact okd | exact okl (by decide) | split)
theorem ok_ocWri {V : LV} {x0 x1 : Int32} : okO [eIOB, eIAE] 0 (ocWri V x0 x1) := by
  unfold ocWri
  repeat (first | exact oki | exact okg | exact okd | exact okl (by decide) | split)
theorem ok_ocBook {V : LV} {x0 x1 : Int32} : okO [eIOB, eIAE] 0 (ocBook V x0 x1) := by
  unfold ocBook
  repeat (first | exact oki | exact okg | exact okd | exact okl (by decide) | split)
theorem ok_ocSett {V : LV} : okO [eISE] 1 (ocSett V) := by
  unfold ocSett
  repeat (first | exact oki | exact okg | exact okd | exact okl (by decide) | split)
theorem ok_ocEff {V : LV} : okO [eNSE] 2 (ocEff V) := by
  unfold ocEff
  repeat (first | exact oki | exact okg | exact okd | exact okl (by decide) | split)
theorem ok_ocTotal {V : LV} {x0 x1 x2 : Int32} : okO [eIAE] 1 (ocTotal V x0 x1 x2) := by
  unfold ocTotal
  repeat (first | exact oki | exact okg | exact okd | exact okl (by decide) | split)
theorem ok_ocOpen {V : LV} {x0 : Int32} : okO [eIAE] 1 (ocOpen V x0) := by
  unfold ocOpen
  repeat (first | exact oki | exact okg | exact okd | exact okl (by decide) | split)
theorem ok_ocByCat {V : LV} {x0 x1 : Int32} : okO [eIAE] 1 (ocByCat V x0 x1) := by
  unfold ocByCat
  repeat (first | exact oki | exact okg | exact okd | exact okl (by decide) | split)
theorem ok_ocOld {V : LV} : okO [eNSE] 0 (ocOld V) := by
  unfold ocOld
  repeat (first | exact oki | exact okg | exact okd | exact okl (by decide) | split)
theorem ok_ocShare {V : LV} {x0 x1 : Int32} : okO [eIAE] 0 (ocShare V x0 x1) := by
  unfold ocShare
  repeat (first | exact oki | exact okg | exact okd | exact okl (by decide) | split)
theorem ok_ocWhat {V : LV} {x0 x1 x2 : Int32} : okO [eIAE] 1 (ocWhat V x0 x1 x2) := by
  unfold ocWhat
  repeat (first | exact oki | exact okg | exact okd | exact okl (by decide) | split)
theorem ok_ocNeed {V : LV} {x0 : Int32} : okO [eIAE, eNSE] 0 (ocNeed V x0) := by
  unfold ocNeed
  generalize (niL V x0 32).2 = w9
  generalize sLeft V (nI 100000000) (sYP V) = w8
  repeat (first | exact oki | exact okg | exact okd | exact okl (by decide) | split)
theorem ok_ocStart {V : LV} {x0 : Int32} : okO [eIAE] 0 (ocStart V x0) := by
  unfold ocStart
  repeat (first | exact oki | exact okg | exact okd | exact okl (by decide) | split)
theorem ok_ocPay {V : LV} {x0 x1 : Int32} : okO [eIOB, eIAE, eISE] 0 (ocPay V x0 x1) := by
  unfold ocPay
  repeat (first | exact oki | exact okg | exact okd | exact okl (by decide) | split)
theorem ok_ocCan {V : LV} {x0 : Int32} : okO [eIOB, eISE] 0 (ocCan V x0) := by
  unfold ocCan
  repeat (first | exact oki | exact okg | exact okd | exact okl (by decide) | split)
theorem ok_ocAddE {V : LV} {x0 x1 x2 x3 x4 : Int32} : okO [eIAE, eISE] 0 (ocAddE V x0 x1 x2 x3 x4) := by
  unfold ocAddE
  repeat (first | exact oki | exact okg | exact okd | exact okl (by decide) | split)
theorem ok_ocAddR {V : LV} {x0 : Int32} : okO [eIAE, eISE] 0 (ocAddR V x0) := by
  unfold ocAddR
  repeat (first | exact oki | exact okg | exact okd | exact okl (by decide) | split)
theorem ok_ocOff {V : LV} {x0 x1 x2 : Int32} : okO [eIOB, eIAE] 0 (ocOff V x0 x1 x2) := by
  unfold ocOff
  repeat (first | exact oki | exact okg | exact okd | exact okl (by decide) | split)
theorem ok_ocAddA {V : LV} {x0 x1 x2 : Int32} : okO [eIAE, eISE] 0 (ocAddA V x0 x1 x2) := by
  unfold ocAddA
  repeat (first | exact oki | exact okg | exact okd | exact okl (by decide) | split)
theorem ok_ocClose {V : LV} : okO [eISE] 0 (ocClose V) := by
  unfold ocClose
  repeat (first | exact oki | exact okg | exact okd | exact okl (by decide) | split)
theorem ok_ocSell {V : LV} {x0 x1 x2 : Int32} : okO [eIOB, eIAE, eISE] 0 (ocSell V x0 x1 x2) := by
  unfold ocSell
  repeat (first | exact oki | exact okg | exact okd | exact okl (by decide) | split)
theorem ok_ocTrun {V : LV} {x0 : Int32} : okO [eIAE] 0 (ocTrun V x0) := by
  unfold ocTrun
  repeat (first | exact oki | exact okg | exact okd | exact okl (by decide) | split)
theorem ok_ocApp {V : LV} {x0 x1 x2 x3 x4 : Int32} {n2 : Nat} : okO [eISE] 0 (ocApp V x0 x1 x2 x3 x4 n2) := by
  unfold ocApp
  repeat (first | exact oki | exact okg | exact okd | exact okl (by decide) | split)
theorem ok_ocUndo {K : HV} : okO [eISE] 0 (ocUndo K) := by
  unfold ocUndo
  repeat (first | exact oki | exact okg | exact okd | exact okl (by decide) | split)
theorem ok_ocRest {W : LW} : okO [eISE] 0 (ocRest W) := by
  unfold ocRest
  repeat (first | exact oki | exact okg | exact okd | exact okl (by decide) | split)
theorem ppSt_v9 (V : LV) : ∀ k, ppSt (V9 (vZ V) (vS V)) k = ppSt V k
  | 0 => rfl
  | k + 1 => by
    have ih := ppSt_v9 V k
    simp only [ppSt, ih]
theorem ocRec_v9 (V : LV) (q : Int32) : ocRec (V9 (vZ V) (vS V)) q = ocRec V q := by
  unfold ocRec ppNow
  rw [ppSt_v9]
theorem ocCorr_v9 (V : LV) (q : Int32) : ocCorr (V9 (vZ V) (vS V)) q = ocCorr V q := by
  unfold ocCorr ppNow
  rw [ppSt_v9]
theorem niL_v9 (V : LV) (net : Int32) : ∀ k, niL (V9 (vZ V) (vS V)) net k = niL V net k
  | 0 => rfl
  | k + 1 => by
    have ih := niL_v9 V net k
    simp only [niL, ih]
    rfl
theorem ocNeed_v9 (V : LV) (q : Int32) : ocNeed (V9 (vZ V) (vS V)) q = ocNeed V q := by
  unfold ocNeed
  rw [niL_v9]
  rfl
theorem pr_pool (l : Launch) (D : va_G) (cy : Nat → ClassId) (B : Nat) (od : Nat → Option Nat) (hl9 : l.stackTraces = false) {A : AH} {W : LW} {f : MF} {mb rd r sv hy : Nat → Int32} (hI : INV cy A W f mb rd r sv hy) {x0 : Int32} : PAIR l D cy B od yX7_pool cX7_pool 2 (some .int) rmX7_pool yX8_pool cX8_pool 2 (some .int) rmX8_pool [.int x0] [eIAE] 0 238 A :=
  pr_read (d := .int (nI 0)) hI (co_X7_pool l D cy B od hl9 hI.vw).cp (fun A1 h => h ▸ hI) ok_ocPool rfl rfl (fun A1 h => cm_X8_pool l D cy B od h.mdr h.2.2.1.1.2.1 h.2.2.1.1.2.2)
theorem pr_poolWritten (l : Launch) (D : va_G) (cy : Nat → ClassId) (B : Nat) (od : Nat → Option Nat) (hl9 : l.stackTraces = false) {A : AH} {W : LW} {f : MF} {mb rd r sv hy : Nat → Int32} (hI : INV cy A W f mb rd r sv hy) {x0 : Int32} : PAIR l D cy B od yX7_poolWritten cX7_poolWritten 2 (some .int) rmX7_poolWritten yX8_poolWritten cX8_poolWritten 2 (some .int) rmX8_poolWritten [.int x0] [eIAE] 0 238 A :=
  pr_read (d := .int (nI 0)) hI (co_X7_poolWritten l D cy B od hl9 hI.vw).cp (fun A1 h => h ▸ hI) ok_ocPoolW rfl rfl (fun A1 h => cm_X8_poolWritten l D cy B od h.mdr h.2.2.1.1.2.1 h.2.2.1.1.2.2)
theorem pr_profit (l : Launch) (D : va_G) (cy : Nat → ClassId) (B : Nat) (od : Nat → Option Nat) (hl9 : l.stackTraces = false) {A : AH} {W : LW} {f : MF} {mb rd r sv hy : Nat → Int32} (hI : INV cy A W f mb rd r sv hy) {x0 : Int32} : PAIR l D cy B od yX7_profit cX7_profit 2 (some .long) rmX7_profit yX8_profit cX8_profit 2 (some .long) rmX8_profit [.int x0] [eIAE] 1 238 A :=
  pr_read (d := .long 0) hI (co_X7_profit l D cy B od hl9 hI.vw).cp (fun A1 h => h ▸ hI) ok_ocProf rfl rfl (fun A1 h => cm_X8_profit l D cy B od h.mdr h.2.2.1.1.2.1 h.2.2.1.1.2.2)
theorem pr_profitTo (l : Launch) (D : va_G) (cy : Nat → ClassId) (B : Nat) (od : Nat → Option Nat) (hl9 : l.stackTraces = false) {A : AH} {W : LW} {f : MF} {mb rd r sv hy : Nat → Int32} (hI : INV cy A W f mb rd r sv hy) {x0 : Int32} : PAIR l D cy B od yX7_profitTo cX7_profitTo 2 (some .long) rmX7_profitTo yX8_profitTo cX8_profitTo 2 (some .long) rmX8_profitTo [.int x0] [eIAE] 1 238 A :=
  pr_read (d := .long 0) hI (co_X7_profitTo l D cy B od hl9 hI.vw).cp (fun A1 h => h ▸ hI) ok_ocProfT rfl rfl (fun A1 h => cm_X8_profitTo l D cy B od h.mdr h.2.2.1.1.2.1 h.2.2.1.1.2.2)
theorem pr_recomputed (l : Launch) (D : va_G) (cy : Nat → ClassId) (B : Nat) (od : Nat → Option Nat) (hl9 : l.stackTraces = false) {A : AH} {W : LW} {f : MF} {mb rd r sv hy : Nat → Int32} (hI : INV cy A W f mb rd r sv hy) {x0 : Int32} : PAIR l D cy B od yX7_recomputed cX7_recomputed 2 (some .int) rmX7_recomputed yX8_recomputed cX8_recomputed 2 (some .int) rmX8_recomputed [.int x0] [eIAE] 0 238 A :=
  pr_read (d := .int (nI 0)) hI (co_X7_recomputed l D cy B od hl9 hI.vw).cp (fun A1 h => h ▸ hI) ok_ocRec rfl (ocRec_v9 _ _) (fun A1 h => cm_X8_recomputed l D cy B od h.mdr h.2.2.1.1.2.1 h.2.2.1.1.2.2)
theorem pr_balance (l : Launch) (D : va_G) (cy : Nat → ClassId) (B : Nat) (od : Nat → Option Nat) (hl9 : l.stackTraces = false) {A : AH} {W : LW} {f : MF} {mb rd r sv hy : Nat → Int32} (hI : INV cy A W f mb rd r sv hy) {x0 : Int32} : PAIR l D cy B od yX7_balance cX7_balance 2 (some .long) rmX7_balance yX8_balance cX8_balance 2 (some .long) rmX8_balance [.int x0] [eIAE] 1 238 A :=
  pr_read (d := .long 0) hI (cp_X7_balance l D cy B od hl9 hI.1) (fun A1 h => hI.led h.1 h.2) ok_ocBal rfl rfl (fun A1 h => cm_X8_balance l D cy B od h.mdr h.2.2.1.1.2.1 h.2.2.1.1.2.2)
theorem pr_prepayment (l : Launch) (D : va_G) (cy : Nat → ClassId) (B : Nat) (od : Nat → Option Nat) (hl9 : l.stackTraces = false) {A : AH} {W : LW} {f : MF} {mb rd r sv hy : Nat → Int32} (hI : INV cy A W f mb rd r sv hy) {x0 : Int32} : PAIR l D cy B od yX7_prepayment cX7_prepayment 2 (some .int) rmX7_prepayment yX8_prepayment cX8_prepayment 2 (some .int) rmX8_prepayment [.int x0] [eIAE, eNSE] 0 238 A :=
  pr_read (d := .int (nI 0)) hI (co_X7_prepayment l D cy B od hl9 hI.vw).cp (fun A1 h => h ▸ hI) ok_ocPrep rfl rfl (fun A1 h => cm_X8_prepayment l D cy B od h.mdr h.2.2.1.1.2.1 h.2.2.1.1.2.2)
theorem pr_correction (l : Launch) (D : va_G) (cy : Nat → ClassId) (B : Nat) (od : Nat → Option Nat) (hl9 : l.stackTraces = false) {A : AH} {W : LW} {f : MF} {mb rd r sv hy : Nat → Int32} (hI : INV cy A W f mb rd r sv hy) {x0 : Int32} : PAIR l D cy B od yX7_correction cX7_correction 2 (some .int) rmX7_correction yX8_correction cX8_correction 2 (some .int) rmX8_correction [.int x0] [eIAE, eNSE] 0 238 A :=
  pr_read (d := .int (nI 0)) hI (co_X7_correction l D cy B od hl9 hI.vw).cp (fun A1 h => h ▸ hI) ok_ocCorr rfl (ocCorr_v9 _ _) (fun A1 h => cm_X8_correction l D cy B od h.mdr h.2.2.1.1.2.1 h.2.2.1.1.2.2)
theorem pr_count (l : Launch) (D : va_G) (cy : Nat → ClassId) (B : Nat) (od : Nat → Option Nat) (hl9 : l.stackTraces = false) {A : AH} {W : LW} {f : MF} {mb rd r sv hy : Nat → Int32} (hI : INV cy A W f mb rd r sv hy) {x0 : Int32} : PAIR l D cy B od yX7_count cX7_count 2 (some .int) rmX7_count yX8_count cX8_count 2 (some .int) rmX8_count [.int x0] [eIAE] 0 238 A :=
  pr_read (d := .int (nI 0)) hI (co_X7_count l D cy B od hl9 hI.vw).cp (fun A1 h => h ▸ hI) ok_ocCount rfl rfl (fun A1 h => cm_X8_count l D cy B od h.mdr h.2.2.1.1.2.1 h.2.2.1.1.2.2)
theorem pr_deductible (l : Launch) (D : va_G) (cy : Nat → ClassId) (B : Nat) (od : Nat → Option Nat) (hl9 : l.stackTraces = false) {A : AH} {W : LW} {f : MF} {mb rd r sv hy : Nat → Int32} (hI : INV cy A W f mb rd r sv hy) {x0 : Int32} : PAIR l D cy B od yX7_deductible cX7_deductible 2 (some .int) rmX7_deductible yX8_deductible cX8_deductible 2 (some .int) rmX8_deductible [.int x0] [eIOB] 0 238 A :=
  pr_read (d := .int (nI 0)) hI (co_X7_deductible l D cy B od hl9 hI.vw).cp (fun A1 h => h ▸ hI) ok_ocDed rfl rfl (fun A1 h => cm_X8_deductible l D cy B od h.mdr h.2.2.1.1.2.1 h.2.2.1.1.2.2)
theorem pr_entry (l : Launch) (D : va_G) (cy : Nat → ClassId) (B : Nat) (od : Nat → Option Nat) (hl9 : l.stackTraces = false) {A : AH} {W : LW} {f : MF} {mb rd r sv hy : Nat → Int32} (hI : INV cy A W f mb rd r sv hy) {x0 x1 : Int32} : PAIR l D cy B od yX7_entry cX7_entry 3 (some .int) rmX7_entry yX8_entry cX8_entry 3 (some .int) rmX8_entry [.int x0, .int x1] [eIOB, eIAE] 0 238 A :=
  pr_read (d := .int (nI 0)) hI (co_X7_entry l D cy B od hl9 hI.vw).cp (fun A1 h => h ▸ hI) ok_ocEntry rfl rfl (fun A1 h => cm_X8_entry l D cy B od h.mdr h.2.2.1.1.2.1 h.2.2.1.1.2.2)
theorem pr_room (l : Launch) (D : va_G) (cy : Nat → ClassId) (B : Nat) (od : Nat → Option Nat) (hl9 : l.stackTraces = false) {A : AH} {W : LW} {f : MF} {mb rd r sv hy : Nat → Int32} (hI : INV cy A W f mb rd r sv hy) {x0 x1 : Int32} : PAIR l D cy B od yX7_room cX7_room 3 (some .int) rmX7_room yX8_room cX8_room 3 (some .int) rmX8_room [.int x0, .int x1] [eIOB, eIAE] 0 238 A :=
  pr_read (d := .int (nI 0)) hI (co_X7_room l D cy B od hl9 hI.vw).cp (fun A1 h => h ▸ hI) ok_ocRoom rfl rfl (fun A1 h => cm_X8_room l D cy B od h.mdr h.2.2.1.1.2.1 h.2.2.1.1.2.2)
theorem pr_asset (l : Launch) (D : va_G) (cy : Nat → ClassId) (B : Nat) (od : Nat → Option Nat) (hl9 : l.stackTraces = false) {A : AH} {W : LW} {f : MF} {mb rd r sv hy : Nat → Int32} (hI : INV cy A W f mb rd r sv hy) {x0 x1 : Int32} : PAIR l D cy B od yX7_asset cX7_asset 3 (some .int) rmX7_asset yX8_asset cX8_asset 3 (some .int) rmX8_asset [.int x0, .int x1] [eIOB, eIAE] 0 238 A :=
  pr_read (d := .int (nI 0)) hI (co_X7_asset l D cy B od hl9 hI.vw).cp (fun A1 h => h ▸ hI) ok_ocAsset rfl rfl (fun A1 h => cm_X8_asset l D cy B od h.mdr h.2.2.1.1.2.1 h.2.2.1.1.2.2)
theorem pr_written (l : Launch) (D : va_G) (cy : Nat → ClassId) (B : Nat) (od : Nat → Option Nat) (hl9 : l.stackTraces = false) {A : AH} {W : LW} {f : MF} {mb rd r sv hy : Nat → Int32} (hI : INV cy A W f mb rd r sv hy) {x0 x1 : Int32} : PAIR l D cy B od yX7_written cX7_written 3 (some .int) rmX7_written yX8_written cX8_written 3 (some .int) rmX8_written [.int x0, .int x1] [eIOB, eIAE] 0 238 A :=
  pr_read (d := .int (nI 0)) hI (co_X7_written l D cy B od hl9 hI.vw).cp (fun A1 h => h ▸ hI) ok_ocWri rfl rfl (fun A1 h => cm_X8_written l D cy B od h.mdr h.2.2.1.1.2.1 h.2.2.1.1.2.2)
theorem pr_bookValue (l : Launch) (D : va_G) (cy : Nat → ClassId) (B : Nat) (od : Nat → Option Nat) (hl9 : l.stackTraces = false) {A : AH} {W : LW} {f : MF} {mb rd r sv hy : Nat → Int32} (hI : INV cy A W f mb rd r sv hy) {x0 x1 : Int32} : PAIR l D cy B od yX7_bookValue cX7_bookValue 3 (some .int) rmX7_bookValue yX8_bookValue cX8_bookValue 3 (some .int) rmX8_bookValue [.int x0, .int x1] [eIOB, eIAE] 0 238 A :=
  pr_read (d := .int (nI 0)) hI (co_X7_bookValue l D cy B od hl9 hI.vw).cp (fun A1 h => h ▸ hI) ok_ocBook rfl rfl (fun A1 h => cm_X8_bookValue l D cy B od h.mdr h.2.2.1.1.2.1 h.2.2.1.1.2.2)
theorem pr_settlement (l : Launch) (D : va_G) (cy : Nat → ClassId) (B : Nat) (od : Nat → Option Nat) (hl9 : l.stackTraces = false) {A : AH} {W : LW} {f : MF} {mb rd r sv hy : Nat → Int32} (hI : INV cy A W f mb rd r sv hy) : PAIR l D cy B od yX7_settlement cX7_settlement 1 (some .long) rmX7_settlement yX8_settlement cX8_settlement 1 (some .long) rmX8_settlement [] [eISE] 1 238 A :=
  pr_read (d := .long 0) hI (co_X7_settlement l D cy B od hl9 hI.vw).cp (fun A1 h => h ▸ hI) ok_ocSett rfl rfl (fun A1 h => cm_X8_settlement l D cy B od h.mdr h.2.2.1.1.2.1 h.2.2.1.1.2.2)
theorem pr_effectiveRate (l : Launch) (D : va_G) (cy : Nat → ClassId) (B : Nat) (od : Nat → Option Nat) (hl9 : l.stackTraces = false) {A : AH} {W : LW} {f : MF} {mb rd r sv hy : Nat → Int32} (hI : INV cy A W f mb rd r sv hy) : PAIR l D cy B od yX7_effectiveRate cX7_effectiveRate 3 (some .double) rmX7_effectiveRate yX8_effectiveRate cX8_effectiveRate 3 (some .double) rmX8_effectiveRate [] [eNSE] 2 239 A :=
  pr_read (d := .double 0) hI (co_X7_effectiveRate l D cy B od hl9 hI.vw).cp (fun A1 h => h ▸ hI) ok_ocEff rfl rfl (fun A1 h => cm_X8_effectiveRate l D cy B od h.mdr h.2.2.1.1.2.1 h.2.2.1.1.2.2)
theorem pr_total (l : Launch) (D : va_G) (cy : Nat → ClassId) (B : Nat) (od : Nat → Option Nat) (hl9 : l.stackTraces = false) {A : AH} {W : LW} {f : MF} {mb rd r sv hy : Nat → Int32} (hI : INV cy A W f mb rd r sv hy) {x0 x1 x2 : Int32} : PAIR l D cy B od yX7_total cX7_total 4 (some .long) rmX7_total yX8_total cX8_total 7 (some .long) rmX8_total [.int x0, .int x1, .int x2] [eIAE] 1 238 A :=
  pr_read (d := .long 0) hI (co_X7_total l D cy B od hl9 hI.vw).cp (fun A1 h => h ▸ hI) ok_ocTotal rfl rfl (fun A1 h => cm_X8_total l D cy B od h.mdr h.2.2.1.1.2.1 h.2.2.1.1.2.2)
theorem pr_open (l : Launch) (D : va_G) (cy : Nat → ClassId) (B : Nat) (od : Nat → Option Nat) (hl9 : l.stackTraces = false) {A : AH} {W : LW} {f : MF} {mb rd r sv hy : Nat → Int32} (hI : INV cy A W f mb rd r sv hy) {x0 : Int32} : PAIR l D cy B od yX7_open cX7_open 2 (some .long) rmX7_open yX8_open cX8_open 5 (some .long) rmX8_open [.int x0] [eIAE] 1 238 A :=
  pr_read (d := .long 0) hI (co_X7_open l D cy B od hl9 hI.vw).cp (fun A1 h => h ▸ hI) ok_ocOpen rfl rfl (fun A1 h => cm_X8_open l D cy B od h.mdr h.2.2.1.1.2.1 h.2.2.1.1.2.2)
theorem pr_byCategory (l : Launch) (D : va_G) (cy : Nat → ClassId) (B : Nat) (od : Nat → Option Nat) (hl9 : l.stackTraces = false) {A : AH} {W : LW} {f : MF} {mb rd r sv hy : Nat → Int32} (hI : INV cy A W f mb rd r sv hy) {x0 x1 : Int32} : PAIR l D cy B od yX7_byCategory cX7_byCategory 3 (some .long) rmX7_byCategory yX8_byCategory cX8_byCategory 6 (some .long) rmX8_byCategory [.int x0, .int x1] [eIAE] 1 238 A :=
  pr_read (d := .long 0) hI (co_X7_byCategory l D cy B od hl9 hI.vw).cp (fun A1 h => h ▸ hI) ok_ocByCat rfl rfl (fun A1 h => cm_X8_byCategory l D cy B od h.mdr h.2.2.1.1.2.1 h.2.2.1.1.2.2)
theorem pr_oldestOpen (l : Launch) (D : va_G) (cy : Nat → ClassId) (B : Nat) (od : Nat → Option Nat) (hl9 : l.stackTraces = false) {A : AH} {W : LW} {f : MF} {mb rd r sv hy : Nat → Int32} (hI : INV cy A W f mb rd r sv hy) : PAIR l D cy B od yX7_oldestOpen cX7_oldestOpen 2 (some .int) rmX7_oldestOpen yX8_oldestOpen cX8_oldestOpen 3 (some .int) rmX8_oldestOpen [] [eNSE] 0 238 A :=
  pr_read (d := .int (nI 0)) hI (co_X7_oldestOpen l D cy B od hl9 hI.vw).cp (fun A1 h => h ▸ hI) ok_ocOld rfl rfl (fun A1 h => cm_X8_oldestOpen l D cy B od h.mdr h.2.2.1.1.2.1 h.2.2.1.1.2.2)
theorem pr_share (l : Launch) (D : va_G) (cy : Nat → ClassId) (B : Nat) (od : Nat → Option Nat) (hl9 : l.stackTraces = false) {A : AH} {W : LW} {f : MF} {mb rd r sv hy : Nat → Int32} (hI : INV cy A W f mb rd r sv hy) {x0 x1 : Int32} : PAIR l D cy B od yX7_share cX7_share 6 (some .int) rmX7_share yX8_share cX8_share 6 (some .int) rmX8_share [.int x0, .int x1] [eIAE] 0 238 A :=
  pr_read (d := .int (nI 0)) hI (co_X7_share l D cy B od hl9 hI.vw).cp (fun A1 h => h ▸ hI) ok_ocShare rfl rfl (fun A1 h => cm_X8_share l D cy B od h.mdr h.2.2.1.1.2.1 h.2.2.1.1.2.2)
theorem pr_whatIf (l : Launch) (D : va_G) (cy : Nat → ClassId) (B : Nat) (od : Nat → Option Nat) (hl9 : l.stackTraces = false) {A : AH} {W : LW} {f : MF} {mb rd r sv hy : Nat → Int32} (hI : INV cy A W f mb rd r sv hy) {x0 x1 x2 : Int32} : PAIR l D cy B od yX7_whatIf cX7_whatIf 6 (some .long) rmX7_whatIf yX8_whatIf cX8_whatIf 8 (some .long) rmX8_whatIf [.int x0, .int x1, .int x2] [eIAE] 1 238 A :=
  pr_read (d := .long 0) hI (co_X7_whatIf l D cy B od hl9 hI.vw).cp (fun A1 h => h ▸ hI) ok_ocWhat rfl rfl (fun A1 h => cm_X8_whatIf l D cy B od h.mdr h.2.2.1.1.2.1 h.2.2.1.1.2.2)
theorem pr_neededIncome (l : Launch) (D : va_G) (cy : Nat → ClassId) (B : Nat) (od : Nat → Option Nat) (hl9 : l.stackTraces = false) {A : AH} {W : LW} {f : MF} {mb rd r sv hy : Nat → Int32} (hI : INV cy A W f mb rd r sv hy) {x0 : Int32} : PAIR l D cy B od yX7_neededIncome cX7_neededIncome 8 (some .int) rmX7_neededIncome yX8_neededIncome cX8_neededIncome 9 (some .int) rmX8_neededIncome [.int x0] [eIAE, eNSE] 0 238 A :=
  pr_read (d := .int (nI 0)) hI (co_X7_neededIncome l D cy B od hl9 hI.vw).cp (fun A1 h => h ▸ hI) ok_ocNeed rfl (ocNeed_v9 _ _) (fun A1 h => cm_X8_neededIncome l D cy B od h.mdr h.2.2.1.1.2.1 h.2.2.1.1.2.2)
theorem pr_setStart (l : Launch) (D : va_G) (cy : Nat → ClassId) (B : Nat) (od : Nat → Option Nat) (hl9 : l.stackTraces = false) {A : AH} {W : LW} {f : MF} {mb rd r sv hy : Nat → Int32} (hI : INV cy A W f mb rd r sv hy) {x0 : Int32} : PAIR l D cy B od yX7_setStart cX7_setStart 3 (some .int) rmX7_setStart yX8_setStart cX8_setStart 2 (some .int) rmX8_setStart [.int x0] [eIAE] 0 238 A :=
  pr_mut (d := .int (nI 0)) hI (cp_X7_setStart l D cy B od hl9 hI.1) (fun A1 h => h.off) ok_ocStart rfl rfl rfl (fun A1 h h2 => cm_X8_setStart l D cy B od h hI.2.2.1.1.2.1 hI.2.2.1.1.2.2 h2 hI.e8) (fun A1 A3 g y9 ho hP hM hD => hI.ch hP hM hD (fun S9 hR => ch_setStart hI.2.2.1.1.1 hI.2.2.1.1.2.1 hI.1.1.2.2.1 hI.1.1.2.2.2.2 hR))
theorem pr_pay (l : Launch) (D : va_G) (cy : Nat → ClassId) (B : Nat) (od : Nat → Option Nat) (hl9 : l.stackTraces = false) {A : AH} {W : LW} {f : MF} {mb rd r sv hy : Nat → Int32} (hI : INV cy A W f mb rd r sv hy) {x0 x1 : Int32} : PAIR l D cy B od yX7_pay cX7_pay 4 (some .int) rmX7_pay yX8_pay cX8_pay 3 (some .int) rmX8_pay [.int x0, .int x1] [eIOB, eIAE, eISE] 0 238 A :=
  pr_mut (d := .int (nI 0)) hI (cp_X7_pay l D cy B od hl9 hI.1) (fun A1 h => h.off) ok_ocPay rfl rfl rfl (fun A1 h h2 => cm_X8_pay l D cy B od h hI.2.2.1.1.2.1 hI.2.2.1.1.2.2 h2 hI.e8) (fun A1 A3 g y9 ho hP hM hD => hI.ch hP hM hD (fun S9 hR => ch_pay hI.2.2.1.1.1 hI.2.2.1.1.2.1 hI.1.1.2.2.1 hI.1.1.2.2.2.2 ho hR))
theorem pr_cancel (l : Launch) (D : va_G) (cy : Nat → ClassId) (B : Nat) (od : Nat → Option Nat) (hl9 : l.stackTraces = false) {A : AH} {W : LW} {f : MF} {mb rd r sv hy : Nat → Int32} (hI : INV cy A W f mb rd r sv hy) {x0 : Int32} : PAIR l D cy B od yX7_cancel cX7_cancel 2 (some .int) rmX7_cancel yX8_cancel cX8_cancel 3 (some .int) rmX8_cancel [.int x0] [eIOB, eISE] 0 238 A :=
  pr_mut (d := .int (nI 0)) hI (cp_X7_cancel l D cy B od hl9 hI.1) (fun A1 h => h.off) ok_ocCan rfl rfl rfl (fun A1 h h2 => cm_X8_cancel l D cy B od h hI.2.2.1.1.2.1 hI.2.2.1.1.2.2 h2 hI.e8) (fun A1 A3 g y9 ho hP hM hD => hI.ch hP hM hD (fun S9 hR => ch_cancel hI.2.2.1.1.1 hI.2.2.1.1.2.1 hI.1.1.2.2.1 hI.1.1.2.2.2.2 ho hR))
theorem pr_addEntry (l : Launch) (D : va_G) (cy : Nat → ClassId) (B : Nat) (od : Nat → Option Nat) (hl9 : l.stackTraces = false) {A : AH} {W : LW} {f : MF} {mb rd r sv hy : Nat → Int32} (hI : INV cy A W f mb rd r sv hy) {x0 x1 x2 x3 x4 : Int32} : PAIR l D cy B od yX7_addEntry cX7_addEntry 7 (some .int) rmX7_addEntry yX8_addEntry cX8_addEntry 8 (some .int) rmX8_addEntry [.int x0, .int x1, .int x2, .int x3, .int x4] [eIAE, eISE] 0 238 A :=
  pr_mut (d := .int (nI 0)) hI (cp_X7_addEntry l D cy B od hl9 hI.1) (fun A1 h => h.off) ok_ocAddE rfl rfl rfl (fun A1 h h2 => cm_X8_addEntry l D cy B od h hI.2.2.1.1.2.1 hI.2.2.1.1.2.2 h2 hI.e8) (fun A1 A3 g y9 ho hP hM hD => hI.ch hP hM hD (fun S9 hR => ch_addEntry hI.2.2.1.1.1 hI.2.2.1.1.2.1 hI.1.1.2.2.1 hI.1.1.2.2.2.2 ho hR))
theorem pr_addRoom (l : Launch) (D : va_G) (cy : Nat → ClassId) (B : Nat) (od : Nat → Option Nat) (hl9 : l.stackTraces = false) {A : AH} {W : LW} {f : MF} {mb rd r sv hy : Nat → Int32} (hI : INV cy A W f mb rd r sv hy) {x0 : Int32} : PAIR l D cy B od yX7_addRoom cX7_addRoom 2 (some .int) rmX7_addRoom yX8_addRoom cX8_addRoom 3 (some .int) rmX8_addRoom [.int x0] [eIAE, eISE] 0 238 A :=
  pr_mut (d := .int (nI 0)) hI (cp_X7_addRoom l D cy B od hl9 hI.1) (fun A1 h => h.off) ok_ocAddR rfl rfl rfl (fun A1 h h2 => cm_X8_addRoom l D cy B od h hI.2.2.1.1.2.1 hI.2.2.1.1.2.2 h2 hI.e8) (fun A1 A3 g y9 ho hP hM hD => hI.ch hP hM hD (fun S9 hR => ch_addRoom hI.2.2.1.1.1 hI.2.2.1.1.2.1 hI.1.1.2.2.1 hI.1.1.2.2.2.2 ho hR))
theorem pr_setOffice (l : Launch) (D : va_G) (cy : Nat → ClassId) (B : Nat) (od : Nat → Option Nat) (hl9 : l.stackTraces = false) {A : AH} {W : LW} {f : MF} {mb rd r sv hy : Nat → Int32} (hI : INV cy A W f mb rd r sv hy) {x0 x1 x2 : Int32} : PAIR l D cy B od yX7_setOffice cX7_setOffice 5 (some .int) rmX7_setOffice yX8_setOffice cX8_setOffice 5 (some .int) rmX8_setOffice [.int x0, .int x1, .int x2] [eIOB, eIAE] 0 238 A :=
  pr_mut (d := .int (nI 0)) hI (cp_X7_setOffice l D cy B od hl9 hI.1) (fun A1 h => h.off) ok_ocOff rfl rfl rfl (fun A1 h h2 => cm_X8_setOffice l D cy B od h hI.2.2.1.1.2.1 hI.2.2.1.1.2.2 h2 hI.e8) (fun A1 A3 g y9 ho hP hM hD => hI.ch hP hM hD (fun S9 hR => ch_setOffice hI.2.2.1.1.1 hI.2.2.1.1.2.1 hI.1.1.2.2.1 hI.1.1.2.2.2.2 ho hR))
theorem pr_addAsset (l : Launch) (D : va_G) (cy : Nat → ClassId) (B : Nat) (od : Nat → Option Nat) (hl9 : l.stackTraces = false) {A : AH} {W : LW} {f : MF} {mb rd r sv hy : Nat → Int32} (hI : INV cy A W f mb rd r sv hy) {x0 x1 x2 : Int32} : PAIR l D cy B od yX7_addAsset cX7_addAsset 4 (some .int) rmX7_addAsset yX8_addAsset cX8_addAsset 5 (some .int) rmX8_addAsset [.int x0, .int x1, .int x2] [eIAE, eISE] 0 238 A :=
  pr_mut (d := .int (nI 0)) hI (cp_X7_addAsset l D cy B od hl9 hI.1) (fun A1 h => h.off) ok_ocAddA rfl rfl rfl (fun A1 h h2 => cm_X8_addAsset l D cy B od h hI.2.2.1.1.2.1 hI.2.2.1.1.2.2 h2 hI.e8) (fun A1 A3 g y9 ho hP hM hD => hI.ch hP hM hD (fun S9 hR => ch_addAsset hI.2.2.1.1.1 hI.2.2.1.1.2.1 hI.1.1.2.2.1 hI.1.1.2.2.2.2 ho hR))
theorem pr_closeQuarter (l : Launch) (D : va_G) (cy : Nat → ClassId) (B : Nat) (od : Nat → Option Nat) (hl9 : l.stackTraces = false) {A : AH} {W : LW} {f : MF} {mb rd r sv hy : Nat → Int32} (hI : INV cy A W f mb rd r sv hy) : PAIR l D cy B od yX7_closeQuarter cX7_closeQuarter 5 (some .int) rmX7_closeQuarter yX8_closeQuarter cX8_closeQuarter 3 (some .int) rmX8_closeQuarter [] [eISE] 0 238 A :=
  pr_mut (d := .int (nI 0)) hI (cp_X7_closeQuarter l D cy B od hl9 hI.1) (fun A1 h => h.off) ok_ocClose rfl rfl rfl (fun A1 h h2 => cm_X8_closeQuarter l D cy B od h hI.2.2.1.1.2.1 hI.2.2.1.1.2.2 h2 hI.e8) (fun A1 A3 g y9 ho hP hM hD => hI.ch hP hM hD (fun S9 hR => ch_closeQuarter hI.2.2.1.1.1 hI.2.2.1.1.2.1 hI.2.2.1.1.2.2 hI.1.1.2.2.1 hI.1.1.2.2.2.2 ho hR))
theorem pr_sellAsset (l : Launch) (D : va_G) (cy : Nat → ClassId) (B : Nat) (od : Nat → Option Nat) (hl9 : l.stackTraces = false) {A : AH} {W : LW} {f : MF} {mb rd r sv hy : Nat → Int32} (hI : INV cy A W f mb rd r sv hy) {x0 x1 x2 : Int32} : PAIR l D cy B od yX7_sellAsset cX7_sellAsset 5 (some .int) rmX7_sellAsset yX8_sellAsset cX8_sellAsset 6 (some .int) rmX8_sellAsset [.int x0, .int x1, .int x2] [eIOB, eIAE, eISE] 0 238 A :=
  pr_mut (d := .int (nI 0)) hI (cp_X7_sellAsset l D cy B od hl9 hI.1) (fun A1 h => h.off) ok_ocSell rfl rfl rfl (fun A1 h h2 => cm_X8_sellAsset l D cy B od h hI.2.2.1.1.2.1 hI.2.2.1.1.2.2 h2 hI.e8) (fun A1 A3 g y9 ho hP hM hD => hI.ch hP hM hD (fun S9 hR => ch_sellAsset hI.2.2.1.1.1 hI.2.2.1.1.2.1 hI.1.1.2.2.1 hI.1.1.2.2.2.2 ho hR))
theorem pr_truncate (l : Launch) (D : va_G) (cy : Nat → ClassId) (B : Nat) (od : Nat → Option Nat) (hl9 : l.stackTraces = false) {A : AH} {W : LW} {f : MF} {mb rd r sv hy : Nat → Int32} (hI : INV cy A W f mb rd r sv hy) {x0 : Int32} : PAIR l D cy B od yX7_truncate cX7_truncate 2 (some .int) rmX7_truncate yX8_truncate cX8_truncate 2 (some .int) rmX8_truncate [.int x0] [eIAE] 0 238 A :=
  pr_mut (d := .int (nI 0)) hI (cp_X7_truncate l D cy B od hl9 hI.1) (fun A1 h => h.1) ok_ocTrun rfl (by show ocTrun (4, f.2.1.1, 0, vS W.1, vZ W.1) x0 = _; rw [hI.2.2.1.2.1.1]; rfl) rfl (fun A1 h h2 => cm_X8_truncate l D cy B od h hI.2.2.1.1.2.1 hI.2.2.1.1.2.2 h2 hI.e8 hI.l4) (fun A1 A3 g y9 ho hP hM hD => hI.trun ho hP.1 hP.2 hM hD)
theorem pr_append (l : Launch) (D : va_G) (cy : Nat → ClassId) (B : Nat) (od : Nat → Option Nat) (hl9 : l.stackTraces = false) {A : AH} {W : LW} {f : MF} {mb rd r sv hy : Nat → Int32} (hI : INV cy A W f mb rd r sv hy) {x0 x1 x2 x3 x4 : Int32} : PAIR l D cy B od yX7_append cX7_append 7 (some .int) rmX7_append yX8_append cX8_append 9 (some .int) rmX8_append [.int x0, .int x1, .int x2, .int x3, .int x4] [eISE] 0 238 A :=
  pr_mut (d := .int (nI 0)) hI (cp_X7_append l D cy B od hl9 hI.1) (fun A1 h => h.1) ok_ocApp rfl (app_oc hI).1 rfl (fun A1 h h2 => cm_X8_append l D cy B od h hI.2.2.1.1.2.1 hI.2.2.1.1.2.2 h2 hI.e8 hI.l4) (fun A1 A3 g y9 ho hP hM hD => hI.app ho hP.1 hP.2 hM hD)
theorem pr_undo (l : Launch) (D : va_G) (cy : Nat → ClassId) (B : Nat) (od : Nat → Option Nat) (hl9 : l.stackTraces = false) {A : AH} {W : LW} {f : MF} {mb rd r sv hy : Nat → Int32} (hI : INV cy A W f mb rd r sv hy) : PAIR l D cy B od yX7_undo cX7_undo 1 (some .int) rmX7_undo yX8_undo cX8_undo 2 (some .int) rmX8_undo [] [eISE] 0 238 A :=
  pr_mut (d := .int (nI 0)) hI (cp_X7_undo l D cy B od hl9 hI.1) (fun A1 h => h.1) ok_ocUndo rfl (by show (if 0 < f.2.2.1 then _ else _) = _; rw [hI.2.2.1.2.2.2.1]; rfl) rfl (fun A1 h h2 => cm_X8_undo l D cy B od h hI.2.2.1.1.2.1 hI.2.2.1.1.2.2 h2 hI.e8) (fun A1 A3 g y9 ho ⟨h1, h2, S2, h3, h4⟩ hM hD => hI.undo h1 h2 h3 h4 hM hD)
theorem pr_restore (l : Launch) (D : va_G) (cy : Nat → ClassId) (B : Nat) (od : Nat → Option Nat) (hl9 : l.stackTraces = false) {A : AH} {W : LW} {f : MF} {mb rd r sv hy : Nat → Int32} (hI : INV cy A W f mb rd r sv hy) : PAIR l D cy B od yX7_restore cX7_restore 1 (some .int) rmX7_restore yX8_restore cX8_restore 2 (some .int) rmX8_restore [] [eISE] 0 238 A := by
  obtain ⟨q9, e1, e2, e3⟩ := rest_oc hI
  refine pr_mut (d := .int (nI 0)) hI (cp_X7_restore l D cy B od hl9 hI.1) (fun A1 h => h.1) ok_ocRest rfl e2 rfl (fun A1 h h2 => cm_X8_restore l D cy B od h hI.2.2.1.1.2.1 hI.2.2.1.1.2.2 h2 hI.e8 e1) (fun A1 A3 g y9 ho ⟨h1, S2, h3, h4⟩ hM hD => hI.rest (e3 ?_) h1 h3 h4 hM hD)
  cases q9
  · rw [← e2] at ho; cases ho
  · rfl
theorem pr_load (l : Launch) (D : va_G) (cy : Nat → ClassId) (B : Nat) (od : Nat → Option Nat) (hl9 : l.stackTraces = false) {A : AH} {W : LW} {f : MF} {mb rd r sv hy : Nat → Int32} (hI : INV cy A W f mb rd r sv hy) : PAIR l D cy B od yX7_load cX7_load 1 (some .int) rmX7_load yX8_load cX8_load 1 (some .int) rmX8_load [] [eIAE] 0 238 A := by
  have hT := fun (tx : Nat → Int32) (ht : ∀ j, j < W.1.2.1 → tx j = W.2.1 j) => (show (∀ j, j < f.2.1.1 → mb j = tx j) ∧ ∀ j, j < f.2.1.1 → 0 ≤ tx j from by
    refine ⟨fun j hj => ?_, fun j hj => ?_⟩
    · rw [hI.2.2.1.2.1.1] at hj
      rw [ht j hj]; exact (hI.2.2.1.2.1.2 j hj).1
    · rw [hI.2.2.1.2.1.1] at hj
      obtain ⟨n, -, n2, n3⟩ := (hI.2.2.1.2.1.2 j hj).2
      rw [ht j hj, n3, Int32.le_iff_toInt_le, nI_toInt (by omega)]
      show (0 : Int) ≤ _
      omega)
  refine ⟨(fun (w : Value) (A' : AH) => ∃ R, PrC W.2.1 W.1.2.1 R ∧ R.1 = -1 ∧ w = .int (nI R.2.2.2.2.1) ∧ SameOff A A' 0 231 ∧ ∃ (t : Nat) (c2 : Nat → Nat → Int32), (∀ q j, j < R.2.2.2.2.1 → c2 q j = R.2.2.2.2.2 q j) ∧ LedA cy A' ((t, 0, nI 0, ((0, (vS W.1).1.2), (R.2.2.2.2.1, c2), (0, (vS W.1).2.2.1.2), (vS W.1).2.2.2.1, 0, R.2.2.2.1.2.1 0), R.2.2.2.1), W.2.1, W.2.2.1, (0, 0, W.2.2.2.2.2))), _, fun z => (cx_X7_load l D cy B od hl9 hI.1 z).mono (fun v A' z' ⟨_, R, h1, h2, h3, h4, h5⟩ => ⟨.int (nI R.2.2.2.2.1), h3, ⟨R, h1, h2, rfl, h4, h5⟩⟩) (fun E A' h => h), fun r A1 ⟨R, h1, h2, h3, h4, h5⟩ => ⟨by rw [h3]; rfl, hI.2.2.2.fr fun k hk => h4 k (by omega)⟩, fun E A1 h => by rw [h.1]; decide, fun r A1 e hQ he => ?_, fun E A1 hQ => ?_⟩
  · obtain ⟨R, ⟨tx, kd, n0, nm, Z, Rm, ht, hR⟩, h2, h3, h4, t, c2, h5, h6⟩ := hQ
    rcases he with ⟨-, g, rfl⟩ | ⟨h9, -⟩
    · have hL : f.2.1.1 = W.1.2.1 := hI.2.2.1.2.1.1
      refine ⟨⟨f, (hI.m1 h4).1⟩, (cm_X8_load l D cy B od (hI.m1 h4) hI.l4 (hT tx ht).1 (hT tx ht).2 (kd0 := kd) (n0 := n0) (nm0 := nm) (Z0 := Z) (Rm0 := Rm)).mo fun v A' ⟨q0, q1⟩ => ?_⟩
      rw [hL, ← hR] at q1
      rcases q1 with ⟨-, q2, f2, rd2, q3, q4, q5, q6⟩ | ⟨q1, -⟩
      · obtain ⟨W9, hW9⟩ := hI.load h4 h5 h6 q0 q3 q4 q5 q6
        exact ⟨by rw [q2, h3], ⟨W9, f2, mb, rd2, _, sv, hy, hW9, q4.1⟩, (q0 238 (Or.inr (by omega))).trans upA_eq⟩
      · exact absurd h2 q1
    · cases h9
  · obtain ⟨rfl, ⟨R, ⟨tx, kd, n0, nm, Z, Rm, ht, hR⟩, h2⟩, h4, h6⟩ := hQ
    have hL : f.2.1.1 = W.1.2.1 := hI.2.2.1.2.1.1
    refine ⟨⟨f, (hI.led h4 h6).2.1.1⟩, (cm_X8_load l D cy B od (hI.led h4 h6).2.1 hI.l4 (hT tx ht).1 (hT tx ht).2 (kd0 := kd) (n0 := n0) (nm0 := nm) (Z0 := Z) (Rm0 := Rm)).mo fun v A' ⟨q0, q1⟩ => ?_⟩
    rw [hL, ← hR] at q1
    rcases q1 with ⟨q1, -⟩ | ⟨-, q2, f2, rd2, q3, q4⟩
    · exact absurd q1 h2
    · exact ⟨⟨.int (nI 0), rfl, q2⟩, W, f2, mb, rd2, r, sv, hy, (hI.led h4 h6).err (SameOff.refl _ _ _) h6 q0 q3 (by rw [hL]; exact q4), q4.1⟩
