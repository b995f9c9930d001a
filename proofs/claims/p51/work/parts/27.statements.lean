/-! 27: the reader: statements -/
abbrev PS : Type := TK × FL4 × SV × RV
abbrev seE (t : Nat) (Z : SV) : va_E := .inr (4, [.int (Z.2.1 0), .int (Z.2.1 1), .int (Z.2.1 2), .int (Z.2.1 3), .int (Z.2.1 4), .int (nI Z.1), .ref (t + 1), .ref (t + 2), .ref (t + 3)])
def PsA (cy : Nat → ClassId) (A : AH) (t len : Nat) (tx : Nat → Int32) (s : PS) : Prop := A 2 = some (rdE t len s.1 s.2.1) ∧ A 3 = some (.inl (cy 0, 400, .inl tx)) ∧ SetA cy A t s.2.2.1 ∧ RoomA cy A (t + 3) s.2.2.2
/-- nothing but the reader and its target changed -/
def PFr (A A' : AH) (t : Nat) : Prop := ∀ k, k ≠ 2 → (k < t ∨ t + 7 ≤ k) → A' k = A k
theorem PFr.refl (A : AH) (t : Nat) : PFr A A t := fun _ _ _ => rfl
theorem PFr.k {A A' : AH} {t : Nat} {x : va_E} (h : PFr A A' t) : PFr A (upA A' 2 x) t := fun k h1 h2 => (upA_ne h1).trans (h k h1 h2)
theorem PFr.z {A A' : AH} {t j : Nat} {x : va_E} (h : PFr A A' t) (h1 : t ≤ j) (h2 : j < t + 7) : PFr A (upA A' j x) t := fun k h3 h4 => (upA_ne (by omega)).trans (h k h3 h4)
theorem PFr.trans {A A' A2 : AH} {t : Nat} (h : PFr A A' t) (h2 : PFr A' A2 t) : PFr A A2 t := fun k h3 h4 => (h2 k h3 h4).trans (h k h3 h4)
theorem PFr.off {A A' A2 : AH} {t : Nat} (h : PFr A A' t) (h2 : SameOff A' A2 (t + 3) (t + 7)) : PFr A A2 t := fun k h3 h4 => (h2 k (by omega)).trans (h k h3 h4)
theorem PsA.k {cy : Nat → ClassId} {A : AH} {t len : Nat} {tx : Nat → Int32} {s : PS} {k2 : TK} {fl2 : FL4} (ht : t = 4 ∨ t = 11) (h : PsA cy A t len tx s) : PsA cy (upA A 2 (rdE t len k2 fl2)) t len tx (k2, fl2, s.2.2) := by
  obtain ⟨h1, h2, h3, h4⟩ := h
  exact ⟨upA_eq, (upA_ne (by omega)).trans h2, h3.same (fun k _ _ => upA_ne (by omega)), h4.same (fun k _ _ => upA_ne (by omega))⟩
def zSet (Z : SV) (q : Nat) (v : Int32) : SV := (Z.1, fun j => if j = q then v else Z.2.1 j, Z.2.2)
theorem PsA.z {cy : Nat → ClassId} {A : AH} {t len : Nat} {tx : Nat → Int32} {s : PS} {q : Nat} {v : Int32} (ht : t = 4 ∨ t = 11) (h : PsA cy A t len tx s) : PsA cy (upA A t (seE t (zSet s.2.2.1 q v))) t len tx (s.1, s.2.1, zSet s.2.2.1 q v, s.2.2.2) := by
  obtain ⟨h1, h2, ⟨z0, z1, z2⟩, h4⟩ := h
  exact ⟨(upA_ne (by omega)).trans h1, (upA_ne (by omega)).trans h2, ⟨upA_eq, (upA_ne (by omega)).trans z1, (upA_ne (by omega)).trans z2⟩, h4.same (fun k _ _ => upA_ne (by omega))⟩
theorem PsA.to {cy : Nat → ClassId} {A : AH} {t len : Nat} {tx : Nat → Int32} {s s2 : PS} (h : PsA cy A t len tx s) (e : s = s2) : PsA cy A t len tx s2 := e ▸ h
def zAdd (Z : SV) (a b : Int32) : SV := (Z.1 + 1, Z.2.1, fun q => if q = 0 then upd (Z.2.2 0) Z.1 a else if q = 1 then upd (Z.2.2 1) Z.1 b else Z.2.2 q)
def lastL (Z : SV) : Int32 := if Z.1 = 0 then nI 0 else Z.2.2 0 (Z.1 - 1)
def rAdd (R : RV) (a f t : Int32) : RV := (R.1 + 1, fun q => match q with | 0 => upd (R.2 0) R.1 a | 1 => upd (R.2 1) R.1 f | 2 => upd (R.2 2) R.1 t | q => R.2 q)
def zDef (Z : SV) : SV := (0, fun j => match j with | 0 => nI 0 | 1 => nI 80000 | 2 => nI 100000 | 3 => nI 5 | 4 => nI 420 | j => Z.2.1 j, Z.2.2)
section SPEC
variable (tx : Nat → Int32) (len : Nat)
def rd1 (q : Nat) (lo hi : Int32) (fl2 : FL4) (s : PS) : Bool × PS := (decide (¬ tkV (tokN tx len s.1) lo hi = -1), (tkS tx len (tokN tx len s.1) lo hi, fl2, zSet s.2.2.1 q (tkV (tokN tx len s.1) lo hi), s.2.2.2))
def rdStart (s : PS) : Bool × PS := if ¬ s.2.1.1 = 0 then (false, s) else rd1 tx len 0 (nI 0) (nI 10000000) (nI 1, s.2.1.2) s
def rdInterest (s : PS) : Bool × PS := if ¬ s.2.1.2.2.1 = 0 then (false, s) else rd1 tx len 3 (nI 0) (nI 100) (s.2.1.1, s.2.1.2.1, nI 1, s.2.1.2.2.2) s
def rdTop (s : PS) : Bool × PS := if ¬ s.2.1.2.2.2 = 0 then (false, s) else rd1 tx len 4 (nI 0) (nI 900) (s.2.1.1, s.2.1.2.1, s.2.1.2.2.1, nI 1) s
def asRes (u : PS) (v1 : Int32) (k2 : TK) (v2 : Int32) (k3 : TK) : Bool × PS := if ¬ u.2.1.2.1 = 0 then (false, u) else if v1 = -1 then (false, (k2, (u.2.1.1, nI 1, u.2.1.2.2), zSet u.2.2.1 1 v1, u.2.2.2)) else (decide (¬ v2 = -1), (k3, (u.2.1.1, nI 1, u.2.1.2.2), zSet (zSet u.2.2.1 1 v1) 2 v2, u.2.2.2))
def rdAssets (s : PS) : Bool × PS := asRes s (tkV (tokN tx len s.1) (nI 0) (nI 1000000)) (tkS tx len (tokN tx len s.1) (nI 0) (nI 1000000)) (tkV (tkS tx len (tokN tx len s.1) (nI 0) (nI 1000000)) (tkV (tokN tx len s.1) (nI 0) (nI 1000000)) (nI 1000000)) (tkS tx len (tkS tx len (tokN tx len s.1) (nI 0) (nI 1000000)) (tkV (tokN tx len s.1) (nI 0) (nI 1000000)) (nI 1000000))
def rdBr2 (v1 : Int32) (s : PS) : Bool × PS := if tkV s.1 (nI 0) (nI 900) = -1 then (false, (tkS tx len s.1 (nI 0) (nI 900), s.2)) else (true, (tkS tx len s.1 (nI 0) (nI 900), s.2.1, zAdd s.2.2.1 v1 (tkV s.1 (nI 0) (nI 900)), s.2.2.2))
def rdBracket (s : PS) : Bool × PS := if 5 ≤ s.2.2.1.1 then (false, s) else if tkV (tokN tx len s.1) (lastL s.2.2.1 + nI 1) (nI 99999999) = -1 then (false, (tkS tx len (tokN tx len s.1) (lastL s.2.2.1 + nI 1) (nI 99999999), s.2)) else rdBr2 tx len (tkV (tokN tx len s.1) (lastL s.2.2.1 + nI 1) (nI 99999999)) (tkS tx len (tokN tx len s.1) (lastL s.2.2.1 + nI 1) (nI 99999999), s.2)
def rdRo3 (v1 v2 : Int32) (s : PS) : Bool × PS := if tkV s.1 v2 (nI 359) = -1 then (false, (tkS tx len s.1 v2 (nI 359), s.2)) else (true, (tkS tx len s.1 v2 (nI 359), s.2.1, s.2.2.1, rAdd s.2.2.2 v1 v2 (tkV s.1 v2 (nI 359))))
def rdRo2 (v1 : Int32) (s : PS) : Bool × PS := if isW tx s.1 6 = true then (if tkV (tokN tx len s.1) (nI 0) (nI 359) = -1 then (false, (tkS tx len (tokN tx len s.1) (nI 0) (nI 359), s.2)) else rdRo3 tx len v1 (tkV (tokN tx len s.1) (nI 0) (nI 359)) (tkS tx len (tokN tx len s.1) (nI 0) (nI 359), s.2)) else (true, (s.1, s.2.1, s.2.2.1, rAdd s.2.2.2 v1 (-1) (-1)))
def rdRoom (s : PS) : Bool × PS := if 6 ≤ s.2.2.2.1 then (false, s) else if tkV (tokN tx len s.1) (nI 1) (nI 500) = -1 then (false, (tkS tx len (tokN tx len s.1) (nI 1) (nI 500), s.2)) else rdRo2 tx len (tkV (tokN tx len s.1) (nI 1) (nI 500)) (tkS tx len (tokN tx len s.1) (nI 1) (nI 500), s.2)
def rdSt (s : PS) : Bool × PS := if isW tx s.1 0 = true then rdStart tx len s else if isW tx s.1 1 = true then rdAssets tx len s else if isW tx s.1 2 = true then rdInterest tx len s else if isW tx s.1 3 = true then rdTop tx len s else if isW tx s.1 4 = true then rdBracket tx len s else if isW tx s.1 5 = true then rdRoom tx len s else (false, s)
/-- at most n statements: the position of the error, or -1 -/
def rdL : Nat → PS → Int32 × PS
  | 0, s => (nI s.1.2.2.1, s)
  | n + 1, s => if (rdSt tx len s).1 = true then (if (rdSt tx len s).2.1.2.1 = 0 then (-1, (rdSt tx len s).2) else if (rdSt tx len s).2.1.2.1 = nI 3 ∧ tx (rdSt tx len s).2.1.2.2.1 = nI 59 then rdL n (tokN tx len (rdSt tx len s).2.1, (rdSt tx len s).2.2) else (nI (rdSt tx len s).2.1.2.2.1, (rdSt tx len s).2)) else (nI (rdSt tx len s).2.1.2.2.1, (rdSt tx len s).2)
end SPEC
/-- well formed -/
def PsW (len : Nat) (s : PS) : Prop := (s.1.1 ≤ len ∧ s.1.2.2.1 ≤ s.1.1) ∧ s.2.2.1.1 ≤ 5 ∧ s.2.2.2.1 ≤ 6
set_option maxRecDepth 100000 in
set_option maxHeartbeats 400000 in
theorem cm_X4_lastLimit (l : Launch) (D : va_G) (cy : Nat → ClassId) (B : Nat) (od : Nat → Option Nat) {A : AH} {t : Nat} {Z : SV} (h9 : SetA cy A t Z) (hn : Z.1 ≤ 5) : CM l D cy B od yX4_lastLimit cX4_lastLimit 1 (some .int) rmX4_lastLimit [.ref t] A (fun v A' => v = some (.int (lastL Z)) ∧ A' = A) := by
  intro z
  refine CT.of (by decide) tX4_lastLimit okX4_lastLimit (Nat.le_of_ble_eq_true rfl) (q0 := tX4_lastLimit[0]) rfl rfl ?_
  intro p e s m args below meth c X _
  obtain ⟨hS, hS0, hS1⟩ := id h9
  refine g_aload_n X rfl rfl ?_
  refine g_get X rfl flX4_46 (ci := 4) rfl (by (repeat (first | exact hS | exact upA_eq | refine (upA_ne (by omega)).trans ?_))) rfl ?_
  refine g_if_ne X rfl (fun h1 => ?_) (fun h1 => ?_)
  · have hz : ¬ Z.1 = 0 := fun q => h1 (by rw [q, nI_0])
    refine g_aload_n X rfl rfl ?_
    refine g_get X rfl flX4_9 (ci := 4) rfl (by (repeat (first | exact hS | exact upA_eq | refine (upA_ne (by omega)).trans ?_))) rfl ?_
    refine g_aload_n X rfl rfl ?_
    refine g_get X rfl flX4_46 (ci := 4) rfl (by (repeat (first | exact hS | exact upA_eq | refine (upA_ne (by omega)).trans ?_))) rfl ?_
    refine g_iconst X rfl (v := nI 1) (by decide) ?_
    refine g_isub X rfl ?_
    rw [pk_sub (by omega)]
    refine g_ialdN X rfl (by (repeat (first | exact hS0 | exact upA_eq | refine (upA_ne (by omega)).trans ?_))) (by omega) (by decide) ?_
    refine g_iret X rfl rfl (by first | rfl | exact bI_nar _ | decide) (Nat.le_of_ble_eq_true rfl) (Nat.le_of_ble_eq_true rfl) ⟨rfl, ?_⟩
    exact ⟨by first | rw [lastL, if_pos (by assumption)] | rw [lastL, if_neg (by assumption)], rfl⟩
  · have hz : Z.1 = 0 := by have := h1; rw [← nI_0, nI_eq (by omega) (by decide)] at this; exact this
    refine g_iconst X rfl (v := nI 0) (by decide) ?_
    refine g_goto X rfl ?_
    refine g_iret X rfl rfl (by first | rfl | exact bI_nar _ | decide) (Nat.le_of_ble_eq_true rfl) (Nat.le_of_ble_eq_true rfl) ⟨rfl, ?_⟩
    exact ⟨by first | rw [lastL, if_pos (by assumption)] | rw [lastL, if_neg (by assumption)], rfl⟩
set_option maxRecDepth 100000 in
set_option maxHeartbeats 400000 in
theorem cm_X4_addBracket (l : Launch) (D : va_G) (cy : Nat → ClassId) (B : Nat) (od : Nat → Option Nat) {A : AH} {t : Nat} {Z : SV} (h9 : SetA cy A t Z) (hn : Z.1 < 5) {a b : Int32} : CM l D cy B od yX4_addBracket cX4_addBracket 3 none rmX4_addBracket [.ref t, .int a, .int b] A (fun v A' => v = none ∧ SameOff A A' t (t + 3) ∧ SetA cy A' t (zAdd Z a b)) := by
  intro z
  refine CT.of (by decide) tX4_addBracket okX4_addBracket (Nat.le_of_ble_eq_true rfl) (q0 := tX4_addBracket[0]) rfl rfl ?_
  intro p e s m args below meth c X _
  obtain ⟨hS, hS0, hS1⟩ := id h9
  refine g_aload_n X rfl rfl ?_
  refine g_get X rfl flX4_46 (ci := 4) rfl (by (repeat (first | exact hS | exact upA_eq | refine (upA_ne (by omega)).trans ?_))) rfl ?_
  refine g_iconst X rfl (v := nI 5) (by decide) ?_
  first | refine g_ic_geN X rfl (by omega) (by omega) (fun h1 => ?_) (fun h1 => ?_) | refine g_icmp_ge X rfl (fun h1 => ?_) (fun h1 => ?_)
  · exact absurd h1 (by omega)
  · refine g_aload_n X rfl rfl ?_
    refine g_get X rfl flX4_9 (ci := 4) rfl (by (repeat (first | exact hS | exact upA_eq | refine (upA_ne (by omega)).trans ?_))) rfl ?_
    refine g_aload_n X rfl rfl ?_
    refine g_get X rfl flX4_46 (ci := 4) rfl (by (repeat (first | exact hS | exact upA_eq | refine (upA_ne (by omega)).trans ?_))) rfl ?_
    refine g_iload_n X rfl rfl ?_
    refine g_iastN X rfl (by (repeat (first | exact hS0 | exact upA_eq | refine (upA_ne (by omega)).trans ?_))) (by omega) (by decide) ?_
    refine g_aload_n X rfl rfl ?_
    refine g_get X rfl flX4_15 (ci := 4) rfl (by (repeat (first | exact hS | exact upA_eq | refine (upA_ne (by omega)).trans ?_))) rfl ?_
    refine g_aload_n X rfl rfl ?_
    refine g_get X rfl flX4_46 (ci := 4) rfl (by (repeat (first | exact hS | exact upA_eq | refine (upA_ne (by omega)).trans ?_))) rfl ?_
    refine g_iload_n X rfl rfl ?_
    refine g_iastN X rfl (by (repeat (first | exact hS1 | exact upA_eq | refine (upA_ne (by omega)).trans ?_))) (by omega) (by decide) ?_
    refine g_aload_n X rfl rfl ?_
    refine g_dup X rfl rfl ?_
    refine g_get X rfl flX4_46 (ci := 4) rfl (by (repeat (first | exact hS | exact upA_eq | refine (upA_ne (by omega)).trans ?_))) rfl ?_
    refine g_iconst X rfl (v := nI 1) (by decide) ?_
    refine g_iadd X rfl ?_
    rw [nI_add]
    refine g_put X rfl flX4_46 rfl (ci := 4) rfl (by (repeat (first | exact hS | exact upA_eq | refine (upA_ne (by omega)).trans ?_))) (Nat.le_of_ble_eq_true rfl) (by first | rfl | exact bI_nar _) (by first | rfl | decide) ?_
    refine g_vret X rfl rfl (Nat.le_of_ble_eq_true rfl) (Nat.le_of_ble_eq_true rfl) ⟨rfl, ?_⟩
    exact ⟨rfl, (((SameOff.refl A t (t + 3)).up (by omega) (by omega)).up (by omega) (by omega)).up (by omega) (by omega), upA_eq, (upA_ne (by omega)).trans ((upA_ne (by omega)).trans upA_eq), (upA_ne (by omega)).trans upA_eq⟩
set_option maxRecDepth 100000 in
set_option maxHeartbeats 400000 in
theorem cm_X4_useDefaults (l : Launch) (D : va_G) (cy : Nat → ClassId) (B : Nat) (od : Nat → Option Nat) {A : AH} {t : Nat} {Z : SV} {Rm : RV} (h9 : SetA cy A t Z) (hR9 : RoomA cy A (t + 3) Rm) : CM l D cy B od yX4_useDefaults cX4_useDefaults 1 none rmX4_useDefaults [.ref t] A (fun v A' => v = none ∧ (∀ k, k < t ∨ t + 7 ≤ k → A' k = A k) ∧ SetA cy A' t (zDef Z) ∧ RoomA cy A' (t + 3) (0, Rm.2)) := by
  intro z
  refine CT.of (by decide) tX4_useDefaults okX4_useDefaults (Nat.le_of_ble_eq_true rfl) (q0 := tX4_useDefaults[0]) rfl rfl ?_
  intro p e s m args below meth c X _
  obtain ⟨hS, hS0, hS1⟩ := id h9
  obtain ⟨hR, hR0, hR1, hR2⟩ := id hR9
  refine g_aload_n X rfl rfl ?_
  refine g_iconst X rfl (v := nI 0) (by decide) ?_
  refine g_put X rfl flX4_28 rfl (ci := 4) rfl (by (repeat (first | exact hS | exact upA_eq | refine (upA_ne (by omega)).trans ?_))) (Nat.le_of_ble_eq_true rfl) (by first | rfl | exact bI_nar _) (by first | rfl | decide) ?_
  refine g_aload_n X rfl rfl ?_
  refine g_ldc X rfl kcX4_32 ?_
  refine g_put X rfl flX4_33 rfl (ci := 4) rfl (by (repeat (first | exact hS | exact upA_eq | refine (upA_ne (by omega)).trans ?_))) (Nat.le_of_ble_eq_true rfl) (by first | rfl | exact bI_nar _) (by first | rfl | decide) ?_
  refine g_aload_n X rfl rfl ?_
  refine g_ldc X rfl kcX4_36 ?_
  refine g_put X rfl flX4_37 rfl (ci := 4) rfl (by (repeat (first | exact hS | exact upA_eq | refine (upA_ne (by omega)).trans ?_))) (Nat.le_of_ble_eq_true rfl) (by first | rfl | exact bI_nar _) (by first | rfl | decide) ?_
  refine g_aload_n X rfl rfl ?_
  refine g_iconst X rfl (v := nI 5) (by decide) ?_
  refine g_put X rfl flX4_40 rfl (ci := 4) rfl (by (repeat (first | exact hS | exact upA_eq | refine (upA_ne (by omega)).trans ?_))) (Nat.le_of_ble_eq_true rfl) (by first | rfl | exact bI_nar _) (by first | rfl | decide) ?_
  refine g_aload_n X rfl rfl ?_
  refine g_sipush X rfl (v := nI 420) (by decide) ?_
  refine g_put X rfl flX4_43 rfl (ci := 4) rfl (by (repeat (first | exact hS | exact upA_eq | refine (upA_ne (by omega)).trans ?_))) (Nat.le_of_ble_eq_true rfl) (by first | rfl | exact bI_nar _) (by first | rfl | decide) ?_
  refine g_aload_n X rfl rfl ?_
  refine g_iconst X rfl (v := nI 0) (by decide) ?_
  refine g_put X rfl flX4_46 rfl (ci := 4) rfl (by (repeat (first | exact hS | exact upA_eq | refine (upA_ne (by omega)).trans ?_))) (Nat.le_of_ble_eq_true rfl) (by first | rfl | exact bI_nar _) (by first | rfl | decide) ?_
  refine g_aload_n X rfl rfl ?_
  refine g_get X rfl flX4_21 (ci := 4) rfl (by (repeat (first | exact hS | exact upA_eq | refine (upA_ne (by omega)).trans ?_))) rfl ?_
  refine g_iconst X rfl (v := nI 0) (by decide) ?_
  refine g_put X rfl flX4_49 rfl (ci := 3) rfl (by (repeat (first | exact hR | exact upA_eq | refine (upA_ne (by omega)).trans ?_))) (Nat.le_of_ble_eq_true rfl) (by first | rfl | exact bI_nar _) (by first | rfl | decide) ?_
  refine g_vret X rfl rfl (Nat.le_of_ble_eq_true rfl) (Nat.le_of_ble_eq_true rfl) ⟨rfl, ?_⟩
  refine ⟨rfl, fun k hk => ?_, ⟨?_, ?_, ?_⟩, ⟨?_, ?_, ?_, ?_⟩⟩
  · exact (upA_ne (by omega)).trans ((upA_ne (by omega)).trans ((upA_ne (by omega)).trans ((upA_ne (by omega)).trans ((upA_ne (by omega)).trans ((upA_ne (by omega)).trans (upA_ne (by omega)))))))
  · exact (upA_ne (by omega)).trans upA_eq
  · (repeat (first | exact hS0 | refine (upA_ne (by omega)).trans ?_))
  · (repeat (first | exact hS1 | refine (upA_ne (by omega)).trans ?_))
  · exact upA_eq
  · (repeat (first | exact hR0 | refine (upA_ne (by omega)).trans ?_))
  · (repeat (first | exact hR1 | refine (upA_ne (by omega)).trans ?_))
  · (repeat (first | exact hR2 | refine (upA_ne (by omega)).trans ?_))
set_option maxRecDepth 100000 in
set_option maxHeartbeats 400000 in
theorem cm_X3_addE (l : Launch) (D : va_G) (cy : Nat → ClassId) (B : Nat) (od : Nat → Option Nat) {A : AH} {b : Nat} {E : RV} (h1 : RoomA cy A b E) (hn : E.1 < 6) {ar fr to : Int32} : CM l D cy B od yX3_add cX3_add 4 (some .int) rmX3_add [.ref b, .int ar, .int fr, .int to] A (fun v A' => v = some (.int (nI E.1)) ∧ SameOff A A' b (b + 4) ∧ RoomA cy A' b (rAdd E ar fr to)) := by
  intro z
  refine CT.of (by decide) tX3_add okX3_add (Nat.le_of_ble_eq_true rfl) (q0 := tX3_add[0]) rfl rfl ?_
  intro p e s m args below meth c X _
  obtain ⟨hR, hR0, hR1, hR2⟩ := id h1
  refine g_aload_n X rfl rfl ?_
  refine g_get X rfl flX3_21 (ci := 3) rfl (by (repeat (first | exact hR | exact upA_eq | refine (upA_ne (by omega)).trans ?_))) rfl ?_
  refine g_bipush X rfl (v := nI 6) (by decide) ?_
  first | refine g_ic_ltN X rfl (by omega) (by omega) (fun h1 => ?_) (fun h1 => ?_) | refine g_icmp_lt X rfl (fun h1 => ?_) (fun h1 => ?_)
  · refine g_aload_n X rfl rfl ?_
    refine g_get X rfl flX3_9 (ci := 3) rfl (by (repeat (first | exact hR | exact upA_eq | refine (upA_ne (by omega)).trans ?_))) rfl ?_
    refine g_aload_n X rfl rfl ?_
    refine g_get X rfl flX3_21 (ci := 3) rfl (by (repeat (first | exact hR | exact upA_eq | refine (upA_ne (by omega)).trans ?_))) rfl ?_
    refine g_iload_n X rfl rfl ?_
    refine g_iastN X rfl (by (repeat (first | exact hR0 | exact upA_eq | refine (upA_ne (by omega)).trans ?_))) (by omega) (by decide) ?_
    refine g_aload_n X rfl rfl ?_
    refine g_get X rfl flX3_15 (ci := 3) rfl (by (repeat (first | exact hR | exact upA_eq | refine (upA_ne (by omega)).trans ?_))) rfl ?_
    refine g_aload_n X rfl rfl ?_
    refine g_get X rfl flX3_21 (ci := 3) rfl (by (repeat (first | exact hR | exact upA_eq | refine (upA_ne (by omega)).trans ?_))) rfl ?_
    refine g_iload_n X rfl rfl ?_
    refine g_iastN X rfl (by (repeat (first | exact hR1 | exact upA_eq | refine (upA_ne (by omega)).trans ?_))) (by omega) (by decide) ?_
    refine g_aload_n X rfl rfl ?_
    refine g_get X rfl flX3_18 (ci := 3) rfl (by (repeat (first | exact hR | exact upA_eq | refine (upA_ne (by omega)).trans ?_))) rfl ?_
    refine g_aload_n X rfl rfl ?_
    refine g_get X rfl flX3_21 (ci := 3) rfl (by (repeat (first | exact hR | exact upA_eq | refine (upA_ne (by omega)).trans ?_))) rfl ?_
    refine g_iload_n X rfl rfl ?_
    refine g_iastN X rfl (by (repeat (first | exact hR2 | exact upA_eq | refine (upA_ne (by omega)).trans ?_))) (by omega) (by decide) ?_
    refine g_aload_n X rfl rfl ?_
    refine g_dup X rfl rfl ?_
    refine g_get X rfl flX3_21 (ci := 3) rfl (by (repeat (first | exact hR | exact upA_eq | refine (upA_ne (by omega)).trans ?_))) rfl ?_
    refine g_iconst X rfl (v := nI 1) (by decide) ?_
    refine g_iadd X rfl ?_
    rw [nI_add]
    refine g_put X rfl flX3_21 rfl (ci := 3) rfl (by (repeat (first | exact hR | exact upA_eq | refine (upA_ne (by omega)).trans ?_))) (Nat.le_of_ble_eq_true rfl) (by first | rfl | exact bI_nar _) (by first | rfl | decide) ?_
    refine g_aload_n X rfl rfl ?_
    refine g_get X rfl flX3_21 (ci := 3) rfl (by (repeat (first | exact hR | exact upA_eq | refine (upA_ne (by omega)).trans ?_))) rfl ?_
    refine g_iconst X rfl (v := nI 1) (by decide) ?_
    refine g_isub X rfl ?_
    refine g_iret X rfl rfl (by first | rfl | exact bI_nar _ | decide) (Nat.le_of_ble_eq_true rfl) (Nat.le_of_ble_eq_true rfl) ⟨rfl, ?_⟩
    exact ⟨by rw [pk_sub (by omega)]; rfl, by (repeat (first | exact SameOff.refl _ _ _ | refine SameOff.up ?_ (by omega) (by omega))), (by (repeat (first | exact hR | exact upA_eq | refine (upA_ne (by omega)).trans ?_))), (by (repeat (first | exact hR0 | exact upA_eq | refine (upA_ne (by omega)).trans ?_))), (by (repeat (first | exact hR1 | exact upA_eq | refine (upA_ne (by omega)).trans ?_))), (by (repeat (first | exact hR2 | exact upA_eq | refine (upA_ne (by omega)).trans ?_)))⟩
  · exact absurd h1 (by omega)
set_option maxRecDepth 100000 in
set_option maxHeartbeats 400000 in
theorem cm_X5_readStart (l : Launch) (D : va_G) (cy : Nat → ClassId) (B : Nat) (od : Nat → Option Nat) {A : AH} {t len : Nat} {tx : Nat → Int32} {u : PS} (hP : PsA cy A t len tx u) (hW : PsW len u) (hlen : len ≤ 400) (ht : t = 4 ∨ t = 11) : CM l D cy B od yX5_readStart cX5_readStart 1 (some .boolean) rmX5_readStart [.ref 2] A (fun v A' => v = some (.int (bI (rdStart tx len u).1)) ∧ PFr A A' t ∧ PsA cy A' t len tx (rdStart tx len u).2) := by
  intro z
  refine CT.of (by decide) tX5_readStart okX5_readStart (Nat.le_of_ble_eq_true rfl) (q0 := tX5_readStart[0]) rfl rfl ?_
  intro p e s m args below meth c X _
  have hF := PFr.refl A t
  have hk := hW.1
  have hz5 := hW.2.1
  have hr6 := hW.2.2
  obtain ⟨hr, htx, hS9, hR9⟩ := id hP
  obtain ⟨hS, hS0, hS1⟩ := id hS9
  obtain ⟨hR, hR0, hR1, hR2⟩ := id hR9
  refine g_aload_n X rfl rfl ?_
  refine g_get X rfl flX5_52 (ci := 5) rfl (by (repeat (first | exact hr | exact upA_eq | refine (upA_ne (by omega)).trans ?_))) rfl ?_
  refine g_if_eq X rfl (fun h1 => ?_) (fun h1 => ?_)
  · refine g_aload_n X rfl rfl ?_
    refine g_iconst X rfl (v := nI 1) (by decide) ?_
    refine g_put X rfl flX5_52 rfl (ci := 5) rfl (by (repeat (first | exact hr | exact upA_eq | refine (upA_ne (by omega)).trans ?_))) (Nat.le_of_ble_eq_true rfl) (show narrow .boolean (.int (nI 1)) = .int (nI 1) from by decide) (by first | rfl | decide) ?_
    refine G.cast (A2 := upA _ 2 (rdE t len (u.1) ((nI 1, u.2.1.2)))) rfl ?_
    have hP := PsA.to (s2 := (u.1, (nI 1, u.2.1.2), u.2.2.1, u.2.2.2)) (PsA.k (k2 := u.1) (fl2 := (nI 1, u.2.1.2)) ht hP) rfl
    have hF := hF.k (x := rdE t len (u.1) ((nI 1, u.2.1.2)))
    obtain ⟨hr, htx, hS9, hR9⟩ := id hP
    obtain ⟨hS, hS0, hS1⟩ := id hS9
    obtain ⟨hR, hR0, hR1, hR2⟩ := id hR9
    refine g_aload_n X rfl rfl ?_
    refine g_mV X rfl lcX5_nextToken lmX5_26 lsX5_nextToken (cm_X5_nextToken l D cy B od (k := u.1) (fl := (nI 1, u.2.1.2)) hr htx hlen hk.1) (ci := 5) (by (repeat (first | exact hr | exact upA_eq | refine (upA_ne (by omega)).trans ?_))) rfl rfl rfl (Nat.le_of_ble_eq_true rfl) ⟨⟨by decide, by decide⟩, rfl, rfl⟩ ⟨Nat.le_of_ble_eq_true rfl, Nat.le_of_ble_eq_true rfl⟩ (fun v2 A2 q2 => ?_)
    obtain ⟨rfl, rfl⟩ := q2
    have hP := PsA.to (s2 := (tokN tx len (u.1), (nI 1, u.2.1.2), u.2.2.1, u.2.2.2)) (PsA.k (k2 := tokN tx len (u.1)) (fl2 := (nI 1, u.2.1.2)) ht hP) rfl
    have hF := hF.k (x := rdE t len (tokN tx len (u.1)) ((nI 1, u.2.1.2)))
    have hk := tok_le (tx := tx) hk.1
    obtain ⟨hr, htx, hS9, hR9⟩ := id hP
    obtain ⟨hS, hS0, hS1⟩ := id hS9
    obtain ⟨hR, hR0, hR1, hR2⟩ := id hR9
    refine g_aload_n X rfl rfl ?_
    refine g_get X rfl flX5_18 (ci := 5) rfl (by (repeat (first | exact hr | exact upA_eq | refine (upA_ne (by omega)).trans ?_))) rfl ?_
    refine g_aload_n X rfl rfl ?_
    refine g_iconst X rfl (v := nI 0) (by decide) ?_
    refine g_ldc X rfl kcX5_102 ?_
    refine g_mV X rfl lcX5_takeNumber lmX5_103 lsX5_takeNumber (cm_X5_takeNumber l D cy B od (k := tokN tx len u.1) (fl := (nI 1, u.2.1.2)) (lo := nI 0) (hi := nI 10000000) hr htx hlen hk.1) (ci := 5) (by (repeat (first | exact hr | exact upA_eq | refine (upA_ne (by omega)).trans ?_))) rfl rfl rfl (Nat.le_of_ble_eq_true rfl) ⟨⟨by decide, by decide⟩, rfl, rfl⟩ ⟨Nat.le_of_ble_eq_true rfl, Nat.le_of_ble_eq_true rfl⟩ (fun v3 A3 q3 => ?_)
    obtain ⟨rfl, rfl⟩ := q3
    have hP := PsA.to (s2 := (tkS tx len (tokN tx len u.1) (nI 0) (nI 10000000), (nI 1, u.2.1.2), u.2.2.1, u.2.2.2)) (PsA.k (k2 := tkS tx len (tokN tx len u.1) (nI 0) (nI 10000000)) (fl2 := (nI 1, u.2.1.2)) ht hP) rfl
    have hF := hF.k (x := rdE t len (tkS tx len (tokN tx len u.1) (nI 0) (nI 10000000)) ((nI 1, u.2.1.2)))
    have hk := tkS_le (tx := tx) (lo := nI 0) (hi := nI 10000000) hk.1 hk.2
    obtain ⟨hr, htx, hS9, hR9⟩ := id hP
    obtain ⟨hS, hS0, hS1⟩ := id hS9
    obtain ⟨hR, hR0, hR1, hR2⟩ := id hR9
    refine g_put X rfl flX5_106 rfl (ci := 4) rfl (by (repeat (first | exact hS | exact upA_eq | refine (upA_ne (by omega)).trans ?_))) (Nat.le_of_ble_eq_true rfl) (by first | rfl | exact bI_nar _) (by first | rfl | decide) ?_
    refine G.cast (A2 := upA _ t (seE t (zSet (u.2.2.1) 0 (tkV (tokN tx len u.1) (nI 0) (nI 10000000))))) rfl ?_
    have hP := PsA.to (s2 := (tkS tx len (tokN tx len u.1) (nI 0) (nI 10000000), (nI 1, u.2.1.2), zSet (u.2.2.1) 0 (tkV (tokN tx len u.1) (nI 0) (nI 10000000)), u.2.2.2)) (PsA.z (q := 0) (v := tkV (tokN tx len u.1) (nI 0) (nI 10000000)) ht hP) rfl
    have hF := hF.z (j := t) (x := seE t (zSet (u.2.2.1) 0 (tkV (tokN tx len u.1) (nI 0) (nI 10000000)))) (by omega) (by omega)
    obtain ⟨hr, htx, hS9, hR9⟩ := id hP
    obtain ⟨hS, hS0, hS1⟩ := id hS9
    obtain ⟨hR, hR0, hR1, hR2⟩ := id hR9
    refine g_aload_n X rfl rfl ?_
    refine g_get X rfl flX5_18 (ci := 5) rfl (by (repeat (first | exact hr | exact upA_eq | refine (upA_ne (by omega)).trans ?_))) rfl ?_
    refine g_get X rfl flX5_106 (ci := 4) rfl (by (repeat (first | exact hS | exact upA_eq | refine (upA_ne (by omega)).trans ?_))) rfl ?_
    refine g_iconst X rfl (v := (-1)) (by decide) ?_
    refine g_icmp_eq X rfl (fun h4 => ?_) (fun h4 => ?_)
    · refine g_iconst X rfl (v := nI 0) (by decide) ?_
      refine g_iret X rfl rfl (by first | rfl | exact bI_nar _ | decide) (Nat.le_of_ble_eq_true rfl) (Nat.le_of_ble_eq_true rfl) ⟨rfl, ?_⟩
      first | ((have e9 : rdStart tx len u = (false, u) := by rw [rdStart, if_pos (by assumption)]); rw [e9]; exact ⟨rfl, hF, hP⟩) | ((have e9 : rdStart tx len u = rd1 tx len 0 (nI 0) (nI 10000000) ((nI 1, u.2.1.2)) u := by rw [rdStart, if_neg (by simp_all; done)]); rw [e9]; exact ⟨by rw [rd1]; first | exact bR0 (decide_eq_false (fun q => q (by assumption))) | exact bR1 (decide_eq_true (by assumption)), hF, hP⟩)
    · refine g_iconst X rfl (v := nI 1) (by decide) ?_
      refine g_goto X rfl ?_
      refine g_iret X rfl rfl (by first | rfl | exact bI_nar _ | decide) (Nat.le_of_ble_eq_true rfl) (Nat.le_of_ble_eq_true rfl) ⟨rfl, ?_⟩
      first | ((have e9 : rdStart tx len u = (false, u) := by rw [rdStart, if_pos (by assumption)]); rw [e9]; exact ⟨rfl, hF, hP⟩) | ((have e9 : rdStart tx len u = rd1 tx len 0 (nI 0) (nI 10000000) ((nI 1, u.2.1.2)) u := by rw [rdStart, if_neg (by simp_all; done)]); rw [e9]; exact ⟨by rw [rd1]; first | exact bR0 (decide_eq_false (fun q => q (by assumption))) | exact bR1 (decide_eq_true (by assumption)), hF, hP⟩)
  · refine g_iconst X rfl (v := nI 0) (by decide) ?_
    refine g_iret X rfl rfl (by first | rfl | exact bI_nar _ | decide) (Nat.le_of_ble_eq_true rfl) (Nat.le_of_ble_eq_true rfl) ⟨rfl, ?_⟩
    first | ((have e9 : rdStart tx len u = (false, u) := by rw [rdStart, if_pos (by assumption)]); rw [e9]; exact ⟨rfl, hF, hP⟩) | ((have e9 : rdStart tx len u = rd1 tx len 0 (nI 0) (nI 10000000) ((nI 1, u.2.1.2)) u := by rw [rdStart, if_neg (by simp_all; done)]); rw [e9]; exact ⟨by rw [rd1]; first | exact bR0 (decide_eq_false (fun q => q (by assumption))) | exact bR1 (decide_eq_true (by assumption)), hF, hP⟩)
set_option maxRecDepth 100000 in
set_option maxHeartbeats 400000 in
theorem cm_X5_readInterest (l : Launch) (D : va_G) (cy : Nat → ClassId) (B : Nat) (od : Nat → Option Nat) {A : AH} {t len : Nat} {tx : Nat → Int32} {u : PS} (hP : PsA cy A t len tx u) (hW : PsW len u) (hlen : len ≤ 400) (ht : t = 4 ∨ t = 11) : CM l D cy B od yX5_readInterest cX5_readInterest 1 (some .boolean) rmX5_readInterest [.ref 2] A (fun v A' => v = some (.int (bI (rdInterest tx len u).1)) ∧ PFr A A' t ∧ PsA cy A' t len tx (rdInterest tx len u).2) := by
  intro z
  refine CT.of (by decide) tX5_readInterest okX5_readInterest (Nat.le_of_ble_eq_true rfl) (q0 := tX5_readInterest[0]) rfl rfl ?_
  intro p e s m args below meth c X _
  have hF := PFr.refl A t
  have hk := hW.1
  have hz5 := hW.2.1
  have hr6 := hW.2.2
  obtain ⟨hr, htx, hS9, hR9⟩ := id hP
  obtain ⟨hS, hS0, hS1⟩ := id hS9
  obtain ⟨hR, hR0, hR1, hR2⟩ := id hR9
  refine g_aload_n X rfl rfl ?_
  refine g_get X rfl flX5_59 (ci := 5) rfl (by (repeat (first | exact hr | exact upA_eq | refine (upA_ne (by omega)).trans ?_))) rfl ?_
  refine g_if_eq X rfl (fun h1 => ?_) (fun h1 => ?_)
  · refine g_aload_n X rfl rfl ?_
    refine g_iconst X rfl (v := nI 1) (by decide) ?_
    refine g_put X rfl flX5_59 rfl (ci := 5) rfl (by (repeat (first | exact hr | exact upA_eq | refine (upA_ne (by omega)).trans ?_))) (Nat.le_of_ble_eq_true rfl) (show narrow .boolean (.int (nI 1)) = .int (nI 1) from by decide) (by first | rfl | decide) ?_
    refine G.cast (A2 := upA _ 2 (rdE t len (u.1) ((u.2.1.1, u.2.1.2.1, nI 1, u.2.1.2.2.2)))) rfl ?_
    have hP := PsA.to (s2 := (u.1, (u.2.1.1, u.2.1.2.1, nI 1, u.2.1.2.2.2), u.2.2.1, u.2.2.2)) (PsA.k (k2 := u.1) (fl2 := (u.2.1.1, u.2.1.2.1, nI 1, u.2.1.2.2.2)) ht hP) rfl
    have hF := hF.k (x := rdE t len (u.1) ((u.2.1.1, u.2.1.2.1, nI 1, u.2.1.2.2.2)))
    obtain ⟨hr, htx, hS9, hR9⟩ := id hP
    obtain ⟨hS, hS0, hS1⟩ := id hS9
    obtain ⟨hR, hR0, hR1, hR2⟩ := id hR9
    refine g_aload_n X rfl rfl ?_
    refine g_mV X rfl lcX5_nextToken lmX5_26 lsX5_nextToken (cm_X5_nextToken l D cy B od (k := u.1) (fl := (u.2.1.1, u.2.1.2.1, nI 1, u.2.1.2.2.2)) hr htx hlen hk.1) (ci := 5) (by (repeat (first | exact hr | exact upA_eq | refine (upA_ne (by omega)).trans ?_))) rfl rfl rfl (Nat.le_of_ble_eq_true rfl) ⟨⟨by decide, by decide⟩, rfl, rfl⟩ ⟨Nat.le_of_ble_eq_true rfl, Nat.le_of_ble_eq_true rfl⟩ (fun v2 A2 q2 => ?_)
    obtain ⟨rfl, rfl⟩ := q2
    have hP := PsA.to (s2 := (tokN tx len (u.1), (u.2.1.1, u.2.1.2.1, nI 1, u.2.1.2.2.2), u.2.2.1, u.2.2.2)) (PsA.k (k2 := tokN tx len (u.1)) (fl2 := (u.2.1.1, u.2.1.2.1, nI 1, u.2.1.2.2.2)) ht hP) rfl
    have hF := hF.k (x := rdE t len (tokN tx len (u.1)) ((u.2.1.1, u.2.1.2.1, nI 1, u.2.1.2.2.2)))
    have hk := tok_le (tx := tx) hk.1
    obtain ⟨hr, htx, hS9, hR9⟩ := id hP
    obtain ⟨hS, hS0, hS1⟩ := id hS9
    obtain ⟨hR, hR0, hR1, hR2⟩ := id hR9
    refine g_aload_n X rfl rfl ?_
    refine g_get X rfl flX5_18 (ci := 5) rfl (by (repeat (first | exact hr | exact upA_eq | refine (upA_ne (by omega)).trans ?_))) rfl ?_
    refine g_aload_n X rfl rfl ?_
    refine g_iconst X rfl (v := nI 0) (by decide) ?_
    refine g_bipush X rfl (v := nI 100) (by decide) ?_
    refine g_mV X rfl lcX5_takeNumber lmX5_103 lsX5_takeNumber (cm_X5_takeNumber l D cy B od (k := tokN tx len u.1) (fl := (u.2.1.1, u.2.1.2.1, nI 1, u.2.1.2.2.2)) (lo := nI 0) (hi := nI 100) hr htx hlen hk.1) (ci := 5) (by (repeat (first | exact hr | exact upA_eq | refine (upA_ne (by omega)).trans ?_))) rfl rfl rfl (Nat.le_of_ble_eq_true rfl) ⟨⟨by decide, by decide⟩, rfl, rfl⟩ ⟨Nat.le_of_ble_eq_true rfl, Nat.le_of_ble_eq_true rfl⟩ (fun v3 A3 q3 => ?_)
    obtain ⟨rfl, rfl⟩ := q3
    have hP := PsA.to (s2 := (tkS tx len (tokN tx len u.1) (nI 0) (nI 100), (u.2.1.1, u.2.1.2.1, nI 1, u.2.1.2.2.2), u.2.2.1, u.2.2.2)) (PsA.k (k2 := tkS tx len (tokN tx len u.1) (nI 0) (nI 100)) (fl2 := (u.2.1.1, u.2.1.2.1, nI 1, u.2.1.2.2.2)) ht hP) rfl
    have hF := hF.k (x := rdE t len (tkS tx len (tokN tx len u.1) (nI 0) (nI 100)) ((u.2.1.1, u.2.1.2.1, nI 1, u.2.1.2.2.2)))
    have hk := tkS_le (tx := tx) (lo := nI 0) (hi := nI 100) hk.1 hk.2
    obtain ⟨hr, htx, hS9, hR9⟩ := id hP
    obtain ⟨hS, hS0, hS1⟩ := id hS9
    obtain ⟨hR, hR0, hR1, hR2⟩ := id hR9
    refine g_put X rfl flX5_115 rfl (ci := 4) rfl (by (repeat (first | exact hS | exact upA_eq | refine (upA_ne (by omega)).trans ?_))) (Nat.le_of_ble_eq_true rfl) (by first | rfl | exact bI_nar _) (by first | rfl | decide) ?_
    refine G.cast (A2 := upA _ t (seE t (zSet (u.2.2.1) 3 (tkV (tokN tx len u.1) (nI 0) (nI 100))))) rfl ?_
    have hP := PsA.to (s2 := (tkS tx len (tokN tx len u.1) (nI 0) (nI 100), (u.2.1.1, u.2.1.2.1, nI 1, u.2.1.2.2.2), zSet (u.2.2.1) 3 (tkV (tokN tx len u.1) (nI 0) (nI 100)), u.2.2.2)) (PsA.z (q := 3) (v := tkV (tokN tx len u.1) (nI 0) (nI 100)) ht hP) rfl
    have hF := hF.z (j := t) (x := seE t (zSet (u.2.2.1) 3 (tkV (tokN tx len u.1) (nI 0) (nI 100)))) (by omega) (by omega)
    obtain ⟨hr, htx, hS9, hR9⟩ := id hP
    obtain ⟨hS, hS0, hS1⟩ := id hS9
    obtain ⟨hR, hR0, hR1, hR2⟩ := id hR9
    refine g_aload_n X rfl rfl ?_
    refine g_get X rfl flX5_18 (ci := 5) rfl (by (repeat (first | exact hr | exact upA_eq | refine (upA_ne (by omega)).trans ?_))) rfl ?_
    refine g_get X rfl flX5_115 (ci := 4) rfl (by (repeat (first | exact hS | exact upA_eq | refine (upA_ne (by omega)).trans ?_))) rfl ?_
    refine g_iconst X rfl (v := (-1)) (by decide) ?_
    refine g_icmp_eq X rfl (fun h4 => ?_) (fun h4 => ?_)
    · refine g_iconst X rfl (v := nI 0) (by decide) ?_
      refine g_iret X rfl rfl (by first | rfl | exact bI_nar _ | decide) (Nat.le_of_ble_eq_true rfl) (Nat.le_of_ble_eq_true rfl) ⟨rfl, ?_⟩
      first | ((have e9 : rdInterest tx len u = (false, u) := by rw [rdInterest, if_pos (by assumption)]); rw [e9]; exact ⟨rfl, hF, hP⟩) | ((have e9 : rdInterest tx len u = rd1 tx len 3 (nI 0) (nI 100) ((u.2.1.1, u.2.1.2.1, nI 1, u.2.1.2.2.2)) u := by rw [rdInterest, if_neg (by simp_all; done)]); rw [e9]; exact ⟨by rw [rd1]; first | exact bR0 (decide_eq_false (fun q => q (by assumption))) | exact bR1 (decide_eq_true (by assumption)), hF, hP⟩)
    · refine g_iconst X rfl (v := nI 1) (by decide) ?_
      refine g_goto X rfl ?_
      refine g_iret X rfl rfl (by first | rfl | exact bI_nar _ | decide) (Nat.le_of_ble_eq_true rfl) (Nat.le_of_ble_eq_true rfl) ⟨rfl, ?_⟩
      first | ((have e9 : rdInterest tx len u = (false, u) := by rw [rdInterest, if_pos (by assumption)]); rw [e9]; exact ⟨rfl, hF, hP⟩) | ((have e9 : rdInterest tx len u = rd1 tx len 3 (nI 0) (nI 100) ((u.2.1.1, u.2.1.2.1, nI 1, u.2.1.2.2.2)) u := by rw [rdInterest, if_neg (by simp_all; done)]); rw [e9]; exact ⟨by rw [rd1]; first | exact bR0 (decide_eq_false (fun q => q (by assumption))) | exact bR1 (decide_eq_true (by assumption)), hF, hP⟩)
  · refine g_iconst X rfl (v := nI 0) (by decide) ?_
    refine g_iret X rfl rfl (by first | rfl | exact bI_nar _ | decide) (Nat.le_of_ble_eq_true rfl) (Nat.le_of_ble_eq_true rfl) ⟨rfl, ?_⟩
    first | ((have e9 : rdInterest tx len u = (false, u) := by rw [rdInterest, if_pos (by assumption)]); rw [e9]; exact ⟨rfl, hF, hP⟩) | ((have e9 : rdInterest tx len u = rd1 tx len 3 (nI 0) (nI 100) ((u.2.1.1, u.2.1.2.1, nI 1, u.2.1.2.2.2)) u := by rw [rdInterest, if_neg (by simp_all; done)]); rw [e9]; exact ⟨by rw [rd1]; first | exact bR0 (decide_eq_false (fun q => q (by assumption))) | exact bR1 (decide_eq_true (by assumption)), hF, hP⟩)
set_option maxRecDepth 100000 in
set_option maxHeartbeats 400000 in
theorem cm_X5_readTop (l : Launch) (D : va_G) (cy : Nat → ClassId) (B : Nat) (od : Nat → Option Nat) {A : AH} {t len : Nat} {tx : Nat → Int32} {u : PS} (hP : PsA cy A t len tx u) (hW : PsW len u) (hlen : len ≤ 400) (ht : t = 4 ∨ t = 11) : CM l D cy B od yX5_readTop cX5_readTop 1 (some .boolean) rmX5_readTop [.ref 2] A (fun v A' => v = some (.int (bI (rdTop tx len u).1)) ∧ PFr A A' t ∧ PsA cy A' t len tx (rdTop tx len u).2) := by
  intro z
  refine CT.of (by decide) tX5_readTop okX5_readTop (Nat.le_of_ble_eq_true rfl) (q0 := tX5_readTop[0]) rfl rfl ?_
  intro p e s m args below meth c X _
  have hF := PFr.refl A t
  have hk := hW.1
  have hz5 := hW.2.1
  have hr6 := hW.2.2
  obtain ⟨hr, htx, hS9, hR9⟩ := id hP
  obtain ⟨hS, hS0, hS1⟩ := id hS9
  obtain ⟨hR, hR0, hR1, hR2⟩ := id hR9
  refine g_aload_n X rfl rfl ?_
  refine g_get X rfl flX5_62 (ci := 5) rfl (by (repeat (first | exact hr | exact upA_eq | refine (upA_ne (by omega)).trans ?_))) rfl ?_
  refine g_if_eq X rfl (fun h1 => ?_) (fun h1 => ?_)
  · refine g_aload_n X rfl rfl ?_
    refine g_iconst X rfl (v := nI 1) (by decide) ?_
    refine g_put X rfl flX5_62 rfl (ci := 5) rfl (by (repeat (first | exact hr | exact upA_eq | refine (upA_ne (by omega)).trans ?_))) (Nat.le_of_ble_eq_true rfl) (show narrow .boolean (.int (nI 1)) = .int (nI 1) from by decide) (by first | rfl | decide) ?_
    refine G.cast (A2 := upA _ 2 (rdE t len (u.1) ((u.2.1.1, u.2.1.2.1, u.2.1.2.2.1, nI 1)))) rfl ?_
    have hP := PsA.to (s2 := (u.1, (u.2.1.1, u.2.1.2.1, u.2.1.2.2.1, nI 1), u.2.2.1, u.2.2.2)) (PsA.k (k2 := u.1) (fl2 := (u.2.1.1, u.2.1.2.1, u.2.1.2.2.1, nI 1)) ht hP) rfl
    have hF := hF.k (x := rdE t len (u.1) ((u.2.1.1, u.2.1.2.1, u.2.1.2.2.1, nI 1)))
    obtain ⟨hr, htx, hS9, hR9⟩ := id hP
    obtain ⟨hS, hS0, hS1⟩ := id hS9
    obtain ⟨hR, hR0, hR1, hR2⟩ := id hR9
    refine g_aload_n X rfl rfl ?_
    refine g_mV X rfl lcX5_nextToken lmX5_26 lsX5_nextToken (cm_X5_nextToken l D cy B od (k := u.1) (fl := (u.2.1.1, u.2.1.2.1, u.2.1.2.2.1, nI 1)) hr htx hlen hk.1) (ci := 5) (by (repeat (first | exact hr | exact upA_eq | refine (upA_ne (by omega)).trans ?_))) rfl rfl rfl (Nat.le_of_ble_eq_true rfl) ⟨⟨by decide, by decide⟩, rfl, rfl⟩ ⟨Nat.le_of_ble_eq_true rfl, Nat.le_of_ble_eq_true rfl⟩ (fun v2 A2 q2 => ?_)
    obtain ⟨rfl, rfl⟩ := q2
    have hP := PsA.to (s2 := (tokN tx len (u.1), (u.2.1.1, u.2.1.2.1, u.2.1.2.2.1, nI 1), u.2.2.1, u.2.2.2)) (PsA.k (k2 := tokN tx len (u.1)) (fl2 := (u.2.1.1, u.2.1.2.1, u.2.1.2.2.1, nI 1)) ht hP) rfl
    have hF := hF.k (x := rdE t len (tokN tx len (u.1)) ((u.2.1.1, u.2.1.2.1, u.2.1.2.2.1, nI 1)))
    have hk := tok_le (tx := tx) hk.1
    obtain ⟨hr, htx, hS9, hR9⟩ := id hP
    obtain ⟨hS, hS0, hS1⟩ := id hS9
    obtain ⟨hR, hR0, hR1, hR2⟩ := id hR9
    refine g_aload_n X rfl rfl ?_
    refine g_get X rfl flX5_18 (ci := 5) rfl (by (repeat (first | exact hr | exact upA_eq | refine (upA_ne (by omega)).trans ?_))) rfl ?_
    refine g_aload_n X rfl rfl ?_
    refine g_iconst X rfl (v := nI 0) (by decide) ?_
    refine g_sipush X rfl (v := nI 900) (by decide) ?_
    refine g_mV X rfl lcX5_takeNumber lmX5_103 lsX5_takeNumber (cm_X5_takeNumber l D cy B od (k := tokN tx len u.1) (fl := (u.2.1.1, u.2.1.2.1, u.2.1.2.2.1, nI 1)) (lo := nI 0) (hi := nI 900) hr htx hlen hk.1) (ci := 5) (by (repeat (first | exact hr | exact upA_eq | refine (upA_ne (by omega)).trans ?_))) rfl rfl rfl (Nat.le_of_ble_eq_true rfl) ⟨⟨by decide, by decide⟩, rfl, rfl⟩ ⟨Nat.le_of_ble_eq_true rfl, Nat.le_of_ble_eq_true rfl⟩ (fun v3 A3 q3 => ?_)
    obtain ⟨rfl, rfl⟩ := q3
    have hP := PsA.to (s2 := (tkS tx len (tokN tx len u.1) (nI 0) (nI 900), (u.2.1.1, u.2.1.2.1, u.2.1.2.2.1, nI 1), u.2.2.1, u.2.2.2)) (PsA.k (k2 := tkS tx len (tokN tx len u.1) (nI 0) (nI 900)) (fl2 := (u.2.1.1, u.2.1.2.1, u.2.1.2.2.1, nI 1)) ht hP) rfl
    have hF := hF.k (x := rdE t len (tkS tx len (tokN tx len u.1) (nI 0) (nI 900)) ((u.2.1.1, u.2.1.2.1, u.2.1.2.2.1, nI 1)))
    have hk := tkS_le (tx := tx) (lo := nI 0) (hi := nI 900) hk.1 hk.2
    obtain ⟨hr, htx, hS9, hR9⟩ := id hP
    obtain ⟨hS, hS0, hS1⟩ := id hS9
    obtain ⟨hR, hR0, hR1, hR2⟩ := id hR9
    refine g_put X rfl flX5_118 rfl (ci := 4) rfl (by (repeat (first | exact hS | exact upA_eq | refine (upA_ne (by omega)).trans ?_))) (Nat.le_of_ble_eq_true rfl) (by first | rfl | exact bI_nar _) (by first | rfl | decide) ?_
    refine G.cast (A2 := upA _ t (seE t (zSet (u.2.2.1) 4 (tkV (tokN tx len u.1) (nI 0) (nI 900))))) rfl ?_
    have hP := PsA.to (s2 := (tkS tx len (tokN tx len u.1) (nI 0) (nI 900), (u.2.1.1, u.2.1.2.1, u.2.1.2.2.1, nI 1), zSet (u.2.2.1) 4 (tkV (tokN tx len u.1) (nI 0) (nI 900)), u.2.2.2)) (PsA.z (q := 4) (v := tkV (tokN tx len u.1) (nI 0) (nI 900)) ht hP) rfl
    have hF := hF.z (j := t) (x := seE t (zSet (u.2.2.1) 4 (tkV (tokN tx len u.1) (nI 0) (nI 900)))) (by omega) (by omega)
    obtain ⟨hr, htx, hS9, hR9⟩ := id hP
    obtain ⟨hS, hS0, hS1⟩ := id hS9
    obtain ⟨hR, hR0, hR1, hR2⟩ := id hR9
    refine g_aload_n X rfl rfl ?_
    refine g_get X rfl flX5_18 (ci := 5) rfl (by (repeat (first | exact hr | exact upA_eq | refine (upA_ne (by omega)).trans ?_))) rfl ?_
    refine g_get X rfl flX5_118 (ci := 4) rfl (by (repeat (first | exact hS | exact upA_eq | refine (upA_ne (by omega)).trans ?_))) rfl ?_
    refine g_iconst X rfl (v := (-1)) (by decide) ?_
    refine g_icmp_eq X rfl (fun h4 => ?_) (fun h4 => ?_)
    · refine g_iconst X rfl (v := nI 0) (by decide) ?_
      refine g_iret X rfl rfl (by first | rfl | exact bI_nar _ | decide) (Nat.le_of_ble_eq_true rfl) (Nat.le_of_ble_eq_true rfl) ⟨rfl, ?_⟩
      first | ((have e9 : rdTop tx len u = (false, u) := by rw [rdTop, if_pos (by assumption)]); rw [e9]; exact ⟨rfl, hF, hP⟩) | ((have e9 : rdTop tx len u = rd1 tx len 4 (nI 0) (nI 900) ((u.2.1.1, u.2.1.2.1, u.2.1.2.2.1, nI 1)) u := by rw [rdTop, if_neg (by simp_all; done)]); rw [e9]; exact ⟨by rw [rd1]; first | exact bR0 (decide_eq_false (fun q => q (by assumption))) | exact bR1 (decide_eq_true (by assumption)), hF, hP⟩)
    · refine g_iconst X rfl (v := nI 1) (by decide) ?_
      refine g_goto X rfl ?_
      refine g_iret X rfl rfl (by first | rfl | exact bI_nar _ | decide) (Nat.le_of_ble_eq_true rfl) (Nat.le_of_ble_eq_true rfl) ⟨rfl, ?_⟩
      first | ((have e9 : rdTop tx len u = (false, u) := by rw [rdTop, if_pos (by assumption)]); rw [e9]; exact ⟨rfl, hF, hP⟩) | ((have e9 : rdTop tx len u = rd1 tx len 4 (nI 0) (nI 900) ((u.2.1.1, u.2.1.2.1, u.2.1.2.2.1, nI 1)) u := by rw [rdTop, if_neg (by simp_all; done)]); rw [e9]; exact ⟨by rw [rd1]; first | exact bR0 (decide_eq_false (fun q => q (by assumption))) | exact bR1 (decide_eq_true (by assumption)), hF, hP⟩)
  · refine g_iconst X rfl (v := nI 0) (by decide) ?_
    refine g_iret X rfl rfl (by first | rfl | exact bI_nar _ | decide) (Nat.le_of_ble_eq_true rfl) (Nat.le_of_ble_eq_true rfl) ⟨rfl, ?_⟩
    first | ((have e9 : rdTop tx len u = (false, u) := by rw [rdTop, if_pos (by assumption)]); rw [e9]; exact ⟨rfl, hF, hP⟩) | ((have e9 : rdTop tx len u = rd1 tx len 4 (nI 0) (nI 900) ((u.2.1.1, u.2.1.2.1, u.2.1.2.2.1, nI 1)) u := by rw [rdTop, if_neg (by simp_all; done)]); rw [e9]; exact ⟨by rw [rd1]; first | exact bR0 (decide_eq_false (fun q => q (by assumption))) | exact bR1 (decide_eq_true (by assumption)), hF, hP⟩)
theorem zSet_at (Z : SV) (q : Nat) (v : Int32) : (zSet Z q v).2.1 q = v := if_pos rfl
set_option maxRecDepth 100000 in
set_option maxHeartbeats 400000 in
theorem cm_X5_readAssets0 (l : Launch) (D : va_G) (cy : Nat → ClassId) (B : Nat) (od : Nat → Option Nat) {A : AH} {t len : Nat} {tx : Nat → Int32} {u : PS} (hP : PsA cy A t len tx u) (hW : PsW len u) (hlen : len ≤ 400) (ht : t = 4 ∨ t = 11) {k1 k2 k3 : TK} {v1 v2 : Int32} (e1 : tokN tx len u.1 = k1) (e2 : tkV k1 (nI 0) (nI 1000000) = v1) (e3 : tkS tx len k1 (nI 0) (nI 1000000) = k2) (e4 : tkV k2 v1 (nI 1000000) = v2) (e5 : tkS tx len k2 v1 (nI 1000000) = k3) : CM l D cy B od yX5_readAssets cX5_readAssets 1 (some .boolean) rmX5_readAssets [.ref 2] A (fun v A' => v = some (.int (bI (asRes u v1 k2 v2 k3).1)) ∧ PFr A A' t ∧ PsA cy A' t len tx (asRes u v1 k2 v2 k3).2) := by
  intro z
  refine CT.of (by decide) tX5_readAssets okX5_readAssets (Nat.le_of_ble_eq_true rfl) (q0 := tX5_readAssets[0]) rfl rfl ?_
  intro p e s m args below meth c X _
  have hF := PFr.refl A t
  have hk := hW.1
  have hz5 := hW.2.1
  have hr6 := hW.2.2
  obtain ⟨hr, htx, hS9, hR9⟩ := id hP
  obtain ⟨hS, hS0, hS1⟩ := id hS9
  obtain ⟨hR, hR0, hR1, hR2⟩ := id hR9
  refine g_aload_n X rfl rfl ?_
  refine g_get X rfl flX5_56 (ci := 5) rfl (by (repeat (first | exact hr | exact upA_eq | refine (upA_ne (by omega)).trans ?_))) rfl ?_
  refine g_if_eq X rfl (fun h1 => ?_) (fun h1 => ?_)
  · refine g_aload_n X rfl rfl ?_
    refine g_iconst X rfl (v := nI 1) (by decide) ?_
    refine g_put X rfl flX5_56 rfl (ci := 5) rfl (by (repeat (first | exact hr | exact upA_eq | refine (upA_ne (by omega)).trans ?_))) (Nat.le_of_ble_eq_true rfl) (show narrow .boolean (.int (nI 1)) = .int (nI 1) from by decide) (by first | rfl | decide) ?_
    refine G.cast (A2 := upA _ 2 (rdE t len (u.1) ((u.2.1.1, nI 1, u.2.1.2.2)))) rfl ?_
    have hP := PsA.to (s2 := (u.1, (u.2.1.1, nI 1, u.2.1.2.2), u.2.2.1, u.2.2.2)) (PsA.k (k2 := u.1) (fl2 := (u.2.1.1, nI 1, u.2.1.2.2)) ht hP) rfl
    have hF := hF.k (x := rdE t len (u.1) ((u.2.1.1, nI 1, u.2.1.2.2)))
    obtain ⟨hr, htx, hS9, hR9⟩ := id hP
    obtain ⟨hS, hS0, hS1⟩ := id hS9
    obtain ⟨hR, hR0, hR1, hR2⟩ := id hR9
    refine g_aload_n X rfl rfl ?_
    refine g_mV X rfl lcX5_nextToken lmX5_26 lsX5_nextToken (cm_X5_nextToken l D cy B od (k := u.1) (fl := (u.2.1.1, nI 1, u.2.1.2.2)) hr htx hlen hk.1) (ci := 5) (by (repeat (first | exact hr | exact upA_eq | refine (upA_ne (by omega)).trans ?_))) rfl rfl rfl (Nat.le_of_ble_eq_true rfl) ⟨⟨by decide, by decide⟩, rfl, rfl⟩ ⟨Nat.le_of_ble_eq_true rfl, Nat.le_of_ble_eq_true rfl⟩ (fun v2 A2 q2 => ?_)
    obtain ⟨rfl, rfl⟩ := q2
    have hk := tok_le (tx := tx) hk.1
    rw [e1] at hk ⊢
    have hP := PsA.to (s2 := (k1, (u.2.1.1, nI 1, u.2.1.2.2), u.2.2.1, u.2.2.2)) (PsA.k (k2 := k1) (fl2 := (u.2.1.1, nI 1, u.2.1.2.2)) ht hP) rfl
    have hF := hF.k (x := rdE t len (k1) ((u.2.1.1, nI 1, u.2.1.2.2)))
    obtain ⟨hr, htx, hS9, hR9⟩ := id hP
    obtain ⟨hS, hS0, hS1⟩ := id hS9
    obtain ⟨hR, hR0, hR1, hR2⟩ := id hR9
    refine g_aload_n X rfl rfl ?_
    refine g_get X rfl flX5_18 (ci := 5) rfl (by (repeat (first | exact hr | exact upA_eq | refine (upA_ne (by omega)).trans ?_))) rfl ?_
    refine g_aload_n X rfl rfl ?_
    refine g_iconst X rfl (v := nI 0) (by decide) ?_
    refine g_ldc X rfl kcX5_108 ?_
    refine g_mV X rfl lcX5_takeNumber lmX5_103 lsX5_takeNumber (cm_X5_takeNumber l D cy B od (k := k1) (fl := (u.2.1.1, nI 1, u.2.1.2.2)) (lo := nI 0) (hi := nI 1000000) hr htx hlen hk.1) (ci := 5) (by (repeat (first | exact hr | exact upA_eq | refine (upA_ne (by omega)).trans ?_))) rfl rfl rfl (Nat.le_of_ble_eq_true rfl) ⟨⟨by decide, by decide⟩, rfl, rfl⟩ ⟨Nat.le_of_ble_eq_true rfl, Nat.le_of_ble_eq_true rfl⟩ (fun v3 A3 q3 => ?_)
    obtain ⟨rfl, rfl⟩ := q3
    have hk := tkS_le (tx := tx) (lo := nI 0) (hi := nI 1000000) hk.1 hk.2
    rw [e3] at hk ⊢
    rw [e2]
    have hP := PsA.to (s2 := (k2, (u.2.1.1, nI 1, u.2.1.2.2), u.2.2.1, u.2.2.2)) (PsA.k (k2 := k2) (fl2 := (u.2.1.1, nI 1, u.2.1.2.2)) ht hP) rfl
    have hF := hF.k (x := rdE t len (k2) ((u.2.1.1, nI 1, u.2.1.2.2)))
    obtain ⟨hr, htx, hS9, hR9⟩ := id hP
    obtain ⟨hS, hS0, hS1⟩ := id hS9
    obtain ⟨hR, hR0, hR1, hR2⟩ := id hR9
    refine g_put X rfl flX5_109 rfl (ci := 4) rfl (by (repeat (first | exact hS | exact upA_eq | refine (upA_ne (by omega)).trans ?_))) (Nat.le_of_ble_eq_true rfl) (by first | rfl | exact bI_nar _) (by first | rfl | decide) ?_
    refine G.cast (A2 := upA _ t (seE t (zSet (u.2.2.1) 1 (v1)))) rfl ?_
    have hP := PsA.to (s2 := (k2, (u.2.1.1, nI 1, u.2.1.2.2), zSet (u.2.2.1) 1 (v1), u.2.2.2)) (PsA.z (q := 1) (v := v1) ht hP) rfl
    have hF := hF.z (j := t) (x := seE t (zSet (u.2.2.1) 1 (v1))) (by omega) (by omega)
    obtain ⟨hr, htx, hS9, hR9⟩ := id hP
    obtain ⟨hS, hS0, hS1⟩ := id hS9
    obtain ⟨hR, hR0, hR1, hR2⟩ := id hR9
    have hS : upA _ t (seE t (zSet (u.2.2.1) 1 v1)) t = some (.inr (4, [.int ((zSet (u.2.2.1) 1 v1).2.1 0), .int v1, .int ((zSet (u.2.2.1) 1 v1).2.1 2), .int ((zSet (u.2.2.1) 1 v1).2.1 3), .int ((zSet (u.2.2.1) 1 v1).2.1 4), .int (nI u.2.2.1.1), .ref (t + 1), .ref (t + 2), .ref (t + 3)])) := hS
    refine g_aload_n X rfl rfl ?_
    refine g_get X rfl flX5_18 (ci := 5) rfl (by (repeat (first | exact hr | exact upA_eq | refine (upA_ne (by omega)).trans ?_))) rfl ?_
    refine g_get X rfl flX5_109 (ci := 4) rfl (by (repeat (first | exact hS | exact upA_eq | refine (upA_ne (by omega)).trans ?_))) rfl ?_
    refine g_iconst X rfl (v := (-1)) (by decide) ?_
    refine g_icmp_ne X rfl (fun h4 => ?_) (fun h4 => ?_)
    · refine g_aload_n X rfl rfl ?_
      refine g_get X rfl flX5_18 (ci := 5) rfl (by (repeat (first | exact hr | exact upA_eq | refine (upA_ne (by omega)).trans ?_))) rfl ?_
      refine g_aload_n X rfl rfl ?_
      refine g_aload_n X rfl rfl ?_
      refine g_get X rfl flX5_18 (ci := 5) rfl (by (repeat (first | exact hr | exact upA_eq | refine (upA_ne (by omega)).trans ?_))) rfl ?_
      refine g_get X rfl flX5_109 (ci := 4) rfl (by (repeat (first | exact hS | exact upA_eq | refine (upA_ne (by omega)).trans ?_))) rfl ?_
      refine g_ldc X rfl kcX5_108 ?_
      refine g_mV X rfl lcX5_takeNumber lmX5_103 lsX5_takeNumber (cm_X5_takeNumber l D cy B od (k := k2) (fl := (u.2.1.1, nI 1, u.2.1.2.2)) (lo := v1) (hi := nI 1000000) hr htx hlen hk.1) (ci := 5) (by (repeat (first | exact hr | exact upA_eq | refine (upA_ne (by omega)).trans ?_))) rfl rfl rfl (Nat.le_of_ble_eq_true rfl) ⟨⟨by decide, by decide⟩, rfl, rfl⟩ ⟨Nat.le_of_ble_eq_true rfl, Nat.le_of_ble_eq_true rfl⟩ (fun v5 A5 q5 => ?_)
      obtain ⟨rfl, rfl⟩ := q5
      have hk := tkS_le (tx := tx) (lo := v1) (hi := nI 1000000) hk.1 hk.2
      rw [e5] at hk ⊢
      rw [e4]
      have hP := PsA.to (s2 := (k3, (u.2.1.1, nI 1, u.2.1.2.2), zSet (u.2.2.1) 1 v1, u.2.2.2)) (PsA.k (k2 := k3) (fl2 := (u.2.1.1, nI 1, u.2.1.2.2)) ht hP) rfl
      have hF := hF.k (x := rdE t len (k3) ((u.2.1.1, nI 1, u.2.1.2.2)))
      obtain ⟨hr, htx, hS9, hR9⟩ := id hP
      obtain ⟨hS, hS0, hS1⟩ := id hS9
      obtain ⟨hR, hR0, hR1, hR2⟩ := id hR9
      refine g_put X rfl flX5_112 rfl (ci := 4) rfl (by (repeat (first | exact hS | exact upA_eq | refine (upA_ne (by omega)).trans ?_))) (Nat.le_of_ble_eq_true rfl) (by first | rfl | exact bI_nar _) (by first | rfl | decide) ?_
      refine G.cast (A2 := upA _ t (seE t (zSet (zSet (u.2.2.1) 1 v1) 2 (v2)))) rfl ?_
      have hP := PsA.to (s2 := (k3, (u.2.1.1, nI 1, u.2.1.2.2), zSet (zSet (u.2.2.1) 1 v1) 2 (v2), u.2.2.2)) (PsA.z (q := 2) (v := v2) ht hP) rfl
      have hF := hF.z (j := t) (x := seE t (zSet (zSet (u.2.2.1) 1 v1) 2 (v2))) (by omega) (by omega)
      obtain ⟨hr, htx, hS9, hR9⟩ := id hP
      obtain ⟨hS, hS0, hS1⟩ := id hS9
      obtain ⟨hR, hR0, hR1, hR2⟩ := id hR9
      have hS : upA _ t (seE t (zSet (zSet (u.2.2.1) 1 v1) 2 v2)) t = some (.inr (4, [.int ((zSet (zSet (u.2.2.1) 1 v1) 2 v2).2.1 0), .int ((zSet (zSet (u.2.2.1) 1 v1) 2 v2).2.1 1), .int v2, .int ((zSet (zSet (u.2.2.1) 1 v1) 2 v2).2.1 3), .int ((zSet (zSet (u.2.2.1) 1 v1) 2 v2).2.1 4), .int (nI u.2.2.1.1), .ref (t + 1), .ref (t + 2), .ref (t + 3)])) := hS
      refine g_aload_n X rfl rfl ?_
      refine g_get X rfl flX5_18 (ci := 5) rfl (by (repeat (first | exact hr | exact upA_eq | refine (upA_ne (by omega)).trans ?_))) rfl ?_
      refine g_get X rfl flX5_112 (ci := 4) rfl (by (repeat (first | exact hS | exact upA_eq | refine (upA_ne (by omega)).trans ?_))) rfl ?_
      refine g_iconst X rfl (v := (-1)) (by decide) ?_
      refine g_icmp_eq X rfl (fun h6 => ?_) (fun h6 => ?_)
      · refine g_iconst X rfl (v := nI 0) (by decide) ?_
        refine g_iret X rfl rfl (by first | rfl | exact bI_nar _ | decide) (Nat.le_of_ble_eq_true rfl) (Nat.le_of_ble_eq_true rfl) ⟨rfl, ?_⟩
        have e9 : asRes u v1 k2 v2 k3 = (decide (¬ v2 = -1), (k3, (u.2.1.1, nI 1, u.2.1.2.2), zSet (zSet (u.2.2.1) 1 v1) 2 v2, u.2.2.2)) := by rw [asRes, if_neg (fun q => q (by assumption)), if_neg (by assumption)]
        rw [e9]
        exact ⟨by first | exact bR0 (decide_eq_false (fun q => q (by assumption))) | exact bR1 (decide_eq_true (by assumption)), hF, hP⟩
      · refine g_iconst X rfl (v := nI 1) (by decide) ?_
        refine g_goto X rfl ?_
        refine g_iret X rfl rfl (by first | rfl | exact bI_nar _ | decide) (Nat.le_of_ble_eq_true rfl) (Nat.le_of_ble_eq_true rfl) ⟨rfl, ?_⟩
        have e9 : asRes u v1 k2 v2 k3 = (decide (¬ v2 = -1), (k3, (u.2.1.1, nI 1, u.2.1.2.2), zSet (zSet (u.2.2.1) 1 v1) 2 v2, u.2.2.2)) := by rw [asRes, if_neg (fun q => q (by assumption)), if_neg (by assumption)]
        rw [e9]
        exact ⟨by first | exact bR0 (decide_eq_false (fun q => q (by assumption))) | exact bR1 (decide_eq_true (by assumption)), hF, hP⟩
    · refine g_iconst X rfl (v := nI 0) (by decide) ?_
      refine g_iret X rfl rfl (by first | rfl | exact bI_nar _ | decide) (Nat.le_of_ble_eq_true rfl) (Nat.le_of_ble_eq_true rfl) ⟨rfl, ?_⟩
      have e9 : asRes u v1 k2 v2 k3 = (false, (k2, (u.2.1.1, nI 1, u.2.1.2.2), zSet (u.2.2.1) 1 v1, u.2.2.2)) := by rw [asRes, if_neg (fun q => q (by assumption)), if_pos (by assumption)]
      rw [e9]
      exact ⟨rfl, hF, hP⟩
  · refine g_iconst X rfl (v := nI 0) (by decide) ?_
    refine g_iret X rfl rfl (by first | rfl | exact bI_nar _ | decide) (Nat.le_of_ble_eq_true rfl) (Nat.le_of_ble_eq_true rfl) ⟨rfl, ?_⟩
    have e9 : asRes u v1 k2 v2 k3 = (false, u) := by rw [asRes, if_pos (by assumption)]
    rw [e9]
    exact ⟨rfl, hF, hP⟩
theorem cm_X5_readAssets (l : Launch) (D : va_G) (cy : Nat → ClassId) (B : Nat) (od : Nat → Option Nat) {A : AH} {t len : Nat} {tx : Nat → Int32} {u : PS} (hP : PsA cy A t len tx u) (hW : PsW len u) (hlen : len ≤ 400) (ht : t = 4 ∨ t = 11) : CM l D cy B od yX5_readAssets cX5_readAssets 1 (some .boolean) rmX5_readAssets [.ref 2] A (fun v A' => v = some (.int (bI (rdAssets tx len u).1)) ∧ PFr A A' t ∧ PsA cy A' t len tx (rdAssets tx len u).2) := cm_X5_readAssets0 l D cy B od hP hW hlen ht rfl rfl rfl rfl rfl
