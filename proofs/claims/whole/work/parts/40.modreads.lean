/-! 40: the reference: what is asked of it -/
/-- what a call answers, and the place of what it throws -/
def mV (d : Value) : OC → Value
  | .inr r => r
  | .inl _ => d
def cX (ex : List String) : OC → Nat
  | .inl E => ex.findIdx (fun x => x == E) + 1
  | .inr _ => 0
theorem mR0 {A A1 : AH} {f : MF} {d r : Value} {oc : OC} {ex : List String} (h : oc = .inr r) (hA : A1 = upA A 231 (moE (nI 0, f.2))) : some r = some (mV d oc) ∧ A1 = upA A 231 (moE (nI (cX ex oc), f.2)) := by
  subst h; exact ⟨rfl, hA⟩
theorem mRx {A A1 : AH} {f : MF} {d : Value} {oc : OC} {E : String} {ex : List String} {w : Nat} (h : oc = .inl E) (hw : cX ex (.inl E) = w) (hA : A1 = upA A 231 (moE (nI 0, f.2))) : some d = some (mV d oc) ∧ upA A1 231 (moE (nI w, f.2)) = upA A 231 (moE (nI (cX ex oc), f.2)) := by
  subst h; subst hw; subst hA; exact ⟨rfl, upA_up⟩
set_option maxRecDepth 100000 in
set_option maxHeartbeats 400000 in
theorem cm_X8_fails0 (l : Launch) (D : va_G) (cy : Nat → ClassId) (B : Nat) (od : Nat → Option Nat) {A : AH} {f : MF} (hM : A 231 = some (moE f)) {w : Nat} : CM l D cy B od yX8_fails cX8_fails 3 (some .boolean) rmX8_fails [.ref 231, .int (nI 0), .int (nI w)] A (fun v A' => v = some (.int (nI 1)) ∧ A' = upA A 231 (moE (nI w, f.2))) := by
  intro z
  refine CT.of (by decide) tX8_fails okX8_fails (Nat.le_of_ble_eq_true rfl) (q0 := tX8_fails[0]) rfl rfl ?_
  intro p e s m args below meth c X _
  refine g_iload_n X rfl rfl ?_
  refine g_if_ne X rfl (fun h1 => ?_) (fun h1 => ?_)
  · exact absurd nI_0 h1
  · refine g_aload_n X rfl rfl ?_
    refine g_iload_n X rfl rfl ?_
    refine g_put X rfl flX8_41 rfl (ci := 8) rfl (by (repeat (first | exact hM | exact upA_eq | refine (upA_ne (by omega)).trans ?_))) (Nat.le_of_ble_eq_true rfl) (by first | rfl | exact bI_nar _) (by first | rfl | decide) ?_
    refine g_iload_n X rfl rfl ?_
    refine g_if_ne X rfl (fun h2 => ?_) (fun h2 => ?_)
    · exact absurd nI_0 h2
    · refine g_iconst X rfl (v := nI 1) (by decide) ?_
      refine g_goto X rfl ?_
      refine g_iret X rfl rfl (by first | rfl | exact bI_nar _ | decide) (Nat.le_of_ble_eq_true rfl) (Nat.le_of_ble_eq_true rfl) ⟨rfl, ?_⟩
      exact ⟨rfl, rfl⟩
set_option maxRecDepth 100000 in
set_option maxHeartbeats 400000 in
theorem cm_X8_fails1 (l : Launch) (D : va_G) (cy : Nat → ClassId) (B : Nat) (od : Nat → Option Nat) {A : AH} {f : MF} (hM : A 231 = some (moE f)) {w : Nat} : CM l D cy B od yX8_fails cX8_fails 3 (some .boolean) rmX8_fails [.ref 231, .int (nI 1), .int (nI w)] A (fun v A' => v = some (.int (nI 0)) ∧ A' = A) := by
  intro z
  refine CT.of (by decide) tX8_fails okX8_fails (Nat.le_of_ble_eq_true rfl) (q0 := tX8_fails[0]) rfl rfl ?_
  intro p e s m args below meth c X _
  refine g_iload_n X rfl rfl ?_
  refine g_if_ne X rfl (fun h1 => ?_) (fun h1 => ?_)
  · refine g_iload_n X rfl rfl ?_
    refine g_if_ne X rfl (fun h2 => ?_) (fun h2 => ?_)
    · refine g_iconst X rfl (v := nI 0) (by decide) ?_
      refine g_iret X rfl rfl (by first | rfl | exact bI_nar _ | decide) (Nat.le_of_ble_eq_true rfl) (Nat.le_of_ble_eq_true rfl) ⟨rfl, ?_⟩
      exact ⟨rfl, rfl⟩
    · exact absurd h2 n10
  · exact absurd h1 n10
set_option maxRecDepth 100000 in
set_option maxHeartbeats 400000 in
theorem cm_X8_failsB (l : Launch) (D : va_G) (cy : Nat → ClassId) (B : Nat) (od : Nat → Option Nat) {A : AH} {f : MF} (hM : A 231 = some (moE f)) {q : Bool} {w : Nat} : CM l D cy B od yX8_fails cX8_fails 3 (some .boolean) rmX8_fails [.ref 231, .int (bI q), .int (nI w)] A (fun v A' => (q = true ∧ v = some (.int (nI 0)) ∧ A' = A) ∨ (q = false ∧ v = some (.int (nI 1)) ∧ A' = upA A 231 (moE (nI w, f.2)))) := by
  intro z
  refine CT.of (by decide) tX8_fails okX8_fails (Nat.le_of_ble_eq_true rfl) (q0 := tX8_fails[0]) rfl rfl ?_
  intro p e s m args below meth c X _
  refine g_iload_n X rfl rfl ?_
  first | refine g_if_neB X rfl (fun h1 => ?_) (fun h1 => ?_) | refine g_if_ne X rfl (fun h1 => ?_) (fun h1 => ?_)
  · refine g_iload_n X rfl rfl ?_
    first | refine g_if_neB X rfl (fun h2 => ?_) (fun h2 => ?_) | refine g_if_ne X rfl (fun h2 => ?_) (fun h2 => ?_)
    · refine g_iconst X rfl (v := nI 0) (by decide) ?_
      refine g_iret X rfl rfl (by first | rfl | exact bI_nar _ | decide) (Nat.le_of_ble_eq_true rfl) (Nat.le_of_ble_eq_true rfl) ⟨rfl, ?_⟩
      first | exact Or.inl ⟨by assumption, rfl, rfl⟩ | exact Or.inr ⟨by assumption, rfl, rfl⟩ | (simp_all; done)
    · refine g_iconst X rfl (v := nI 1) (by decide) ?_
      refine g_goto X rfl ?_
      refine g_iret X rfl rfl (by first | rfl | exact bI_nar _ | decide) (Nat.le_of_ble_eq_true rfl) (Nat.le_of_ble_eq_true rfl) ⟨rfl, ?_⟩
      first | exact Or.inl ⟨by assumption, rfl, rfl⟩ | exact Or.inr ⟨by assumption, rfl, rfl⟩ | (simp_all; done)
  · refine g_aload_n X rfl rfl ?_
    refine g_iload_n X rfl rfl ?_
    refine g_put X rfl flX8_41 rfl (ci := 8) rfl (by (repeat (first | exact hM | exact upA_eq | refine (upA_ne (by omega)).trans ?_))) (Nat.le_of_ble_eq_true rfl) (by first | rfl | exact bI_nar _) (by first | rfl | decide) ?_
    refine g_iload_n X rfl rfl ?_
    first | refine g_if_neB X rfl (fun h3 => ?_) (fun h3 => ?_) | refine g_if_ne X rfl (fun h3 => ?_) (fun h3 => ?_)
    · refine g_iconst X rfl (v := nI 0) (by decide) ?_
      refine g_iret X rfl rfl (by first | rfl | exact bI_nar _ | decide) (Nat.le_of_ble_eq_true rfl) (Nat.le_of_ble_eq_true rfl) ⟨rfl, ?_⟩
      first | exact Or.inl ⟨by assumption, rfl, rfl⟩ | exact Or.inr ⟨by assumption, rfl, rfl⟩ | (simp_all; done)
    · refine g_iconst X rfl (v := nI 1) (by decide) ?_
      refine g_goto X rfl ?_
      refine g_iret X rfl rfl (by first | rfl | exact bI_nar _ | decide) (Nat.le_of_ble_eq_true rfl) (Nat.le_of_ble_eq_true rfl) ⟨rfl, ?_⟩
      first | exact Or.inl ⟨by assumption, rfl, rfl⟩ | exact Or.inr ⟨by assumption, rfl, rfl⟩ | (simp_all; done)
set_option maxRecDepth 100000 in
set_option maxHeartbeats 400000 in
theorem cr_X8_thrown (l : Launch) (D : va_G) (cy : Nat → ClassId) (B : Nat) (od : Nat → Option Nat) {A : AH} {f : MF} (hM : A 231 = some (moE f))  : CR l D cy B od yX8_thrown cX8_thrown 1 (some .int) rmX8_thrown [.ref 231] A (.int f.1) := by
  intro z
  refine CT.of (by decide) tX8_thrown okX8_thrown (Nat.le_of_ble_eq_true rfl) (q0 := tX8_thrown[0]) rfl rfl ?_
  intro p e s m args below meth c X _
  refine g_aload_n X rfl rfl ?_
  refine g_get X rfl flX8_41 (ci := 8) rfl hM rfl ?_
  refine g_iret X rfl rfl (by first | rfl | exact bI_nar _ | decide) (Nat.le_refl _) (Nat.le_refl _) ⟨?_, rfl, rfl⟩
  rfl
set_option maxRecDepth 100000 in
set_option maxHeartbeats 400000 in
theorem cm_X8_undoCount (l : Launch) (D : va_G) (cy : Nat → ClassId) (B : Nat) (od : Nat → Option Nat) {A : AH} {f : MF} (hM : A 231 = some (moE f))  : CM l D cy B od yX8_undoCount cX8_undoCount 1 (some .int) rmX8_undoCount [.ref 231] A (fun v A' => v = some (.int (nI f.2.2.1)) ∧ A' = upA A 231 (moE (nI 0, f.2))) := by
  intro z
  refine CT.of (by decide) tX8_undoCount okX8_undoCount (Nat.le_of_ble_eq_true rfl) (q0 := tX8_undoCount[0]) rfl rfl ?_
  intro p e s m args below meth c X _
  refine g_aload_n X rfl rfl ?_
  refine g_iconst X rfl (v := nI 0) (by decide) ?_
  refine g_put X rfl flX8_41 rfl (ci := 8) rfl (by (repeat (first | exact hM | exact upA_eq | refine (upA_ne (by omega)).trans ?_))) (Nat.le_of_ble_eq_true rfl) (by first | rfl | exact bI_nar _) (by first | rfl | decide) ?_
  refine g_aload_n X rfl rfl ?_
  refine g_get X rfl flX8_167 (ci := 8) rfl (by (repeat (first | exact hM | exact upA_eq | refine (upA_ne (by omega)).trans ?_))) rfl ?_
  refine g_iret X rfl rfl (by first | rfl | exact bI_nar _ | decide) (Nat.le_of_ble_eq_true rfl) (Nat.le_of_ble_eq_true rfl) ⟨rfl, ?_⟩
  exact ⟨rfl, rfl⟩
set_option maxRecDepth 100000 in
set_option maxHeartbeats 400000 in
theorem cm_X8_pool (l : Launch) (D : va_G) (cy : Nat → ClassId) (B : Nat) (od : Nat → Option Nat) {A : AH} {f : MF} {r : Nat → Int32} {Z : SV} {S : StV} (hm : MdR cy A f r Z S) (hg : Rng Z S) (hgz : RngZ Z) {q : Int32} : CM l D cy B od yX8_pool cX8_pool 2 (some .int) rmX8_pool [.ref 231, .int q] A (fun v A' => v = some (mV (.int (nI 0)) (ocPool (V9 Z S) q)) ∧ A' = upA A 231 (moE (nI (cX [eIAE] (ocPool (V9 Z S) q)), f.2))) := by
  intro z
  refine CT.of (by decide) tX8_pool okX8_pool (Nat.le_of_ble_eq_true rfl) (q0 := tX8_pool[0]) rfl rfl ?_
  intro p e s m args below meth c X _
  have hM := hm.1
  refine g_aload_n X rfl rfl ?_
  refine g_iconst X rfl (v := nI 0) (by decide) ?_
  refine g_put X rfl flX8_41 rfl (ci := 8) rfl (by (repeat (first | exact hM | exact upA_eq | refine (upA_ne (by omega)).trans ?_))) (Nat.le_of_ble_eq_true rfl) (by first | rfl | exact bI_nar _) (by first | rfl | decide) ?_
  refine G.cast (A2 := upA A 231 (moE (nI 0, f.2))) rfl ?_
  obtain ⟨A1, hA1⟩ : ∃ A1, A1 = upA A 231 (moE (nI 0, f.2)) := ⟨_, rfl⟩
  refine G.cast (A2 := A1) hA1.symm ?_
  have hm := hm.thr (nI 0)
  rw [← hA1] at hm
  obtain ⟨hM, hn, hc, hw, hwb, hz⟩ := id hm
  obtain ⟨c0, ⟨c1, c2, c3, c4, c5⟩, cb, ⟨c16, cr⟩, ⟨c35, ce⟩, ⟨c456, ca⟩, c517, cp⟩ := id hc
  obtain ⟨w1, w2, w3, w4, w5⟩ := id hw
  refine g_aload_n X rfl rfl ?_
  refine g_iload_n X rfl rfl ?_
  refine g_rS X rfl lcX8_isQuarter lmX8_356 stX8_isQuarter (cr_X8_isQuarter l D cy B od) rfl rfl (Nat.le_of_ble_eq_true rfl) ⟨⟨by decide, by decide⟩, rfl, rfl⟩ ⟨Nat.le_of_ble_eq_true rfl, Nat.le_of_ble_eq_true rfl⟩ ?_
  refine g_iconst X rfl (v := nI 1) (by decide) ?_
  refine g_mV X rfl lcX8_fails lmX8_52 lsX8_fails (cm_X8_failsB l D cy B od (by (repeat (first | exact hM | exact upA_eq | refine (upA_ne (by omega)).trans ?_)))) (ci := 8) (by (repeat (first | exact hM | exact upA_eq | refine (upA_ne (by omega)).trans ?_))) rfl rfl rfl (Nat.le_of_ble_eq_true rfl) ⟨⟨by decide, by decide⟩, rfl, rfl⟩ ⟨Nat.le_of_ble_eq_true rfl, Nat.le_of_ble_eq_true rfl⟩ (fun v1 A1 q1 => ?_)
  rcases q1 with ⟨h1, rfl, rfl⟩ | ⟨h1, rfl, rfl⟩
  · obtain ⟨i9, hi9, e9⟩ := wi_of h1 (by decide)
    subst e9
    have hcl := nI_clamp (n := i9) (by omega)
    refine g_if_eq X rfl (fun _ => ?_) (fun h => absurd nI_0 h) 
    refine g_aload_n X rfl rfl ?_
    refine g_iload_n X rfl rfl ?_
    refine g_rV X rfl lcX8_poolTo lmX8_284 lsX8_poolTo (cr_X8_poolTo l D cy B od hm hg (by omega)) (ci := 8) (by (repeat (first | exact hM | exact upA_eq | refine (upA_ne (by omega)).trans ?_))) rfl rfl rfl (Nat.le_of_ble_eq_true rfl) ⟨⟨by decide, by decide⟩, rfl, rfl⟩ ⟨Nat.le_of_ble_eq_true rfl, Nat.le_of_ble_eq_true rfl⟩ ?_
    refine g_iret X rfl rfl (by first | rfl | exact bI_nar _ | decide) (Nat.le_of_ble_eq_true rfl) (Nat.le_of_ble_eq_true rfl) ⟨rfl, ?_⟩
    exact mR0 (by first | (simp_all [ocPool, nI_eq, vS, vZ, V9]; done) | (simp_all [ocPool, nI_eq, vS, vZ, V9, nI_0, n10]; done) | (simp_all [ocPool, nI_eq, vS, vZ, V9, nI_0, n10, ← Int32.not_le]; done) | (simp_all [ocPool, nI_eq, vS, vZ, V9, ← Int64.not_le]; done) | (simp_all [ocPool, nI_eq, vS, vZ, V9, nI_0, n10, ← Int64.not_le, ← Int32.not_le]; done)) hA1
  · refine g_if_eq X rfl (fun h => absurd h n10) (fun _ => ?_)
    refine g_iconst X rfl (v := nI 0) (by decide) ?_
    refine g_goto X rfl ?_
    refine g_iret X rfl rfl (by first | rfl | exact bI_nar _ | decide) (Nat.le_of_ble_eq_true rfl) (Nat.le_of_ble_eq_true rfl) ⟨rfl, ?_⟩
    exact mRx (E := eIAE) (by first | (simp_all [ocPool, nI_eq, vS, vZ, V9]; done) | (simp_all [ocPool, nI_eq, vS, vZ, V9, nI_0, n10]; done) | (simp_all [ocPool, nI_eq, vS, vZ, V9, nI_0, n10, ← Int32.not_le]; done) | (simp_all [ocPool, nI_eq, vS, vZ, V9, ← Int64.not_le]; done) | (simp_all [ocPool, nI_eq, vS, vZ, V9, nI_0, n10, ← Int64.not_le, ← Int32.not_le]; done)) (by decide) hA1
set_option maxRecDepth 100000 in
set_option maxHeartbeats 400000 in
theorem cm_X8_poolWritten (l : Launch) (D : va_G) (cy : Nat → ClassId) (B : Nat) (od : Nat → Option Nat) {A : AH} {f : MF} {r : Nat → Int32} {Z : SV} {S : StV} (hm : MdR cy A f r Z S) (hg : Rng Z S) (hgz : RngZ Z) {q : Int32} : CM l D cy B od yX8_poolWritten cX8_poolWritten 2 (some .int) rmX8_poolWritten [.ref 231, .int q] A (fun v A' => v = some (mV (.int (nI 0)) (ocPoolW (V9 Z S) q)) ∧ A' = upA A 231 (moE (nI (cX [eIAE] (ocPoolW (V9 Z S) q)), f.2))) := by
  intro z
  refine CT.of (by decide) tX8_poolWritten okX8_poolWritten (Nat.le_of_ble_eq_true rfl) (q0 := tX8_poolWritten[0]) rfl rfl ?_
  intro p e s m args below meth c X _
  have hM := hm.1
  refine g_aload_n X rfl rfl ?_
  refine g_iconst X rfl (v := nI 0) (by decide) ?_
  refine g_put X rfl flX8_41 rfl (ci := 8) rfl (by (repeat (first | exact hM | exact upA_eq | refine (upA_ne (by omega)).trans ?_))) (Nat.le_of_ble_eq_true rfl) (by first | rfl | exact bI_nar _) (by first | rfl | decide) ?_
  refine G.cast (A2 := upA A 231 (moE (nI 0, f.2))) rfl ?_
  obtain ⟨A1, hA1⟩ : ∃ A1, A1 = upA A 231 (moE (nI 0, f.2)) := ⟨_, rfl⟩
  refine G.cast (A2 := A1) hA1.symm ?_
  have hm := hm.thr (nI 0)
  rw [← hA1] at hm
  obtain ⟨hM, hn, hc, hw, hwb, hz⟩ := id hm
  obtain ⟨c0, ⟨c1, c2, c3, c4, c5⟩, cb, ⟨c16, cr⟩, ⟨c35, ce⟩, ⟨c456, ca⟩, c517, cp⟩ := id hc
  obtain ⟨w1, w2, w3, w4, w5⟩ := id hw
  refine g_aload_n X rfl rfl ?_
  refine g_iload_n X rfl rfl ?_
  refine g_rS X rfl lcX8_isQuarter lmX8_356 stX8_isQuarter (cr_X8_isQuarter l D cy B od) rfl rfl (Nat.le_of_ble_eq_true rfl) ⟨⟨by decide, by decide⟩, rfl, rfl⟩ ⟨Nat.le_of_ble_eq_true rfl, Nat.le_of_ble_eq_true rfl⟩ ?_
  refine g_iconst X rfl (v := nI 1) (by decide) ?_
  refine g_mV X rfl lcX8_fails lmX8_52 lsX8_fails (cm_X8_failsB l D cy B od (by (repeat (first | exact hM | exact upA_eq | refine (upA_ne (by omega)).trans ?_)))) (ci := 8) (by (repeat (first | exact hM | exact upA_eq | refine (upA_ne (by omega)).trans ?_))) rfl rfl rfl (Nat.le_of_ble_eq_true rfl) ⟨⟨by decide, by decide⟩, rfl, rfl⟩ ⟨Nat.le_of_ble_eq_true rfl, Nat.le_of_ble_eq_true rfl⟩ (fun v1 A1 q1 => ?_)
  rcases q1 with ⟨h1, rfl, rfl⟩ | ⟨h1, rfl, rfl⟩
  · obtain ⟨i9, hi9, e9⟩ := wi_of h1 (by decide)
    subst e9
    have hcl := nI_clamp (n := i9) (by omega)
    refine g_if_eq X rfl (fun _ => ?_) (fun h => absurd nI_0 h) 
    refine g_aload_n X rfl rfl ?_
    refine g_iload_n X rfl rfl ?_
    refine g_rV X rfl lcX8_poolOff lmX8_303 lsX8_poolOff (cr_X8_poolOff l D cy B od hm hg (by omega)) (ci := 8) (by (repeat (first | exact hM | exact upA_eq | refine (upA_ne (by omega)).trans ?_))) rfl rfl rfl (Nat.le_of_ble_eq_true rfl) ⟨⟨by decide, by decide⟩, rfl, rfl⟩ ⟨Nat.le_of_ble_eq_true rfl, Nat.le_of_ble_eq_true rfl⟩ ?_
    refine g_iret X rfl rfl (by first | rfl | exact bI_nar _ | decide) (Nat.le_of_ble_eq_true rfl) (Nat.le_of_ble_eq_true rfl) ⟨rfl, ?_⟩
    exact mR0 (by first | (simp_all [ocPoolW, nI_eq, vS, vZ, V9]; done) | (simp_all [ocPoolW, nI_eq, vS, vZ, V9, nI_0, n10]; done) | (simp_all [ocPoolW, nI_eq, vS, vZ, V9, nI_0, n10, ← Int32.not_le]; done) | (simp_all [ocPoolW, nI_eq, vS, vZ, V9, ← Int64.not_le]; done) | (simp_all [ocPoolW, nI_eq, vS, vZ, V9, nI_0, n10, ← Int64.not_le, ← Int32.not_le]; done)) hA1
  · refine g_if_eq X rfl (fun h => absurd h n10) (fun _ => ?_)
    refine g_iconst X rfl (v := nI 0) (by decide) ?_
    refine g_goto X rfl ?_
    refine g_iret X rfl rfl (by first | rfl | exact bI_nar _ | decide) (Nat.le_of_ble_eq_true rfl) (Nat.le_of_ble_eq_true rfl) ⟨rfl, ?_⟩
    exact mRx (E := eIAE) (by first | (simp_all [ocPoolW, nI_eq, vS, vZ, V9]; done) | (simp_all [ocPoolW, nI_eq, vS, vZ, V9, nI_0, n10]; done) | (simp_all [ocPoolW, nI_eq, vS, vZ, V9, nI_0, n10, ← Int32.not_le]; done) | (simp_all [ocPoolW, nI_eq, vS, vZ, V9, ← Int64.not_le]; done) | (simp_all [ocPoolW, nI_eq, vS, vZ, V9, nI_0, n10, ← Int64.not_le, ← Int32.not_le]; done)) (by decide) hA1
set_option maxRecDepth 100000 in
set_option maxHeartbeats 400000 in
theorem cm_X8_profit (l : Launch) (D : va_G) (cy : Nat → ClassId) (B : Nat) (od : Nat → Option Nat) {A : AH} {f : MF} {r : Nat → Int32} {Z : SV} {S : StV} (hm : MdR cy A f r Z S) (hg : Rng Z S) (hgz : RngZ Z) {q : Int32} : CM l D cy B od yX8_profit cX8_profit 2 (some .long) rmX8_profit [.ref 231, .int q] A (fun v A' => v = some (mV (.long 0) (ocProf (V9 Z S) q)) ∧ A' = upA A 231 (moE (nI (cX [eIAE] (ocProf (V9 Z S) q)), f.2))) := by
  intro z
  refine CT.of (by decide) tX8_profit okX8_profit (Nat.le_of_ble_eq_true rfl) (q0 := tX8_profit[0]) rfl rfl ?_
  intro p e s m args below meth c X _
  have hM := hm.1
  refine g_aload_n X rfl rfl ?_
  refine g_iconst X rfl (v := nI 0) (by decide) ?_
  refine g_put X rfl flX8_41 rfl (ci := 8) rfl (by (repeat (first | exact hM | exact upA_eq | refine (upA_ne (by omega)).trans ?_))) (Nat.le_of_ble_eq_true rfl) (by first | rfl | exact bI_nar _) (by first | rfl | decide) ?_
  refine G.cast (A2 := upA A 231 (moE (nI 0, f.2))) rfl ?_
  obtain ⟨A1, hA1⟩ : ∃ A1, A1 = upA A 231 (moE (nI 0, f.2)) := ⟨_, rfl⟩
  refine G.cast (A2 := A1) hA1.symm ?_
  have hm := hm.thr (nI 0)
  rw [← hA1] at hm
  obtain ⟨hM, hn, hc, hw, hwb, hz⟩ := id hm
  obtain ⟨c0, ⟨c1, c2, c3, c4, c5⟩, cb, ⟨c16, cr⟩, ⟨c35, ce⟩, ⟨c456, ca⟩, c517, cp⟩ := id hc
  obtain ⟨w1, w2, w3, w4, w5⟩ := id hw
  refine g_aload_n X rfl rfl ?_
  refine g_iload_n X rfl rfl ?_
  refine g_rS X rfl lcX8_isQuarter lmX8_356 stX8_isQuarter (cr_X8_isQuarter l D cy B od) rfl rfl (Nat.le_of_ble_eq_true rfl) ⟨⟨by decide, by decide⟩, rfl, rfl⟩ ⟨Nat.le_of_ble_eq_true rfl, Nat.le_of_ble_eq_true rfl⟩ ?_
  refine g_iconst X rfl (v := nI 1) (by decide) ?_
  refine g_mV X rfl lcX8_fails lmX8_52 lsX8_fails (cm_X8_failsB l D cy B od (by (repeat (first | exact hM | exact upA_eq | refine (upA_ne (by omega)).trans ?_)))) (ci := 8) (by (repeat (first | exact hM | exact upA_eq | refine (upA_ne (by omega)).trans ?_))) rfl rfl rfl (Nat.le_of_ble_eq_true rfl) ⟨⟨by decide, by decide⟩, rfl, rfl⟩ ⟨Nat.le_of_ble_eq_true rfl, Nat.le_of_ble_eq_true rfl⟩ (fun v1 A1 q1 => ?_)
  rcases q1 with ⟨h1, rfl, rfl⟩ | ⟨h1, rfl, rfl⟩
  · obtain ⟨i9, hi9, e9⟩ := wi_of h1 (by decide)
    subst e9
    have hcl := nI_clamp (n := i9) (by omega)
    refine g_if_eq X rfl (fun _ => ?_) (fun h => absurd nI_0 h) 
    refine g_aload_n X rfl rfl ?_
    refine g_iload_n X rfl rfl ?_
    refine g_rV X rfl lcX8_profitOf lmX8_306 lsX8_profitOf (cr_X8_profitOf l D cy B od hm hg (by omega)) (ci := 8) (by (repeat (first | exact hM | exact upA_eq | refine (upA_ne (by omega)).trans ?_))) rfl rfl rfl (Nat.le_of_ble_eq_true rfl) ⟨⟨by decide, by decide⟩, rfl, rfl⟩ ⟨Nat.le_of_ble_eq_true rfl, Nat.le_of_ble_eq_true rfl⟩ ?_
    refine g_lret X rfl rfl (Nat.le_of_ble_eq_true rfl) (Nat.le_of_ble_eq_true rfl) ⟨rfl, ?_⟩
    exact mR0 (by first | (simp_all [ocProf, nI_eq, vS, vZ, V9]; done) | (simp_all [ocProf, nI_eq, vS, vZ, V9, nI_0, n10]; done) | (simp_all [ocProf, nI_eq, vS, vZ, V9, nI_0, n10, ← Int32.not_le]; done) | (simp_all [ocProf, nI_eq, vS, vZ, V9, ← Int64.not_le]; done) | (simp_all [ocProf, nI_eq, vS, vZ, V9, nI_0, n10, ← Int64.not_le, ← Int32.not_le]; done)) hA1
  · refine g_if_eq X rfl (fun h => absurd h n10) (fun _ => ?_)
    refine g_lconst X rfl (v := 0) (by decide) ?_
    refine g_goto X rfl ?_
    refine g_lret X rfl rfl (Nat.le_of_ble_eq_true rfl) (Nat.le_of_ble_eq_true rfl) ⟨rfl, ?_⟩
    exact mRx (E := eIAE) (by first | (simp_all [ocProf, nI_eq, vS, vZ, V9]; done) | (simp_all [ocProf, nI_eq, vS, vZ, V9, nI_0, n10]; done) | (simp_all [ocProf, nI_eq, vS, vZ, V9, nI_0, n10, ← Int32.not_le]; done) | (simp_all [ocProf, nI_eq, vS, vZ, V9, ← Int64.not_le]; done) | (simp_all [ocProf, nI_eq, vS, vZ, V9, nI_0, n10, ← Int64.not_le, ← Int32.not_le]; done)) (by decide) hA1
set_option maxRecDepth 100000 in
set_option maxHeartbeats 400000 in
theorem cm_X8_profitTo (l : Launch) (D : va_G) (cy : Nat → ClassId) (B : Nat) (od : Nat → Option Nat) {A : AH} {f : MF} {r : Nat → Int32} {Z : SV} {S : StV} (hm : MdR cy A f r Z S) (hg : Rng Z S) (hgz : RngZ Z) {q : Int32} : CM l D cy B od yX8_profitTo cX8_profitTo 2 (some .long) rmX8_profitTo [.ref 231, .int q] A (fun v A' => v = some (mV (.long 0) (ocProfT (V9 Z S) q)) ∧ A' = upA A 231 (moE (nI (cX [eIAE] (ocProfT (V9 Z S) q)), f.2))) := by
  intro z
  refine CT.of (by decide) tX8_profitTo okX8_profitTo (Nat.le_of_ble_eq_true rfl) (q0 := tX8_profitTo[0]) rfl rfl ?_
  intro p e s m args below meth c X _
  have hM := hm.1
  refine g_aload_n X rfl rfl ?_
  refine g_iconst X rfl (v := nI 0) (by decide) ?_
  refine g_put X rfl flX8_41 rfl (ci := 8) rfl (by (repeat (first | exact hM | exact upA_eq | refine (upA_ne (by omega)).trans ?_))) (Nat.le_of_ble_eq_true rfl) (by first | rfl | exact bI_nar _) (by first | rfl | decide) ?_
  refine G.cast (A2 := upA A 231 (moE (nI 0, f.2))) rfl ?_
  obtain ⟨A1, hA1⟩ : ∃ A1, A1 = upA A 231 (moE (nI 0, f.2)) := ⟨_, rfl⟩
  refine G.cast (A2 := A1) hA1.symm ?_
  have hm := hm.thr (nI 0)
  rw [← hA1] at hm
  obtain ⟨hM, hn, hc, hw, hwb, hz⟩ := id hm
  obtain ⟨c0, ⟨c1, c2, c3, c4, c5⟩, cb, ⟨c16, cr⟩, ⟨c35, ce⟩, ⟨c456, ca⟩, c517, cp⟩ := id hc
  obtain ⟨w1, w2, w3, w4, w5⟩ := id hw
  refine g_aload_n X rfl rfl ?_
  refine g_iload_n X rfl rfl ?_
  refine g_rS X rfl lcX8_isQuarter lmX8_356 stX8_isQuarter (cr_X8_isQuarter l D cy B od) rfl rfl (Nat.le_of_ble_eq_true rfl) ⟨⟨by decide, by decide⟩, rfl, rfl⟩ ⟨Nat.le_of_ble_eq_true rfl, Nat.le_of_ble_eq_true rfl⟩ ?_
  refine g_iconst X rfl (v := nI 1) (by decide) ?_
  refine g_mV X rfl lcX8_fails lmX8_52 lsX8_fails (cm_X8_failsB l D cy B od (by (repeat (first | exact hM | exact upA_eq | refine (upA_ne (by omega)).trans ?_)))) (ci := 8) (by (repeat (first | exact hM | exact upA_eq | refine (upA_ne (by omega)).trans ?_))) rfl rfl rfl (Nat.le_of_ble_eq_true rfl) ⟨⟨by decide, by decide⟩, rfl, rfl⟩ ⟨Nat.le_of_ble_eq_true rfl, Nat.le_of_ble_eq_true rfl⟩ (fun v1 A1 q1 => ?_)
  rcases q1 with ⟨h1, rfl, rfl⟩ | ⟨h1, rfl, rfl⟩
  · obtain ⟨i9, hi9, e9⟩ := wi_of h1 (by decide)
    subst e9
    have hcl := nI_clamp (n := i9) (by omega)
    refine g_if_eq X rfl (fun _ => ?_) (fun h => absurd nI_0 h) 
    refine g_aload_n X rfl rfl ?_
    refine g_iload_n X rfl rfl ?_
    refine g_rV X rfl lcX8_profitsTo lmX8_309 lsX8_profitsTo (cr_X8_profitsTo l D cy B od hm hg (by omega)) (ci := 8) (by (repeat (first | exact hM | exact upA_eq | refine (upA_ne (by omega)).trans ?_))) rfl rfl rfl (Nat.le_of_ble_eq_true rfl) ⟨⟨by decide, by decide⟩, rfl, rfl⟩ ⟨Nat.le_of_ble_eq_true rfl, Nat.le_of_ble_eq_true rfl⟩ ?_
    refine g_lret X rfl rfl (Nat.le_of_ble_eq_true rfl) (Nat.le_of_ble_eq_true rfl) ⟨rfl, ?_⟩
    exact mR0 (by first | (simp_all [ocProfT, nI_eq, vS, vZ, V9]; done) | (simp_all [ocProfT, nI_eq, vS, vZ, V9, nI_0, n10]; done) | (simp_all [ocProfT, nI_eq, vS, vZ, V9, nI_0, n10, ← Int32.not_le]; done) | (simp_all [ocProfT, nI_eq, vS, vZ, V9, ← Int64.not_le]; done) | (simp_all [ocProfT, nI_eq, vS, vZ, V9, nI_0, n10, ← Int64.not_le, ← Int32.not_le]; done)) hA1
  · refine g_if_eq X rfl (fun h => absurd h n10) (fun _ => ?_)
    refine g_lconst X rfl (v := 0) (by decide) ?_
    refine g_goto X rfl ?_
    refine g_lret X rfl rfl (Nat.le_of_ble_eq_true rfl) (Nat.le_of_ble_eq_true rfl) ⟨rfl, ?_⟩
    exact mRx (E := eIAE) (by first | (simp_all [ocProfT, nI_eq, vS, vZ, V9]; done) | (simp_all [ocProfT, nI_eq, vS, vZ, V9, nI_0, n10]; done) | (simp_all [ocProfT, nI_eq, vS, vZ, V9, nI_0, n10, ← Int32.not_le]; done) | (simp_all [ocProfT, nI_eq, vS, vZ, V9, ← Int64.not_le]; done) | (simp_all [ocProfT, nI_eq, vS, vZ, V9, nI_0, n10, ← Int64.not_le, ← Int32.not_le]; done)) (by decide) hA1
set_option maxRecDepth 100000 in
set_option maxHeartbeats 400000 in
theorem cm_X8_recomputed (l : Launch) (D : va_G) (cy : Nat → ClassId) (B : Nat) (od : Nat → Option Nat) {A : AH} {f : MF} {r : Nat → Int32} {Z : SV} {S : StV} (hm : MdR cy A f r Z S) (hg : Rng Z S) (hgz : RngZ Z) {q : Int32} : CM l D cy B od yX8_recomputed cX8_recomputed 2 (some .int) rmX8_recomputed [.ref 231, .int q] A (fun v A' => v = some (mV (.int (nI 0)) (ocRec (V9 Z S) q)) ∧ A' = upA A 231 (moE (nI (cX [eIAE] (ocRec (V9 Z S) q)), f.2))) := by
  intro z
  refine CT.of (by decide) tX8_recomputed okX8_recomputed (Nat.le_of_ble_eq_true rfl) (q0 := tX8_recomputed[0]) rfl rfl ?_
  intro p e s m args below meth c X _
  have hM := hm.1
  refine g_aload_n X rfl rfl ?_
  refine g_iconst X rfl (v := nI 0) (by decide) ?_
  refine g_put X rfl flX8_41 rfl (ci := 8) rfl (by (repeat (first | exact hM | exact upA_eq | refine (upA_ne (by omega)).trans ?_))) (Nat.le_of_ble_eq_true rfl) (by first | rfl | exact bI_nar _) (by first | rfl | decide) ?_
  refine G.cast (A2 := upA A 231 (moE (nI 0, f.2))) rfl ?_
  obtain ⟨A1, hA1⟩ : ∃ A1, A1 = upA A 231 (moE (nI 0, f.2)) := ⟨_, rfl⟩
  refine G.cast (A2 := A1) hA1.symm ?_
  have hm := hm.thr (nI 0)
  rw [← hA1] at hm
  obtain ⟨hM, hn, hc, hw, hwb, hz⟩ := id hm
  obtain ⟨c0, ⟨c1, c2, c3, c4, c5⟩, cb, ⟨c16, cr⟩, ⟨c35, ce⟩, ⟨c456, ca⟩, c517, cp⟩ := id hc
  obtain ⟨w1, w2, w3, w4, w5⟩ := id hw
  refine g_aload_n X rfl rfl ?_
  refine g_iload_n X rfl rfl ?_
  refine g_rS X rfl lcX8_isQuarter lmX8_356 stX8_isQuarter (cr_X8_isQuarter l D cy B od) rfl rfl (Nat.le_of_ble_eq_true rfl) ⟨⟨by decide, by decide⟩, rfl, rfl⟩ ⟨Nat.le_of_ble_eq_true rfl, Nat.le_of_ble_eq_true rfl⟩ ?_
  refine g_iconst X rfl (v := nI 1) (by decide) ?_
  refine g_mV X rfl lcX8_fails lmX8_52 lsX8_fails (cm_X8_failsB l D cy B od (by (repeat (first | exact hM | exact upA_eq | refine (upA_ne (by omega)).trans ?_)))) (ci := 8) (by (repeat (first | exact hM | exact upA_eq | refine (upA_ne (by omega)).trans ?_))) rfl rfl rfl (Nat.le_of_ble_eq_true rfl) ⟨⟨by decide, by decide⟩, rfl, rfl⟩ ⟨Nat.le_of_ble_eq_true rfl, Nat.le_of_ble_eq_true rfl⟩ (fun v1 A1 q1 => ?_)
  rcases q1 with ⟨h1, rfl, rfl⟩ | ⟨h1, rfl, rfl⟩
  · obtain ⟨i9, hi9, e9⟩ := wi_of h1 (by decide)
    subst e9
    have hcl := nI_clamp (n := i9) (by omega)
    refine g_if_eq X rfl (fun _ => ?_) (fun h => absurd nI_0 h) 
    refine g_aload_n X rfl rfl ?_
    refine g_iload_n X rfl rfl ?_
    refine g_rV X rfl lcX8_againFor lmX8_366 lsX8_againFor (cr_X8_againFor l D cy B od hm hg hgz (by omega)) (ci := 8) (by (repeat (first | exact hM | exact upA_eq | refine (upA_ne (by omega)).trans ?_))) rfl rfl rfl (Nat.le_of_ble_eq_true rfl) ⟨⟨by decide, by decide⟩, rfl, rfl⟩ ⟨Nat.le_of_ble_eq_true rfl, Nat.le_of_ble_eq_true rfl⟩ ?_
    refine g_iret X rfl rfl (by first | rfl | exact bI_nar _ | decide) (Nat.le_of_ble_eq_true rfl) (Nat.le_of_ble_eq_true rfl) ⟨rfl, ?_⟩
    exact mR0 (by first | (simp_all [ocRec, nI_eq, vS, vZ, V9]; done) | (simp_all [ocRec, nI_eq, vS, vZ, V9, nI_0, n10]; done) | (simp_all [ocRec, nI_eq, vS, vZ, V9, nI_0, n10, ← Int32.not_le]; done) | (simp_all [ocRec, nI_eq, vS, vZ, V9, ← Int64.not_le]; done) | (simp_all [ocRec, nI_eq, vS, vZ, V9, nI_0, n10, ← Int64.not_le, ← Int32.not_le]; done)) hA1
  · refine g_if_eq X rfl (fun h => absurd h n10) (fun _ => ?_)
    refine g_iconst X rfl (v := nI 0) (by decide) ?_
    refine g_goto X rfl ?_
    refine g_iret X rfl rfl (by first | rfl | exact bI_nar _ | decide) (Nat.le_of_ble_eq_true rfl) (Nat.le_of_ble_eq_true rfl) ⟨rfl, ?_⟩
    exact mRx (E := eIAE) (by first | (simp_all [ocRec, nI_eq, vS, vZ, V9]; done) | (simp_all [ocRec, nI_eq, vS, vZ, V9, nI_0, n10]; done) | (simp_all [ocRec, nI_eq, vS, vZ, V9, nI_0, n10, ← Int32.not_le]; done) | (simp_all [ocRec, nI_eq, vS, vZ, V9, ← Int64.not_le]; done) | (simp_all [ocRec, nI_eq, vS, vZ, V9, nI_0, n10, ← Int64.not_le, ← Int32.not_le]; done)) (by decide) hA1
set_option maxRecDepth 100000 in
set_option maxHeartbeats 400000 in
theorem cm_X8_balance (l : Launch) (D : va_G) (cy : Nat → ClassId) (B : Nat) (od : Nat → Option Nat) {A : AH} {f : MF} {r : Nat → Int32} {Z : SV} {S : StV} (hm : MdR cy A f r Z S) (hg : Rng Z S) (hgz : RngZ Z) {q : Int32} : CM l D cy B od yX8_balance cX8_balance 2 (some .long) rmX8_balance [.ref 231, .int q] A (fun v A' => v = some (mV (.long 0) (ocBal (V9 Z S) q)) ∧ A' = upA A 231 (moE (nI (cX [eIAE] (ocBal (V9 Z S) q)), f.2))) := by
  intro z
  refine CT.of (by decide) tX8_balance okX8_balance (Nat.le_of_ble_eq_true rfl) (q0 := tX8_balance[0]) rfl rfl ?_
  intro p e s m args below meth c X _
  have hM := hm.1
  refine g_aload_n X rfl rfl ?_
  refine g_iconst X rfl (v := nI 0) (by decide) ?_
  refine g_put X rfl flX8_41 rfl (ci := 8) rfl (by (repeat (first | exact hM | exact upA_eq | refine (upA_ne (by omega)).trans ?_))) (Nat.le_of_ble_eq_true rfl) (by first | rfl | exact bI_nar _) (by first | rfl | decide) ?_
  refine G.cast (A2 := upA A 231 (moE (nI 0, f.2))) rfl ?_
  obtain ⟨A1, hA1⟩ : ∃ A1, A1 = upA A 231 (moE (nI 0, f.2)) := ⟨_, rfl⟩
  refine G.cast (A2 := A1) hA1.symm ?_
  have hm := hm.thr (nI 0)
  rw [← hA1] at hm
  obtain ⟨hM, hn, hc, hw, hwb, hz⟩ := id hm
  obtain ⟨c0, ⟨c1, c2, c3, c4, c5⟩, cb, ⟨c16, cr⟩, ⟨c35, ce⟩, ⟨c456, ca⟩, c517, cp⟩ := id hc
  obtain ⟨w1, w2, w3, w4, w5⟩ := id hw
  refine g_aload_n X rfl rfl ?_
  refine g_iload_n X rfl rfl ?_
  refine g_rS X rfl lcX8_isDay lmX8_204 stX8_isDay (cr_X8_isDay l D cy B od) rfl rfl (Nat.le_of_ble_eq_true rfl) ⟨⟨by decide, by decide⟩, rfl, rfl⟩ ⟨Nat.le_of_ble_eq_true rfl, Nat.le_of_ble_eq_true rfl⟩ ?_
  refine g_iconst X rfl (v := nI 1) (by decide) ?_
  refine g_mV X rfl lcX8_fails lmX8_52 lsX8_fails (cm_X8_failsB l D cy B od (by (repeat (first | exact hM | exact upA_eq | refine (upA_ne (by omega)).trans ?_)))) (ci := 8) (by (repeat (first | exact hM | exact upA_eq | refine (upA_ne (by omega)).trans ?_))) rfl rfl rfl (Nat.le_of_ble_eq_true rfl) ⟨⟨by decide, by decide⟩, rfl, rfl⟩ ⟨Nat.le_of_ble_eq_true rfl, Nat.le_of_ble_eq_true rfl⟩ (fun v1 A1 q1 => ?_)
  rcases q1 with ⟨h1, rfl, rfl⟩ | ⟨h1, rfl, rfl⟩
  · obtain ⟨i9, hi9, e9⟩ := wi_of h1 (by decide)
    subst e9
    have hcl := nI_clamp (n := i9) (by omega)
    refine g_if_eq X rfl (fun _ => ?_) (fun h => absurd nI_0 h) 
    refine g_aload_n X rfl rfl ?_
    refine g_iload_n X rfl rfl ?_
    refine g_rV X rfl lcX8_balanceAt lmX8_390 lsX8_balanceAt (cr_X8_balanceAt l D cy B od hm hg (by omega)) (ci := 8) (by (repeat (first | exact hM | exact upA_eq | refine (upA_ne (by omega)).trans ?_))) rfl rfl rfl (Nat.le_of_ble_eq_true rfl) ⟨⟨by decide, by decide⟩, rfl, rfl⟩ ⟨Nat.le_of_ble_eq_true rfl, Nat.le_of_ble_eq_true rfl⟩ ?_
    refine g_lret X rfl rfl (Nat.le_of_ble_eq_true rfl) (Nat.le_of_ble_eq_true rfl) ⟨rfl, ?_⟩
    exact mR0 (by first | (simp_all [ocBal, nI_eq, vS, vZ, V9]; done) | (simp_all [ocBal, nI_eq, vS, vZ, V9, nI_0, n10]; done) | (simp_all [ocBal, nI_eq, vS, vZ, V9, nI_0, n10, ← Int32.not_le]; done) | (simp_all [ocBal, nI_eq, vS, vZ, V9, ← Int64.not_le]; done) | (simp_all [ocBal, nI_eq, vS, vZ, V9, nI_0, n10, ← Int64.not_le, ← Int32.not_le]; done)) hA1
  · refine g_if_eq X rfl (fun h => absurd h n10) (fun _ => ?_)
    refine g_lconst X rfl (v := 0) (by decide) ?_
    refine g_goto X rfl ?_
    refine g_lret X rfl rfl (Nat.le_of_ble_eq_true rfl) (Nat.le_of_ble_eq_true rfl) ⟨rfl, ?_⟩
    exact mRx (E := eIAE) (by first | (simp_all [ocBal, nI_eq, vS, vZ, V9]; done) | (simp_all [ocBal, nI_eq, vS, vZ, V9, nI_0, n10]; done) | (simp_all [ocBal, nI_eq, vS, vZ, V9, nI_0, n10, ← Int32.not_le]; done) | (simp_all [ocBal, nI_eq, vS, vZ, V9, ← Int64.not_le]; done) | (simp_all [ocBal, nI_eq, vS, vZ, V9, nI_0, n10, ← Int64.not_le, ← Int32.not_le]; done)) (by decide) hA1
set_option maxRecDepth 100000 in
set_option maxHeartbeats 400000 in
theorem cm_X8_prepayment (l : Launch) (D : va_G) (cy : Nat → ClassId) (B : Nat) (od : Nat → Option Nat) {A : AH} {f : MF} {r : Nat → Int32} {Z : SV} {S : StV} (hm : MdR cy A f r Z S) (hg : Rng Z S) (hgz : RngZ Z) {q : Int32} : CM l D cy B od yX8_prepayment cX8_prepayment 2 (some .int) rmX8_prepayment [.ref 231, .int q] A (fun v A' => v = some (mV (.int (nI 0)) (ocPrep (V9 Z S) q)) ∧ A' = upA A 231 (moE (nI (cX [eIAE, eNSE] (ocPrep (V9 Z S) q)), f.2))) := by
  intro z
  refine CT.of (by decide) tX8_prepayment okX8_prepayment (Nat.le_of_ble_eq_true rfl) (q0 := tX8_prepayment[0]) rfl rfl ?_
  intro p e s m args below meth c X _
  have hM := hm.1
  refine g_aload_n X rfl rfl ?_
  refine g_iconst X rfl (v := nI 0) (by decide) ?_
  refine g_put X rfl flX8_41 rfl (ci := 8) rfl (by (repeat (first | exact hM | exact upA_eq | refine (upA_ne (by omega)).trans ?_))) (Nat.le_of_ble_eq_true rfl) (by first | rfl | exact bI_nar _) (by first | rfl | decide) ?_
  refine G.cast (A2 := upA A 231 (moE (nI 0, f.2))) rfl ?_
  obtain ⟨A1, hA1⟩ : ∃ A1, A1 = upA A 231 (moE (nI 0, f.2)) := ⟨_, rfl⟩
  refine G.cast (A2 := A1) hA1.symm ?_
  have hm := hm.thr (nI 0)
  rw [← hA1] at hm
  obtain ⟨hM, hn, hc, hw, hwb, hz⟩ := id hm
  obtain ⟨c0, ⟨c1, c2, c3, c4, c5⟩, cb, ⟨c16, cr⟩, ⟨c35, ce⟩, ⟨c456, ca⟩, c517, cp⟩ := id hc
  obtain ⟨w1, w2, w3, w4, w5⟩ := id hw
  refine g_aload_n X rfl rfl ?_
  refine g_iload_n X rfl rfl ?_
  refine g_rS X rfl lcX8_isQuarter lmX8_356 stX8_isQuarter (cr_X8_isQuarter l D cy B od) rfl rfl (Nat.le_of_ble_eq_true rfl) ⟨⟨by decide, by decide⟩, rfl, rfl⟩ ⟨Nat.le_of_ble_eq_true rfl, Nat.le_of_ble_eq_true rfl⟩ ?_
  refine g_iconst X rfl (v := nI 1) (by decide) ?_
  refine g_mV X rfl lcX8_fails lmX8_52 lsX8_fails (cm_X8_failsB l D cy B od (by (repeat (first | exact hM | exact upA_eq | refine (upA_ne (by omega)).trans ?_)))) (ci := 8) (by (repeat (first | exact hM | exact upA_eq | refine (upA_ne (by omega)).trans ?_))) rfl rfl rfl (Nat.le_of_ble_eq_true rfl) ⟨⟨by decide, by decide⟩, rfl, rfl⟩ ⟨Nat.le_of_ble_eq_true rfl, Nat.le_of_ble_eq_true rfl⟩ (fun v1 A1 q1 => ?_)
  rcases q1 with ⟨h1, rfl, rfl⟩ | ⟨h1, rfl, rfl⟩
  · obtain ⟨i9, hi9, e9⟩ := wi_of h1 (by decide)
    subst e9
    have hcl := nI_clamp (n := i9) (by omega)
    refine g_if_ne X rfl (fun h => absurd nI_0 h) (fun _ => ?_)
    refine g_aload_n X rfl rfl ?_
    refine g_aload_n X rfl rfl ?_
    refine g_iload_n X rfl rfl ?_
    refine g_rV X rfl lcX8_isClosed lmX8_363 lsX8_isClosed (cr_X8_isClosed l D cy B od hm hg (by omega)) (ci := 8) (by (repeat (first | exact hM | exact upA_eq | refine (upA_ne (by omega)).trans ?_))) rfl rfl rfl (Nat.le_of_ble_eq_true rfl) ⟨⟨by decide, by decide⟩, rfl, rfl⟩ ⟨Nat.le_of_ble_eq_true rfl, Nat.le_of_ble_eq_true rfl⟩ ?_
    refine g_iconst X rfl (v := nI 2) (by decide) ?_
    refine g_mV X rfl lcX8_fails lmX8_52 lsX8_fails (cm_X8_failsB l D cy B od (by (repeat (first | exact hM | exact upA_eq | refine (upA_ne (by omega)).trans ?_)))) (ci := 8) (by (repeat (first | exact hM | exact upA_eq | refine (upA_ne (by omega)).trans ?_))) rfl rfl rfl (Nat.le_of_ble_eq_true rfl) ⟨⟨by decide, by decide⟩, rfl, rfl⟩ ⟨Nat.le_of_ble_eq_true rfl, Nat.le_of_ble_eq_true rfl⟩ (fun v2 A2 q2 => ?_)
    rcases q2 with ⟨h2, rfl, rfl⟩ | ⟨h2, rfl, rfl⟩
    · have hq9 := of_decide_eq_true h2
      refine g_if_eq X rfl (fun _ => ?_) (fun h => absurd nI_0 h) 
      refine g_aload_n X rfl rfl ?_
      refine g_get X rfl flX8_16 (ci := 8) rfl (by (repeat (first | exact hM | exact upA_eq | refine (upA_ne (by omega)).trans ?_))) rfl ?_
      refine g_sipush X rfl (v := nI 518) (by decide) ?_
      refine g_iload_n X rfl rfl ?_
      refine g_iadd X rfl ?_
      rw [nI_add]
      refine g_ialdN X rfl hn (by omega) (by decide) ?_
      rw [cp i9 hq9]
      refine g_iret X rfl rfl (by first | rfl | exact bI_nar _ | decide) (Nat.le_of_ble_eq_true rfl) (Nat.le_of_ble_eq_true rfl) ⟨rfl, ?_⟩
      exact mR0 (by first | (simp_all [ocPrep, nI_eq, vS, vZ, V9]; done) | (simp_all [ocPrep, nI_eq, vS, vZ, V9, nI_0, n10]; done) | (simp_all [ocPrep, nI_eq, vS, vZ, V9, nI_0, n10, ← Int32.not_le]; done) | (simp_all [ocPrep, nI_eq, vS, vZ, V9, ← Int64.not_le]; done) | (simp_all [ocPrep, nI_eq, vS, vZ, V9, nI_0, n10, ← Int64.not_le, ← Int32.not_le]; done)) hA1
    · refine g_if_eq X rfl (fun h => absurd h n10) (fun _ => ?_)
      refine g_iconst X rfl (v := nI 0) (by decide) ?_
      refine g_iret X rfl rfl (by first | rfl | exact bI_nar _ | decide) (Nat.le_of_ble_eq_true rfl) (Nat.le_of_ble_eq_true rfl) ⟨rfl, ?_⟩
      exact mRx (E := eNSE) (by first | (simp_all [ocPrep, nI_eq, vS, vZ, V9]; done) | (simp_all [ocPrep, nI_eq, vS, vZ, V9, nI_0, n10]; done) | (simp_all [ocPrep, nI_eq, vS, vZ, V9, nI_0, n10, ← Int32.not_le]; done) | (simp_all [ocPrep, nI_eq, vS, vZ, V9, ← Int64.not_le]; done) | (simp_all [ocPrep, nI_eq, vS, vZ, V9, nI_0, n10, ← Int64.not_le, ← Int32.not_le]; done)) (by decide) hA1
  · refine g_if_ne X rfl (fun _ => ?_) (fun h => absurd h n10) 
    refine g_iconst X rfl (v := nI 0) (by decide) ?_
    refine g_iret X rfl rfl (by first | rfl | exact bI_nar _ | decide) (Nat.le_of_ble_eq_true rfl) (Nat.le_of_ble_eq_true rfl) ⟨rfl, ?_⟩
    exact mRx (E := eIAE) (by first | (simp_all [ocPrep, nI_eq, vS, vZ, V9]; done) | (simp_all [ocPrep, nI_eq, vS, vZ, V9, nI_0, n10]; done) | (simp_all [ocPrep, nI_eq, vS, vZ, V9, nI_0, n10, ← Int32.not_le]; done) | (simp_all [ocPrep, nI_eq, vS, vZ, V9, ← Int64.not_le]; done) | (simp_all [ocPrep, nI_eq, vS, vZ, V9, nI_0, n10, ← Int64.not_le, ← Int32.not_le]; done)) (by decide) hA1
set_option maxRecDepth 100000 in
set_option maxHeartbeats 400000 in
theorem cm_X8_correction (l : Launch) (D : va_G) (cy : Nat → ClassId) (B : Nat) (od : Nat → Option Nat) {A : AH} {f : MF} {r : Nat → Int32} {Z : SV} {S : StV} (hm : MdR cy A f r Z S) (hg : Rng Z S) (hgz : RngZ Z) {q : Int32} : CM l D cy B od yX8_correction cX8_correction 2 (some .int) rmX8_correction [.ref 231, .int q] A (fun v A' => v = some (mV (.int (nI 0)) (ocCorr (V9 Z S) q)) ∧ A' = upA A 231 (moE (nI (cX [eIAE, eNSE] (ocCorr (V9 Z S) q)), f.2))) := by
  intro z
  refine CT.of (by decide) tX8_correction okX8_correction (Nat.le_of_ble_eq_true rfl) (q0 := tX8_correction[0]) rfl rfl ?_
  intro p e s m args below meth c X _
  have hM := hm.1
  refine g_aload_n X rfl rfl ?_
  refine g_iconst X rfl (v := nI 0) (by decide) ?_
  refine g_put X rfl flX8_41 rfl (ci := 8) rfl (by (repeat (first | exact hM | exact upA_eq | refine (upA_ne (by omega)).trans ?_))) (Nat.le_of_ble_eq_true rfl) (by first | rfl | exact bI_nar _) (by first | rfl | decide) ?_
  refine G.cast (A2 := upA A 231 (moE (nI 0, f.2))) rfl ?_
  obtain ⟨A1, hA1⟩ : ∃ A1, A1 = upA A 231 (moE (nI 0, f.2)) := ⟨_, rfl⟩
  refine G.cast (A2 := A1) hA1.symm ?_
  have hm := hm.thr (nI 0)
  rw [← hA1] at hm
  obtain ⟨hM, hn, hc, hw, hwb, hz⟩ := id hm
  obtain ⟨c0, ⟨c1, c2, c3, c4, c5⟩, cb, ⟨c16, cr⟩, ⟨c35, ce⟩, ⟨c456, ca⟩, c517, cp⟩ := id hc
  obtain ⟨w1, w2, w3, w4, w5⟩ := id hw
  refine g_aload_n X rfl rfl ?_
  refine g_iload_n X rfl rfl ?_
  refine g_rS X rfl lcX8_isQuarter lmX8_356 stX8_isQuarter (cr_X8_isQuarter l D cy B od) rfl rfl (Nat.le_of_ble_eq_true rfl) ⟨⟨by decide, by decide⟩, rfl, rfl⟩ ⟨Nat.le_of_ble_eq_true rfl, Nat.le_of_ble_eq_true rfl⟩ ?_
  refine g_iconst X rfl (v := nI 1) (by decide) ?_
  refine g_mV X rfl lcX8_fails lmX8_52 lsX8_fails (cm_X8_failsB l D cy B od (by (repeat (first | exact hM | exact upA_eq | refine (upA_ne (by omega)).trans ?_)))) (ci := 8) (by (repeat (first | exact hM | exact upA_eq | refine (upA_ne (by omega)).trans ?_))) rfl rfl rfl (Nat.le_of_ble_eq_true rfl) ⟨⟨by decide, by decide⟩, rfl, rfl⟩ ⟨Nat.le_of_ble_eq_true rfl, Nat.le_of_ble_eq_true rfl⟩ (fun v1 A1 q1 => ?_)
  rcases q1 with ⟨h1, rfl, rfl⟩ | ⟨h1, rfl, rfl⟩
  · obtain ⟨i9, hi9, e9⟩ := wi_of h1 (by decide)
    subst e9
    have hcl := nI_clamp (n := i9) (by omega)
    refine g_if_ne X rfl (fun h => absurd nI_0 h) (fun _ => ?_)
    refine g_aload_n X rfl rfl ?_
    refine g_aload_n X rfl rfl ?_
    refine g_iload_n X rfl rfl ?_
    refine g_rV X rfl lcX8_isClosed lmX8_363 lsX8_isClosed (cr_X8_isClosed l D cy B od hm hg (by omega)) (ci := 8) (by (repeat (first | exact hM | exact upA_eq | refine (upA_ne (by omega)).trans ?_))) rfl rfl rfl (Nat.le_of_ble_eq_true rfl) ⟨⟨by decide, by decide⟩, rfl, rfl⟩ ⟨Nat.le_of_ble_eq_true rfl, Nat.le_of_ble_eq_true rfl⟩ ?_
    refine g_iconst X rfl (v := nI 2) (by decide) ?_
    refine g_mV X rfl lcX8_fails lmX8_52 lsX8_fails (cm_X8_failsB l D cy B od (by (repeat (first | exact hM | exact upA_eq | refine (upA_ne (by omega)).trans ?_)))) (ci := 8) (by (repeat (first | exact hM | exact upA_eq | refine (upA_ne (by omega)).trans ?_))) rfl rfl rfl (Nat.le_of_ble_eq_true rfl) ⟨⟨by decide, by decide⟩, rfl, rfl⟩ ⟨Nat.le_of_ble_eq_true rfl, Nat.le_of_ble_eq_true rfl⟩ (fun v2 A2 q2 => ?_)
    rcases q2 with ⟨h2, rfl, rfl⟩ | ⟨h2, rfl, rfl⟩
    · have hq9 := of_decide_eq_true h2
      refine g_if_eq X rfl (fun _ => ?_) (fun h => absurd nI_0 h) 
      refine g_aload_n X rfl rfl ?_
      refine g_iload_n X rfl rfl ?_
      refine g_rV X rfl lcX8_correctionOf lmX8_369 lsX8_correctionOf (cr_X8_correctionOf l D cy B od hm hg hgz (by omega)) (ci := 8) (by (repeat (first | exact hM | exact upA_eq | refine (upA_ne (by omega)).trans ?_))) rfl rfl rfl (Nat.le_of_ble_eq_true rfl) ⟨⟨by decide, by decide⟩, rfl, rfl⟩ ⟨Nat.le_of_ble_eq_true rfl, Nat.le_of_ble_eq_true rfl⟩ ?_
      refine g_iret X rfl rfl (by first | rfl | exact bI_nar _ | decide) (Nat.le_of_ble_eq_true rfl) (Nat.le_of_ble_eq_true rfl) ⟨rfl, ?_⟩
      exact mR0 (by first | (simp_all [ocCorr, nI_eq, vS, vZ, V9]; done) | (simp_all [ocCorr, nI_eq, vS, vZ, V9, nI_0, n10]; done) | (simp_all [ocCorr, nI_eq, vS, vZ, V9, nI_0, n10, ← Int32.not_le]; done) | (simp_all [ocCorr, nI_eq, vS, vZ, V9, ← Int64.not_le]; done) | (simp_all [ocCorr, nI_eq, vS, vZ, V9, nI_0, n10, ← Int64.not_le, ← Int32.not_le]; done)) hA1
    · refine g_if_eq X rfl (fun h => absurd h n10) (fun _ => ?_)
      refine g_iconst X rfl (v := nI 0) (by decide) ?_
      refine g_iret X rfl rfl (by first | rfl | exact bI_nar _ | decide) (Nat.le_of_ble_eq_true rfl) (Nat.le_of_ble_eq_true rfl) ⟨rfl, ?_⟩
      exact mRx (E := eNSE) (by first | (simp_all [ocCorr, nI_eq, vS, vZ, V9]; done) | (simp_all [ocCorr, nI_eq, vS, vZ, V9, nI_0, n10]; done) | (simp_all [ocCorr, nI_eq, vS, vZ, V9, nI_0, n10, ← Int32.not_le]; done) | (simp_all [ocCorr, nI_eq, vS, vZ, V9, ← Int64.not_le]; done) | (simp_all [ocCorr, nI_eq, vS, vZ, V9, nI_0, n10, ← Int64.not_le, ← Int32.not_le]; done)) (by decide) hA1
  · refine g_if_ne X rfl (fun _ => ?_) (fun h => absurd h n10) 
    refine g_iconst X rfl (v := nI 0) (by decide) ?_
    refine g_iret X rfl rfl (by first | rfl | exact bI_nar _ | decide) (Nat.le_of_ble_eq_true rfl) (Nat.le_of_ble_eq_true rfl) ⟨rfl, ?_⟩
    exact mRx (E := eIAE) (by first | (simp_all [ocCorr, nI_eq, vS, vZ, V9]; done) | (simp_all [ocCorr, nI_eq, vS, vZ, V9, nI_0, n10]; done) | (simp_all [ocCorr, nI_eq, vS, vZ, V9, nI_0, n10, ← Int32.not_le]; done) | (simp_all [ocCorr, nI_eq, vS, vZ, V9, ← Int64.not_le]; done) | (simp_all [ocCorr, nI_eq, vS, vZ, V9, nI_0, n10, ← Int64.not_le, ← Int32.not_le]; done)) (by decide) hA1
set_option maxRecDepth 100000 in
set_option maxHeartbeats 400000 in
theorem cm_X8_count (l : Launch) (D : va_G) (cy : Nat → ClassId) (B : Nat) (od : Nat → Option Nat) {A : AH} {f : MF} {r : Nat → Int32} {Z : SV} {S : StV} (hm : MdR cy A f r Z S) (hg : Rng Z S) (hgz : RngZ Z) {w : Int32} : CM l D cy B od yX8_count cX8_count 2 (some .int) rmX8_count [.ref 231, .int w] A (fun v A' => v = some (mV (.int (nI 0)) (ocCount (V9 Z S) w)) ∧ A' = upA A 231 (moE (nI (cX [eIAE] (ocCount (V9 Z S) w)), f.2))) := by
  intro z
  refine CT.of (by decide) tX8_count okX8_count (Nat.le_of_ble_eq_true rfl) (q0 := tX8_count[0]) rfl rfl ?_
  intro p e s m args below meth c X _
  have hM := hm.1
  refine g_aload_n X rfl rfl ?_
  refine g_iconst X rfl (v := nI 0) (by decide) ?_
  refine g_put X rfl flX8_41 rfl (ci := 8) rfl (by (repeat (first | exact hM | exact upA_eq | refine (upA_ne (by omega)).trans ?_))) (Nat.le_of_ble_eq_true rfl) (by first | rfl | exact bI_nar _) (by first | rfl | decide) ?_
  refine G.cast (A2 := upA A 231 (moE (nI 0, f.2))) rfl ?_
  obtain ⟨A1, hA1⟩ : ∃ A1, A1 = upA A 231 (moE (nI 0, f.2)) := ⟨_, rfl⟩
  refine G.cast (A2 := A1) hA1.symm ?_
  have hm := hm.thr (nI 0)
  rw [← hA1] at hm
  obtain ⟨hM, hn, hc, hw, hwb, hz⟩ := id hm
  obtain ⟨c0, ⟨c1, c2, c3, c4, c5⟩, cb, ⟨c16, cr⟩, ⟨c35, ce⟩, ⟨c456, ca⟩, c517, cp⟩ := id hc
  obtain ⟨w1, w2, w3, w4, w5⟩ := id hw
  refine g_iload_n X rfl rfl ?_
  by_cases hk0 : w = nI 0
  · subst hk0
    refine g_tsw X rfl (by decide) (by decide) (off := 50) (by decide) (j := 5) rfl (by decide) ?_
    refine g_aload_n X rfl rfl ?_
    refine g_get X rfl flX8_16 (ci := 8) rfl (by (repeat (first | exact hM | exact upA_eq | refine (upA_ne (by omega)).trans ?_))) rfl ?_
    refine g_bipush X rfl (v := nI 35) (by decide) ?_
    refine g_ialdN X rfl hn (by omega) (by decide) ?_
    rw [c35]
    refine g_iret X rfl rfl (by first | rfl | exact bI_nar _ | decide) (Nat.le_of_ble_eq_true rfl) (Nat.le_of_ble_eq_true rfl) ⟨rfl, ?_⟩
    exact mR0 (by first | (simp_all [ocCount, nI_eq, vS, vZ, V9]; done) | (simp_all [ocCount, nI_eq, vS, vZ, V9, nI_0, n10]; done) | (simp_all [ocCount, nI_eq, vS, vZ, V9, nI_0, n10, ← Int32.not_le]; done) | (simp_all [ocCount, nI_eq, vS, vZ, V9, ← Int64.not_le]; done) | (simp_all [ocCount, nI_eq, vS, vZ, V9, nI_0, n10, ← Int64.not_le, ← Int32.not_le]; done)) hA1
  by_cases hk1 : w = nI 1
  · subst hk1
    refine g_tsw X rfl (by decide) (by decide) (off := 58) (by decide) (j := 10) rfl (by decide) ?_
    refine g_aload_n X rfl rfl ?_
    refine g_rV X rfl lcX8_openMany lmX8_332 lsX8_openMany (cr_X8_openMany l D cy B od hm hg) (ci := 8) (by (repeat (first | exact hM | exact upA_eq | refine (upA_ne (by omega)).trans ?_))) rfl rfl rfl (Nat.le_of_ble_eq_true rfl) ⟨⟨by decide, by decide⟩, rfl, rfl⟩ ⟨Nat.le_of_ble_eq_true rfl, Nat.le_of_ble_eq_true rfl⟩ ?_
    refine g_iret X rfl rfl (by first | rfl | exact bI_nar _ | decide) (Nat.le_of_ble_eq_true rfl) (Nat.le_of_ble_eq_true rfl) ⟨rfl, ?_⟩
    exact mR0 (by first | (simp_all [ocCount, nI_eq, vS, vZ, V9]; done) | (simp_all [ocCount, nI_eq, vS, vZ, V9, nI_0, n10]; done) | (simp_all [ocCount, nI_eq, vS, vZ, V9, nI_0, n10, ← Int32.not_le]; done) | (simp_all [ocCount, nI_eq, vS, vZ, V9, ← Int64.not_le]; done) | (simp_all [ocCount, nI_eq, vS, vZ, V9, nI_0, n10, ← Int64.not_le, ← Int32.not_le]; done)) hA1
  by_cases hk2 : w = nI 2
  · subst hk2
    refine g_tsw X rfl (by decide) (by decide) (off := 63) (by decide) (j := 13) rfl (by decide) ?_
    refine g_aload_n X rfl rfl ?_
    refine g_iconst X rfl (v := nI 5) (by decide) ?_
    refine g_rV X rfl lcX8_flagged lmX8_335 lsX8_flagged (cr_X8_flagged l D cy B od hm hg (by decide)) (ci := 8) (by (repeat (first | exact hM | exact upA_eq | refine (upA_ne (by omega)).trans ?_))) rfl rfl rfl (Nat.le_of_ble_eq_true rfl) ⟨⟨by decide, by decide⟩, rfl, rfl⟩ ⟨Nat.le_of_ble_eq_true rfl, Nat.le_of_ble_eq_true rfl⟩ ?_
    refine g_iret X rfl rfl (by first | rfl | exact bI_nar _ | decide) (Nat.le_of_ble_eq_true rfl) (Nat.le_of_ble_eq_true rfl) ⟨rfl, ?_⟩
    exact mR0 (by first | (simp_all [ocCount, nI_eq, vS, vZ, V9]; done) | (simp_all [ocCount, nI_eq, vS, vZ, V9, nI_0, n10]; done) | (simp_all [ocCount, nI_eq, vS, vZ, V9, nI_0, n10, ← Int32.not_le]; done) | (simp_all [ocCount, nI_eq, vS, vZ, V9, ← Int64.not_le]; done) | (simp_all [ocCount, nI_eq, vS, vZ, V9, nI_0, n10, ← Int64.not_le, ← Int32.not_le]; done)) hA1
  by_cases hk3 : w = nI 3
  · subst hk3
    refine g_tsw X rfl (by decide) (by decide) (off := 69) (by decide) (j := 17) rfl (by decide) ?_
    refine g_aload_n X rfl rfl ?_
    refine g_bipush X rfl (v := nI 6) (by decide) ?_
    refine g_rV X rfl lcX8_flagged lmX8_335 lsX8_flagged (cr_X8_flagged l D cy B od hm hg (by decide)) (ci := 8) (by (repeat (first | exact hM | exact upA_eq | refine (upA_ne (by omega)).trans ?_))) rfl rfl rfl (Nat.le_of_ble_eq_true rfl) ⟨⟨by decide, by decide⟩, rfl, rfl⟩ ⟨Nat.le_of_ble_eq_true rfl, Nat.le_of_ble_eq_true rfl⟩ ?_
    refine g_iret X rfl rfl (by first | rfl | exact bI_nar _ | decide) (Nat.le_of_ble_eq_true rfl) (Nat.le_of_ble_eq_true rfl) ⟨rfl, ?_⟩
    exact mR0 (by first | (simp_all [ocCount, nI_eq, vS, vZ, V9]; done) | (simp_all [ocCount, nI_eq, vS, vZ, V9, nI_0, n10]; done) | (simp_all [ocCount, nI_eq, vS, vZ, V9, nI_0, n10, ← Int32.not_le]; done) | (simp_all [ocCount, nI_eq, vS, vZ, V9, ← Int64.not_le]; done) | (simp_all [ocCount, nI_eq, vS, vZ, V9, nI_0, n10, ← Int64.not_le, ← Int32.not_le]; done)) hA1
  by_cases hk4 : w = nI 4
  · subst hk4
    refine g_tsw X rfl (by decide) (by decide) (off := 76) (by decide) (j := 21) rfl (by decide) ?_
    refine g_aload_n X rfl rfl ?_
    refine g_get X rfl flX8_16 (ci := 8) rfl (by (repeat (first | exact hM | exact upA_eq | refine (upA_ne (by omega)).trans ?_))) rfl ?_
    refine g_bipush X rfl (v := nI 16) (by decide) ?_
    refine g_ialdN X rfl hn (by omega) (by decide) ?_
    rw [c16]
    refine g_iret X rfl rfl (by first | rfl | exact bI_nar _ | decide) (Nat.le_of_ble_eq_true rfl) (Nat.le_of_ble_eq_true rfl) ⟨rfl, ?_⟩
    exact mR0 (by first | (simp_all [ocCount, nI_eq, vS, vZ, V9]; done) | (simp_all [ocCount, nI_eq, vS, vZ, V9, nI_0, n10]; done) | (simp_all [ocCount, nI_eq, vS, vZ, V9, nI_0, n10, ← Int32.not_le]; done) | (simp_all [ocCount, nI_eq, vS, vZ, V9, ← Int64.not_le]; done) | (simp_all [ocCount, nI_eq, vS, vZ, V9, nI_0, n10, ← Int64.not_le, ← Int32.not_le]; done)) hA1
  by_cases hk5 : w = nI 5
  · subst hk5
    refine g_tsw X rfl (by decide) (by decide) (off := 84) (by decide) (j := 26) rfl (by decide) ?_
    refine g_aload_n X rfl rfl ?_
    refine g_get X rfl flX8_16 (ci := 8) rfl (by (repeat (first | exact hM | exact upA_eq | refine (upA_ne (by omega)).trans ?_))) rfl ?_
    refine g_sipush X rfl (v := nI 456) (by decide) ?_
    refine g_ialdN X rfl hn (by omega) (by decide) ?_
    rw [c456]
    refine g_iret X rfl rfl (by first | rfl | exact bI_nar _ | decide) (Nat.le_of_ble_eq_true rfl) (Nat.le_of_ble_eq_true rfl) ⟨rfl, ?_⟩
    exact mR0 (by first | (simp_all [ocCount, nI_eq, vS, vZ, V9]; done) | (simp_all [ocCount, nI_eq, vS, vZ, V9, nI_0, n10]; done) | (simp_all [ocCount, nI_eq, vS, vZ, V9, nI_0, n10, ← Int32.not_le]; done) | (simp_all [ocCount, nI_eq, vS, vZ, V9, ← Int64.not_le]; done) | (simp_all [ocCount, nI_eq, vS, vZ, V9, nI_0, n10, ← Int64.not_le, ← Int32.not_le]; done)) hA1
  by_cases hk6 : w = nI 6
  · subst hk6
    refine g_tsw X rfl (by decide) (by decide) (off := 93) (by decide) (j := 31) rfl (by decide) ?_
    refine g_aload_n X rfl rfl ?_
    refine g_rV X rfl lcX8_soldMany lmX8_338 lsX8_soldMany (cr_X8_soldMany l D cy B od hm hg) (ci := 8) (by (repeat (first | exact hM | exact upA_eq | refine (upA_ne (by omega)).trans ?_))) rfl rfl rfl (Nat.le_of_ble_eq_true rfl) ⟨⟨by decide, by decide⟩, rfl, rfl⟩ ⟨Nat.le_of_ble_eq_true rfl, Nat.le_of_ble_eq_true rfl⟩ ?_
    refine g_iret X rfl rfl (by first | rfl | exact bI_nar _ | decide) (Nat.le_of_ble_eq_true rfl) (Nat.le_of_ble_eq_true rfl) ⟨rfl, ?_⟩
    exact mR0 (by first | (simp_all [ocCount, nI_eq, vS, vZ, V9]; done) | (simp_all [ocCount, nI_eq, vS, vZ, V9, nI_0, n10]; done) | (simp_all [ocCount, nI_eq, vS, vZ, V9, nI_0, n10, ← Int32.not_le]; done) | (simp_all [ocCount, nI_eq, vS, vZ, V9, ← Int64.not_le]; done) | (simp_all [ocCount, nI_eq, vS, vZ, V9, nI_0, n10, ← Int64.not_le, ← Int32.not_le]; done)) hA1
  by_cases hk7 : w = nI 7
  · subst hk7
    refine g_tsw X rfl (by decide) (by decide) (off := 98) (by decide) (j := 34) rfl (by decide) ?_
    refine g_aload_n X rfl rfl ?_
    refine g_get X rfl flX8_16 (ci := 8) rfl (by (repeat (first | exact hM | exact upA_eq | refine (upA_ne (by omega)).trans ?_))) rfl ?_
    refine g_sipush X rfl (v := nI 517) (by decide) ?_
    refine g_ialdN X rfl hn (by omega) (by decide) ?_
    rw [c517]
    refine g_iret X rfl rfl (by first | rfl | exact bI_nar _ | decide) (Nat.le_of_ble_eq_true rfl) (Nat.le_of_ble_eq_true rfl) ⟨rfl, ?_⟩
    exact mR0 (by first | (simp_all [ocCount, nI_eq, vS, vZ, V9]; done) | (simp_all [ocCount, nI_eq, vS, vZ, V9, nI_0, n10]; done) | (simp_all [ocCount, nI_eq, vS, vZ, V9, nI_0, n10, ← Int32.not_le]; done) | (simp_all [ocCount, nI_eq, vS, vZ, V9, ← Int64.not_le]; done) | (simp_all [ocCount, nI_eq, vS, vZ, V9, nI_0, n10, ← Int64.not_le, ← Int32.not_le]; done)) hA1
  by_cases hk8 : w = nI 8
  · subst hk8
    refine g_tsw X rfl (by decide) (by decide) (off := 107) (by decide) (j := 39) rfl (by decide) ?_
    refine g_aload_n X rfl rfl ?_
    refine g_get X rfl flX8_16 (ci := 8) rfl (by (repeat (first | exact hM | exact upA_eq | refine (upA_ne (by omega)).trans ?_))) rfl ?_
    refine g_iconst X rfl (v := nI 5) (by decide) ?_
    refine g_ialdN X rfl hn (by omega) (by decide) ?_
    rw [c5]
    refine g_iret X rfl rfl (by first | rfl | exact bI_nar _ | decide) (Nat.le_of_ble_eq_true rfl) (Nat.le_of_ble_eq_true rfl) ⟨rfl, ?_⟩
    exact mR0 (by first | (simp_all [ocCount, nI_eq, vS, vZ, V9]; done) | (simp_all [ocCount, nI_eq, vS, vZ, V9, nI_0, n10]; done) | (simp_all [ocCount, nI_eq, vS, vZ, V9, nI_0, n10, ← Int32.not_le]; done) | (simp_all [ocCount, nI_eq, vS, vZ, V9, ← Int64.not_le]; done) | (simp_all [ocCount, nI_eq, vS, vZ, V9, nI_0, n10, ← Int64.not_le, ← Int32.not_le]; done)) hA1
  refine g_tswO X rfl (tsw_out 8 (fun k hk => by rcases (show k = 0 ∨ k = 1 ∨ k = 2 ∨ k = 3 ∨ k = 4 ∨ k = 5 ∨ k = 6 ∨ k = 7 ∨ k = 8 by omega) with rfl | rfl | rfl | rfl | rfl | rfl | rfl | rfl | rfl <;> assumption) (by decide)) (j := 44) rfl (by decide) ?_
  refine g_aload_n X rfl rfl ?_
  refine g_iconst X rfl (v := nI 1) (by decide) ?_
  refine g_put X rfl flX8_41 rfl (ci := 8) rfl (by (repeat (first | exact hM | exact upA_eq | refine (upA_ne (by omega)).trans ?_))) (Nat.le_of_ble_eq_true rfl) (by first | rfl | exact bI_nar _) (by first | rfl | decide) ?_
  refine g_iconst X rfl (v := nI 0) (by decide) ?_
  refine g_iret X rfl rfl (by first | rfl | exact bI_nar _ | decide) (Nat.le_of_ble_eq_true rfl) (Nat.le_of_ble_eq_true rfl) ⟨rfl, ?_⟩
  exact mRx (E := eIAE) (by first | (simp_all [ocCount, nI_eq, vS, vZ, V9]; done) | (simp_all [ocCount, nI_eq, vS, vZ, V9, nI_0, n10]; done) | (simp_all [ocCount, nI_eq, vS, vZ, V9, nI_0, n10, ← Int32.not_le]; done) | (simp_all [ocCount, nI_eq, vS, vZ, V9, ← Int64.not_le]; done) | (simp_all [ocCount, nI_eq, vS, vZ, V9, nI_0, n10, ← Int64.not_le, ← Int32.not_le]; done)) (by decide) hA1
theorem dOf_i {S : StV} {k : Nat} : (dOf S k).toInt32 = sDedP S k := by
  unfold dOf sDedP
  split
  · rfl
  · decide
theorem flag_N {x : Int32} (h : x = 0 ∨ x = 1) : (if x = 0 then nI 0 else nI 1) = x := by
  rcases h with h | h <;> subst h <;> decide
set_option maxRecDepth 100000 in
set_option maxHeartbeats 400000 in
theorem cm_X8_deductible (l : Launch) (D : va_G) (cy : Nat → ClassId) (B : Nat) (od : Nat → Option Nat) {A : AH} {f : MF} {r : Nat → Int32} {Z : SV} {S : StV} (hm : MdR cy A f r Z S) (hg : Rng Z S) (hgz : RngZ Z) {x : Int32} : CM l D cy B od yX8_deductible cX8_deductible 2 (some .int) rmX8_deductible [.ref 231, .int x] A (fun v A' => v = some (mV (.int (nI 0)) (ocDed (V9 Z S) x)) ∧ A' = upA A 231 (moE (nI (cX [eIOB] (ocDed (V9 Z S) x)), f.2))) := by
  intro z
  refine CT.of (by decide) tX8_deductible okX8_deductible (Nat.le_of_ble_eq_true rfl) (q0 := tX8_deductible[0]) rfl rfl ?_
  intro p e s m args below meth c X _
  have hM := hm.1
  refine g_aload_n X rfl rfl ?_
  refine g_iconst X rfl (v := nI 0) (by decide) ?_
  refine g_put X rfl flX8_41 rfl (ci := 8) rfl (by (repeat (first | exact hM | exact upA_eq | refine (upA_ne (by omega)).trans ?_))) (Nat.le_of_ble_eq_true rfl) (by first | rfl | exact bI_nar _) (by first | rfl | decide) ?_
  refine G.cast (A2 := upA A 231 (moE (nI 0, f.2))) rfl ?_
  obtain ⟨A1, hA1⟩ : ∃ A1, A1 = upA A 231 (moE (nI 0, f.2)) := ⟨_, rfl⟩
  refine G.cast (A2 := A1) hA1.symm ?_
  have hm := hm.thr (nI 0)
  rw [← hA1] at hm
  obtain ⟨hM, hn, hc, hw, hwb, hz⟩ := id hm
  obtain ⟨c0, ⟨c1, c2, c3, c4, c5⟩, cb, ⟨c16, cr⟩, ⟨c35, ce⟩, ⟨c456, ca⟩, c517, cp⟩ := id hc
  obtain ⟨w1, w2, w3, w4, w5⟩ := id hw
  refine g_aload_n X rfl rfl ?_
  refine g_aload_n X rfl rfl ?_
  refine g_iload_n X rfl rfl ?_
  refine g_rV X rfl lcX8_isEntry lmX8_210 lsX8_isEntry (cr_X8_isEntry l D cy B od hm) (ci := 8) (by (repeat (first | exact hM | exact upA_eq | refine (upA_ne (by omega)).trans ?_))) rfl rfl rfl (Nat.le_of_ble_eq_true rfl) ⟨⟨by decide, by decide⟩, rfl, rfl⟩ ⟨Nat.le_of_ble_eq_true rfl, Nat.le_of_ble_eq_true rfl⟩ ?_
  refine g_iconst X rfl (v := nI 1) (by decide) ?_
  refine g_mV X rfl lcX8_fails lmX8_52 lsX8_fails (cm_X8_failsB l D cy B od (by (repeat (first | exact hM | exact upA_eq | refine (upA_ne (by omega)).trans ?_)))) (ci := 8) (by (repeat (first | exact hM | exact upA_eq | refine (upA_ne (by omega)).trans ?_))) rfl rfl rfl (Nat.le_of_ble_eq_true rfl) ⟨⟨by decide, by decide⟩, rfl, rfl⟩ ⟨Nat.le_of_ble_eq_true rfl, Nat.le_of_ble_eq_true rfl⟩ (fun v1 A1 q1 => ?_)
  rcases q1 with ⟨h1, rfl, rfl⟩ | ⟨h1, rfl, rfl⟩
  · obtain ⟨i9, hi9, e9⟩ := ix_of (by simpa using h1) (by omega)
    subst e9
    have hcl := nI_clamp (n := i9) (by omega)
    refine g_if_eq X rfl (fun _ => ?_) (fun h => absurd nI_0 h) 
    refine g_aload_n X rfl rfl ?_
    refine g_iload_n X rfl rfl ?_
    refine g_rV X rfl lcX8_deductedOf lmX8_291 lsX8_deductedOf (cr_X8_deductedOf l D cy B od hm hg (by omega)) (ci := 8) (by (repeat (first | exact hM | exact upA_eq | refine (upA_ne (by omega)).trans ?_))) rfl rfl rfl (Nat.le_of_ble_eq_true rfl) ⟨⟨by decide, by decide⟩, rfl, rfl⟩ ⟨Nat.le_of_ble_eq_true rfl, Nat.le_of_ble_eq_true rfl⟩ ?_
    refine g_l2i X rfl ?_
    refine g_iret X rfl rfl (by first | rfl | exact bI_nar _ | decide) (Nat.le_of_ble_eq_true rfl) (Nat.le_of_ble_eq_true rfl) ⟨rfl, ?_⟩
    exact mR0 (by first | (simp_all [ocDed, dOf_i, nI_eq, vS, vZ, V9]; done) | (simp_all [ocDed, dOf_i, nI_eq, vS, vZ, V9, nI_0, n10]; done) | (simp_all [ocDed, dOf_i, nI_eq, vS, vZ, V9, nI_0, n10, ← Int32.not_le]; done) | (simp_all [ocDed, dOf_i, nI_eq, vS, vZ, V9, ← Int64.not_le]; done) | (simp_all [ocDed, dOf_i, nI_eq, vS, vZ, V9, nI_0, n10, ← Int64.not_le, ← Int32.not_le]; done)) hA1
  · refine g_if_eq X rfl (fun h => absurd h n10) (fun _ => ?_)
    refine g_iconst X rfl (v := nI 0) (by decide) ?_
    refine g_goto X rfl ?_
    refine g_iret X rfl rfl (by first | rfl | exact bI_nar _ | decide) (Nat.le_of_ble_eq_true rfl) (Nat.le_of_ble_eq_true rfl) ⟨rfl, ?_⟩
    exact mRx (E := eIOB) (by first | (simp_all [ocDed, dOf_i, nI_eq, vS, vZ, V9]; done) | (simp_all [ocDed, dOf_i, nI_eq, vS, vZ, V9, nI_0, n10]; done) | (simp_all [ocDed, dOf_i, nI_eq, vS, vZ, V9, nI_0, n10, ← Int32.not_le]; done) | (simp_all [ocDed, dOf_i, nI_eq, vS, vZ, V9, ← Int64.not_le]; done) | (simp_all [ocDed, dOf_i, nI_eq, vS, vZ, V9, nI_0, n10, ← Int64.not_le, ← Int32.not_le]; done)) (by decide) hA1
theorem w_out {w : Int32} {n : Nat} (h : within9 w (nI 0) (nI n) = false) (hn : n < 1000) : ∀ k, k ≤ n → ¬ w = nI k := by
  intro k hk q
  subst q
  have : within9 (nI k) (nI 0) (nI n) = true := by
    unfold within9
    rw [Bool.and_eq_true, decide_eq_true_eq, decide_eq_true_eq]
    exact ⟨nI_le (by omega) (by omega), nI_le hk (by omega)⟩
  rw [this] at h
  cases h
set_option maxRecDepth 100000 in
set_option maxHeartbeats 400000 in
theorem cm_X8_entry (l : Launch) (D : va_G) (cy : Nat → ClassId) (B : Nat) (od : Nat → Option Nat) {A : AH} {f : MF} {r : Nat → Int32} {Z : SV} {S : StV} (hm : MdR cy A f r Z S) (hg : Rng Z S) (hgz : RngZ Z) {x w : Int32} : CM l D cy B od yX8_entry cX8_entry 3 (some .int) rmX8_entry [.ref 231, .int x, .int w] A (fun v A' => v = some (mV (.int (nI 0)) (ocEntry (V9 Z S) x w)) ∧ A' = upA A 231 (moE (nI (cX [eIOB, eIAE] (ocEntry (V9 Z S) x w)), f.2))) := by
  intro z
  refine CT.of (by decide) tX8_entry okX8_entry (Nat.le_of_ble_eq_true rfl) (q0 := tX8_entry[0]) rfl rfl ?_
  intro p e s m args below meth c X _
  have hM := hm.1
  refine g_aload_n X rfl rfl ?_
  refine g_iconst X rfl (v := nI 0) (by decide) ?_
  refine g_put X rfl flX8_41 rfl (ci := 8) rfl (by (repeat (first | exact hM | exact upA_eq | refine (upA_ne (by omega)).trans ?_))) (Nat.le_of_ble_eq_true rfl) (by first | rfl | exact bI_nar _) (by first | rfl | decide) ?_
  refine G.cast (A2 := upA A 231 (moE (nI 0, f.2))) rfl ?_
  obtain ⟨A1, hA1⟩ : ∃ A1, A1 = upA A 231 (moE (nI 0, f.2)) := ⟨_, rfl⟩
  refine G.cast (A2 := A1) hA1.symm ?_
  have hm := hm.thr (nI 0)
  rw [← hA1] at hm
  obtain ⟨hM, hn, hc, hw, hwb, hz⟩ := id hm
  obtain ⟨c0, ⟨c1, c2, c3, c4, c5⟩, cb, ⟨c16, cr⟩, ⟨c35, ce⟩, ⟨c456, ca⟩, c517, cp⟩ := id hc
  obtain ⟨w1, w2, w3, w4, w5⟩ := id hw
  refine g_aload_n X rfl rfl ?_
  refine g_aload_n X rfl rfl ?_
  refine g_iload_n X rfl rfl ?_
  refine g_rV X rfl lcX8_isEntry lmX8_210 lsX8_isEntry (cr_X8_isEntry l D cy B od hm) (ci := 8) (by (repeat (first | exact hM | exact upA_eq | refine (upA_ne (by omega)).trans ?_))) rfl rfl rfl (Nat.le_of_ble_eq_true rfl) ⟨⟨by decide, by decide⟩, rfl, rfl⟩ ⟨Nat.le_of_ble_eq_true rfl, Nat.le_of_ble_eq_true rfl⟩ ?_
  refine g_iconst X rfl (v := nI 1) (by decide) ?_
  refine g_mV X rfl lcX8_fails lmX8_52 lsX8_fails (cm_X8_failsB l D cy B od (by (repeat (first | exact hM | exact upA_eq | refine (upA_ne (by omega)).trans ?_)))) (ci := 8) (by (repeat (first | exact hM | exact upA_eq | refine (upA_ne (by omega)).trans ?_))) rfl rfl rfl (Nat.le_of_ble_eq_true rfl) ⟨⟨by decide, by decide⟩, rfl, rfl⟩ ⟨Nat.le_of_ble_eq_true rfl, Nat.le_of_ble_eq_true rfl⟩ (fun v1 A1 q1 => ?_)
  rcases q1 with ⟨h1, rfl, rfl⟩ | ⟨h1, rfl, rfl⟩
  · obtain ⟨i9, hi9, e9⟩ := ix_of (by simpa using h1) (by omega)
    subst e9
    have hcl := nI_clamp (n := i9) (by omega)
    refine g_if_ne X rfl (fun h => absurd nI_0 h) (fun _ => ?_)
    refine g_aload_n X rfl rfl ?_
    refine g_iload_n X rfl rfl ?_
    refine g_i2l X rfl ?_
    refine g_lconst X rfl (v := 0) (by decide) ?_
    refine g_ldc2 X rfl kcX8_344 ?_
    refine g_rS X rfl lcX8_in lmX8_56 stX8_in (cr_X8_in l D cy B od) rfl rfl (Nat.le_of_ble_eq_true rfl) ⟨⟨by decide, by decide⟩, rfl, rfl⟩ ⟨Nat.le_of_ble_eq_true rfl, Nat.le_of_ble_eq_true rfl⟩ ?_
    rw [in64 (lo := nI 0) (hi := nI 6) (by decide) (by decide)]
    refine g_iconst X rfl (v := nI 2) (by decide) ?_
    refine g_mV X rfl lcX8_fails lmX8_52 lsX8_fails (cm_X8_failsB l D cy B od (by (repeat (first | exact hM | exact upA_eq | refine (upA_ne (by omega)).trans ?_)))) (ci := 8) (by (repeat (first | exact hM | exact upA_eq | refine (upA_ne (by omega)).trans ?_))) rfl rfl rfl (Nat.le_of_ble_eq_true rfl) ⟨⟨by decide, by decide⟩, rfl, rfl⟩ ⟨Nat.le_of_ble_eq_true rfl, Nat.le_of_ble_eq_true rfl⟩ (fun v2 A2 q2 => ?_)
    rcases q2 with ⟨h2, rfl, rfl⟩ | ⟨h2, rfl, rfl⟩
    · obtain ⟨w9, hw9, e9⟩ := wi_of h2 (by decide)
      subst e9
      refine g_if_eq X rfl (fun _ => ?_) (fun h => absurd nI_0 h) 
      refine g_aload_n X rfl rfl ?_
      refine g_iload_n X rfl rfl ?_
      refine g_iload_n X rfl rfl ?_
      refine g_rV X rfl lcX8_entryPart lmX8_184 lsX8_entryPart (cr_X8_entryPart l D cy B od hm (by omega) (by omega)) (ci := 8) (by (repeat (first | exact hM | exact upA_eq | refine (upA_ne (by omega)).trans ?_))) rfl rfl rfl (Nat.le_of_ble_eq_true rfl) ⟨⟨by decide, by decide⟩, rfl, rfl⟩ ⟨Nat.le_of_ble_eq_true rfl, Nat.le_of_ble_eq_true rfl⟩ ?_
      refine g_iret X rfl rfl (by first | rfl | exact bI_nar _ | decide) (Nat.le_of_ble_eq_true rfl) (Nat.le_of_ble_eq_true rfl) ⟨rfl, ?_⟩
      have hix : 0 ≤ nI i9 ∧ nI i9 < nI S.1.1 := ⟨nI_pos' (by omega), nI_lt hi9 (by omega)⟩
      have hf5 := flag_N (hwb i9 (by omega)).1
      have hf6 := flag_N (hwb i9 (by omega)).2
      have hc : w9 = 0 ∨ w9 = 1 ∨ w9 = 2 ∨ w9 = 3 ∨ w9 = 4 ∨ w9 = 5 ∨ w9 = 6 := by omega
      rcases hc with rfl | rfl | rfl | rfl | rfl | rfl | rfl <;> first | (exfalso; omega) | exact mR0 (by simp (decide := true) [ocEntry, vS, V9, hix, hcl, hf5, hf6]) hA1
    · refine g_if_eq X rfl (fun h => absurd h n10) (fun _ => ?_)
      refine g_iconst X rfl (v := nI 0) (by decide) ?_
      refine g_iret X rfl rfl (by first | rfl | exact bI_nar _ | decide) (Nat.le_of_ble_eq_true rfl) (Nat.le_of_ble_eq_true rfl) ⟨rfl, ?_⟩
      have hix : 0 ≤ nI i9 ∧ nI i9 < nI S.1.1 := ⟨nI_pos' (by omega), nI_lt hi9 (by omega)⟩
      have hne := w_out h2 (by decide)
      exact mRx (E := eIAE) (by simp [ocEntry, vS, V9, hix, hcl, hne 0 (by decide), hne 1 (by decide), hne 2 (by decide), hne 3 (by decide), hne 4 (by decide), hne 5 (by decide), hne 6 (by decide)]) (by decide) hA1
  · refine g_if_ne X rfl (fun _ => ?_) (fun h => absurd h n10) 
    refine g_iconst X rfl (v := nI 0) (by decide) ?_
    refine g_iret X rfl rfl (by first | rfl | exact bI_nar _ | decide) (Nat.le_of_ble_eq_true rfl) (Nat.le_of_ble_eq_true rfl) ⟨rfl, ?_⟩
    exact mRx (E := eIOB) (by first | (simp_all [ocEntry, nI_eq, vS, vZ, V9]; done) | (simp_all [ocEntry, nI_eq, vS, vZ, V9, nI_0, n10]; done) | (simp_all [ocEntry, nI_eq, vS, vZ, V9, nI_0, n10, ← Int32.not_le]; done) | (simp_all [ocEntry, nI_eq, vS, vZ, V9, ← Int64.not_le]; done) | (simp_all [ocEntry, nI_eq, vS, vZ, V9, nI_0, n10, ← Int64.not_le, ← Int32.not_le]; done)) (by decide) hA1
set_option maxRecDepth 100000 in
set_option maxHeartbeats 400000 in
theorem cm_X8_room (l : Launch) (D : va_G) (cy : Nat → ClassId) (B : Nat) (od : Nat → Option Nat) {A : AH} {f : MF} {r : Nat → Int32} {Z : SV} {S : StV} (hm : MdR cy A f r Z S) (hg : Rng Z S) (hgz : RngZ Z) {x w : Int32} : CM l D cy B od yX8_room cX8_room 3 (some .int) rmX8_room [.ref 231, .int x, .int w] A (fun v A' => v = some (mV (.int (nI 0)) (ocRoom (V9 Z S) x w)) ∧ A' = upA A 231 (moE (nI (cX [eIOB, eIAE] (ocRoom (V9 Z S) x w)), f.2))) := by
  intro z
  refine CT.of (by decide) tX8_room okX8_room (Nat.le_of_ble_eq_true rfl) (q0 := tX8_room[0]) rfl rfl ?_
  intro p e s m args below meth c X _
  have hM := hm.1
  refine g_aload_n X rfl rfl ?_
  refine g_iconst X rfl (v := nI 0) (by decide) ?_
  refine g_put X rfl flX8_41 rfl (ci := 8) rfl (by (repeat (first | exact hM | exact upA_eq | refine (upA_ne (by omega)).trans ?_))) (Nat.le_of_ble_eq_true rfl) (by first | rfl | exact bI_nar _) (by first | rfl | decide) ?_
  refine G.cast (A2 := upA A 231 (moE (nI 0, f.2))) rfl ?_
  obtain ⟨A1, hA1⟩ : ∃ A1, A1 = upA A 231 (moE (nI 0, f.2)) := ⟨_, rfl⟩
  refine G.cast (A2 := A1) hA1.symm ?_
  have hm := hm.thr (nI 0)
  rw [← hA1] at hm
  obtain ⟨hM, hn, hc, hw, hwb, hz⟩ := id hm
  obtain ⟨c0, ⟨c1, c2, c3, c4, c5⟩, cb, ⟨c16, cr⟩, ⟨c35, ce⟩, ⟨c456, ca⟩, c517, cp⟩ := id hc
  obtain ⟨w1, w2, w3, w4, w5⟩ := id hw
  refine g_aload_n X rfl rfl ?_
  refine g_aload_n X rfl rfl ?_
  refine g_iload_n X rfl rfl ?_
  refine g_rV X rfl lcX8_isRoom lmX8_218 lsX8_isRoom (cr_X8_isRoom l D cy B od hm) (ci := 8) (by (repeat (first | exact hM | exact upA_eq | refine (upA_ne (by omega)).trans ?_))) rfl rfl rfl (Nat.le_of_ble_eq_true rfl) ⟨⟨by decide, by decide⟩, rfl, rfl⟩ ⟨Nat.le_of_ble_eq_true rfl, Nat.le_of_ble_eq_true rfl⟩ ?_
  refine g_iconst X rfl (v := nI 1) (by decide) ?_
  refine g_mV X rfl lcX8_fails lmX8_52 lsX8_fails (cm_X8_failsB l D cy B od (by (repeat (first | exact hM | exact upA_eq | refine (upA_ne (by omega)).trans ?_)))) (ci := 8) (by (repeat (first | exact hM | exact upA_eq | refine (upA_ne (by omega)).trans ?_))) rfl rfl rfl (Nat.le_of_ble_eq_true rfl) ⟨⟨by decide, by decide⟩, rfl, rfl⟩ ⟨Nat.le_of_ble_eq_true rfl, Nat.le_of_ble_eq_true rfl⟩ (fun v1 A1 q1 => ?_)
  rcases q1 with ⟨h1, rfl, rfl⟩ | ⟨h1, rfl, rfl⟩
  · obtain ⟨i9, hi9, e9⟩ := ix_of (by simpa using h1) (by omega)
    subst e9
    have hcl := nI_clamp (n := i9) (by omega)
    refine g_if_ne X rfl (fun h => absurd nI_0 h) (fun _ => ?_)
    refine g_aload_n X rfl rfl ?_
    refine g_iload_n X rfl rfl ?_
    refine g_i2l X rfl ?_
    refine g_lconst X rfl (v := 0) (by decide) ?_
    refine g_ldc2 X rfl kcX8_346 ?_
    refine g_rS X rfl lcX8_in lmX8_56 stX8_in (cr_X8_in l D cy B od) rfl rfl (Nat.le_of_ble_eq_true rfl) ⟨⟨by decide, by decide⟩, rfl, rfl⟩ ⟨Nat.le_of_ble_eq_true rfl, Nat.le_of_ble_eq_true rfl⟩ ?_
    rw [in64 (lo := nI 0) (hi := nI 2) (by decide) (by decide)]
    refine g_iconst X rfl (v := nI 2) (by decide) ?_
    refine g_mV X rfl lcX8_fails lmX8_52 lsX8_fails (cm_X8_failsB l D cy B od (by (repeat (first | exact hM | exact upA_eq | refine (upA_ne (by omega)).trans ?_)))) (ci := 8) (by (repeat (first | exact hM | exact upA_eq | refine (upA_ne (by omega)).trans ?_))) rfl rfl rfl (Nat.le_of_ble_eq_true rfl) ⟨⟨by decide, by decide⟩, rfl, rfl⟩ ⟨Nat.le_of_ble_eq_true rfl, Nat.le_of_ble_eq_true rfl⟩ (fun v2 A2 q2 => ?_)
    rcases q2 with ⟨h2, rfl, rfl⟩ | ⟨h2, rfl, rfl⟩
    · obtain ⟨w9, hw9, e9⟩ := wi_of h2 (by decide)
      subst e9
      refine g_if_eq X rfl (fun _ => ?_) (fun h => absurd nI_0 h) 
      refine g_aload_n X rfl rfl ?_
      refine g_iload_n X rfl rfl ?_
      refine g_iload_n X rfl rfl ?_
      refine g_rV X rfl lcX8_roomPart lmX8_251 lsX8_roomPart (cr_X8_roomPart l D cy B od hm (by omega) (by omega)) (ci := 8) (by (repeat (first | exact hM | exact upA_eq | refine (upA_ne (by omega)).trans ?_))) rfl rfl rfl (Nat.le_of_ble_eq_true rfl) ⟨⟨by decide, by decide⟩, rfl, rfl⟩ ⟨Nat.le_of_ble_eq_true rfl, Nat.le_of_ble_eq_true rfl⟩ ?_
      refine g_iret X rfl rfl (by first | rfl | exact bI_nar _ | decide) (Nat.le_of_ble_eq_true rfl) (Nat.le_of_ble_eq_true rfl) ⟨rfl, ?_⟩
      have hix : 0 ≤ nI i9 ∧ nI i9 < nI S.2.1.1 := ⟨nI_pos' (by omega), nI_lt hi9 (by omega)⟩
      have hc : w9 = 0 ∨ w9 = 1 ∨ w9 = 2 := by omega
      rcases hc with rfl | rfl | rfl <;> first | (exfalso; omega) | exact mR0 (by simp (decide := true) [ocRoom, vS, V9, hix, hcl]) hA1
    · refine g_if_eq X rfl (fun h => absurd h n10) (fun _ => ?_)
      refine g_iconst X rfl (v := nI 0) (by decide) ?_
      refine g_iret X rfl rfl (by first | rfl | exact bI_nar _ | decide) (Nat.le_of_ble_eq_true rfl) (Nat.le_of_ble_eq_true rfl) ⟨rfl, ?_⟩
      have hix : 0 ≤ nI i9 ∧ nI i9 < nI S.2.1.1 := ⟨nI_pos' (by omega), nI_lt hi9 (by omega)⟩
      have hne := w_out h2 (by decide)
      exact mRx (E := eIAE) (by simp [ocRoom, vS, V9, hix, hcl, hne 0 (by decide), hne 1 (by decide), hne 2 (by decide)]) (by decide) hA1
  · refine g_if_ne X rfl (fun _ => ?_) (fun h => absurd h n10) 
    refine g_iconst X rfl (v := nI 0) (by decide) ?_
    refine g_iret X rfl rfl (by first | rfl | exact bI_nar _ | decide) (Nat.le_of_ble_eq_true rfl) (Nat.le_of_ble_eq_true rfl) ⟨rfl, ?_⟩
    exact mRx (E := eIOB) (by first | (simp_all [ocRoom, nI_eq, vS, vZ, V9]; done) | (simp_all [ocRoom, nI_eq, vS, vZ, V9, nI_0, n10]; done) | (simp_all [ocRoom, nI_eq, vS, vZ, V9, nI_0, n10, ← Int32.not_le]; done) | (simp_all [ocRoom, nI_eq, vS, vZ, V9, ← Int64.not_le]; done) | (simp_all [ocRoom, nI_eq, vS, vZ, V9, nI_0, n10, ← Int64.not_le, ← Int32.not_le]; done)) (by decide) hA1
set_option maxRecDepth 100000 in
set_option maxHeartbeats 400000 in
theorem cm_X8_asset (l : Launch) (D : va_G) (cy : Nat → ClassId) (B : Nat) (od : Nat → Option Nat) {A : AH} {f : MF} {r : Nat → Int32} {Z : SV} {S : StV} (hm : MdR cy A f r Z S) (hg : Rng Z S) (hgz : RngZ Z) {x w : Int32} : CM l D cy B od yX8_asset cX8_asset 3 (some .int) rmX8_asset [.ref 231, .int x, .int w] A (fun v A' => v = some (mV (.int (nI 0)) (ocAsset (V9 Z S) x w)) ∧ A' = upA A 231 (moE (nI (cX [eIOB, eIAE] (ocAsset (V9 Z S) x w)), f.2))) := by
  intro z
  refine CT.of (by decide) tX8_asset okX8_asset (Nat.le_of_ble_eq_true rfl) (q0 := tX8_asset[0]) rfl rfl ?_
  intro p e s m args below meth c X _
  have hM := hm.1
  refine g_aload_n X rfl rfl ?_
  refine g_iconst X rfl (v := nI 0) (by decide) ?_
  refine g_put X rfl flX8_41 rfl (ci := 8) rfl (by (repeat (first | exact hM | exact upA_eq | refine (upA_ne (by omega)).trans ?_))) (Nat.le_of_ble_eq_true rfl) (by first | rfl | exact bI_nar _) (by first | rfl | decide) ?_
  refine G.cast (A2 := upA A 231 (moE (nI 0, f.2))) rfl ?_
  obtain ⟨A1, hA1⟩ : ∃ A1, A1 = upA A 231 (moE (nI 0, f.2)) := ⟨_, rfl⟩
  refine G.cast (A2 := A1) hA1.symm ?_
  have hm := hm.thr (nI 0)
  rw [← hA1] at hm
  obtain ⟨hM, hn, hc, hw, hwb, hz⟩ := id hm
  obtain ⟨c0, ⟨c1, c2, c3, c4, c5⟩, cb, ⟨c16, cr⟩, ⟨c35, ce⟩, ⟨c456, ca⟩, c517, cp⟩ := id hc
  obtain ⟨w1, w2, w3, w4, w5⟩ := id hw
  refine g_aload_n X rfl rfl ?_
  refine g_aload_n X rfl rfl ?_
  refine g_iload_n X rfl rfl ?_
  refine g_rV X rfl lcX8_isAsset lmX8_232 lsX8_isAsset (cr_X8_isAsset l D cy B od hm) (ci := 8) (by (repeat (first | exact hM | exact upA_eq | refine (upA_ne (by omega)).trans ?_))) rfl rfl rfl (Nat.le_of_ble_eq_true rfl) ⟨⟨by decide, by decide⟩, rfl, rfl⟩ ⟨Nat.le_of_ble_eq_true rfl, Nat.le_of_ble_eq_true rfl⟩ ?_
  refine g_iconst X rfl (v := nI 1) (by decide) ?_
  refine g_mV X rfl lcX8_fails lmX8_52 lsX8_fails (cm_X8_failsB l D cy B od (by (repeat (first | exact hM | exact upA_eq | refine (upA_ne (by omega)).trans ?_)))) (ci := 8) (by (repeat (first | exact hM | exact upA_eq | refine (upA_ne (by omega)).trans ?_))) rfl rfl rfl (Nat.le_of_ble_eq_true rfl) ⟨⟨by decide, by decide⟩, rfl, rfl⟩ ⟨Nat.le_of_ble_eq_true rfl, Nat.le_of_ble_eq_true rfl⟩ (fun v1 A1 q1 => ?_)
  rcases q1 with ⟨h1, rfl, rfl⟩ | ⟨h1, rfl, rfl⟩
  · obtain ⟨i9, hi9, e9⟩ := ix_of (by simpa using h1) (by omega)
    subst e9
    have hcl := nI_clamp (n := i9) (by omega)
    refine g_if_ne X rfl (fun h => absurd nI_0 h) (fun _ => ?_)
    refine g_aload_n X rfl rfl ?_
    refine g_iload_n X rfl rfl ?_
    refine g_i2l X rfl ?_
    refine g_lconst X rfl (v := 0) (by decide) ?_
    refine g_ldc2 X rfl kcX8_354 ?_
    refine g_rS X rfl lcX8_in lmX8_56 stX8_in (cr_X8_in l D cy B od) rfl rfl (Nat.le_of_ble_eq_true rfl) ⟨⟨by decide, by decide⟩, rfl, rfl⟩ ⟨Nat.le_of_ble_eq_true rfl, Nat.le_of_ble_eq_true rfl⟩ ?_
    rw [in64 (lo := nI 0) (hi := nI 5) (by decide) (by decide)]
    refine g_iconst X rfl (v := nI 2) (by decide) ?_
    refine g_mV X rfl lcX8_fails lmX8_52 lsX8_fails (cm_X8_failsB l D cy B od (by (repeat (first | exact hM | exact upA_eq | refine (upA_ne (by omega)).trans ?_)))) (ci := 8) (by (repeat (first | exact hM | exact upA_eq | refine (upA_ne (by omega)).trans ?_))) rfl rfl rfl (Nat.le_of_ble_eq_true rfl) ⟨⟨by decide, by decide⟩, rfl, rfl⟩ ⟨Nat.le_of_ble_eq_true rfl, Nat.le_of_ble_eq_true rfl⟩ (fun v2 A2 q2 => ?_)
    rcases q2 with ⟨h2, rfl, rfl⟩ | ⟨h2, rfl, rfl⟩
    · obtain ⟨w9, hw9, e9⟩ := wi_of h2 (by decide)
      subst e9
      refine g_if_eq X rfl (fun _ => ?_) (fun h => absurd nI_0 h) 
      refine g_iload_n X rfl rfl ?_
      refine g_iconst X rfl (v := nI 3) (by decide) ?_
      first | refine g_ic_neN X rfl (by omega) (by omega) (fun h3 => ?_) (fun h3 => ?_) | refine g_icmp_ne X rfl (fun h3 => ?_) (fun h3 => ?_)
      · refine g_aload_n X rfl rfl ?_
        refine g_iload_n X rfl rfl ?_
        refine g_iload_n X rfl rfl ?_
        refine g_iconst X rfl (v := nI 3) (by decide) ?_
        first | refine g_ic_geN X rfl (by omega) (by omega) (fun h4 => ?_) (fun h4 => ?_) | refine g_icmp_ge X rfl (fun h4 => ?_) (fun h4 => ?_)
        · refine g_iload_n X rfl rfl ?_
          refine g_iconst X rfl (v := nI 1) (by decide) ?_
          refine g_isub X rfl ?_
          first | rw [pk_sub (by omega)] | skip
          refine g_rV X rfl lcX8_assetPart lmX8_229 lsX8_assetPart (cr_X8_assetPart l D cy B od hm (by omega) (by omega) rfl) (ci := 8) (by (repeat (first | exact hM | exact upA_eq | refine (upA_ne (by omega)).trans ?_))) rfl rfl rfl (Nat.le_of_ble_eq_true rfl) ⟨⟨by decide, by decide⟩, rfl, rfl⟩ ⟨Nat.le_of_ble_eq_true rfl, Nat.le_of_ble_eq_true rfl⟩ ?_
          refine g_iret X rfl rfl (by first | rfl | exact bI_nar _ | decide) (Nat.le_of_ble_eq_true rfl) (Nat.le_of_ble_eq_true rfl) ⟨rfl, ?_⟩
          have hix : 0 ≤ nI i9 ∧ nI i9 < nI S.2.2.1.1 := ⟨nI_pos' (by omega), nI_lt hi9 (by omega)⟩
          have hc : w9 = 0 ∨ w9 = 1 ∨ w9 = 2 ∨ w9 = 3 ∨ w9 = 4 ∨ w9 = 5 := by omega
          rcases hc with rfl | rfl | rfl | rfl | rfl | rfl <;> first | (exfalso; omega) | exact mR0 (by simp (decide := true) [ocAsset, vS, V9, hix, hcl]) hA1
        · refine g_iload_n X rfl rfl ?_
          refine g_goto X rfl ?_
          first | rw [pk_sub (by omega)] | skip
          refine g_rV X rfl lcX8_assetPart lmX8_229 lsX8_assetPart (cr_X8_assetPart l D cy B od hm (by omega) (by omega) rfl) (ci := 8) (by (repeat (first | exact hM | exact upA_eq | refine (upA_ne (by omega)).trans ?_))) rfl rfl rfl (Nat.le_of_ble_eq_true rfl) ⟨⟨by decide, by decide⟩, rfl, rfl⟩ ⟨Nat.le_of_ble_eq_true rfl, Nat.le_of_ble_eq_true rfl⟩ ?_
          refine g_iret X rfl rfl (by first | rfl | exact bI_nar _ | decide) (Nat.le_of_ble_eq_true rfl) (Nat.le_of_ble_eq_true rfl) ⟨rfl, ?_⟩
          have hix : 0 ≤ nI i9 ∧ nI i9 < nI S.2.2.1.1 := ⟨nI_pos' (by omega), nI_lt hi9 (by omega)⟩
          have hc : w9 = 0 ∨ w9 = 1 ∨ w9 = 2 ∨ w9 = 3 ∨ w9 = 4 ∨ w9 = 5 := by omega
          rcases hc with rfl | rfl | rfl | rfl | rfl | rfl <;> first | (exfalso; omega) | exact mR0 (by simp (decide := true) [ocAsset, vS, V9, hix, hcl]) hA1
      · refine g_aload_n X rfl rfl ?_
        refine g_iload_n X rfl rfl ?_
        refine g_rV X rfl lcX8_sortOf lmX8_272 lsX8_sortOf (cr_X8_sortOf l D cy B od hm hg (by omega)) (ci := 8) (by (repeat (first | exact hM | exact upA_eq | refine (upA_ne (by omega)).trans ?_))) rfl rfl rfl (Nat.le_of_ble_eq_true rfl) ⟨⟨by decide, by decide⟩, rfl, rfl⟩ ⟨Nat.le_of_ble_eq_true rfl, Nat.le_of_ble_eq_true rfl⟩ ?_
        refine g_iret X rfl rfl (by first | rfl | exact bI_nar _ | decide) (Nat.le_of_ble_eq_true rfl) (Nat.le_of_ble_eq_true rfl) ⟨rfl, ?_⟩
        have hix : 0 ≤ nI i9 ∧ nI i9 < nI S.2.2.1.1 := ⟨nI_pos' (by omega), nI_lt hi9 (by omega)⟩
        have hc : w9 = 0 ∨ w9 = 1 ∨ w9 = 2 ∨ w9 = 3 ∨ w9 = 4 ∨ w9 = 5 := by omega
        rcases hc with rfl | rfl | rfl | rfl | rfl | rfl <;> first | (exfalso; omega) | exact mR0 (by simp (decide := true) [ocAsset, vS, V9, hix, hcl]) hA1
    · refine g_if_eq X rfl (fun h => absurd h n10) (fun _ => ?_)
      refine g_iconst X rfl (v := nI 0) (by decide) ?_
      refine g_iret X rfl rfl (by first | rfl | exact bI_nar _ | decide) (Nat.le_of_ble_eq_true rfl) (Nat.le_of_ble_eq_true rfl) ⟨rfl, ?_⟩
      have hix : 0 ≤ nI i9 ∧ nI i9 < nI S.2.2.1.1 := ⟨nI_pos' (by omega), nI_lt hi9 (by omega)⟩
      have hne := w_out h2 (by decide)
      exact mRx (E := eIAE) (by simp [ocAsset, vS, V9, hix, hcl, hne 0 (by decide), hne 1 (by decide), hne 2 (by decide), hne 3 (by decide), hne 4 (by decide), hne 5 (by decide)]) (by decide) hA1
  · refine g_if_ne X rfl (fun _ => ?_) (fun h => absurd h n10) 
    refine g_iconst X rfl (v := nI 0) (by decide) ?_
    refine g_iret X rfl rfl (by first | rfl | exact bI_nar _ | decide) (Nat.le_of_ble_eq_true rfl) (Nat.le_of_ble_eq_true rfl) ⟨rfl, ?_⟩
    exact mRx (E := eIOB) (by first | (simp_all [ocAsset, nI_eq, vS, vZ, V9]; done) | (simp_all [ocAsset, nI_eq, vS, vZ, V9, nI_0, n10]; done) | (simp_all [ocAsset, nI_eq, vS, vZ, V9, nI_0, n10, ← Int32.not_le]; done) | (simp_all [ocAsset, nI_eq, vS, vZ, V9, ← Int64.not_le]; done) | (simp_all [ocAsset, nI_eq, vS, vZ, V9, nI_0, n10, ← Int64.not_le, ← Int32.not_le]; done)) (by decide) hA1
set_option maxRecDepth 100000 in
set_option maxHeartbeats 400000 in
theorem cm_X8_written (l : Launch) (D : va_G) (cy : Nat → ClassId) (B : Nat) (od : Nat → Option Nat) {A : AH} {f : MF} {r : Nat → Int32} {Z : SV} {S : StV} (hm : MdR cy A f r Z S) (hg : Rng Z S) (hgz : RngZ Z) {x w : Int32} : CM l D cy B od yX8_written cX8_written 3 (some .int) rmX8_written [.ref 231, .int x, .int w] A (fun v A' => v = some (mV (.int (nI 0)) (ocWri (V9 Z S) x w)) ∧ A' = upA A 231 (moE (nI (cX [eIOB, eIAE] (ocWri (V9 Z S) x w)), f.2))) := by
  intro z
  refine CT.of (by decide) tX8_written okX8_written (Nat.le_of_ble_eq_true rfl) (q0 := tX8_written[0]) rfl rfl ?_
  intro p e s m args below meth c X _
  have hM := hm.1
  refine g_aload_n X rfl rfl ?_
  refine g_iconst X rfl (v := nI 0) (by decide) ?_
  refine g_put X rfl flX8_41 rfl (ci := 8) rfl (by (repeat (first | exact hM | exact upA_eq | refine (upA_ne (by omega)).trans ?_))) (Nat.le_of_ble_eq_true rfl) (by first | rfl | exact bI_nar _) (by first | rfl | decide) ?_
  refine G.cast (A2 := upA A 231 (moE (nI 0, f.2))) rfl ?_
  obtain ⟨A1, hA1⟩ : ∃ A1, A1 = upA A 231 (moE (nI 0, f.2)) := ⟨_, rfl⟩
  refine G.cast (A2 := A1) hA1.symm ?_
  have hm := hm.thr (nI 0)
  rw [← hA1] at hm
  obtain ⟨hM, hn, hc, hw, hwb, hz⟩ := id hm
  obtain ⟨c0, ⟨c1, c2, c3, c4, c5⟩, cb, ⟨c16, cr⟩, ⟨c35, ce⟩, ⟨c456, ca⟩, c517, cp⟩ := id hc
  obtain ⟨w1, w2, w3, w4, w5⟩ := id hw
  refine g_aload_n X rfl rfl ?_
  refine g_aload_n X rfl rfl ?_
  refine g_iload_n X rfl rfl ?_
  refine g_rV X rfl lcX8_isAsset lmX8_232 lsX8_isAsset (cr_X8_isAsset l D cy B od hm) (ci := 8) (by (repeat (first | exact hM | exact upA_eq | refine (upA_ne (by omega)).trans ?_))) rfl rfl rfl (Nat.le_of_ble_eq_true rfl) ⟨⟨by decide, by decide⟩, rfl, rfl⟩ ⟨Nat.le_of_ble_eq_true rfl, Nat.le_of_ble_eq_true rfl⟩ ?_
  refine g_iconst X rfl (v := nI 1) (by decide) ?_
  refine g_mV X rfl lcX8_fails lmX8_52 lsX8_fails (cm_X8_failsB l D cy B od (by (repeat (first | exact hM | exact upA_eq | refine (upA_ne (by omega)).trans ?_)))) (ci := 8) (by (repeat (first | exact hM | exact upA_eq | refine (upA_ne (by omega)).trans ?_))) rfl rfl rfl (Nat.le_of_ble_eq_true rfl) ⟨⟨by decide, by decide⟩, rfl, rfl⟩ ⟨Nat.le_of_ble_eq_true rfl, Nat.le_of_ble_eq_true rfl⟩ (fun v1 A1 q1 => ?_)
  rcases q1 with ⟨h1, rfl, rfl⟩ | ⟨h1, rfl, rfl⟩
  · obtain ⟨i9, hi9, e9⟩ := ix_of (by simpa using h1) (by omega)
    subst e9
    have hcl := nI_clamp (n := i9) (by omega)
    refine g_if_ne X rfl (fun h => absurd nI_0 h) (fun _ => ?_)
    refine g_aload_n X rfl rfl ?_
    refine g_iload_n X rfl rfl ?_
    refine g_rS X rfl lcX8_isMonth lmX8_348 stX8_isMonth (cr_X8_isMonth l D cy B od) rfl rfl (Nat.le_of_ble_eq_true rfl) ⟨⟨by decide, by decide⟩, rfl, rfl⟩ ⟨Nat.le_of_ble_eq_true rfl, Nat.le_of_ble_eq_true rfl⟩ ?_
    refine g_iconst X rfl (v := nI 2) (by decide) ?_
    refine g_mV X rfl lcX8_fails lmX8_52 lsX8_fails (cm_X8_failsB l D cy B od (by (repeat (first | exact hM | exact upA_eq | refine (upA_ne (by omega)).trans ?_)))) (ci := 8) (by (repeat (first | exact hM | exact upA_eq | refine (upA_ne (by omega)).trans ?_))) rfl rfl rfl (Nat.le_of_ble_eq_true rfl) ⟨⟨by decide, by decide⟩, rfl, rfl⟩ ⟨Nat.le_of_ble_eq_true rfl, Nat.le_of_ble_eq_true rfl⟩ (fun v2 A2 q2 => ?_)
    rcases q2 with ⟨h2, rfl, rfl⟩ | ⟨h2, rfl, rfl⟩
    · obtain ⟨w9, hw9, e9⟩ := wi_of h2 (by decide)
      subst e9
      refine g_if_eq X rfl (fun _ => ?_) (fun h => absurd nI_0 h) 
      refine g_aload_n X rfl rfl ?_
      refine g_iload_n X rfl rfl ?_
      refine g_iload_n X rfl rfl ?_
      refine g_rV X rfl lcX8_writtenIn lmX8_294 lsX8_writtenIn (cr_X8_writtenIn l D cy B od hm hg (by omega) (by omega)) (ci := 8) (by (repeat (first | exact hM | exact upA_eq | refine (upA_ne (by omega)).trans ?_))) rfl rfl rfl (Nat.le_of_ble_eq_true rfl) ⟨⟨by decide, by decide⟩, rfl, rfl⟩ ⟨Nat.le_of_ble_eq_true rfl, Nat.le_of_ble_eq_true rfl⟩ ?_
      refine g_iret X rfl rfl (by first | rfl | exact bI_nar _ | decide) (Nat.le_of_ble_eq_true rfl) (Nat.le_of_ble_eq_true rfl) ⟨rfl, ?_⟩
      exact mR0 (by first | (simp_all [ocWri, nI_eq, vS, vZ, V9]; done) | (simp_all [ocWri, nI_eq, vS, vZ, V9, nI_0, n10]; done) | (simp_all [ocWri, nI_eq, vS, vZ, V9, nI_0, n10, ← Int32.not_le]; done) | (simp_all [ocWri, nI_eq, vS, vZ, V9, ← Int64.not_le]; done) | (simp_all [ocWri, nI_eq, vS, vZ, V9, nI_0, n10, ← Int64.not_le, ← Int32.not_le]; done)) hA1
    · refine g_if_eq X rfl (fun h => absurd h n10) (fun _ => ?_)
      refine g_iconst X rfl (v := nI 0) (by decide) ?_
      refine g_iret X rfl rfl (by first | rfl | exact bI_nar _ | decide) (Nat.le_of_ble_eq_true rfl) (Nat.le_of_ble_eq_true rfl) ⟨rfl, ?_⟩
      exact mRx (E := eIAE) (by first | (simp_all [ocWri, nI_eq, vS, vZ, V9]; done) | (simp_all [ocWri, nI_eq, vS, vZ, V9, nI_0, n10]; done) | (simp_all [ocWri, nI_eq, vS, vZ, V9, nI_0, n10, ← Int32.not_le]; done) | (simp_all [ocWri, nI_eq, vS, vZ, V9, ← Int64.not_le]; done) | (simp_all [ocWri, nI_eq, vS, vZ, V9, nI_0, n10, ← Int64.not_le, ← Int32.not_le]; done)) (by decide) hA1
  · refine g_if_ne X rfl (fun _ => ?_) (fun h => absurd h n10) 
    refine g_iconst X rfl (v := nI 0) (by decide) ?_
    refine g_iret X rfl rfl (by first | rfl | exact bI_nar _ | decide) (Nat.le_of_ble_eq_true rfl) (Nat.le_of_ble_eq_true rfl) ⟨rfl, ?_⟩
    exact mRx (E := eIOB) (by first | (simp_all [ocWri, nI_eq, vS, vZ, V9]; done) | (simp_all [ocWri, nI_eq, vS, vZ, V9, nI_0, n10]; done) | (simp_all [ocWri, nI_eq, vS, vZ, V9, nI_0, n10, ← Int32.not_le]; done) | (simp_all [ocWri, nI_eq, vS, vZ, V9, ← Int64.not_le]; done) | (simp_all [ocWri, nI_eq, vS, vZ, V9, nI_0, n10, ← Int64.not_le, ← Int32.not_le]; done)) (by decide) hA1
set_option maxRecDepth 100000 in
set_option maxHeartbeats 400000 in
theorem cm_X8_bookValue (l : Launch) (D : va_G) (cy : Nat → ClassId) (B : Nat) (od : Nat → Option Nat) {A : AH} {f : MF} {r : Nat → Int32} {Z : SV} {S : StV} (hm : MdR cy A f r Z S) (hg : Rng Z S) (hgz : RngZ Z) {x w : Int32} : CM l D cy B od yX8_bookValue cX8_bookValue 3 (some .int) rmX8_bookValue [.ref 231, .int x, .int w] A (fun v A' => v = some (mV (.int (nI 0)) (ocBook (V9 Z S) x w)) ∧ A' = upA A 231 (moE (nI (cX [eIOB, eIAE] (ocBook (V9 Z S) x w)), f.2))) := by
  intro z
  refine CT.of (by decide) tX8_bookValue okX8_bookValue (Nat.le_of_ble_eq_true rfl) (q0 := tX8_bookValue[0]) rfl rfl ?_
  intro p e s m args below meth c X _
  have hM := hm.1
  refine g_aload_n X rfl rfl ?_
  refine g_iconst X rfl (v := nI 0) (by decide) ?_
  refine g_put X rfl flX8_41 rfl (ci := 8) rfl (by (repeat (first | exact hM | exact upA_eq | refine (upA_ne (by omega)).trans ?_))) (Nat.le_of_ble_eq_true rfl) (by first | rfl | exact bI_nar _) (by first | rfl | decide) ?_
  refine G.cast (A2 := upA A 231 (moE (nI 0, f.2))) rfl ?_
  obtain ⟨A1, hA1⟩ : ∃ A1, A1 = upA A 231 (moE (nI 0, f.2)) := ⟨_, rfl⟩
  refine G.cast (A2 := A1) hA1.symm ?_
  have hm := hm.thr (nI 0)
  rw [← hA1] at hm
  obtain ⟨hM, hn, hc, hw, hwb, hz⟩ := id hm
  obtain ⟨c0, ⟨c1, c2, c3, c4, c5⟩, cb, ⟨c16, cr⟩, ⟨c35, ce⟩, ⟨c456, ca⟩, c517, cp⟩ := id hc
  obtain ⟨w1, w2, w3, w4, w5⟩ := id hw
  refine g_aload_n X rfl rfl ?_
  refine g_aload_n X rfl rfl ?_
  refine g_iload_n X rfl rfl ?_
  refine g_rV X rfl lcX8_isAsset lmX8_232 lsX8_isAsset (cr_X8_isAsset l D cy B od hm) (ci := 8) (by (repeat (first | exact hM | exact upA_eq | refine (upA_ne (by omega)).trans ?_))) rfl rfl rfl (Nat.le_of_ble_eq_true rfl) ⟨⟨by decide, by decide⟩, rfl, rfl⟩ ⟨Nat.le_of_ble_eq_true rfl, Nat.le_of_ble_eq_true rfl⟩ ?_
  refine g_iconst X rfl (v := nI 1) (by decide) ?_
  refine g_mV X rfl lcX8_fails lmX8_52 lsX8_fails (cm_X8_failsB l D cy B od (by (repeat (first | exact hM | exact upA_eq | refine (upA_ne (by omega)).trans ?_)))) (ci := 8) (by (repeat (first | exact hM | exact upA_eq | refine (upA_ne (by omega)).trans ?_))) rfl rfl rfl (Nat.le_of_ble_eq_true rfl) ⟨⟨by decide, by decide⟩, rfl, rfl⟩ ⟨Nat.le_of_ble_eq_true rfl, Nat.le_of_ble_eq_true rfl⟩ (fun v1 A1 q1 => ?_)
  rcases q1 with ⟨h1, rfl, rfl⟩ | ⟨h1, rfl, rfl⟩
  · obtain ⟨i9, hi9, e9⟩ := ix_of (by simpa using h1) (by omega)
    subst e9
    have hcl := nI_clamp (n := i9) (by omega)
    refine g_if_ne X rfl (fun h => absurd nI_0 h) (fun _ => ?_)
    refine g_aload_n X rfl rfl ?_
    refine g_iload_n X rfl rfl ?_
    refine g_rS X rfl lcX8_isMonth lmX8_348 stX8_isMonth (cr_X8_isMonth l D cy B od) rfl rfl (Nat.le_of_ble_eq_true rfl) ⟨⟨by decide, by decide⟩, rfl, rfl⟩ ⟨Nat.le_of_ble_eq_true rfl, Nat.le_of_ble_eq_true rfl⟩ ?_
    refine g_iconst X rfl (v := nI 2) (by decide) ?_
    refine g_mV X rfl lcX8_fails lmX8_52 lsX8_fails (cm_X8_failsB l D cy B od (by (repeat (first | exact hM | exact upA_eq | refine (upA_ne (by omega)).trans ?_)))) (ci := 8) (by (repeat (first | exact hM | exact upA_eq | refine (upA_ne (by omega)).trans ?_))) rfl rfl rfl (Nat.le_of_ble_eq_true rfl) ⟨⟨by decide, by decide⟩, rfl, rfl⟩ ⟨Nat.le_of_ble_eq_true rfl, Nat.le_of_ble_eq_true rfl⟩ (fun v2 A2 q2 => ?_)
    rcases q2 with ⟨h2, rfl, rfl⟩ | ⟨h2, rfl, rfl⟩
    · obtain ⟨w9, hw9, e9⟩ := wi_of h2 (by decide)
      subst e9
      refine g_if_eq X rfl (fun _ => ?_) (fun h => absurd nI_0 h) 
      refine g_aload_n X rfl rfl ?_
      refine g_iload_n X rfl rfl ?_
      refine g_iload_n X rfl rfl ?_
      refine g_rV X rfl lcX8_valueOf lmX8_238 lsX8_valueOf (cr_X8_valueOf l D cy B od hm hg (by omega) (by omega)) (ci := 8) (by (repeat (first | exact hM | exact upA_eq | refine (upA_ne (by omega)).trans ?_))) rfl rfl rfl (Nat.le_of_ble_eq_true rfl) ⟨⟨by decide, by decide⟩, rfl, rfl⟩ ⟨Nat.le_of_ble_eq_true rfl, Nat.le_of_ble_eq_true rfl⟩ ?_
      refine g_iret X rfl rfl (by first | rfl | exact bI_nar _ | decide) (Nat.le_of_ble_eq_true rfl) (Nat.le_of_ble_eq_true rfl) ⟨rfl, ?_⟩
      exact mR0 (by first | (simp_all [ocBook, nI_eq, vS, vZ, V9]; done) | (simp_all [ocBook, nI_eq, vS, vZ, V9, nI_0, n10]; done) | (simp_all [ocBook, nI_eq, vS, vZ, V9, nI_0, n10, ← Int32.not_le]; done) | (simp_all [ocBook, nI_eq, vS, vZ, V9, ← Int64.not_le]; done) | (simp_all [ocBook, nI_eq, vS, vZ, V9, nI_0, n10, ← Int64.not_le, ← Int32.not_le]; done)) hA1
    · refine g_if_eq X rfl (fun h => absurd h n10) (fun _ => ?_)
      refine g_iconst X rfl (v := nI 0) (by decide) ?_
      refine g_iret X rfl rfl (by first | rfl | exact bI_nar _ | decide) (Nat.le_of_ble_eq_true rfl) (Nat.le_of_ble_eq_true rfl) ⟨rfl, ?_⟩
      exact mRx (E := eIAE) (by first | (simp_all [ocBook, nI_eq, vS, vZ, V9]; done) | (simp_all [ocBook, nI_eq, vS, vZ, V9, nI_0, n10]; done) | (simp_all [ocBook, nI_eq, vS, vZ, V9, nI_0, n10, ← Int32.not_le]; done) | (simp_all [ocBook, nI_eq, vS, vZ, V9, ← Int64.not_le]; done) | (simp_all [ocBook, nI_eq, vS, vZ, V9, nI_0, n10, ← Int64.not_le, ← Int32.not_le]; done)) (by decide) hA1
  · refine g_if_ne X rfl (fun _ => ?_) (fun h => absurd h n10) 
    refine g_iconst X rfl (v := nI 0) (by decide) ?_
    refine g_iret X rfl rfl (by first | rfl | exact bI_nar _ | decide) (Nat.le_of_ble_eq_true rfl) (Nat.le_of_ble_eq_true rfl) ⟨rfl, ?_⟩
    exact mRx (E := eIOB) (by first | (simp_all [ocBook, nI_eq, vS, vZ, V9]; done) | (simp_all [ocBook, nI_eq, vS, vZ, V9, nI_0, n10]; done) | (simp_all [ocBook, nI_eq, vS, vZ, V9, nI_0, n10, ← Int32.not_le]; done) | (simp_all [ocBook, nI_eq, vS, vZ, V9, ← Int64.not_le]; done) | (simp_all [ocBook, nI_eq, vS, vZ, V9, nI_0, n10, ← Int64.not_le, ← Int32.not_le]; done)) (by decide) hA1
set_option maxRecDepth 100000 in
set_option maxHeartbeats 400000 in
theorem cm_X8_tax (l : Launch) (D : va_G) (cy : Nat → ClassId) (B : Nat) (od : Nat → Option Nat) {A : AH} {f : MF} {r : Nat → Int32} {Z : SV} {S : StV} (hm : MdR cy A f r Z S) (hg : Rng Z S) (hgz : RngZ Z) {am : Int32} : CM l D cy B od yX8_tax cX8_tax 2 (some .long) rmX8_tax [.ref 231, .int am] A (fun v A' => v = some (mV (.long 0) (.inr (.long (sTax Z am.toInt64)) : OC)) ∧ A' = upA A 231 (moE (nI (cX [] (.inr (.long (sTax Z am.toInt64)) : OC)), f.2))) := by
  intro z
  refine CT.of (by decide) tX8_tax okX8_tax (Nat.le_of_ble_eq_true rfl) (q0 := tX8_tax[0]) rfl rfl ?_
  intro p e s m args below meth c X _
  have hM := hm.1
  refine g_aload_n X rfl rfl ?_
  refine g_iconst X rfl (v := nI 0) (by decide) ?_
  refine g_put X rfl flX8_41 rfl (ci := 8) rfl (by (repeat (first | exact hM | exact upA_eq | refine (upA_ne (by omega)).trans ?_))) (Nat.le_of_ble_eq_true rfl) (by first | rfl | exact bI_nar _) (by first | rfl | decide) ?_
  refine G.cast (A2 := upA A 231 (moE (nI 0, f.2))) rfl ?_
  obtain ⟨A1, hA1⟩ : ∃ A1, A1 = upA A 231 (moE (nI 0, f.2)) := ⟨_, rfl⟩
  refine G.cast (A2 := A1) hA1.symm ?_
  have hm := hm.thr (nI 0)
  rw [← hA1] at hm
  obtain ⟨hM, hn, hc, hw, hwb, hz⟩ := id hm
  obtain ⟨c0, ⟨c1, c2, c3, c4, c5⟩, cb, ⟨c16, cr⟩, ⟨c35, ce⟩, ⟨c456, ca⟩, c517, cp⟩ := id hc
  obtain ⟨w1, w2, w3, w4, w5⟩ := id hw
  refine g_aload_n X rfl rfl ?_
  refine g_iload_n X rfl rfl ?_
  refine g_i2l X rfl ?_
  refine g_rV X rfl lcX8_taxOf lmX8_326 lsX8_taxOf (cr_X8_taxOf l D cy B od hm hg hgz (by rw [Int32.toInt_toInt64]; have := Int32.le_toInt am; omega)) (ci := 8) (by (repeat (first | exact hM | exact upA_eq | refine (upA_ne (by omega)).trans ?_))) rfl rfl rfl (Nat.le_of_ble_eq_true rfl) ⟨⟨by decide, by decide⟩, rfl, rfl⟩ ⟨Nat.le_of_ble_eq_true rfl, Nat.le_of_ble_eq_true rfl⟩ ?_
  refine g_lret X rfl rfl (Nat.le_of_ble_eq_true rfl) (Nat.le_of_ble_eq_true rfl) ⟨rfl, ?_⟩
  exact mR0 rfl hA1
set_option maxRecDepth 100000 in
set_option maxHeartbeats 400000 in
theorem cm_X8_yearTax (l : Launch) (D : va_G) (cy : Nat → ClassId) (B : Nat) (od : Nat → Option Nat) {A : AH} {f : MF} {r : Nat → Int32} {Z : SV} {S : StV} (hm : MdR cy A f r Z S) (hg : Rng Z S) (hgz : RngZ Z)  : CM l D cy B od yX8_yearTax cX8_yearTax 1 (some .long) rmX8_yearTax [.ref 231] A (fun v A' => v = some (mV (.long 0) (.inr (.long (sTax Z (sProf S (nI 3)))) : OC)) ∧ A' = upA A 231 (moE (nI (cX [] (.inr (.long (sTax Z (sProf S (nI 3)))) : OC)), f.2))) := by
  intro z
  refine CT.of (by decide) tX8_yearTax okX8_yearTax (Nat.le_of_ble_eq_true rfl) (q0 := tX8_yearTax[0]) rfl rfl ?_
  intro p e s m args below meth c X _
  have hM := hm.1
  refine g_aload_n X rfl rfl ?_
  refine g_iconst X rfl (v := nI 0) (by decide) ?_
  refine g_put X rfl flX8_41 rfl (ci := 8) rfl (by (repeat (first | exact hM | exact upA_eq | refine (upA_ne (by omega)).trans ?_))) (Nat.le_of_ble_eq_true rfl) (by first | rfl | exact bI_nar _) (by first | rfl | decide) ?_
  refine G.cast (A2 := upA A 231 (moE (nI 0, f.2))) rfl ?_
  obtain ⟨A1, hA1⟩ : ∃ A1, A1 = upA A 231 (moE (nI 0, f.2)) := ⟨_, rfl⟩
  refine G.cast (A2 := A1) hA1.symm ?_
  have hm := hm.thr (nI 0)
  rw [← hA1] at hm
  obtain ⟨hM, hn, hc, hw, hwb, hz⟩ := id hm
  obtain ⟨c0, ⟨c1, c2, c3, c4, c5⟩, cb, ⟨c16, cr⟩, ⟨c35, ce⟩, ⟨c456, ca⟩, c517, cp⟩ := id hc
  obtain ⟨w1, w2, w3, w4, w5⟩ := id hw
  refine g_aload_n X rfl rfl ?_
  refine g_aload_n X rfl rfl ?_
  refine g_rV X rfl lcX8_yearProfit lmX8_359 lsX8_yearProfit (cr_X8_yearProfit l D cy B od hm hg) (ci := 8) (by (repeat (first | exact hM | exact upA_eq | refine (upA_ne (by omega)).trans ?_))) rfl rfl rfl (Nat.le_of_ble_eq_true rfl) ⟨⟨by decide, by decide⟩, rfl, rfl⟩ ⟨Nat.le_of_ble_eq_true rfl, Nat.le_of_ble_eq_true rfl⟩ ?_
  obtain ⟨pa, pc9, hpa, hpc, hpf⟩ := sProf_N hg hw (q := 3) (by decide)
  have hbd := pf_bd hpa hpc
  refine g_rV X rfl lcX8_taxOf lmX8_326 lsX8_taxOf (cr_X8_taxOf l D cy B od hm hg hgz (by rw [hpf]; omega)) (ci := 8) (by (repeat (first | exact hM | exact upA_eq | refine (upA_ne (by omega)).trans ?_))) rfl rfl rfl (Nat.le_of_ble_eq_true rfl) ⟨⟨by decide, by decide⟩, rfl, rfl⟩ ⟨Nat.le_of_ble_eq_true rfl, Nat.le_of_ble_eq_true rfl⟩ ?_
  refine g_lret X rfl rfl (Nat.le_of_ble_eq_true rfl) (Nat.le_of_ble_eq_true rfl) ⟨rfl, ?_⟩
  exact mR0 rfl hA1
set_option maxRecDepth 100000 in
set_option maxHeartbeats 400000 in
theorem cm_X8_settlement (l : Launch) (D : va_G) (cy : Nat → ClassId) (B : Nat) (od : Nat → Option Nat) {A : AH} {f : MF} {r : Nat → Int32} {Z : SV} {S : StV} (hm : MdR cy A f r Z S) (hg : Rng Z S) (hgz : RngZ Z)  : CM l D cy B od yX8_settlement cX8_settlement 1 (some .long) rmX8_settlement [.ref 231] A (fun v A' => v = some (mV (.long 0) (ocSett (V9 Z S))) ∧ A' = upA A 231 (moE (nI (cX [eISE] (ocSett (V9 Z S))), f.2))) := by
  intro z
  refine CT.of (by decide) tX8_settlement okX8_settlement (Nat.le_of_ble_eq_true rfl) (q0 := tX8_settlement[0]) rfl rfl ?_
  intro p e s m args below meth c X _
  have hM := hm.1
  refine g_aload_n X rfl rfl ?_
  refine g_iconst X rfl (v := nI 0) (by decide) ?_
  refine g_put X rfl flX8_41 rfl (ci := 8) rfl (by (repeat (first | exact hM | exact upA_eq | refine (upA_ne (by omega)).trans ?_))) (Nat.le_of_ble_eq_true rfl) (by first | rfl | exact bI_nar _) (by first | rfl | decide) ?_
  refine G.cast (A2 := upA A 231 (moE (nI 0, f.2))) rfl ?_
  obtain ⟨A1, hA1⟩ : ∃ A1, A1 = upA A 231 (moE (nI 0, f.2)) := ⟨_, rfl⟩
  refine G.cast (A2 := A1) hA1.symm ?_
  have hm := hm.thr (nI 0)
  rw [← hA1] at hm
  obtain ⟨hM, hn, hc, hw, hwb, hz⟩ := id hm
  obtain ⟨c0, ⟨c1, c2, c3, c4, c5⟩, cb, ⟨c16, cr⟩, ⟨c35, ce⟩, ⟨c456, ca⟩, c517, cp⟩ := id hc
  obtain ⟨w1, w2, w3, w4, w5⟩ := id hw
  refine g_aload_n X rfl rfl ?_
  refine g_aload_n X rfl rfl ?_
  refine g_get X rfl flX8_16 (ci := 8) rfl (by (repeat (first | exact hM | exact upA_eq | refine (upA_ne (by omega)).trans ?_))) rfl ?_
  refine g_sipush X rfl (v := nI 517) (by decide) ?_
  refine g_ialdN X rfl hn (by omega) (by decide) ?_
  rw [c517]
  refine g_iconst X rfl (v := nI 4) (by decide) ?_
  first | refine g_ic_neN X rfl (by omega) (by omega) (fun h1 => ?_) (fun h1 => ?_) | refine g_icmp_ne X rfl (fun h1 => ?_) (fun h1 => ?_)
  · refine g_iconst X rfl (v := nI 0) (by decide) ?_
    refine g_iconst X rfl (v := nI 1) (by decide) ?_
    refine g_mV X rfl lcX8_fails lmX8_52 lsX8_fails (cm_X8_fails0 l D cy B od (by (repeat (first | exact hM | exact upA_eq | refine (upA_ne (by omega)).trans ?_)))) (ci := 8) (by (repeat (first | exact hM | exact upA_eq | refine (upA_ne (by omega)).trans ?_))) rfl rfl rfl (Nat.le_of_ble_eq_true rfl) ⟨⟨by decide, by decide⟩, rfl, rfl⟩ ⟨Nat.le_of_ble_eq_true rfl, Nat.le_of_ble_eq_true rfl⟩ (fun v2 A2 q2 => ?_)
    obtain ⟨rfl, rfl⟩ := q2
    refine g_if_eq X rfl (fun h => absurd h n10) (fun _ => ?_)
    refine g_lconst X rfl (v := 0) (by decide) ?_
    refine g_lret X rfl rfl (Nat.le_of_ble_eq_true rfl) (Nat.le_of_ble_eq_true rfl) ⟨rfl, ?_⟩
    exact mRx (E := eISE) (by first | (simp_all [ocSett, sYP, sPre, nI_eq, vS, vZ, V9]; done) | (simp_all [ocSett, sYP, sPre, nI_eq, vS, vZ, V9, nI_0, n10]; done) | (simp_all [ocSett, sYP, sPre, nI_eq, vS, vZ, V9, nI_0, n10, ← Int32.not_le]; done) | (simp_all [ocSett, sYP, sPre, nI_eq, vS, vZ, V9, ← Int64.not_le]; done) | (simp_all [ocSett, sYP, sPre, nI_eq, vS, vZ, V9, nI_0, n10, ← Int64.not_le, ← Int32.not_le]; done)) (by decide) hA1
  · refine g_iconst X rfl (v := nI 1) (by decide) ?_
    refine g_goto X rfl ?_
    refine g_iconst X rfl (v := nI 1) (by decide) ?_
    refine g_mV X rfl lcX8_fails lmX8_52 lsX8_fails (cm_X8_fails1 l D cy B od (by (repeat (first | exact hM | exact upA_eq | refine (upA_ne (by omega)).trans ?_)))) (ci := 8) (by (repeat (first | exact hM | exact upA_eq | refine (upA_ne (by omega)).trans ?_))) rfl rfl rfl (Nat.le_of_ble_eq_true rfl) ⟨⟨by decide, by decide⟩, rfl, rfl⟩ ⟨Nat.le_of_ble_eq_true rfl, Nat.le_of_ble_eq_true rfl⟩ (fun v3 A3 q3 => ?_)
    obtain ⟨rfl, rfl⟩ := q3
    refine g_if_eq X rfl (fun _ => ?_) (fun h => absurd nI_0 h) 
    refine g_aload_n X rfl rfl ?_
    refine g_aload_n X rfl rfl ?_
    refine g_rV X rfl lcX8_yearProfit lmX8_359 lsX8_yearProfit (cr_X8_yearProfit l D cy B od hm hg) (ci := 8) (by (repeat (first | exact hM | exact upA_eq | refine (upA_ne (by omega)).trans ?_))) rfl rfl rfl (Nat.le_of_ble_eq_true rfl) ⟨⟨by decide, by decide⟩, rfl, rfl⟩ ⟨Nat.le_of_ble_eq_true rfl, Nat.le_of_ble_eq_true rfl⟩ ?_
    obtain ⟨pa, pc9, hpa, hpc, hpf⟩ := sProf_N hg hw (q := 3) (by decide)
    have hbd := pf_bd hpa hpc
    refine g_rV X rfl lcX8_taxOf lmX8_326 lsX8_taxOf (cr_X8_taxOf l D cy B od hm hg hgz (by rw [hpf]; omega)) (ci := 8) (by (repeat (first | exact hM | exact upA_eq | refine (upA_ne (by omega)).trans ?_))) rfl rfl rfl (Nat.le_of_ble_eq_true rfl) ⟨⟨by decide, by decide⟩, rfl, rfl⟩ ⟨Nat.le_of_ble_eq_true rfl, Nat.le_of_ble_eq_true rfl⟩ ?_
    refine g_aload_n X rfl rfl ?_
    refine g_iconst X rfl (v := nI 4) (by decide) ?_
    refine g_rV X rfl lcX8_prepaidTo lmX8_241 lsX8_prepaidTo (cr_X8_prepaidTo l D cy B od hm hg (q := 4) (by omega)) (ci := 8) (by (repeat (first | exact hM | exact upA_eq | refine (upA_ne (by omega)).trans ?_))) rfl rfl rfl (Nat.le_of_ble_eq_true rfl) ⟨⟨by decide, by decide⟩, rfl, rfl⟩ ⟨Nat.le_of_ble_eq_true rfl, Nat.le_of_ble_eq_true rfl⟩ ?_
    refine g_lsub X rfl ?_
    refine g_lret X rfl rfl (Nat.le_of_ble_eq_true rfl) (Nat.le_of_ble_eq_true rfl) ⟨rfl, ?_⟩
    exact mR0 (by first | (simp_all [ocSett, sYP, sPre, nI_eq, vS, vZ, V9]; done) | (simp_all [ocSett, sYP, sPre, nI_eq, vS, vZ, V9, nI_0, n10]; done) | (simp_all [ocSett, sYP, sPre, nI_eq, vS, vZ, V9, nI_0, n10, ← Int32.not_le]; done) | (simp_all [ocSett, sYP, sPre, nI_eq, vS, vZ, V9, ← Int64.not_le]; done) | (simp_all [ocSett, sYP, sPre, nI_eq, vS, vZ, V9, nI_0, n10, ← Int64.not_le, ← Int32.not_le]; done)) hA1
theorem kcX8_372 : Cond.constantDouble RX8 372 4636737291354636288 ∈ lw_good := lw_good_in (n := 1819) (by decide +kernel) rfl
set_option maxRecDepth 100000 in
set_option maxHeartbeats 400000 in
theorem cm_X8_effectiveRate (l : Launch) (D : va_G) (cy : Nat → ClassId) (B : Nat) (od : Nat → Option Nat) {A : AH} {f : MF} {r : Nat → Int32} {Z : SV} {S : StV} (hm : MdR cy A f r Z S) (hg : Rng Z S) (hgz : RngZ Z)  : CM l D cy B od yX8_effectiveRate cX8_effectiveRate 3 (some .double) rmX8_effectiveRate [.ref 231] A (fun v A' => v = some (mV (.double 0) (ocEff (V9 Z S))) ∧ A' = upA A 231 (moE (nI (cX [eNSE] (ocEff (V9 Z S))), f.2))) := by
  intro z
  refine CT.of (by decide) tX8_effectiveRate okX8_effectiveRate (Nat.le_of_ble_eq_true rfl) (q0 := tX8_effectiveRate[0]) rfl rfl ?_
  intro p e s m args below meth c X _
  have hM := hm.1
  refine g_aload_n X rfl rfl ?_
  refine g_iconst X rfl (v := nI 0) (by decide) ?_
  refine g_put X rfl flX8_41 rfl (ci := 8) rfl (by (repeat (first | exact hM | exact upA_eq | refine (upA_ne (by omega)).trans ?_))) (Nat.le_of_ble_eq_true rfl) (by first | rfl | exact bI_nar _) (by first | rfl | decide) ?_
  refine G.cast (A2 := upA A 231 (moE (nI 0, f.2))) rfl ?_
  obtain ⟨A1, hA1⟩ : ∃ A1, A1 = upA A 231 (moE (nI 0, f.2)) := ⟨_, rfl⟩
  refine G.cast (A2 := A1) hA1.symm ?_
  have hm := hm.thr (nI 0)
  rw [← hA1] at hm
  obtain ⟨hM, hn, hc, hw, hwb, hz⟩ := id hm
  obtain ⟨c0, ⟨c1, c2, c3, c4, c5⟩, cb, ⟨c16, cr⟩, ⟨c35, ce⟩, ⟨c456, ca⟩, c517, cp⟩ := id hc
  obtain ⟨w1, w2, w3, w4, w5⟩ := id hw
  refine g_aload_n X rfl rfl ?_
  refine g_rV X rfl lcX8_yearProfit lmX8_359 lsX8_yearProfit (cr_X8_yearProfit l D cy B od hm hg) (ci := 8) (by (repeat (first | exact hM | exact upA_eq | refine (upA_ne (by omega)).trans ?_))) rfl rfl rfl (Nat.le_of_ble_eq_true rfl) ⟨⟨by decide, by decide⟩, rfl, rfl⟩ ⟨Nat.le_of_ble_eq_true rfl, Nat.le_of_ble_eq_true rfl⟩ ?_
  refine g_lstore_n X rfl (by decide) ?_
  refine g_aload_n X rfl rfl ?_
  refine g_lload_n X rfl rfl ?_
  refine g_lconst X rfl (v := 0) (by decide) ?_
  refine g_l_le X rfl rfl (fun h1 => ?_) (fun h1 => ?_)
  · refine g_iconst X rfl (v := nI 0) (by decide) ?_
    refine g_iconst X rfl (v := nI 1) (by decide) ?_
    refine g_mV X rfl lcX8_fails lmX8_52 lsX8_fails (cm_X8_fails0 l D cy B od (by (repeat (first | exact hM | exact upA_eq | refine (upA_ne (by omega)).trans ?_)))) (ci := 8) (by (repeat (first | exact hM | exact upA_eq | refine (upA_ne (by omega)).trans ?_))) rfl rfl rfl (Nat.le_of_ble_eq_true rfl) ⟨⟨by decide, by decide⟩, rfl, rfl⟩ ⟨Nat.le_of_ble_eq_true rfl, Nat.le_of_ble_eq_true rfl⟩ (fun v2 A2 q2 => ?_)
    obtain ⟨rfl, rfl⟩ := q2
    refine g_if_eq X rfl (fun h => absurd h n10) (fun _ => ?_)
    refine g_dconst0 X rfl ?_
    refine g_dret X rfl rfl (Nat.le_of_ble_eq_true rfl) (Nat.le_of_ble_eq_true rfl) ⟨rfl, ?_⟩
    exact mRx (E := eNSE) (by first | (simp_all [ocEff, sYP, nI_eq, vS, vZ, V9]; done) | (simp_all [ocEff, sYP, nI_eq, vS, vZ, V9, nI_0, n10]; done) | (simp_all [ocEff, sYP, nI_eq, vS, vZ, V9, nI_0, n10, ← Int32.not_le]; done) | (simp_all [ocEff, sYP, nI_eq, vS, vZ, V9, ← Int64.not_le]; done) | (simp_all [ocEff, sYP, nI_eq, vS, vZ, V9, nI_0, n10, ← Int64.not_le, ← Int32.not_le]; done)) (by decide) hA1
  · refine g_iconst X rfl (v := nI 1) (by decide) ?_
    refine g_goto X rfl ?_
    refine g_iconst X rfl (v := nI 1) (by decide) ?_
    refine g_mV X rfl lcX8_fails lmX8_52 lsX8_fails (cm_X8_fails1 l D cy B od (by (repeat (first | exact hM | exact upA_eq | refine (upA_ne (by omega)).trans ?_)))) (ci := 8) (by (repeat (first | exact hM | exact upA_eq | refine (upA_ne (by omega)).trans ?_))) rfl rfl rfl (Nat.le_of_ble_eq_true rfl) ⟨⟨by decide, by decide⟩, rfl, rfl⟩ ⟨Nat.le_of_ble_eq_true rfl, Nat.le_of_ble_eq_true rfl⟩ (fun v3 A3 q3 => ?_)
    obtain ⟨rfl, rfl⟩ := q3
    refine g_if_eq X rfl (fun _ => ?_) (fun h => absurd nI_0 h) 
    refine g_aload_n X rfl rfl ?_
    refine g_lload_n X rfl rfl ?_
    obtain ⟨pa, pc9, hpa, hpc, hpf⟩ := sProf_N hg hw (q := 3) (by decide)
    have hbd := pf_bd hpa hpc
    refine g_rV X rfl lcX8_taxOf lmX8_326 lsX8_taxOf (cr_X8_taxOf l D cy B od hm hg hgz (by rw [hpf]; omega)) (ci := 8) (by (repeat (first | exact hM | exact upA_eq | refine (upA_ne (by omega)).trans ?_))) rfl rfl rfl (Nat.le_of_ble_eq_true rfl) ⟨⟨by decide, by decide⟩, rfl, rfl⟩ ⟨Nat.le_of_ble_eq_true rfl, Nat.le_of_ble_eq_true rfl⟩ ?_
    refine g_l2d X rfl ?_
    refine g_ldc2d X rfl kcX8_372 ?_
    refine g_dmul X rfl (n64_mul _) ?_
    refine g_lload_n X rfl rfl ?_
    refine g_l2d X rfl ?_
    refine g_ddiv X rfl (n64_div (n64_mul _) (pos_ne (by first | assumption | (simp_all; done)))) ?_
    refine g_dret X rfl rfl (Nat.le_of_ble_eq_true rfl) (Nat.le_of_ble_eq_true rfl) ⟨rfl, ?_⟩
    exact mR0 (by first | (simp_all [ocEff, sYP, nI_eq, vS, vZ, V9]; done) | (simp_all [ocEff, sYP, nI_eq, vS, vZ, V9, nI_0, n10]; done) | (simp_all [ocEff, sYP, nI_eq, vS, vZ, V9, nI_0, n10, ← Int32.not_le]; done) | (simp_all [ocEff, sYP, nI_eq, vS, vZ, V9, ← Int64.not_le]; done) | (simp_all [ocEff, sYP, nI_eq, vS, vZ, V9, nI_0, n10, ← Int64.not_le, ← Int32.not_le]; done)) hA1
