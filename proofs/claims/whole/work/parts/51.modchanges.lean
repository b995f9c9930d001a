/-! 51: the reference: changes -/
theorem isDN_eq {x : Int32} : within9 x (-1) (nI 359) = isDN x := by
  unfold isDN within9
  rw [Bool.eq_iff_iff]
  simp only [Bool.and_eq_true, Bool.or_eq_true, decide_eq_true_eq]
  constructor
  · rintro ⟨h1, h2⟩
    by_cases h : x = -1
    · exact Or.inl h
    · refine Or.inr ⟨?_, h2⟩
      rw [Int32.le_iff_toInt_le] at h1 ⊢
      have h3 : ¬ x.toInt = (-1 : Int32).toInt := fun q => h (Int32.toInt_inj.mp q)
      rw [show (-1 : Int32).toInt = -1 by decide] at h1 h3
      rw [show (nI 0).toInt = 0 by decide]
      omega
  · rintro (h | ⟨h1, h2⟩)
    · subst h; decide
    · exact ⟨Int32.le_trans (by decide) h1, h2⟩
set_option maxRecDepth 100000 in
set_option maxHeartbeats 400000 in
theorem cr_X8_entryPartU (l : Launch) (D : va_G) (cy : Nat → ClassId) (B : Nat) (od : Nat → Option Nat) {A : AH} {f : MF} {r2 : Nat → Int32} (hM : A 231 = some (moE f)) (hn : A 234 = some (.inl (cy 0, 522, .inl r2))) {k9 q9 : Nat} {w9 : Int32} (hk : 36 + 7 * k9 + q9 < 522) (hw : r2 (36 + 7 * k9 + q9) = w9) : CR l D cy B od yX8_entryPart cX8_entryPart 3 (some .int) rmX8_entryPart [.ref 231, .int (nI k9), .int (nI q9)] A (.int w9) := by
  intro z
  refine CT.of (by decide) tX8_entryPart okX8_entryPart (Nat.le_of_ble_eq_true rfl) (q0 := tX8_entryPart[0]) rfl rfl ?_
  intro p e s m args below meth c X _
  refine g_aload_n X rfl rfl ?_
  refine g_get X rfl flX8_16 (ci := 8) rfl hM rfl ?_
  refine g_bipush X rfl (v := nI 36) (by decide) ?_
  refine g_bipush X rfl (v := nI 7) (by decide) ?_
  refine g_iload_n X rfl rfl ?_
  refine g_imul X rfl ?_
  refine g_iadd X rfl ?_
  refine g_iload_n X rfl rfl ?_
  refine g_iadd X rfl ?_
  rw [pk_mul, nI_add, nI_add]
  refine g_ialdN X rfl hn (by omega) (by decide) ?_
  refine g_iret X rfl rfl (by first | rfl | exact bI_nar _ | decide) (Nat.le_refl _) (Nat.le_refl _) ⟨?_, rfl, rfl⟩
  rw [hw]
theorem mBx {A A1 : AH} {f : MF} {d : Value} {oc : OC} {E : String} {ex : List String} {w : Nat} {P : Prop} (h : oc = .inl E) (hw : cX ex (.inl E) = w) (hA : A1 = upA A 231 (moE (nI 0, f.2))) : some d = some (mV d oc) ∧ ((∃ E, oc = .inl E ∧ upA A1 231 (moE (nI w, f.2)) = upA A 231 (moE (nI (cX ex oc), f.2))) ∨ ((∃ x, oc = .inr x) ∧ P)) := ⟨(mRx h hw hA).1, Or.inl ⟨E, h, (mRx (d := d) h hw hA).2⟩⟩
theorem mG0 {A A' : AH} {f : MF} {d r : Value} {oc : OC} {ex : List String} {P : Prop} (h : oc = .inr r) (hP : P) : some r = some (mV d oc) ∧ ((∃ E, oc = .inl E ∧ A' = upA A 231 (moE (nI (cX ex oc), f.2))) ∨ ((∃ x, oc = .inr x) ∧ P)) := by
  subst h; exact ⟨rfl, Or.inr ⟨⟨_, rfl⟩, hP⟩⟩
theorem MOff.r1 {A A1 : AH} {f : MF} (h : A1 = upA A 231 (moE f)) : MOff A A1 := by
  subst h; exact (MOff.refl A).up (by decide) (by decide)
set_option maxRecDepth 100000 in
set_option maxHeartbeats 400000 in
theorem cm_X8_setStart (l : Launch) (D : va_G) (cy : Nat → ClassId) (B : Nat) (od : Nat → Option Nat) {A : AH} {f : MF} {r : Nat → Int32} {Z : SV} {S : StV} (hm : MdR cy A f r Z S) (hg : Rng Z S) (hgz : RngZ Z) {mb rd sv hy : Nat → Int32} (hD : MdA cy A f mb rd r sv hy) (hE : f.2.2.1 ≤ 8)  {ba : Int32} : CM l D cy B od yX8_setStart cX8_setStart 2 (some .int) rmX8_setStart [.ref 231, .int ba] A (fun v A' => v = some (mV (.int (nI 0)) (ocStart (V9 Z S) ba)) ∧ ((∃ E, (ocStart (V9 Z S) ba) = .inl E ∧ A' = upA A 231 (moE (nI (cX [eIAE] (ocStart (V9 Z S) ba)), f.2))) ∨ ((∃ y9, (ocStart (V9 Z S) ba) = .inr y9) ∧ (MOff A A' ∧ MdA cy A' (fN (nI 0, f.2) (recN f.2.2.1)) (mb) (rd) (upd r 0 ba) (sv) (recH hy f.2.2.1 r))))) := by
  intro z
  refine CT.of (by decide) tX8_setStart okX8_setStart (Nat.le_of_ble_eq_true rfl) (q0 := tX8_setStart[0]) rfl rfl ?_
  intro p e s m args below meth c X _
  have hM := hm.1
  refine g_aload_n X rfl rfl ?_
  refine g_iconst X rfl (v := nI 0) (by decide) ?_
  refine g_put X rfl flX8_41 rfl (ci := 8) rfl (by (repeat (first | exact hM | exact upA_eq | refine (upA_ne (by omega)).trans ?_))) (Nat.le_of_ble_eq_true rfl) (by first | rfl | exact bI_nar _) (by first | rfl | decide) ?_
  refine G.cast (A2 := upA A 231 (moE (nI 0, f.2))) rfl ?_
  obtain ⟨A1, hA1⟩ : ∃ A1, A1 = upA A 231 (moE (nI 0, f.2)) := ⟨_, rfl⟩
  refine G.cast (A2 := A1) hA1.symm ?_
  have hm := hm.thr (nI 0)
  rw [← hA1] at hm
  obtain ⟨hM, hn, hc, hw, hwb, hz⟩ := id hm
  obtain ⟨c0, ⟨c1, c2, c3, c4, c5⟩, cb, ⟨c16, cr⟩, ⟨c35, ce⟩, ⟨c456, ca⟩, c517, cp⟩ := id hc
  obtain ⟨w1, w2, w3, w4, w5⟩ := id hw
  have hD := hD.uf (nI 0, f.2)
  rw [← hA1] at hD
  obtain ⟨hM, hb, hr, hn, hs, hh, -⟩ := id hD
  have hO1 := MOff.r1 hA1
  refine g_aload_n X rfl rfl ?_
  refine g_iload_n X rfl rfl ?_
  refine g_i2l X rfl ?_
  refine g_ldc2 X rfl kcX8_249 ?_
  refine g_ldc2 X rfl kcX8_182 ?_
  refine g_rS X rfl lcX8_in lmX8_56 stX8_in (cr_X8_in l D cy B od) rfl rfl (Nat.le_of_ble_eq_true rfl) ⟨⟨by decide, by decide⟩, rfl, rfl⟩ ⟨Nat.le_of_ble_eq_true rfl, Nat.le_of_ble_eq_true rfl⟩ ?_
  rw [in64 (lo := -10000000) (hi := nI 10000000) (by decide) (by decide)]
  refine g_iconst X rfl (v := nI 1) (by decide) ?_
  refine g_mV X rfl lcX8_fails lmX8_52 lsX8_fails (cm_X8_failsB l D cy B od (by (repeat (first | exact hM | exact upA_eq | refine (upA_ne (by omega)).trans ?_)))) (ci := 8) (by (repeat (first | exact hM | exact upA_eq | refine (upA_ne (by omega)).trans ?_))) rfl rfl rfl (Nat.le_of_ble_eq_true rfl) ⟨⟨by decide, by decide⟩, rfl, rfl⟩ ⟨Nat.le_of_ble_eq_true rfl, Nat.le_of_ble_eq_true rfl⟩ (fun v1 A1 q1 => ?_)
  rcases q1 with ⟨h1, rfl, rfl⟩ | ⟨h1, rfl, rfl⟩
  · refine g_if_eq X rfl (fun _ => ?_) (fun h => absurd nI_0 h) 
    refine g_aload_n X rfl rfl ?_
    refine g_iconst X rfl (v := nI 0) (by decide) ?_
    refine g_iload_n X rfl rfl ?_
    refine g_mV X rfl lcX8_become lmX8_213 lsX8_become (cm_X8_become l D cy B od hD hE (pl := 0) (by decide)) (ci := 8) (by (repeat (first | exact hM | exact upA_eq | refine (upA_ne (by omega)).trans ?_))) rfl rfl rfl (Nat.le_of_ble_eq_true rfl) ⟨⟨by decide, by decide⟩, rfl, rfl⟩ ⟨Nat.le_of_ble_eq_true rfl, Nat.le_of_ble_eq_true rfl⟩ (fun v2 A2 q2 => ?_)
    obtain ⟨rfl, rfl⟩ := q2
    rw [c0]
    have hD3 := ((hD.uhi (recH hy f.2.2.1 r)).uf (fN (nI 0, f.2) (recN f.2.2.1))).ur (upd r 0 ba)
    refine g_iret X rfl rfl (by first | rfl | exact bI_nar _ | decide) (Nat.le_of_ble_eq_true rfl) (Nat.le_of_ble_eq_true rfl) ⟨rfl, ?_⟩
    exact mG0 (f := f) (by first | (simp_all [ocStart, nI_eq, vS, vZ, V9]; done) | (simp_all [ocStart, nI_eq, vS, vZ, V9, nI_0, n10]; done) | (simp_all [ocStart, nI_eq, vS, vZ, V9, nI_0, n10, ← Int32.not_le]; done) | (simp_all [ocStart, nI_eq, vS, vZ, V9, ← Int64.not_le]; done) | (simp_all [ocStart, nI_eq, vS, vZ, V9, nI_0, n10, ← Int64.not_le, ← Int32.not_le]; done)) (⟨(by repeat (first | exact hO1 | refine MOff.up ?_ (by decide) (by decide))), hD3⟩)
  · refine g_if_eq X rfl (fun h => absurd h n10) (fun _ => ?_)
    refine g_iconst X rfl (v := nI 0) (by decide) ?_
    refine g_goto X rfl ?_
    refine g_iret X rfl rfl (by first | rfl | exact bI_nar _ | decide) (Nat.le_of_ble_eq_true rfl) (Nat.le_of_ble_eq_true rfl) ⟨rfl, ?_⟩
    exact mBx (E := eIAE) (by first | (simp_all [ocStart, nI_eq, vS, vZ, V9]; done) | (simp_all [ocStart, nI_eq, vS, vZ, V9, nI_0, n10]; done) | (simp_all [ocStart, nI_eq, vS, vZ, V9, nI_0, n10, ← Int32.not_le]; done) | (simp_all [ocStart, nI_eq, vS, vZ, V9, ← Int64.not_le]; done) | (simp_all [ocStart, nI_eq, vS, vZ, V9, nI_0, n10, ← Int64.not_le, ← Int32.not_le]; done)) (by decide) hA1
set_option maxRecDepth 100000 in
set_option maxHeartbeats 400000 in
theorem cm_X8_pay (l : Launch) (D : va_G) (cy : Nat → ClassId) (B : Nat) (od : Nat → Option Nat) {A : AH} {f : MF} {r : Nat → Int32} {Z : SV} {S : StV} (hm : MdR cy A f r Z S) (hg : Rng Z S) (hgz : RngZ Z) {mb rd sv hy : Nat → Int32} (hD : MdA cy A f mb rd r sv hy) (hE : f.2.2.1 ≤ 8)  {x dy : Int32} : CM l D cy B od yX8_pay cX8_pay 3 (some .int) rmX8_pay [.ref 231, .int x, .int dy] A (fun v A' => v = some (mV (.int (nI 0)) (ocPay (V9 Z S) x dy)) ∧ ((∃ E, (ocPay (V9 Z S) x dy) = .inl E ∧ A' = upA A 231 (moE (nI (cX [eIOB, eIAE, eISE] (ocPay (V9 Z S) x dy)), f.2))) ∨ ((∃ y9, (ocPay (V9 Z S) x dy) = .inr y9) ∧ (MOff A A' ∧ MdA cy A' (fN (nI 0, f.2) (recN f.2.2.1)) (mb) (rd) (upd r (36 + 7 * x.toNatClampNeg + 4) dy) (sv) (recH hy f.2.2.1 r))))) := by
  intro z
  refine CT.of (by decide) tX8_pay okX8_pay (Nat.le_of_ble_eq_true rfl) (q0 := tX8_pay[0]) rfl rfl ?_
  intro p e s m args below meth c X _
  have hM := hm.1
  refine g_aload_n X rfl rfl ?_
  refine g_iconst X rfl (v := nI 0) (by decide) ?_
  refine g_put X rfl flX8_41 rfl (ci := 8) rfl (by (repeat (first | exact hM | exact upA_eq | refine (upA_ne (by omega)).trans ?_))) (Nat.le_of_ble_eq_true rfl) (by first | rfl | exact bI_nar _) (by first | rfl | decide) ?_
  refine G.cast (A2 := upA A 231 (moE (nI 0, f.2))) rfl ?_
  obtain ⟨A1, hA1⟩ : ∃ A1, A1 = upA A 231 (moE (nI 0, f.2)) := ⟨_, rfl⟩
  refine G.cast (A2 := A1) hA1.symm ?_
  have hm := hm.thr (nI 0)
  rw [← hA1] at hm
  obtain ⟨hM, hn, hc, hw, hwb, hz⟩ := id hm
  obtain ⟨c0, ⟨c1, c2, c3, c4, c5⟩, cb, ⟨c16, cr⟩, ⟨c35, ce⟩, ⟨c456, ca⟩, c517, cp⟩ := id hc
  obtain ⟨w1, w2, w3, w4, w5⟩ := id hw
  have hD := hD.uf (nI 0, f.2)
  rw [← hA1] at hD
  obtain ⟨hM, hb, hr, hn, hs, hh, -⟩ := id hD
  have hO1 := MOff.r1 hA1
  refine g_aload_n X rfl rfl ?_
  refine g_aload_n X rfl rfl ?_
  refine g_iload_n X rfl rfl ?_
  refine g_rV X rfl lcX8_isEntry lmX8_210 lsX8_isEntry (cr_X8_isEntry l D cy B od hm) (ci := 8) (by (repeat (first | exact hM | exact upA_eq | refine (upA_ne (by omega)).trans ?_))) rfl rfl rfl (Nat.le_of_ble_eq_true rfl) ⟨⟨by decide, by decide⟩, rfl, rfl⟩ ⟨Nat.le_of_ble_eq_true rfl, Nat.le_of_ble_eq_true rfl⟩ ?_
  refine g_iconst X rfl (v := nI 1) (by decide) ?_
  refine g_mV X rfl lcX8_fails lmX8_52 lsX8_fails (cm_X8_failsB l D cy B od (by (repeat (first | exact hM | exact upA_eq | refine (upA_ne (by omega)).trans ?_)))) (ci := 8) (by (repeat (first | exact hM | exact upA_eq | refine (upA_ne (by omega)).trans ?_))) rfl rfl rfl (Nat.le_of_ble_eq_true rfl) ⟨⟨by decide, by decide⟩, rfl, rfl⟩ ⟨Nat.le_of_ble_eq_true rfl, Nat.le_of_ble_eq_true rfl⟩ (fun v1 A1 q1 => ?_)
  rcases q1 with ⟨h1, rfl, rfl⟩ | ⟨h1, rfl, rfl⟩
  · obtain ⟨i9, hi9, e9⟩ := ix_of (by simpa using h1) (by omega)
    subst e9
    have hcl := nI_clamp (n := i9) (by omega)
    refine g_if_ne X rfl (fun h => absurd nI_0 h) (fun _ => ?_)
    refine g_aload_n X rfl rfl ?_
    refine g_iload_n X rfl rfl ?_
    refine g_rS X rfl lcX8_isDayOrNone lmX8_207 stX8_isDayOrNone (cr_X8_isDayOrNone l D cy B od) rfl rfl (Nat.le_of_ble_eq_true rfl) ⟨⟨by decide, by decide⟩, rfl, rfl⟩ ⟨Nat.le_of_ble_eq_true rfl, Nat.le_of_ble_eq_true rfl⟩ ?_
    refine g_iconst X rfl (v := nI 2) (by decide) ?_
    refine g_mV X rfl lcX8_fails lmX8_52 lsX8_fails (cm_X8_failsB l D cy B od (by (repeat (first | exact hM | exact upA_eq | refine (upA_ne (by omega)).trans ?_)))) (ci := 8) (by (repeat (first | exact hM | exact upA_eq | refine (upA_ne (by omega)).trans ?_))) rfl rfl rfl (Nat.le_of_ble_eq_true rfl) ⟨⟨by decide, by decide⟩, rfl, rfl⟩ ⟨Nat.le_of_ble_eq_true rfl, Nat.le_of_ble_eq_true rfl⟩ (fun v2 A2 q2 => ?_)
    rcases q2 with ⟨h2, rfl, rfl⟩ | ⟨h2, rfl, rfl⟩
    · refine g_if_ne X rfl (fun h => absurd nI_0 h) (fun _ => ?_)
      refine g_aload_n X rfl rfl ?_
      refine g_aload_n X rfl rfl ?_
      refine g_iload_n X rfl rfl ?_
      refine g_rV X rfl lcX8_isCancelled lmX8_187 lsX8_isCancelled (cr_X8_isCancelled l D cy B od hm (by omega)) (ci := 8) (by (repeat (first | exact hM | exact upA_eq | refine (upA_ne (by omega)).trans ?_))) rfl rfl rfl (Nat.le_of_ble_eq_true rfl) ⟨⟨by decide, by decide⟩, rfl, rfl⟩ ⟨Nat.le_of_ble_eq_true rfl, Nat.le_of_ble_eq_true rfl⟩ ?_
      first | refine g_if_neB X rfl (fun h3 => ?_) (fun h3 => ?_) | refine g_if_ne X rfl (fun h3 => ?_) (fun h3 => ?_)
      · refine g_iconst X rfl (v := nI 0) (by decide) ?_
        refine g_iconst X rfl (v := nI 3) (by decide) ?_
        refine g_mV X rfl lcX8_fails lmX8_52 lsX8_fails (cm_X8_fails0 l D cy B od (by (repeat (first | exact hM | exact upA_eq | refine (upA_ne (by omega)).trans ?_)))) (ci := 8) (by (repeat (first | exact hM | exact upA_eq | refine (upA_ne (by omega)).trans ?_))) rfl rfl rfl (Nat.le_of_ble_eq_true rfl) ⟨⟨by decide, by decide⟩, rfl, rfl⟩ ⟨Nat.le_of_ble_eq_true rfl, Nat.le_of_ble_eq_true rfl⟩ (fun v4 A4 q4 => ?_)
        obtain ⟨rfl, rfl⟩ := q4
        refine g_if_eq X rfl (fun h => absurd h n10) (fun _ => ?_)
        refine g_iconst X rfl (v := nI 0) (by decide) ?_
        refine g_iret X rfl rfl (by first | rfl | exact bI_nar _ | decide) (Nat.le_of_ble_eq_true rfl) (Nat.le_of_ble_eq_true rfl) ⟨rfl, ?_⟩
        exact mBx (E := eISE) (by first | (simp_all [ocPay, isDN_eq, nI_eq, vS, vZ, V9]; done) | (simp_all [ocPay, isDN_eq, nI_eq, vS, vZ, V9, nI_0, n10]; done) | (simp_all [ocPay, isDN_eq, nI_eq, vS, vZ, V9, nI_0, n10, ← Int32.not_le]; done) | (simp_all [ocPay, isDN_eq, nI_eq, vS, vZ, V9, ← Int64.not_le]; done) | (simp_all [ocPay, isDN_eq, nI_eq, vS, vZ, V9, nI_0, n10, ← Int64.not_le, ← Int32.not_le]; done)) (by decide) hA1
      · refine g_iconst X rfl (v := nI 1) (by decide) ?_
        refine g_goto X rfl ?_
        refine g_iconst X rfl (v := nI 3) (by decide) ?_
        refine g_mV X rfl lcX8_fails lmX8_52 lsX8_fails (cm_X8_fails1 l D cy B od (by (repeat (first | exact hM | exact upA_eq | refine (upA_ne (by omega)).trans ?_)))) (ci := 8) (by (repeat (first | exact hM | exact upA_eq | refine (upA_ne (by omega)).trans ?_))) rfl rfl rfl (Nat.le_of_ble_eq_true rfl) ⟨⟨by decide, by decide⟩, rfl, rfl⟩ ⟨Nat.le_of_ble_eq_true rfl, Nat.le_of_ble_eq_true rfl⟩ (fun v5 A5 q5 => ?_)
        obtain ⟨rfl, rfl⟩ := q5
        refine g_if_eq X rfl (fun _ => ?_) (fun h => absurd nI_0 h) 
        refine g_aload_n X rfl rfl ?_
        refine g_bipush X rfl (v := nI 36) (by decide) ?_
        refine g_bipush X rfl (v := nI 7) (by decide) ?_
        refine g_iload_n X rfl rfl ?_
        refine g_imul X rfl ?_
        refine g_iadd X rfl ?_
        refine g_iconst X rfl (v := nI 4) (by decide) ?_
        refine g_iadd X rfl ?_
        rw [pk_mul, nI_add, nI_add]
        refine g_iload_n X rfl rfl ?_
        refine g_mV X rfl lcX8_become lmX8_213 lsX8_become (cm_X8_become l D cy B od hD hE (pl := 36 + 7 * i9 + 4) (by omega)) (ci := 8) (by (repeat (first | exact hM | exact upA_eq | refine (upA_ne (by omega)).trans ?_))) rfl rfl rfl (Nat.le_of_ble_eq_true rfl) ⟨⟨by decide, by decide⟩, rfl, rfl⟩ ⟨Nat.le_of_ble_eq_true rfl, Nat.le_of_ble_eq_true rfl⟩ (fun v6 A6 q6 => ?_)
        obtain ⟨rfl, rfl⟩ := q6
        rw [ce i9 hi9 4 (by decide)]
        have hD3 := ((hD.uhi (recH hy f.2.2.1 r)).uf (fN (nI 0, f.2) (recN f.2.2.1))).ur (upd r (36 + 7 * i9 + 4) dy)
        refine g_iret X rfl rfl (by first | rfl | exact bI_nar _ | decide) (Nat.le_of_ble_eq_true rfl) (Nat.le_of_ble_eq_true rfl) ⟨rfl, ?_⟩
        exact mG0 (f := f) (by first | (simp_all [ocPay, isDN_eq, nI_eq, vS, vZ, V9]; done) | (simp_all [ocPay, isDN_eq, nI_eq, vS, vZ, V9, nI_0, n10]; done) | (simp_all [ocPay, isDN_eq, nI_eq, vS, vZ, V9, nI_0, n10, ← Int32.not_le]; done) | (simp_all [ocPay, isDN_eq, nI_eq, vS, vZ, V9, ← Int64.not_le]; done) | (simp_all [ocPay, isDN_eq, nI_eq, vS, vZ, V9, nI_0, n10, ← Int64.not_le, ← Int32.not_le]; done)) (⟨(by repeat (first | exact hO1 | refine MOff.up ?_ (by decide) (by decide))), by rw [hcl]; exact hD3⟩)
    · refine g_if_ne X rfl (fun _ => ?_) (fun h => absurd h n10) 
      refine g_iconst X rfl (v := nI 0) (by decide) ?_
      refine g_iret X rfl rfl (by first | rfl | exact bI_nar _ | decide) (Nat.le_of_ble_eq_true rfl) (Nat.le_of_ble_eq_true rfl) ⟨rfl, ?_⟩
      exact mBx (E := eIAE) (by first | (simp_all [ocPay, isDN_eq, nI_eq, vS, vZ, V9]; done) | (simp_all [ocPay, isDN_eq, nI_eq, vS, vZ, V9, nI_0, n10]; done) | (simp_all [ocPay, isDN_eq, nI_eq, vS, vZ, V9, nI_0, n10, ← Int32.not_le]; done) | (simp_all [ocPay, isDN_eq, nI_eq, vS, vZ, V9, ← Int64.not_le]; done) | (simp_all [ocPay, isDN_eq, nI_eq, vS, vZ, V9, nI_0, n10, ← Int64.not_le, ← Int32.not_le]; done)) (by decide) hA1
  · refine g_if_ne X rfl (fun _ => ?_) (fun h => absurd h n10) 
    refine g_iconst X rfl (v := nI 0) (by decide) ?_
    refine g_iret X rfl rfl (by first | rfl | exact bI_nar _ | decide) (Nat.le_of_ble_eq_true rfl) (Nat.le_of_ble_eq_true rfl) ⟨rfl, ?_⟩
    exact mBx (E := eIOB) (by first | (simp_all [ocPay, isDN_eq, nI_eq, vS, vZ, V9]; done) | (simp_all [ocPay, isDN_eq, nI_eq, vS, vZ, V9, nI_0, n10]; done) | (simp_all [ocPay, isDN_eq, nI_eq, vS, vZ, V9, nI_0, n10, ← Int32.not_le]; done) | (simp_all [ocPay, isDN_eq, nI_eq, vS, vZ, V9, ← Int64.not_le]; done) | (simp_all [ocPay, isDN_eq, nI_eq, vS, vZ, V9, nI_0, n10, ← Int64.not_le, ← Int32.not_le]; done)) (by decide) hA1
set_option maxRecDepth 100000 in
set_option maxHeartbeats 400000 in
theorem cm_X8_cancel (l : Launch) (D : va_G) (cy : Nat → ClassId) (B : Nat) (od : Nat → Option Nat) {A : AH} {f : MF} {r : Nat → Int32} {Z : SV} {S : StV} (hm : MdR cy A f r Z S) (hg : Rng Z S) (hgz : RngZ Z) {mb rd sv hy : Nat → Int32} (hD : MdA cy A f mb rd r sv hy) (hE : f.2.2.1 ≤ 8)  {x : Int32} : CM l D cy B od yX8_cancel cX8_cancel 3 (some .int) rmX8_cancel [.ref 231, .int x] A (fun v A' => v = some (mV (.int (nI 0)) (ocCan (V9 Z S) x)) ∧ ((∃ E, (ocCan (V9 Z S) x) = .inl E ∧ A' = upA A 231 (moE (nI (cX [eIOB, eISE] (ocCan (V9 Z S) x)), f.2))) ∨ ((∃ y9, (ocCan (V9 Z S) x) = .inr y9) ∧ (MOff A A' ∧ MdA cy A' (fN (nI 0, f.2) (recN f.2.2.1)) (mb) (rd) (upd r (36 + 7 * x.toNatClampNeg + 5) (nI 1)) (sv) (recH hy f.2.2.1 r))))) := by
  intro z
  refine CT.of (by decide) tX8_cancel okX8_cancel (Nat.le_of_ble_eq_true rfl) (q0 := tX8_cancel[0]) rfl rfl ?_
  intro p e s m args below meth c X _
  have hM := hm.1
  refine g_aload_n X rfl rfl ?_
  refine g_iconst X rfl (v := nI 0) (by decide) ?_
  refine g_put X rfl flX8_41 rfl (ci := 8) rfl (by (repeat (first | exact hM | exact upA_eq | refine (upA_ne (by omega)).trans ?_))) (Nat.le_of_ble_eq_true rfl) (by first | rfl | exact bI_nar _) (by first | rfl | decide) ?_
  refine G.cast (A2 := upA A 231 (moE (nI 0, f.2))) rfl ?_
  obtain ⟨A1, hA1⟩ : ∃ A1, A1 = upA A 231 (moE (nI 0, f.2)) := ⟨_, rfl⟩
  refine G.cast (A2 := A1) hA1.symm ?_
  have hm := hm.thr (nI 0)
  rw [← hA1] at hm
  obtain ⟨hM, hn, hc, hw, hwb, hz⟩ := id hm
  obtain ⟨c0, ⟨c1, c2, c3, c4, c5⟩, cb, ⟨c16, cr⟩, ⟨c35, ce⟩, ⟨c456, ca⟩, c517, cp⟩ := id hc
  obtain ⟨w1, w2, w3, w4, w5⟩ := id hw
  have hD := hD.uf (nI 0, f.2)
  rw [← hA1] at hD
  obtain ⟨hM, hb, hr, hn, hs, hh, -⟩ := id hD
  have hO1 := MOff.r1 hA1
  refine g_aload_n X rfl rfl ?_
  refine g_aload_n X rfl rfl ?_
  refine g_iload_n X rfl rfl ?_
  refine g_rV X rfl lcX8_isEntry lmX8_210 lsX8_isEntry (cr_X8_isEntry l D cy B od hm) (ci := 8) (by (repeat (first | exact hM | exact upA_eq | refine (upA_ne (by omega)).trans ?_))) rfl rfl rfl (Nat.le_of_ble_eq_true rfl) ⟨⟨by decide, by decide⟩, rfl, rfl⟩ ⟨Nat.le_of_ble_eq_true rfl, Nat.le_of_ble_eq_true rfl⟩ ?_
  refine g_iconst X rfl (v := nI 1) (by decide) ?_
  refine g_mV X rfl lcX8_fails lmX8_52 lsX8_fails (cm_X8_failsB l D cy B od (by (repeat (first | exact hM | exact upA_eq | refine (upA_ne (by omega)).trans ?_)))) (ci := 8) (by (repeat (first | exact hM | exact upA_eq | refine (upA_ne (by omega)).trans ?_))) rfl rfl rfl (Nat.le_of_ble_eq_true rfl) ⟨⟨by decide, by decide⟩, rfl, rfl⟩ ⟨Nat.le_of_ble_eq_true rfl, Nat.le_of_ble_eq_true rfl⟩ (fun v1 A1 q1 => ?_)
  rcases q1 with ⟨h1, rfl, rfl⟩ | ⟨h1, rfl, rfl⟩
  · obtain ⟨i9, hi9, e9⟩ := ix_of (by simpa using h1) (by omega)
    subst e9
    have hcl := nI_clamp (n := i9) (by omega)
    refine g_if_ne X rfl (fun h => absurd nI_0 h) (fun _ => ?_)
    refine g_aload_n X rfl rfl ?_
    refine g_aload_n X rfl rfl ?_
    refine g_iload_n X rfl rfl ?_
    refine g_rV X rfl lcX8_isCancelled lmX8_187 lsX8_isCancelled (cr_X8_isCancelled l D cy B od hm (by omega)) (ci := 8) (by (repeat (first | exact hM | exact upA_eq | refine (upA_ne (by omega)).trans ?_))) rfl rfl rfl (Nat.le_of_ble_eq_true rfl) ⟨⟨by decide, by decide⟩, rfl, rfl⟩ ⟨Nat.le_of_ble_eq_true rfl, Nat.le_of_ble_eq_true rfl⟩ ?_
    first | refine g_if_neB X rfl (fun h2 => ?_) (fun h2 => ?_) | refine g_if_ne X rfl (fun h2 => ?_) (fun h2 => ?_)
    · refine g_iconst X rfl (v := nI 0) (by decide) ?_
      refine g_iconst X rfl (v := nI 2) (by decide) ?_
      refine g_mV X rfl lcX8_fails lmX8_52 lsX8_fails (cm_X8_fails0 l D cy B od (by (repeat (first | exact hM | exact upA_eq | refine (upA_ne (by omega)).trans ?_)))) (ci := 8) (by (repeat (first | exact hM | exact upA_eq | refine (upA_ne (by omega)).trans ?_))) rfl rfl rfl (Nat.le_of_ble_eq_true rfl) ⟨⟨by decide, by decide⟩, rfl, rfl⟩ ⟨Nat.le_of_ble_eq_true rfl, Nat.le_of_ble_eq_true rfl⟩ (fun v3 A3 q3 => ?_)
      obtain ⟨rfl, rfl⟩ := q3
      refine g_if_eq X rfl (fun h => absurd h n10) (fun _ => ?_)
      refine g_iconst X rfl (v := nI 0) (by decide) ?_
      refine g_iret X rfl rfl (by first | rfl | exact bI_nar _ | decide) (Nat.le_of_ble_eq_true rfl) (Nat.le_of_ble_eq_true rfl) ⟨rfl, ?_⟩
      exact mBx (E := eISE) (by first | (simp_all [ocCan, nI_eq, vS, vZ, V9]; done) | (simp_all [ocCan, nI_eq, vS, vZ, V9, nI_0, n10]; done) | (simp_all [ocCan, nI_eq, vS, vZ, V9, nI_0, n10, ← Int32.not_le]; done) | (simp_all [ocCan, nI_eq, vS, vZ, V9, ← Int64.not_le]; done) | (simp_all [ocCan, nI_eq, vS, vZ, V9, nI_0, n10, ← Int64.not_le, ← Int32.not_le]; done)) (by decide) hA1
    · refine g_iconst X rfl (v := nI 1) (by decide) ?_
      refine g_goto X rfl ?_
      refine g_iconst X rfl (v := nI 2) (by decide) ?_
      refine g_mV X rfl lcX8_fails lmX8_52 lsX8_fails (cm_X8_fails1 l D cy B od (by (repeat (first | exact hM | exact upA_eq | refine (upA_ne (by omega)).trans ?_)))) (ci := 8) (by (repeat (first | exact hM | exact upA_eq | refine (upA_ne (by omega)).trans ?_))) rfl rfl rfl (Nat.le_of_ble_eq_true rfl) ⟨⟨by decide, by decide⟩, rfl, rfl⟩ ⟨Nat.le_of_ble_eq_true rfl, Nat.le_of_ble_eq_true rfl⟩ (fun v4 A4 q4 => ?_)
      obtain ⟨rfl, rfl⟩ := q4
      refine g_if_eq X rfl (fun _ => ?_) (fun h => absurd nI_0 h) 
      refine g_aload_n X rfl rfl ?_
      refine g_bipush X rfl (v := nI 36) (by decide) ?_
      refine g_bipush X rfl (v := nI 7) (by decide) ?_
      refine g_iload_n X rfl rfl ?_
      refine g_imul X rfl ?_
      refine g_iadd X rfl ?_
      refine g_iconst X rfl (v := nI 5) (by decide) ?_
      refine g_iadd X rfl ?_
      rw [pk_mul, nI_add, nI_add]
      refine g_iconst X rfl (v := nI 1) (by decide) ?_
      refine g_mV X rfl lcX8_become lmX8_213 lsX8_become (cm_X8_become l D cy B od hD hE (pl := 36 + 7 * i9 + 5) (by omega)) (ci := 8) (by (repeat (first | exact hM | exact upA_eq | refine (upA_ne (by omega)).trans ?_))) rfl rfl rfl (Nat.le_of_ble_eq_true rfl) ⟨⟨by decide, by decide⟩, rfl, rfl⟩ ⟨Nat.le_of_ble_eq_true rfl, Nat.le_of_ble_eq_true rfl⟩ (fun v5 A5 q5 => ?_)
      obtain ⟨rfl, rfl⟩ := q5
      have hD3 := ((hD.uhi (recH hy f.2.2.1 r)).uf (fN (nI 0, f.2) (recN f.2.2.1))).ur (upd r (36 + 7 * i9 + 5) (nI 1))
      have hM3 := hD3.1
      have hn3 := hD3.2.2.2.1
      refine g_istore_n X rfl (by decide) ?_
      refine g_aload_n X rfl rfl ?_
      refine g_iload_n X rfl rfl ?_
      refine g_iconst X rfl (v := nI 2) (by decide) ?_
      refine g_rV X rfl lcX8_entryPart lmX8_184 lsX8_entryPart (cr_X8_entryPartU l D cy B od hM3 hn3 (k9 := i9) (w9 := S.1.2 2 i9) (by omega) (by rw [pk_un (by omega)]; exact ce i9 hi9 2 (by decide))) (ci := 8) (by (repeat (first | exact hM | exact upA_eq | refine (upA_ne (by omega)).trans ?_))) rfl rfl rfl (Nat.le_of_ble_eq_true rfl) ⟨⟨by decide, by decide⟩, rfl, rfl⟩ ⟨Nat.le_of_ble_eq_true rfl, Nat.le_of_ble_eq_true rfl⟩ ?_
      refine g_iret X rfl rfl (by first | rfl | exact bI_nar _ | decide) (Nat.le_of_ble_eq_true rfl) (Nat.le_of_ble_eq_true rfl) ⟨rfl, ?_⟩
      exact mG0 (f := f) (by first | (simp_all [ocCan, nI_eq, vS, vZ, V9]; done) | (simp_all [ocCan, nI_eq, vS, vZ, V9, nI_0, n10]; done) | (simp_all [ocCan, nI_eq, vS, vZ, V9, nI_0, n10, ← Int32.not_le]; done) | (simp_all [ocCan, nI_eq, vS, vZ, V9, ← Int64.not_le]; done) | (simp_all [ocCan, nI_eq, vS, vZ, V9, nI_0, n10, ← Int64.not_le, ← Int32.not_le]; done)) (⟨(by repeat (first | exact hO1 | refine MOff.up ?_ (by decide) (by decide))), by rw [hcl]; exact hD3⟩)
  · refine g_if_ne X rfl (fun _ => ?_) (fun h => absurd h n10) 
    refine g_iconst X rfl (v := nI 0) (by decide) ?_
    refine g_iret X rfl rfl (by first | rfl | exact bI_nar _ | decide) (Nat.le_of_ble_eq_true rfl) (Nat.le_of_ble_eq_true rfl) ⟨rfl, ?_⟩
    exact mBx (E := eIOB) (by first | (simp_all [ocCan, nI_eq, vS, vZ, V9]; done) | (simp_all [ocCan, nI_eq, vS, vZ, V9, nI_0, n10]; done) | (simp_all [ocCan, nI_eq, vS, vZ, V9, nI_0, n10, ← Int32.not_le]; done) | (simp_all [ocCan, nI_eq, vS, vZ, V9, ← Int64.not_le]; done) | (simp_all [ocCan, nI_eq, vS, vZ, V9, nI_0, n10, ← Int64.not_le, ← Int32.not_le]; done)) (by decide) hA1
