/-! 52: the reference: what is added, sold, closed -/
theorem aVal_m {Z : SV} {S : StV} (hg : Rng Z S) {k : Nat} (hk : k < S.2.2.1.1) : aVal S.2.2.1 k (nI 0 - nI 1) = nI 0 := by
  obtain ⟨p8, d8, l8, s8, o8, hN⟩ := asset_N hg hk
  have hd := hN.2.2.1
  unfold aVal
  rw [hN.bo, if_pos (Or.inr (Or.inl ?_))]
  exact Int32.lt_of_lt_of_le (show nI 0 - nI 1 < 0 by decide) (nI_pos' (by omega))
set_option maxRecDepth 100000 in
set_option maxHeartbeats 400000 in
theorem cm_X8_addEntry (l : Launch) (D : va_G) (cy : Nat → ClassId) (B : Nat) (od : Nat → Option Nat) {A : AH} {f : MF} {r : Nat → Int32} {Z : SV} {S : StV} (hm : MdR cy A f r Z S) (hg : Rng Z S) (hgz : RngZ Z) {mb rd sv hy : Nat → Int32} (hD : MdA cy A f mb rd r sv hy) (hE : f.2.2.1 ≤ 8)  {kd cg am iv pd : Int32} : CM l D cy B od yX8_addEntry cX8_addEntry 8 (some .int) rmX8_addEntry [.ref 231, .int kd, .int cg, .int am, .int iv, .int pd] A (fun v A' => v = some (mV (.int (nI 0)) (ocAddE (V9 Z S) kd cg am iv pd)) ∧ ((∃ E, (ocAddE (V9 Z S) kd cg am iv pd) = .inl E ∧ A' = upA A 231 (moE (nI (cX [eIAE, eISE] (ocAddE (V9 Z S) kd cg am iv pd)), f.2))) ∨ ((∃ y9, (ocAddE (V9 Z S) kd cg am iv pd) = .inr y9) ∧ (MOff A A' ∧ MdA cy A' (fN (nI 0, f.2) (recN f.2.2.1)) (mb) (rd) (upd (upd (upd (upd (upd (upd (upd (upd r (36 + 7 * S.1.1) kd) (36 + 7 * S.1.1 + 1) cg) (36 + 7 * S.1.1 + 2) am) (36 + 7 * S.1.1 + 3) iv) (36 + 7 * S.1.1 + 4) pd) (36 + 7 * S.1.1 + 5) (nI 0)) (36 + 7 * S.1.1 + 6) (if pd = -1 ∨ nI S.2.2.2.2.1 ≤ pd / nI 90 then nI 0 else nI 1)) 35 (nI (S.1.1 + 1))) (sv) (recH hy f.2.2.1 r))))) := by
  intro z
  refine CT.of (by decide) tX8_addEntry okX8_addEntry (Nat.le_of_ble_eq_true rfl) (q0 := tX8_addEntry[0]) rfl rfl ?_
  intro p e s m args below meth c X _
  have hM := hm.1
  refine g_aload_n X rfl rfl ?_
  refine g_iconst X rfl (v := nI 0) (by decide) ?_
  refine g_put X rfl flX8_41 rfl (ci := 8) rfl (by (repeat (first | exact hM | exact upA_eq | refine (upA_ne (by omega)).trans ?_))) (Nat.le_of_ble_eq_true rfl) (by first | rfl | exact bI_nar _) (by first | rfl | decide) ?_
  refine G.cast (A2 := upA A 231 (moE (nI 0, f.2))) rfl ?_
  obtain ⟨A1, hA1⟩ : ∃ A1, A1 = upA A 231 (moE (nI 0, f.2)) := ⟨_, rfl⟩
  refine G.cast (A2 := A1) hA1.symm ?_
  have hm := hm.thr (nI 0)
  rw [← hA1] at hm
  obtain ⟨hM, hn, hc, hw, hwb, hz⟩ := id hm
  obtain ⟨c0, ⟨c1, c2, c3, c4, c5⟩, cb, ⟨c16, cr⟩, ⟨c35, ce⟩, ⟨c456, ca⟩, c517, cp⟩ := id hc
  obtain ⟨w1, w2, w3, w4, w5⟩ := id hw
  have hD := hD.uf (nI 0, f.2)
  rw [← hA1] at hD
  obtain ⟨hM, hb, hr, hn, hs, hh, -⟩ := id hD
  have hO1 := MOff.r1 hA1
  refine g_iload_n X rfl rfl ?_
  refine g_rS X rfl lcX8_isKind lmX8_196 stX8_isKind (cr_X8_isKind l D cy B od) rfl rfl (Nat.le_of_ble_eq_true rfl) ⟨⟨by decide, by decide⟩, rfl, rfl⟩ ⟨Nat.le_of_ble_eq_true rfl, Nat.le_of_ble_eq_true rfl⟩ ?_
  first | refine g_if_eqB X rfl (fun h1 => ?_) (fun h1 => ?_) | refine g_if_eq X rfl (fun h1 => ?_) (fun h1 => ?_)
  · refine g_iconst X rfl (v := nI 0) (by decide) ?_
    refine g_istore X rfl (by decide) ?_
    refine g_aload_n X rfl rfl ?_
    refine g_iload X rfl rfl ?_
    refine g_iconst X rfl (v := nI 1) (by decide) ?_
    refine g_mV X rfl lcX8_fails lmX8_52 lsX8_fails (cm_X8_fails0 l D cy B od (by (repeat (first | exact hM | exact upA_eq | refine (upA_ne (by omega)).trans ?_)))) (ci := 8) (by (repeat (first | exact hM | exact upA_eq | refine (upA_ne (by omega)).trans ?_))) rfl rfl rfl (Nat.le_of_ble_eq_true rfl) ⟨⟨by decide, by decide⟩, rfl, rfl⟩ ⟨Nat.le_of_ble_eq_true rfl, Nat.le_of_ble_eq_true rfl⟩ (fun v2 A2 q2 => ?_)
    obtain ⟨rfl, rfl⟩ := q2
    refine g_if_ne X rfl (fun _ => ?_) (fun h => absurd h n10) 
    refine g_iconst X rfl (v := nI 0) (by decide) ?_
    refine g_iret X rfl rfl (by first | rfl | exact bI_nar _ | decide) (Nat.le_of_ble_eq_true rfl) (Nat.le_of_ble_eq_true rfl) ⟨rfl, ?_⟩
    exact mBx (E := eIAE) (by first | (simp_all [ocAddE, isDN_eq, nI_eq, vS, vZ, V9]; done) | (simp_all [ocAddE, isDN_eq, nI_eq, vS, vZ, V9, nI_0, n10]; done) | (simp_all [ocAddE, isDN_eq, nI_eq, vS, vZ, V9, nI_0, n10, ← Int32.not_le]; done) | (simp_all [ocAddE, isDN_eq, nI_eq, vS, vZ, V9, ← Int64.not_le]; done) | (simp_all [ocAddE, isDN_eq, nI_eq, vS, vZ, V9, nI_0, n10, ← Int64.not_le, ← Int32.not_le]; done)) (by decide) hA1
  · refine g_iload_n X rfl rfl ?_
    refine g_i2l X rfl ?_
    refine g_lconst X rfl (v := 0) (by decide) ?_
    refine g_ldc2 X rfl kcX8_199 ?_
    refine g_rS X rfl lcX8_in lmX8_56 stX8_in (cr_X8_in l D cy B od) rfl rfl (Nat.le_of_ble_eq_true rfl) ⟨⟨by decide, by decide⟩, rfl, rfl⟩ ⟨Nat.le_of_ble_eq_true rfl, Nat.le_of_ble_eq_true rfl⟩ ?_
    rw [in64 (lo := nI 0) (hi := nI 9) (by decide) (by decide)]
    first | refine g_if_eqB X rfl (fun h3 => ?_) (fun h3 => ?_) | refine g_if_eq X rfl (fun h3 => ?_) (fun h3 => ?_)
    · refine g_iconst X rfl (v := nI 0) (by decide) ?_
      refine g_istore X rfl (by decide) ?_
      refine g_aload_n X rfl rfl ?_
      refine g_iload X rfl rfl ?_
      refine g_iconst X rfl (v := nI 1) (by decide) ?_
      refine g_mV X rfl lcX8_fails lmX8_52 lsX8_fails (cm_X8_fails0 l D cy B od (by (repeat (first | exact hM | exact upA_eq | refine (upA_ne (by omega)).trans ?_)))) (ci := 8) (by (repeat (first | exact hM | exact upA_eq | refine (upA_ne (by omega)).trans ?_))) rfl rfl rfl (Nat.le_of_ble_eq_true rfl) ⟨⟨by decide, by decide⟩, rfl, rfl⟩ ⟨Nat.le_of_ble_eq_true rfl, Nat.le_of_ble_eq_true rfl⟩ (fun v4 A4 q4 => ?_)
      obtain ⟨rfl, rfl⟩ := q4
      refine g_if_ne X rfl (fun _ => ?_) (fun h => absurd h n10) 
      refine g_iconst X rfl (v := nI 0) (by decide) ?_
      refine g_iret X rfl rfl (by first | rfl | exact bI_nar _ | decide) (Nat.le_of_ble_eq_true rfl) (Nat.le_of_ble_eq_true rfl) ⟨rfl, ?_⟩
      exact mBx (E := eIAE) (by first | (simp_all [ocAddE, isDN_eq, nI_eq, vS, vZ, V9]; done) | (simp_all [ocAddE, isDN_eq, nI_eq, vS, vZ, V9, nI_0, n10]; done) | (simp_all [ocAddE, isDN_eq, nI_eq, vS, vZ, V9, nI_0, n10, ← Int32.not_le]; done) | (simp_all [ocAddE, isDN_eq, nI_eq, vS, vZ, V9, ← Int64.not_le]; done) | (simp_all [ocAddE, isDN_eq, nI_eq, vS, vZ, V9, nI_0, n10, ← Int64.not_le, ← Int32.not_le]; done)) (by decide) hA1
    · refine g_iload_n X rfl rfl ?_
      refine g_rS X rfl lcX8_isAmount lmX8_201 stX8_isAmount (cr_X8_isAmount l D cy B od) rfl rfl (Nat.le_of_ble_eq_true rfl) ⟨⟨by decide, by decide⟩, rfl, rfl⟩ ⟨Nat.le_of_ble_eq_true rfl, Nat.le_of_ble_eq_true rfl⟩ ?_
      first | refine g_if_eqB X rfl (fun h5 => ?_) (fun h5 => ?_) | refine g_if_eq X rfl (fun h5 => ?_) (fun h5 => ?_)
      · refine g_iconst X rfl (v := nI 0) (by decide) ?_
        refine g_istore X rfl (by decide) ?_
        refine g_aload_n X rfl rfl ?_
        refine g_iload X rfl rfl ?_
        refine g_iconst X rfl (v := nI 1) (by decide) ?_
        refine g_mV X rfl lcX8_fails lmX8_52 lsX8_fails (cm_X8_fails0 l D cy B od (by (repeat (first | exact hM | exact upA_eq | refine (upA_ne (by omega)).trans ?_)))) (ci := 8) (by (repeat (first | exact hM | exact upA_eq | refine (upA_ne (by omega)).trans ?_))) rfl rfl rfl (Nat.le_of_ble_eq_true rfl) ⟨⟨by decide, by decide⟩, rfl, rfl⟩ ⟨Nat.le_of_ble_eq_true rfl, Nat.le_of_ble_eq_true rfl⟩ (fun v6 A6 q6 => ?_)
        obtain ⟨rfl, rfl⟩ := q6
        refine g_if_ne X rfl (fun _ => ?_) (fun h => absurd h n10) 
        refine g_iconst X rfl (v := nI 0) (by decide) ?_
        refine g_iret X rfl rfl (by first | rfl | exact bI_nar _ | decide) (Nat.le_of_ble_eq_true rfl) (Nat.le_of_ble_eq_true rfl) ⟨rfl, ?_⟩
        exact mBx (E := eIAE) (by first | (simp_all [ocAddE, isDN_eq, nI_eq, vS, vZ, V9]; done) | (simp_all [ocAddE, isDN_eq, nI_eq, vS, vZ, V9, nI_0, n10]; done) | (simp_all [ocAddE, isDN_eq, nI_eq, vS, vZ, V9, nI_0, n10, ← Int32.not_le]; done) | (simp_all [ocAddE, isDN_eq, nI_eq, vS, vZ, V9, ← Int64.not_le]; done) | (simp_all [ocAddE, isDN_eq, nI_eq, vS, vZ, V9, nI_0, n10, ← Int64.not_le, ← Int32.not_le]; done)) (by decide) hA1
      · refine g_iload X rfl rfl ?_
        refine g_rS X rfl lcX8_isDay lmX8_204 stX8_isDay (cr_X8_isDay l D cy B od) rfl rfl (Nat.le_of_ble_eq_true rfl) ⟨⟨by decide, by decide⟩, rfl, rfl⟩ ⟨Nat.le_of_ble_eq_true rfl, Nat.le_of_ble_eq_true rfl⟩ ?_
        first | refine g_if_eqB X rfl (fun h7 => ?_) (fun h7 => ?_) | refine g_if_eq X rfl (fun h7 => ?_) (fun h7 => ?_)
        · refine g_iconst X rfl (v := nI 0) (by decide) ?_
          refine g_istore X rfl (by decide) ?_
          refine g_aload_n X rfl rfl ?_
          refine g_iload X rfl rfl ?_
          refine g_iconst X rfl (v := nI 1) (by decide) ?_
          refine g_mV X rfl lcX8_fails lmX8_52 lsX8_fails (cm_X8_fails0 l D cy B od (by (repeat (first | exact hM | exact upA_eq | refine (upA_ne (by omega)).trans ?_)))) (ci := 8) (by (repeat (first | exact hM | exact upA_eq | refine (upA_ne (by omega)).trans ?_))) rfl rfl rfl (Nat.le_of_ble_eq_true rfl) ⟨⟨by decide, by decide⟩, rfl, rfl⟩ ⟨Nat.le_of_ble_eq_true rfl, Nat.le_of_ble_eq_true rfl⟩ (fun v8 A8 q8 => ?_)
          obtain ⟨rfl, rfl⟩ := q8
          refine g_if_ne X rfl (fun _ => ?_) (fun h => absurd h n10) 
          refine g_iconst X rfl (v := nI 0) (by decide) ?_
          refine g_iret X rfl rfl (by first | rfl | exact bI_nar _ | decide) (Nat.le_of_ble_eq_true rfl) (Nat.le_of_ble_eq_true rfl) ⟨rfl, ?_⟩
          exact mBx (E := eIAE) (by first | (simp_all [ocAddE, isDN_eq, nI_eq, vS, vZ, V9]; done) | (simp_all [ocAddE, isDN_eq, nI_eq, vS, vZ, V9, nI_0, n10]; done) | (simp_all [ocAddE, isDN_eq, nI_eq, vS, vZ, V9, nI_0, n10, ← Int32.not_le]; done) | (simp_all [ocAddE, isDN_eq, nI_eq, vS, vZ, V9, ← Int64.not_le]; done) | (simp_all [ocAddE, isDN_eq, nI_eq, vS, vZ, V9, nI_0, n10, ← Int64.not_le, ← Int32.not_le]; done)) (by decide) hA1
        · refine g_iload X rfl rfl ?_
          refine g_rS X rfl lcX8_isDayOrNone lmX8_207 stX8_isDayOrNone (cr_X8_isDayOrNone l D cy B od) rfl rfl (Nat.le_of_ble_eq_true rfl) ⟨⟨by decide, by decide⟩, rfl, rfl⟩ ⟨Nat.le_of_ble_eq_true rfl, Nat.le_of_ble_eq_true rfl⟩ ?_
          first | refine g_if_eqB X rfl (fun h9 => ?_) (fun h9 => ?_) | refine g_if_eq X rfl (fun h9 => ?_) (fun h9 => ?_)
          · refine g_iconst X rfl (v := nI 0) (by decide) ?_
            refine g_istore X rfl (by decide) ?_
            refine g_aload_n X rfl rfl ?_
            refine g_iload X rfl rfl ?_
            refine g_iconst X rfl (v := nI 1) (by decide) ?_
            refine g_mV X rfl lcX8_fails lmX8_52 lsX8_fails (cm_X8_fails0 l D cy B od (by (repeat (first | exact hM | exact upA_eq | refine (upA_ne (by omega)).trans ?_)))) (ci := 8) (by (repeat (first | exact hM | exact upA_eq | refine (upA_ne (by omega)).trans ?_))) rfl rfl rfl (Nat.le_of_ble_eq_true rfl) ⟨⟨by decide, by decide⟩, rfl, rfl⟩ ⟨Nat.le_of_ble_eq_true rfl, Nat.le_of_ble_eq_true rfl⟩ (fun v10 A10 q10 => ?_)
            obtain ⟨rfl, rfl⟩ := q10
            refine g_if_ne X rfl (fun _ => ?_) (fun h => absurd h n10) 
            refine g_iconst X rfl (v := nI 0) (by decide) ?_
            refine g_iret X rfl rfl (by first | rfl | exact bI_nar _ | decide) (Nat.le_of_ble_eq_true rfl) (Nat.le_of_ble_eq_true rfl) ⟨rfl, ?_⟩
            exact mBx (E := eIAE) (by first | (simp_all [ocAddE, isDN_eq, nI_eq, vS, vZ, V9]; done) | (simp_all [ocAddE, isDN_eq, nI_eq, vS, vZ, V9, nI_0, n10]; done) | (simp_all [ocAddE, isDN_eq, nI_eq, vS, vZ, V9, nI_0, n10, ← Int32.not_le]; done) | (simp_all [ocAddE, isDN_eq, nI_eq, vS, vZ, V9, ← Int64.not_le]; done) | (simp_all [ocAddE, isDN_eq, nI_eq, vS, vZ, V9, nI_0, n10, ← Int64.not_le, ← Int32.not_le]; done)) (by decide) hA1
          · refine g_iconst X rfl (v := nI 1) (by decide) ?_
            refine g_goto X rfl ?_
            refine g_istore X rfl (by decide) ?_
            refine g_aload_n X rfl rfl ?_
            refine g_iload X rfl rfl ?_
            refine g_iconst X rfl (v := nI 1) (by decide) ?_
            refine g_mV X rfl lcX8_fails lmX8_52 lsX8_fails (cm_X8_fails1 l D cy B od (by (repeat (first | exact hM | exact upA_eq | refine (upA_ne (by omega)).trans ?_)))) (ci := 8) (by (repeat (first | exact hM | exact upA_eq | refine (upA_ne (by omega)).trans ?_))) rfl rfl rfl (Nat.le_of_ble_eq_true rfl) ⟨⟨by decide, by decide⟩, rfl, rfl⟩ ⟨Nat.le_of_ble_eq_true rfl, Nat.le_of_ble_eq_true rfl⟩ (fun v11 A11 q11 => ?_)
            obtain ⟨rfl, rfl⟩ := q11
            refine g_if_ne X rfl (fun h => absurd nI_0 h) (fun _ => ?_)
            refine g_aload_n X rfl rfl ?_
            refine g_aload_n X rfl rfl ?_
            refine g_get X rfl flX8_16 (ci := 8) rfl (by (repeat (first | exact hM | exact upA_eq | refine (upA_ne (by omega)).trans ?_))) rfl ?_
            refine g_bipush X rfl (v := nI 35) (by decide) ?_
            refine g_ialdN X rfl (by (repeat (first | exact hn | exact upA_eq | refine (upA_ne (by omega)).trans ?_))) (by omega) (by decide) ?_
            rw [c35]
            refine g_bipush X rfl (v := nI 60) (by decide) ?_
            first | refine g_ic_geN X rfl (by omega) (by omega) (fun h12 => ?_) (fun h12 => ?_) | refine g_icmp_ge X rfl (fun h12 => ?_) (fun h12 => ?_)
            · refine g_iconst X rfl (v := nI 0) (by decide) ?_
              refine g_iconst X rfl (v := nI 2) (by decide) ?_
              refine g_mV X rfl lcX8_fails lmX8_52 lsX8_fails (cm_X8_fails0 l D cy B od (by (repeat (first | exact hM | exact upA_eq | refine (upA_ne (by omega)).trans ?_)))) (ci := 8) (by (repeat (first | exact hM | exact upA_eq | refine (upA_ne (by omega)).trans ?_))) rfl rfl rfl (Nat.le_of_ble_eq_true rfl) ⟨⟨by decide, by decide⟩, rfl, rfl⟩ ⟨Nat.le_of_ble_eq_true rfl, Nat.le_of_ble_eq_true rfl⟩ (fun v13 A13 q13 => ?_)
              obtain ⟨rfl, rfl⟩ := q13
              refine g_if_eq X rfl (fun h => absurd h n10) (fun _ => ?_)
              refine g_iconst X rfl (v := nI 0) (by decide) ?_
              refine g_iret X rfl rfl (by first | rfl | exact bI_nar _ | decide) (Nat.le_of_ble_eq_true rfl) (Nat.le_of_ble_eq_true rfl) ⟨rfl, ?_⟩
              exact mBx (E := eISE) (by first | (simp_all [ocAddE, isDN_eq, nI_eq, vS, vZ, V9]; done) | (simp_all [ocAddE, isDN_eq, nI_eq, vS, vZ, V9, nI_0, n10]; done) | (simp_all [ocAddE, isDN_eq, nI_eq, vS, vZ, V9, nI_0, n10, ← Int32.not_le]; done) | (simp_all [ocAddE, isDN_eq, nI_eq, vS, vZ, V9, ← Int64.not_le]; done) | (simp_all [ocAddE, isDN_eq, nI_eq, vS, vZ, V9, nI_0, n10, ← Int64.not_le, ← Int32.not_le]; done)) (by decide) hA1
            · refine g_iconst X rfl (v := nI 1) (by decide) ?_
              refine g_goto X rfl ?_
              refine g_iconst X rfl (v := nI 2) (by decide) ?_
              refine g_mV X rfl lcX8_fails lmX8_52 lsX8_fails (cm_X8_fails1 l D cy B od (by (repeat (first | exact hM | exact upA_eq | refine (upA_ne (by omega)).trans ?_)))) (ci := 8) (by (repeat (first | exact hM | exact upA_eq | refine (upA_ne (by omega)).trans ?_))) rfl rfl rfl (Nat.le_of_ble_eq_true rfl) ⟨⟨by decide, by decide⟩, rfl, rfl⟩ ⟨Nat.le_of_ble_eq_true rfl, Nat.le_of_ble_eq_true rfl⟩ (fun v14 A14 q14 => ?_)
              obtain ⟨rfl, rfl⟩ := q14
              refine g_if_eq X rfl (fun _ => ?_) (fun h => absurd nI_0 h) 
              refine g_aload_n X rfl rfl ?_
              refine g_mV X rfl lcX8_record lmX8_193 lsX8_record (cm_X8_record l D cy B od hD hE) (ci := 8) (by (repeat (first | exact hM | exact upA_eq | refine (upA_ne (by omega)).trans ?_))) rfl rfl rfl (Nat.le_of_ble_eq_true rfl) ⟨⟨by decide, by decide⟩, rfl, rfl⟩ ⟨Nat.le_of_ble_eq_true rfl, Nat.le_of_ble_eq_true rfl⟩ (fun v15 A15 q15 => ?_)
              obtain ⟨rfl, rfl⟩ := q15
              have hD3 := (hD.uhi (recH hy f.2.2.1 r)).uf (fN (nI 0, f.2) (recN f.2.2.1))
              obtain ⟨hM, hb, hr, hn, hs, hh, -⟩ := id hD3
              refine g_bipush X rfl (v := nI 36) (by decide) ?_
              refine g_bipush X rfl (v := nI 7) (by decide) ?_
              refine g_aload_n X rfl rfl ?_
              refine g_get X rfl flX8_16 (ci := 8) rfl (by (repeat (first | exact hM | exact upA_eq | refine (upA_ne (by omega)).trans ?_))) rfl ?_
              refine g_bipush X rfl (v := nI 35) (by decide) ?_
              refine g_ialdN X rfl (by (repeat (first | exact hn | exact upA_eq | refine (upA_ne (by omega)).trans ?_))) (by omega) (by decide) ?_
              rw [c35]
              refine g_imul X rfl ?_
              refine g_iadd X rfl ?_
              rw [pk_mul, nI_add]
              refine g_istore X rfl (by decide) ?_
              refine g_aload_n X rfl rfl ?_
              refine g_get X rfl flX8_16 (ci := 8) rfl (by (repeat (first | exact hM | exact upA_eq | refine (upA_ne (by omega)).trans ?_))) rfl ?_
              refine g_iload X rfl rfl ?_
              refine g_iconst X rfl (v := nI 0) (by decide) ?_
              refine g_iadd X rfl ?_
              rw [show nI (36 + 7 * S.1.1) + nI 0 = nI (36 + 7 * S.1.1) by rw [nI_add, Nat.add_zero]]
              refine g_iload_n X rfl rfl ?_
              refine g_iastN X rfl (by (repeat (first | exact hn | exact upA_eq | refine (upA_ne (by decide)).trans ?_))) (by omega) (by decide) ?_
              first | rw [upA_up] | skip
              refine g_aload_n X rfl rfl ?_
              refine g_get X rfl flX8_16 (ci := 8) rfl (by (repeat (first | exact hM | exact upA_eq | refine (upA_ne (by omega)).trans ?_))) rfl ?_
              refine g_iload X rfl rfl ?_
              refine g_iconst X rfl (v := nI 1) (by decide) ?_
              refine g_iadd X rfl ?_
              rw [nI_add]
              refine g_iload_n X rfl rfl ?_
              refine g_iastN X rfl (by (repeat (first | exact hn | exact upA_eq | refine (upA_ne (by decide)).trans ?_))) (by omega) (by decide) ?_
              first | rw [upA_up] | skip
              refine g_aload_n X rfl rfl ?_
              refine g_get X rfl flX8_16 (ci := 8) rfl (by (repeat (first | exact hM | exact upA_eq | refine (upA_ne (by omega)).trans ?_))) rfl ?_
              refine g_iload X rfl rfl ?_
              refine g_iconst X rfl (v := nI 2) (by decide) ?_
              refine g_iadd X rfl ?_
              rw [nI_add]
              refine g_iload_n X rfl rfl ?_
              refine g_iastN X rfl (by (repeat (first | exact hn | exact upA_eq | refine (upA_ne (by decide)).trans ?_))) (by omega) (by decide) ?_
              first | rw [upA_up] | skip
              refine g_aload_n X rfl rfl ?_
              refine g_get X rfl flX8_16 (ci := 8) rfl (by (repeat (first | exact hM | exact upA_eq | refine (upA_ne (by omega)).trans ?_))) rfl ?_
              refine g_iload X rfl rfl ?_
              refine g_iconst X rfl (v := nI 3) (by decide) ?_
              refine g_iadd X rfl ?_
              rw [nI_add]
              refine g_iload X rfl rfl ?_
              refine g_iastN X rfl (by (repeat (first | exact hn | exact upA_eq | refine (upA_ne (by decide)).trans ?_))) (by omega) (by decide) ?_
              first | rw [upA_up] | skip
              refine g_aload_n X rfl rfl ?_
              refine g_get X rfl flX8_16 (ci := 8) rfl (by (repeat (first | exact hM | exact upA_eq | refine (upA_ne (by omega)).trans ?_))) rfl ?_
              refine g_iload X rfl rfl ?_
              refine g_iconst X rfl (v := nI 4) (by decide) ?_
              refine g_iadd X rfl ?_
              rw [nI_add]
              refine g_iload X rfl rfl ?_
              refine g_iastN X rfl (by (repeat (first | exact hn | exact upA_eq | refine (upA_ne (by decide)).trans ?_))) (by omega) (by decide) ?_
              first | rw [upA_up] | skip
              refine g_aload_n X rfl rfl ?_
              refine g_get X rfl flX8_16 (ci := 8) rfl (by (repeat (first | exact hM | exact upA_eq | refine (upA_ne (by omega)).trans ?_))) rfl ?_
              refine g_iload X rfl rfl ?_
              refine g_iconst X rfl (v := nI 5) (by decide) ?_
              refine g_iadd X rfl ?_
              rw [nI_add]
              refine g_iconst X rfl (v := nI 0) (by decide) ?_
              refine g_iastN X rfl (by (repeat (first | exact hn | exact upA_eq | refine (upA_ne (by decide)).trans ?_))) (by omega) (by decide) ?_
              first | rw [upA_up] | skip
              refine g_aload_n X rfl rfl ?_
              refine g_get X rfl flX8_16 (ci := 8) rfl (by (repeat (first | exact hM | exact upA_eq | refine (upA_ne (by omega)).trans ?_))) rfl ?_
              refine g_iload X rfl rfl ?_
              refine g_bipush X rfl (v := nI 6) (by decide) ?_
              refine g_iadd X rfl ?_
              rw [nI_add]
              refine g_iload X rfl rfl ?_
              refine g_iconst X rfl (v := (-1)) (by decide) ?_
              refine g_icmp_eq X rfl (fun h16 => ?_) (fun h16 => ?_)
              · refine g_iconst X rfl (v := nI 0) (by decide) ?_
                refine g_iastN X rfl (by (repeat (first | exact hn | exact upA_eq | refine (upA_ne (by decide)).trans ?_))) (by omega) (by decide) ?_
                first | rw [upA_up] | skip
                refine g_aload_n X rfl rfl ?_
                refine g_get X rfl flX8_16 (ci := 8) rfl (by (repeat (first | exact hM | exact upA_eq | refine (upA_ne (by omega)).trans ?_))) rfl ?_
                refine g_bipush X rfl (v := nI 35) (by decide) ?_
                refine g_dup2 X rfl rfl rfl ?_
                refine g_ialdN X rfl upA_eq (by omega) (by decide) ?_
                rw [show (upd (upd (upd (upd (upd (upd (upd r (36 + 7 * S.1.1) kd) (36 + 7 * S.1.1 + 1) cg) (36 + 7 * S.1.1 + 2) am) (36 + 7 * S.1.1 + 3) iv) (36 + 7 * S.1.1 + 4) pd) (36 + 7 * S.1.1 + 5) (nI 0)) (36 + 7 * S.1.1 + 6) (nI 0)) 35 = nI S.1.1 by rw [pk_un (by omega), pk_un (by omega), pk_un (by omega), pk_un (by omega), pk_un (by omega), pk_un (by omega), pk_un (by omega), c35]]
                refine g_iconst X rfl (v := nI 1) (by decide) ?_
                refine g_iadd X rfl ?_
                rw [nI_add]
                refine g_iastN X rfl (by (repeat (first | exact hn | exact upA_eq | refine (upA_ne (by decide)).trans ?_))) (by omega) (by decide) ?_
                first | rw [upA_up] | skip
                refine g_aload_n X rfl rfl ?_
                refine g_get X rfl flX8_16 (ci := 8) rfl (by (repeat (first | exact hM | exact upA_eq | refine (upA_ne (by omega)).trans ?_))) rfl ?_
                refine g_bipush X rfl (v := nI 35) (by decide) ?_
                refine g_ialdN X rfl upA_eq (by omega) (by decide) ?_
                rw [pk_us]
                refine g_iconst X rfl (v := nI 1) (by decide) ?_
                refine g_isub X rfl ?_
                rw [pk_sub (by omega), Nat.add_sub_cancel]
                refine g_iret X rfl rfl (by first | rfl | exact bI_nar _ | decide) (Nat.le_of_ble_eq_true rfl) (Nat.le_of_ble_eq_true rfl) ⟨rfl, ?_⟩
                first | (have e9 : (if pd = -1 ∨ nI S.2.2.2.2.1 ≤ pd / nI 90 then nI 0 else nI 1) = nI 0 := if_pos (Or.inl (by first | assumption | (apply Classical.not_not.mp; assumption))); rw [e9]; exact mG0 (f := f) (by first | (simp_all [ocAddE, isDN_eq, nI_eq, vS, vZ, V9]; done) | (simp_all [ocAddE, isDN_eq, nI_eq, vS, vZ, V9, nI_0, n10]; done) | (simp_all [ocAddE, isDN_eq, nI_eq, vS, vZ, V9, nI_0, n10, ← Int32.not_le]; done) | (simp_all [ocAddE, isDN_eq, nI_eq, vS, vZ, V9, ← Int64.not_le]; done) | (simp_all [ocAddE, isDN_eq, nI_eq, vS, vZ, V9, nI_0, n10, ← Int64.not_le, ← Int32.not_le]; done)) ⟨(by repeat (first | exact hO1 | refine MOff.up ?_ (by decide) (by decide))), hD3.ur _⟩) | (have e9 : (if pd = -1 ∨ nI S.2.2.2.2.1 ≤ pd / nI 90 then nI 0 else nI 1) = nI 0 := if_pos (Or.inr (by assumption)); rw [e9]; exact mG0 (f := f) (by first | (simp_all [ocAddE, isDN_eq, nI_eq, vS, vZ, V9]; done) | (simp_all [ocAddE, isDN_eq, nI_eq, vS, vZ, V9, nI_0, n10]; done) | (simp_all [ocAddE, isDN_eq, nI_eq, vS, vZ, V9, nI_0, n10, ← Int32.not_le]; done) | (simp_all [ocAddE, isDN_eq, nI_eq, vS, vZ, V9, ← Int64.not_le]; done) | (simp_all [ocAddE, isDN_eq, nI_eq, vS, vZ, V9, nI_0, n10, ← Int64.not_le, ← Int32.not_le]; done)) ⟨(by repeat (first | exact hO1 | refine MOff.up ?_ (by decide) (by decide))), hD3.ur _⟩) | (have e9 : (if pd = -1 ∨ nI S.2.2.2.2.1 ≤ pd / nI 90 then nI 0 else nI 1) = nI 1 := if_neg (by rintro (z | z); exact absurd z (by assumption); exact absurd z (by assumption)); rw [e9]; exact mG0 (f := f) (by first | (simp_all [ocAddE, isDN_eq, nI_eq, vS, vZ, V9]; done) | (simp_all [ocAddE, isDN_eq, nI_eq, vS, vZ, V9, nI_0, n10]; done) | (simp_all [ocAddE, isDN_eq, nI_eq, vS, vZ, V9, nI_0, n10, ← Int32.not_le]; done) | (simp_all [ocAddE, isDN_eq, nI_eq, vS, vZ, V9, ← Int64.not_le]; done) | (simp_all [ocAddE, isDN_eq, nI_eq, vS, vZ, V9, nI_0, n10, ← Int64.not_le, ← Int32.not_le]; done)) ⟨(by repeat (first | exact hO1 | refine MOff.up ?_ (by decide) (by decide))), hD3.ur _⟩)
              · refine g_iload X rfl rfl ?_
                refine g_bipush X rfl (v := nI 90) (by decide) ?_
                refine g_idiv X rfl (by decide) ?_
                refine g_aload_n X rfl rfl ?_
                refine g_get X rfl flX8_16 (ci := 8) rfl (by (repeat (first | exact hM | exact upA_eq | refine (upA_ne (by omega)).trans ?_))) rfl ?_
                refine g_sipush X rfl (v := nI 517) (by decide) ?_
                refine g_ialdN X rfl upA_eq (by omega) (by decide) ?_
                rw [show (upd (upd (upd (upd (upd (upd r (36 + 7 * S.1.1) kd) (36 + 7 * S.1.1 + 1) cg) (36 + 7 * S.1.1 + 2) am) (36 + 7 * S.1.1 + 3) iv) (36 + 7 * S.1.1 + 4) pd) (36 + 7 * S.1.1 + 5) (nI 0)) 517 = nI S.2.2.2.2.1 by rw [pk_un (by omega), pk_un (by omega), pk_un (by omega), pk_un (by omega), pk_un (by omega), pk_un (by omega), c517]]
                refine g_icmp_ge X rfl (fun h17 => ?_) (fun h17 => ?_)
                · refine g_iconst X rfl (v := nI 0) (by decide) ?_
                  refine g_iastN X rfl (by (repeat (first | exact hn | exact upA_eq | refine (upA_ne (by decide)).trans ?_))) (by omega) (by decide) ?_
                  first | rw [upA_up] | skip
                  refine g_aload_n X rfl rfl ?_
                  refine g_get X rfl flX8_16 (ci := 8) rfl (by (repeat (first | exact hM | exact upA_eq | refine (upA_ne (by omega)).trans ?_))) rfl ?_
                  refine g_bipush X rfl (v := nI 35) (by decide) ?_
                  refine g_dup2 X rfl rfl rfl ?_
                  refine g_ialdN X rfl upA_eq (by omega) (by decide) ?_
                  rw [show (upd (upd (upd (upd (upd (upd (upd r (36 + 7 * S.1.1) kd) (36 + 7 * S.1.1 + 1) cg) (36 + 7 * S.1.1 + 2) am) (36 + 7 * S.1.1 + 3) iv) (36 + 7 * S.1.1 + 4) pd) (36 + 7 * S.1.1 + 5) (nI 0)) (36 + 7 * S.1.1 + 6) (nI 0)) 35 = nI S.1.1 by rw [pk_un (by omega), pk_un (by omega), pk_un (by omega), pk_un (by omega), pk_un (by omega), pk_un (by omega), pk_un (by omega), c35]]
                  refine g_iconst X rfl (v := nI 1) (by decide) ?_
                  refine g_iadd X rfl ?_
                  rw [nI_add]
                  refine g_iastN X rfl (by (repeat (first | exact hn | exact upA_eq | refine (upA_ne (by decide)).trans ?_))) (by omega) (by decide) ?_
                  first | rw [upA_up] | skip
                  refine g_aload_n X rfl rfl ?_
                  refine g_get X rfl flX8_16 (ci := 8) rfl (by (repeat (first | exact hM | exact upA_eq | refine (upA_ne (by omega)).trans ?_))) rfl ?_
                  refine g_bipush X rfl (v := nI 35) (by decide) ?_
                  refine g_ialdN X rfl upA_eq (by omega) (by decide) ?_
                  rw [pk_us]
                  refine g_iconst X rfl (v := nI 1) (by decide) ?_
                  refine g_isub X rfl ?_
                  rw [pk_sub (by omega), Nat.add_sub_cancel]
                  refine g_iret X rfl rfl (by first | rfl | exact bI_nar _ | decide) (Nat.le_of_ble_eq_true rfl) (Nat.le_of_ble_eq_true rfl) ⟨rfl, ?_⟩
                  first | (have e9 : (if pd = -1 ∨ nI S.2.2.2.2.1 ≤ pd / nI 90 then nI 0 else nI 1) = nI 0 := if_pos (Or.inl (by first | assumption | (apply Classical.not_not.mp; assumption))); rw [e9]; exact mG0 (f := f) (by first | (simp_all [ocAddE, isDN_eq, nI_eq, vS, vZ, V9]; done) | (simp_all [ocAddE, isDN_eq, nI_eq, vS, vZ, V9, nI_0, n10]; done) | (simp_all [ocAddE, isDN_eq, nI_eq, vS, vZ, V9, nI_0, n10, ← Int32.not_le]; done) | (simp_all [ocAddE, isDN_eq, nI_eq, vS, vZ, V9, ← Int64.not_le]; done) | (simp_all [ocAddE, isDN_eq, nI_eq, vS, vZ, V9, nI_0, n10, ← Int64.not_le, ← Int32.not_le]; done)) ⟨(by repeat (first | exact hO1 | refine MOff.up ?_ (by decide) (by decide))), hD3.ur _⟩) | (have e9 : (if pd = -1 ∨ nI S.2.2.2.2.1 ≤ pd / nI 90 then nI 0 else nI 1) = nI 0 := if_pos (Or.inr (by assumption)); rw [e9]; exact mG0 (f := f) (by first | (simp_all [ocAddE, isDN_eq, nI_eq, vS, vZ, V9]; done) | (simp_all [ocAddE, isDN_eq, nI_eq, vS, vZ, V9, nI_0, n10]; done) | (simp_all [ocAddE, isDN_eq, nI_eq, vS, vZ, V9, nI_0, n10, ← Int32.not_le]; done) | (simp_all [ocAddE, isDN_eq, nI_eq, vS, vZ, V9, ← Int64.not_le]; done) | (simp_all [ocAddE, isDN_eq, nI_eq, vS, vZ, V9, nI_0, n10, ← Int64.not_le, ← Int32.not_le]; done)) ⟨(by repeat (first | exact hO1 | refine MOff.up ?_ (by decide) (by decide))), hD3.ur _⟩) | (have e9 : (if pd = -1 ∨ nI S.2.2.2.2.1 ≤ pd / nI 90 then nI 0 else nI 1) = nI 1 := if_neg (by rintro (z | z); exact absurd z (by assumption); exact absurd z (by assumption)); rw [e9]; exact mG0 (f := f) (by first | (simp_all [ocAddE, isDN_eq, nI_eq, vS, vZ, V9]; done) | (simp_all [ocAddE, isDN_eq, nI_eq, vS, vZ, V9, nI_0, n10]; done) | (simp_all [ocAddE, isDN_eq, nI_eq, vS, vZ, V9, nI_0, n10, ← Int32.not_le]; done) | (simp_all [ocAddE, isDN_eq, nI_eq, vS, vZ, V9, ← Int64.not_le]; done) | (simp_all [ocAddE, isDN_eq, nI_eq, vS, vZ, V9, nI_0, n10, ← Int64.not_le, ← Int32.not_le]; done)) ⟨(by repeat (first | exact hO1 | refine MOff.up ?_ (by decide) (by decide))), hD3.ur _⟩)
                · refine g_iconst X rfl (v := nI 1) (by decide) ?_
                  refine g_goto X rfl ?_
                  refine g_iastN X rfl (by (repeat (first | exact hn | exact upA_eq | refine (upA_ne (by decide)).trans ?_))) (by omega) (by decide) ?_
                  first | rw [upA_up] | skip
                  refine g_aload_n X rfl rfl ?_
                  refine g_get X rfl flX8_16 (ci := 8) rfl (by (repeat (first | exact hM | exact upA_eq | refine (upA_ne (by omega)).trans ?_))) rfl ?_
                  refine g_bipush X rfl (v := nI 35) (by decide) ?_
                  refine g_dup2 X rfl rfl rfl ?_
                  refine g_ialdN X rfl upA_eq (by omega) (by decide) ?_
                  rw [show (upd (upd (upd (upd (upd (upd (upd r (36 + 7 * S.1.1) kd) (36 + 7 * S.1.1 + 1) cg) (36 + 7 * S.1.1 + 2) am) (36 + 7 * S.1.1 + 3) iv) (36 + 7 * S.1.1 + 4) pd) (36 + 7 * S.1.1 + 5) (nI 0)) (36 + 7 * S.1.1 + 6) (nI 1)) 35 = nI S.1.1 by rw [pk_un (by omega), pk_un (by omega), pk_un (by omega), pk_un (by omega), pk_un (by omega), pk_un (by omega), pk_un (by omega), c35]]
                  refine g_iconst X rfl (v := nI 1) (by decide) ?_
                  refine g_iadd X rfl ?_
                  rw [nI_add]
                  refine g_iastN X rfl (by (repeat (first | exact hn | exact upA_eq | refine (upA_ne (by decide)).trans ?_))) (by omega) (by decide) ?_
                  first | rw [upA_up] | skip
                  refine g_aload_n X rfl rfl ?_
                  refine g_get X rfl flX8_16 (ci := 8) rfl (by (repeat (first | exact hM | exact upA_eq | refine (upA_ne (by omega)).trans ?_))) rfl ?_
                  refine g_bipush X rfl (v := nI 35) (by decide) ?_
                  refine g_ialdN X rfl upA_eq (by omega) (by decide) ?_
                  rw [pk_us]
                  refine g_iconst X rfl (v := nI 1) (by decide) ?_
                  refine g_isub X rfl ?_
                  rw [pk_sub (by omega), Nat.add_sub_cancel]
                  refine g_iret X rfl rfl (by first | rfl | exact bI_nar _ | decide) (Nat.le_of_ble_eq_true rfl) (Nat.le_of_ble_eq_true rfl) ⟨rfl, ?_⟩
                  first | (have e9 : (if pd = -1 ∨ nI S.2.2.2.2.1 ≤ pd / nI 90 then nI 0 else nI 1) = nI 0 := if_pos (Or.inl (by first | assumption | (apply Classical.not_not.mp; assumption))); rw [e9]; exact mG0 (f := f) (by first | (simp_all [ocAddE, isDN_eq, nI_eq, vS, vZ, V9]; done) | (simp_all [ocAddE, isDN_eq, nI_eq, vS, vZ, V9, nI_0, n10]; done) | (simp_all [ocAddE, isDN_eq, nI_eq, vS, vZ, V9, nI_0, n10, ← Int32.not_le]; done) | (simp_all [ocAddE, isDN_eq, nI_eq, vS, vZ, V9, ← Int64.not_le]; done) | (simp_all [ocAddE, isDN_eq, nI_eq, vS, vZ, V9, nI_0, n10, ← Int64.not_le, ← Int32.not_le]; done)) ⟨(by repeat (first | exact hO1 | refine MOff.up ?_ (by decide) (by decide))), hD3.ur _⟩) | (have e9 : (if pd = -1 ∨ nI S.2.2.2.2.1 ≤ pd / nI 90 then nI 0 else nI 1) = nI 0 := if_pos (Or.inr (by assumption)); rw [e9]; exact mG0 (f := f) (by first | (simp_all [ocAddE, isDN_eq, nI_eq, vS, vZ, V9]; done) | (simp_all [ocAddE, isDN_eq, nI_eq, vS, vZ, V9, nI_0, n10]; done) | (simp_all [ocAddE, isDN_eq, nI_eq, vS, vZ, V9, nI_0, n10, ← Int32.not_le]; done) | (simp_all [ocAddE, isDN_eq, nI_eq, vS, vZ, V9, ← Int64.not_le]; done) | (simp_all [ocAddE, isDN_eq, nI_eq, vS, vZ, V9, nI_0, n10, ← Int64.not_le, ← Int32.not_le]; done)) ⟨(by repeat (first | exact hO1 | refine MOff.up ?_ (by decide) (by decide))), hD3.ur _⟩) | (have e9 : (if pd = -1 ∨ nI S.2.2.2.2.1 ≤ pd / nI 90 then nI 0 else nI 1) = nI 1 := if_neg (by rintro (z | z); exact absurd z (by assumption); exact absurd z (by assumption)); rw [e9]; exact mG0 (f := f) (by first | (simp_all [ocAddE, isDN_eq, nI_eq, vS, vZ, V9]; done) | (simp_all [ocAddE, isDN_eq, nI_eq, vS, vZ, V9, nI_0, n10]; done) | (simp_all [ocAddE, isDN_eq, nI_eq, vS, vZ, V9, nI_0, n10, ← Int32.not_le]; done) | (simp_all [ocAddE, isDN_eq, nI_eq, vS, vZ, V9, ← Int64.not_le]; done) | (simp_all [ocAddE, isDN_eq, nI_eq, vS, vZ, V9, nI_0, n10, ← Int64.not_le, ← Int32.not_le]; done)) ⟨(by repeat (first | exact hO1 | refine MOff.up ?_ (by decide) (by decide))), hD3.ur _⟩)
set_option maxRecDepth 100000 in
set_option maxHeartbeats 400000 in
theorem cm_X8_addRoom (l : Launch) (D : va_G) (cy : Nat → ClassId) (B : Nat) (od : Nat → Option Nat) {A : AH} {f : MF} {r : Nat → Int32} {Z : SV} {S : StV} (hm : MdR cy A f r Z S) (hg : Rng Z S) (hgz : RngZ Z) {mb rd sv hy : Nat → Int32} (hD : MdA cy A f mb rd r sv hy) (hE : f.2.2.1 ≤ 8)  {ar : Int32} : CM l D cy B od yX8_addRoom cX8_addRoom 3 (some .int) rmX8_addRoom [.ref 231, .int ar] A (fun v A' => v = some (mV (.int (nI 0)) (ocAddR (V9 Z S) ar)) ∧ ((∃ E, (ocAddR (V9 Z S) ar) = .inl E ∧ A' = upA A 231 (moE (nI (cX [eIAE, eISE] (ocAddR (V9 Z S) ar)), f.2))) ∨ ((∃ y9, (ocAddR (V9 Z S) ar) = .inr y9) ∧ (MOff A A' ∧ MdA cy A' (fN (nI 0, f.2) (recN f.2.2.1)) (mb) (rd) (upd (upd (upd (upd r (17 + 3 * S.2.1.1) ar) (17 + 3 * S.2.1.1 + 1) (-1)) (17 + 3 * S.2.1.1 + 2) (-1)) 16 (nI (S.2.1.1 + 1))) (sv) (recH hy f.2.2.1 r))))) := by
  intro z
  refine CT.of (by decide) tX8_addRoom okX8_addRoom (Nat.le_of_ble_eq_true rfl) (q0 := tX8_addRoom[0]) rfl rfl ?_
  intro p e s m args below meth c X _
  have hM := hm.1
  refine g_aload_n X rfl rfl ?_
  refine g_iconst X rfl (v := nI 0) (by decide) ?_
  refine g_put X rfl flX8_41 rfl (ci := 8) rfl (by (repeat (first | exact hM | exact upA_eq | refine (upA_ne (by omega)).trans ?_))) (Nat.le_of_ble_eq_true rfl) (by first | rfl | exact bI_nar _) (by first | rfl | decide) ?_
  refine G.cast (A2 := upA A 231 (moE (nI 0, f.2))) rfl ?_
  obtain ⟨A1, hA1⟩ : ∃ A1, A1 = upA A 231 (moE (nI 0, f.2)) := ⟨_, rfl⟩
  refine G.cast (A2 := A1) hA1.symm ?_
  have hm := hm.thr (nI 0)
  rw [← hA1] at hm
  obtain ⟨hM, hn, hc, hw, hwb, hz⟩ := id hm
  obtain ⟨c0, ⟨c1, c2, c3, c4, c5⟩, cb, ⟨c16, cr⟩, ⟨c35, ce⟩, ⟨c456, ca⟩, c517, cp⟩ := id hc
  obtain ⟨w1, w2, w3, w4, w5⟩ := id hw
  have hD := hD.uf (nI 0, f.2)
  rw [← hA1] at hD
  obtain ⟨hM, hb, hr, hn, hs, hh, -⟩ := id hD
  have hO1 := MOff.r1 hA1
  refine g_aload_n X rfl rfl ?_
  refine g_iload_n X rfl rfl ?_
  refine g_i2l X rfl ?_
  refine g_lconst X rfl (v := 1) (by decide) ?_
  refine g_ldc2 X rfl kcX8_216 ?_
  refine g_rS X rfl lcX8_in lmX8_56 stX8_in (cr_X8_in l D cy B od) rfl rfl (Nat.le_of_ble_eq_true rfl) ⟨⟨by decide, by decide⟩, rfl, rfl⟩ ⟨Nat.le_of_ble_eq_true rfl, Nat.le_of_ble_eq_true rfl⟩ ?_
  rw [in64 (lo := nI 1) (hi := nI 500) (by decide) (by decide)]
  refine g_iconst X rfl (v := nI 1) (by decide) ?_
  refine g_mV X rfl lcX8_fails lmX8_52 lsX8_fails (cm_X8_failsB l D cy B od (by (repeat (first | exact hM | exact upA_eq | refine (upA_ne (by omega)).trans ?_)))) (ci := 8) (by (repeat (first | exact hM | exact upA_eq | refine (upA_ne (by omega)).trans ?_))) rfl rfl rfl (Nat.le_of_ble_eq_true rfl) ⟨⟨by decide, by decide⟩, rfl, rfl⟩ ⟨Nat.le_of_ble_eq_true rfl, Nat.le_of_ble_eq_true rfl⟩ (fun v1 A1 q1 => ?_)
  rcases q1 with ⟨h1, rfl, rfl⟩ | ⟨h1, rfl, rfl⟩
  · refine g_if_ne X rfl (fun h => absurd nI_0 h) (fun _ => ?_)
    refine g_aload_n X rfl rfl ?_
    refine g_aload_n X rfl rfl ?_
    refine g_get X rfl flX8_16 (ci := 8) rfl (by (repeat (first | exact hM | exact upA_eq | refine (upA_ne (by omega)).trans ?_))) rfl ?_
    refine g_bipush X rfl (v := nI 16) (by decide) ?_
    refine g_ialdN X rfl (by (repeat (first | exact hn | exact upA_eq | refine (upA_ne (by omega)).trans ?_))) (by omega) (by decide) ?_
    rw [c16]
    refine g_bipush X rfl (v := nI 6) (by decide) ?_
    first | refine g_ic_geN X rfl (by omega) (by omega) (fun h2 => ?_) (fun h2 => ?_) | refine g_icmp_ge X rfl (fun h2 => ?_) (fun h2 => ?_)
    · refine g_iconst X rfl (v := nI 0) (by decide) ?_
      refine g_iconst X rfl (v := nI 2) (by decide) ?_
      refine g_mV X rfl lcX8_fails lmX8_52 lsX8_fails (cm_X8_fails0 l D cy B od (by (repeat (first | exact hM | exact upA_eq | refine (upA_ne (by omega)).trans ?_)))) (ci := 8) (by (repeat (first | exact hM | exact upA_eq | refine (upA_ne (by omega)).trans ?_))) rfl rfl rfl (Nat.le_of_ble_eq_true rfl) ⟨⟨by decide, by decide⟩, rfl, rfl⟩ ⟨Nat.le_of_ble_eq_true rfl, Nat.le_of_ble_eq_true rfl⟩ (fun v3 A3 q3 => ?_)
      obtain ⟨rfl, rfl⟩ := q3
      refine g_if_eq X rfl (fun h => absurd h n10) (fun _ => ?_)
      refine g_iconst X rfl (v := nI 0) (by decide) ?_
      refine g_iret X rfl rfl (by first | rfl | exact bI_nar _ | decide) (Nat.le_of_ble_eq_true rfl) (Nat.le_of_ble_eq_true rfl) ⟨rfl, ?_⟩
      exact mBx (E := eISE) (by first | (simp_all [ocAddR, nI_eq, vS, vZ, V9]; done) | (simp_all [ocAddR, nI_eq, vS, vZ, V9, nI_0, n10]; done) | (simp_all [ocAddR, nI_eq, vS, vZ, V9, nI_0, n10, ← Int32.not_le]; done) | (simp_all [ocAddR, nI_eq, vS, vZ, V9, ← Int64.not_le]; done) | (simp_all [ocAddR, nI_eq, vS, vZ, V9, nI_0, n10, ← Int64.not_le, ← Int32.not_le]; done)) (by decide) hA1
    · refine g_iconst X rfl (v := nI 1) (by decide) ?_
      refine g_goto X rfl ?_
      refine g_iconst X rfl (v := nI 2) (by decide) ?_
      refine g_mV X rfl lcX8_fails lmX8_52 lsX8_fails (cm_X8_fails1 l D cy B od (by (repeat (first | exact hM | exact upA_eq | refine (upA_ne (by omega)).trans ?_)))) (ci := 8) (by (repeat (first | exact hM | exact upA_eq | refine (upA_ne (by omega)).trans ?_))) rfl rfl rfl (Nat.le_of_ble_eq_true rfl) ⟨⟨by decide, by decide⟩, rfl, rfl⟩ ⟨Nat.le_of_ble_eq_true rfl, Nat.le_of_ble_eq_true rfl⟩ (fun v4 A4 q4 => ?_)
      obtain ⟨rfl, rfl⟩ := q4
      refine g_if_eq X rfl (fun _ => ?_) (fun h => absurd nI_0 h) 
      refine g_aload_n X rfl rfl ?_
      refine g_mV X rfl lcX8_record lmX8_193 lsX8_record (cm_X8_record l D cy B od hD hE) (ci := 8) (by (repeat (first | exact hM | exact upA_eq | refine (upA_ne (by omega)).trans ?_))) rfl rfl rfl (Nat.le_of_ble_eq_true rfl) ⟨⟨by decide, by decide⟩, rfl, rfl⟩ ⟨Nat.le_of_ble_eq_true rfl, Nat.le_of_ble_eq_true rfl⟩ (fun v5 A5 q5 => ?_)
      obtain ⟨rfl, rfl⟩ := q5
      have hD3 := (hD.uhi (recH hy f.2.2.1 r)).uf (fN (nI 0, f.2) (recN f.2.2.1))
      obtain ⟨hM, hb, hr, hn, hs, hh, -⟩ := id hD3
      refine g_bipush X rfl (v := nI 17) (by decide) ?_
      refine g_iconst X rfl (v := nI 3) (by decide) ?_
      refine g_aload_n X rfl rfl ?_
      refine g_get X rfl flX8_16 (ci := 8) rfl (by (repeat (first | exact hM | exact upA_eq | refine (upA_ne (by omega)).trans ?_))) rfl ?_
      refine g_bipush X rfl (v := nI 16) (by decide) ?_
      refine g_ialdN X rfl (by (repeat (first | exact hn | exact upA_eq | refine (upA_ne (by omega)).trans ?_))) (by omega) (by decide) ?_
      rw [c16]
      refine g_imul X rfl ?_
      refine g_iadd X rfl ?_
      rw [pk_mul, nI_add]
      refine g_istore_n X rfl (by decide) ?_
      refine g_aload_n X rfl rfl ?_
      refine g_get X rfl flX8_16 (ci := 8) rfl (by (repeat (first | exact hM | exact upA_eq | refine (upA_ne (by omega)).trans ?_))) rfl ?_
      refine g_iload_n X rfl rfl ?_
      refine g_iconst X rfl (v := nI 0) (by decide) ?_
      refine g_iadd X rfl ?_
      rw [show nI (17 + 3 * S.2.1.1) + nI 0 = nI (17 + 3 * S.2.1.1) by rw [nI_add, Nat.add_zero]]
      refine g_iload_n X rfl rfl ?_
      refine g_iastN X rfl (by (repeat (first | exact hn | exact upA_eq | refine (upA_ne (by decide)).trans ?_))) (by omega) (by decide) ?_
      first | rw [upA_up] | skip
      refine g_aload_n X rfl rfl ?_
      refine g_get X rfl flX8_16 (ci := 8) rfl (by (repeat (first | exact hM | exact upA_eq | refine (upA_ne (by omega)).trans ?_))) rfl ?_
      refine g_iload_n X rfl rfl ?_
      refine g_iconst X rfl (v := nI 1) (by decide) ?_
      refine g_iadd X rfl ?_
      rw [nI_add]
      refine g_iconst X rfl (v := (-1)) (by decide) ?_
      refine g_iastN X rfl (by (repeat (first | exact hn | exact upA_eq | refine (upA_ne (by decide)).trans ?_))) (by omega) (by decide) ?_
      first | rw [upA_up] | skip
      refine g_aload_n X rfl rfl ?_
      refine g_get X rfl flX8_16 (ci := 8) rfl (by (repeat (first | exact hM | exact upA_eq | refine (upA_ne (by omega)).trans ?_))) rfl ?_
      refine g_iload_n X rfl rfl ?_
      refine g_iconst X rfl (v := nI 2) (by decide) ?_
      refine g_iadd X rfl ?_
      rw [nI_add]
      refine g_iconst X rfl (v := (-1)) (by decide) ?_
      refine g_iastN X rfl (by (repeat (first | exact hn | exact upA_eq | refine (upA_ne (by decide)).trans ?_))) (by omega) (by decide) ?_
      first | rw [upA_up] | skip
      refine g_aload_n X rfl rfl ?_
      refine g_get X rfl flX8_16 (ci := 8) rfl (by (repeat (first | exact hM | exact upA_eq | refine (upA_ne (by omega)).trans ?_))) rfl ?_
      refine g_bipush X rfl (v := nI 16) (by decide) ?_
      refine g_dup2 X rfl rfl rfl ?_
      refine g_ialdN X rfl upA_eq (by omega) (by decide) ?_
      rw [show (upd (upd (upd r (17 + 3 * S.2.1.1) ar) (17 + 3 * S.2.1.1 + 1) (-1)) (17 + 3 * S.2.1.1 + 2) (-1)) 16 = nI S.2.1.1 by rw [pk_un (by omega), pk_un (by omega), pk_un (by omega), c16]]
      refine g_iconst X rfl (v := nI 1) (by decide) ?_
      refine g_iadd X rfl ?_
      rw [nI_add]
      refine g_iastN X rfl (by (repeat (first | exact hn | exact upA_eq | refine (upA_ne (by decide)).trans ?_))) (by omega) (by decide) ?_
      first | rw [upA_up] | skip
      refine g_aload_n X rfl rfl ?_
      refine g_get X rfl flX8_16 (ci := 8) rfl (by (repeat (first | exact hM | exact upA_eq | refine (upA_ne (by omega)).trans ?_))) rfl ?_
      refine g_bipush X rfl (v := nI 16) (by decide) ?_
      refine g_ialdN X rfl upA_eq (by omega) (by decide) ?_
      rw [pk_us]
      refine g_iconst X rfl (v := nI 1) (by decide) ?_
      refine g_isub X rfl ?_
      rw [pk_sub (by omega), Nat.add_sub_cancel]
      refine g_iret X rfl rfl (by first | rfl | exact bI_nar _ | decide) (Nat.le_of_ble_eq_true rfl) (Nat.le_of_ble_eq_true rfl) ⟨rfl, ?_⟩
      exact mG0 (f := f) (by first | (simp_all [ocAddR, nI_eq, vS, vZ, V9]; done) | (simp_all [ocAddR, nI_eq, vS, vZ, V9, nI_0, n10]; done) | (simp_all [ocAddR, nI_eq, vS, vZ, V9, nI_0, n10, ← Int32.not_le]; done) | (simp_all [ocAddR, nI_eq, vS, vZ, V9, ← Int64.not_le]; done) | (simp_all [ocAddR, nI_eq, vS, vZ, V9, nI_0, n10, ← Int64.not_le, ← Int32.not_le]; done)) (⟨(by repeat (first | exact hO1 | refine MOff.up ?_ (by decide) (by decide))), hD3.ur _⟩)
  · refine g_if_ne X rfl (fun _ => ?_) (fun h => absurd h n10) 
    refine g_iconst X rfl (v := nI 0) (by decide) ?_
    refine g_iret X rfl rfl (by first | rfl | exact bI_nar _ | decide) (Nat.le_of_ble_eq_true rfl) (Nat.le_of_ble_eq_true rfl) ⟨rfl, ?_⟩
    exact mBx (E := eIAE) (by first | (simp_all [ocAddR, nI_eq, vS, vZ, V9]; done) | (simp_all [ocAddR, nI_eq, vS, vZ, V9, nI_0, n10]; done) | (simp_all [ocAddR, nI_eq, vS, vZ, V9, nI_0, n10, ← Int32.not_le]; done) | (simp_all [ocAddR, nI_eq, vS, vZ, V9, ← Int64.not_le]; done) | (simp_all [ocAddR, nI_eq, vS, vZ, V9, nI_0, n10, ← Int64.not_le, ← Int32.not_le]; done)) (by decide) hA1
set_option maxRecDepth 100000 in
set_option maxHeartbeats 400000 in
theorem cm_X8_setOffice (l : Launch) (D : va_G) (cy : Nat → ClassId) (B : Nat) (od : Nat → Option Nat) {A : AH} {f : MF} {r : Nat → Int32} {Z : SV} {S : StV} (hm : MdR cy A f r Z S) (hg : Rng Z S) (hgz : RngZ Z) {mb rd sv hy : Nat → Int32} (hD : MdA cy A f mb rd r sv hy) (hE : f.2.2.1 ≤ 8)  {x f9 t9 : Int32} : CM l D cy B od yX8_setOffice cX8_setOffice 5 (some .int) rmX8_setOffice [.ref 231, .int x, .int f9, .int t9] A (fun v A' => v = some (mV (.int (nI 0)) (ocOff (V9 Z S) x f9 t9)) ∧ ((∃ E, (ocOff (V9 Z S) x f9 t9) = .inl E ∧ A' = upA A 231 (moE (nI (cX [eIOB, eIAE] (ocOff (V9 Z S) x f9 t9)), f.2))) ∨ ((∃ y9, (ocOff (V9 Z S) x f9 t9) = .inr y9) ∧ (MOff A A' ∧ MdA cy A' (fN (nI 0, f.2) (recN f.2.2.1)) (mb) (rd) (upd (upd r (17 + 3 * x.toNatClampNeg + 1) f9) (17 + 3 * x.toNatClampNeg + 2) (if f9 = -1 then -1 else t9)) (sv) (recH hy f.2.2.1 r))))) := by
  intro z
  refine CT.of (by decide) tX8_setOffice okX8_setOffice (Nat.le_of_ble_eq_true rfl) (q0 := tX8_setOffice[0]) rfl rfl ?_
  intro p e s m args below meth c X _
  have hM := hm.1
  refine g_aload_n X rfl rfl ?_
  refine g_iconst X rfl (v := nI 0) (by decide) ?_
  refine g_put X rfl flX8_41 rfl (ci := 8) rfl (by (repeat (first | exact hM | exact upA_eq | refine (upA_ne (by omega)).trans ?_))) (Nat.le_of_ble_eq_true rfl) (by first | rfl | exact bI_nar _) (by first | rfl | decide) ?_
  refine G.cast (A2 := upA A 231 (moE (nI 0, f.2))) rfl ?_
  obtain ⟨A1, hA1⟩ : ∃ A1, A1 = upA A 231 (moE (nI 0, f.2)) := ⟨_, rfl⟩
  refine G.cast (A2 := A1) hA1.symm ?_
  have hm := hm.thr (nI 0)
  rw [← hA1] at hm
  obtain ⟨hM, hn, hc, hw, hwb, hz⟩ := id hm
  obtain ⟨c0, ⟨c1, c2, c3, c4, c5⟩, cb, ⟨c16, cr⟩, ⟨c35, ce⟩, ⟨c456, ca⟩, c517, cp⟩ := id hc
  obtain ⟨w1, w2, w3, w4, w5⟩ := id hw
  have hD := hD.uf (nI 0, f.2)
  rw [← hA1] at hD
  obtain ⟨hM, hb, hr, hn, hs, hh, -⟩ := id hD
  have hO1 := MOff.r1 hA1
  refine g_aload_n X rfl rfl ?_
  refine g_aload_n X rfl rfl ?_
  refine g_iload_n X rfl rfl ?_
  refine g_rV X rfl lcX8_isRoom lmX8_218 lsX8_isRoom (cr_X8_isRoom l D cy B od hm) (ci := 8) (by (repeat (first | exact hM | exact upA_eq | refine (upA_ne (by omega)).trans ?_))) rfl rfl rfl (Nat.le_of_ble_eq_true rfl) ⟨⟨by decide, by decide⟩, rfl, rfl⟩ ⟨Nat.le_of_ble_eq_true rfl, Nat.le_of_ble_eq_true rfl⟩ ?_
  refine g_iconst X rfl (v := nI 1) (by decide) ?_
  refine g_mV X rfl lcX8_fails lmX8_52 lsX8_fails (cm_X8_failsB l D cy B od (by (repeat (first | exact hM | exact upA_eq | refine (upA_ne (by omega)).trans ?_)))) (ci := 8) (by (repeat (first | exact hM | exact upA_eq | refine (upA_ne (by omega)).trans ?_))) rfl rfl rfl (Nat.le_of_ble_eq_true rfl) ⟨⟨by decide, by decide⟩, rfl, rfl⟩ ⟨Nat.le_of_ble_eq_true rfl, Nat.le_of_ble_eq_true rfl⟩ (fun v1 A1 q1 => ?_)
  rcases q1 with ⟨h1, rfl, rfl⟩ | ⟨h1, rfl, rfl⟩
  · obtain ⟨i9, hi9, e9⟩ := ix_of (by simpa using h1) (by omega)
    subst e9
    have hcl := nI_clamp (n := i9) (by omega)
    refine g_if_ne X rfl (fun h => absurd nI_0 h) (fun _ => ?_)
    refine g_aload_n X rfl rfl ?_
    refine g_iload_n X rfl rfl ?_
    refine g_iconst X rfl (v := (-1)) (by decide) ?_
    refine g_icmp_eq X rfl (fun h2 => ?_) (fun h2 => ?_)
    · refine g_iconst X rfl (v := nI 1) (by decide) ?_
      refine g_goto X rfl ?_
      refine g_iconst X rfl (v := nI 2) (by decide) ?_
      refine g_mV X rfl lcX8_fails lmX8_52 lsX8_fails (cm_X8_fails1 l D cy B od (by (repeat (first | exact hM | exact upA_eq | refine (upA_ne (by omega)).trans ?_)))) (ci := 8) (by (repeat (first | exact hM | exact upA_eq | refine (upA_ne (by omega)).trans ?_))) rfl rfl rfl (Nat.le_of_ble_eq_true rfl) ⟨⟨by decide, by decide⟩, rfl, rfl⟩ ⟨Nat.le_of_ble_eq_true rfl, Nat.le_of_ble_eq_true rfl⟩ (fun v3 A3 q3 => ?_)
      obtain ⟨rfl, rfl⟩ := q3
      refine g_if_eq X rfl (fun _ => ?_) (fun h => absurd nI_0 h) 
      refine g_aload_n X rfl rfl ?_
      refine g_iload_n X rfl rfl ?_
      refine g_iconst X rfl (v := nI 0) (by decide) ?_
      refine g_sipush X rfl (v := nI 359) (by decide) ?_
      refine g_rV X rfl lcX8_usedDays lmX8_221 lsX8_usedDays (cr_X8_usedDays l D cy B od hm hg (f0 := 0) (t0 := 359) (by omega) (by omega) (by omega)) (ci := 8) (by (repeat (first | exact hM | exact upA_eq | refine (upA_ne (by omega)).trans ?_))) rfl rfl rfl (Nat.le_of_ble_eq_true rfl) ⟨⟨by decide, by decide⟩, rfl, rfl⟩ ⟨Nat.le_of_ble_eq_true rfl, Nat.le_of_ble_eq_true rfl⟩ ?_
      refine g_istore X rfl (by decide) ?_
      refine g_aload_n X rfl rfl ?_
      refine g_mV X rfl lcX8_record lmX8_193 lsX8_record (cm_X8_record l D cy B od hD hE) (ci := 8) (by (repeat (first | exact hM | exact upA_eq | refine (upA_ne (by omega)).trans ?_))) rfl rfl rfl (Nat.le_of_ble_eq_true rfl) ⟨⟨by decide, by decide⟩, rfl, rfl⟩ ⟨Nat.le_of_ble_eq_true rfl, Nat.le_of_ble_eq_true rfl⟩ (fun v4 A4 q4 => ?_)
      obtain ⟨rfl, rfl⟩ := q4
      have hD3 := (hD.uhi (recH hy f.2.2.1 r)).uf (fN (nI 0, f.2) (recN f.2.2.1))
      obtain ⟨hM, hb, hr, hn, hs, hh, -⟩ := id hD3
      refine g_aload_n X rfl rfl ?_
      refine g_get X rfl flX8_16 (ci := 8) rfl (by (repeat (first | exact hM | exact upA_eq | refine (upA_ne (by omega)).trans ?_))) rfl ?_
      refine g_bipush X rfl (v := nI 17) (by decide) ?_
      refine g_iconst X rfl (v := nI 3) (by decide) ?_
      refine g_iload_n X rfl rfl ?_
      refine g_imul X rfl ?_
      refine g_iadd X rfl ?_
      refine g_iconst X rfl (v := nI 1) (by decide) ?_
      refine g_iadd X rfl ?_
      rw [pk_mul, nI_add, nI_add]
      refine g_iload_n X rfl rfl ?_
      refine g_iastN X rfl (by (repeat (first | exact hn | exact upA_eq | refine (upA_ne (by decide)).trans ?_))) (by omega) (by decide) ?_
      first | rw [upA_up] | skip
      refine g_aload_n X rfl rfl ?_
      refine g_get X rfl flX8_16 (ci := 8) rfl (by (repeat (first | exact hM | exact upA_eq | refine (upA_ne (by omega)).trans ?_))) rfl ?_
      refine g_bipush X rfl (v := nI 17) (by decide) ?_
      refine g_iconst X rfl (v := nI 3) (by decide) ?_
      refine g_iload_n X rfl rfl ?_
      refine g_imul X rfl ?_
      refine g_iadd X rfl ?_
      refine g_iconst X rfl (v := nI 2) (by decide) ?_
      refine g_iadd X rfl ?_
      rw [pk_mul, nI_add, nI_add]
      refine g_iload_n X rfl rfl ?_
      refine g_iconst X rfl (v := (-1)) (by decide) ?_
      refine g_icmp_ne X rfl (fun h5 => ?_) (fun h5 => ?_)
      · refine g_iload_n X rfl rfl ?_
        refine g_iastN X rfl (by (repeat (first | exact hn | exact upA_eq | refine (upA_ne (by decide)).trans ?_))) (by omega) (by decide) ?_
        first | rw [upA_up] | skip
        refine g_iload X rfl rfl ?_
        refine g_iret X rfl rfl (by first | rfl | exact bI_nar _ | decide) (Nat.le_of_ble_eq_true rfl) (Nat.le_of_ble_eq_true rfl) ⟨rfl, ?_⟩
        rw [hcl]
        first | (rw [if_neg (show ¬ f9 = -1 from by assumption)]; exact mG0 (f := f) (by first | (simp_all [ocOff, nI_eq, vS, vZ, V9]; done) | (simp_all [ocOff, nI_eq, vS, vZ, V9, nI_0, n10]; done) | (simp_all [ocOff, nI_eq, vS, vZ, V9, nI_0, n10, ← Int32.not_le]; done) | (simp_all [ocOff, nI_eq, vS, vZ, V9, ← Int64.not_le]; done) | (simp_all [ocOff, nI_eq, vS, vZ, V9, nI_0, n10, ← Int64.not_le, ← Int32.not_le]; done)) ⟨(by repeat (first | exact hO1 | refine MOff.up ?_ (by decide) (by decide))), hD3.ur _⟩) | (rw [if_pos (show f9 = -1 from by first | assumption | (apply Classical.not_not.mp; assumption))]; exact mG0 (f := f) (by first | (simp_all [ocOff, nI_eq, vS, vZ, V9]; done) | (simp_all [ocOff, nI_eq, vS, vZ, V9, nI_0, n10]; done) | (simp_all [ocOff, nI_eq, vS, vZ, V9, nI_0, n10, ← Int32.not_le]; done) | (simp_all [ocOff, nI_eq, vS, vZ, V9, ← Int64.not_le]; done) | (simp_all [ocOff, nI_eq, vS, vZ, V9, nI_0, n10, ← Int64.not_le, ← Int32.not_le]; done)) ⟨(by repeat (first | exact hO1 | refine MOff.up ?_ (by decide) (by decide))), hD3.ur _⟩)
      · refine g_iconst X rfl (v := (-1)) (by decide) ?_
        refine g_goto X rfl ?_
        refine g_iastN X rfl (by (repeat (first | exact hn | exact upA_eq | refine (upA_ne (by decide)).trans ?_))) (by omega) (by decide) ?_
        first | rw [upA_up] | skip
        refine g_iload X rfl rfl ?_
        refine g_iret X rfl rfl (by first | rfl | exact bI_nar _ | decide) (Nat.le_of_ble_eq_true rfl) (Nat.le_of_ble_eq_true rfl) ⟨rfl, ?_⟩
        rw [hcl]
        first | (rw [if_neg (show ¬ f9 = -1 from by assumption)]; exact mG0 (f := f) (by first | (simp_all [ocOff, nI_eq, vS, vZ, V9]; done) | (simp_all [ocOff, nI_eq, vS, vZ, V9, nI_0, n10]; done) | (simp_all [ocOff, nI_eq, vS, vZ, V9, nI_0, n10, ← Int32.not_le]; done) | (simp_all [ocOff, nI_eq, vS, vZ, V9, ← Int64.not_le]; done) | (simp_all [ocOff, nI_eq, vS, vZ, V9, nI_0, n10, ← Int64.not_le, ← Int32.not_le]; done)) ⟨(by repeat (first | exact hO1 | refine MOff.up ?_ (by decide) (by decide))), hD3.ur _⟩) | (rw [if_pos (show f9 = -1 from by first | assumption | (apply Classical.not_not.mp; assumption))]; exact mG0 (f := f) (by first | (simp_all [ocOff, nI_eq, vS, vZ, V9]; done) | (simp_all [ocOff, nI_eq, vS, vZ, V9, nI_0, n10]; done) | (simp_all [ocOff, nI_eq, vS, vZ, V9, nI_0, n10, ← Int32.not_le]; done) | (simp_all [ocOff, nI_eq, vS, vZ, V9, ← Int64.not_le]; done) | (simp_all [ocOff, nI_eq, vS, vZ, V9, nI_0, n10, ← Int64.not_le, ← Int32.not_le]; done)) ⟨(by repeat (first | exact hO1 | refine MOff.up ?_ (by decide) (by decide))), hD3.ur _⟩)
    · refine g_iload_n X rfl rfl ?_
      refine g_rS X rfl lcX8_isDay lmX8_204 stX8_isDay (cr_X8_isDay l D cy B od) rfl rfl (Nat.le_of_ble_eq_true rfl) ⟨⟨by decide, by decide⟩, rfl, rfl⟩ ⟨Nat.le_of_ble_eq_true rfl, Nat.le_of_ble_eq_true rfl⟩ ?_
      first | refine g_if_eqB X rfl (fun h6 => ?_) (fun h6 => ?_) | refine g_if_eq X rfl (fun h6 => ?_) (fun h6 => ?_)
      · refine g_iconst X rfl (v := nI 0) (by decide) ?_
        refine g_iconst X rfl (v := nI 2) (by decide) ?_
        refine g_mV X rfl lcX8_fails lmX8_52 lsX8_fails (cm_X8_fails0 l D cy B od (by (repeat (first | exact hM | exact upA_eq | refine (upA_ne (by omega)).trans ?_)))) (ci := 8) (by (repeat (first | exact hM | exact upA_eq | refine (upA_ne (by omega)).trans ?_))) rfl rfl rfl (Nat.le_of_ble_eq_true rfl) ⟨⟨by decide, by decide⟩, rfl, rfl⟩ ⟨Nat.le_of_ble_eq_true rfl, Nat.le_of_ble_eq_true rfl⟩ (fun v7 A7 q7 => ?_)
        obtain ⟨rfl, rfl⟩ := q7
        refine g_if_eq X rfl (fun h => absurd h n10) (fun _ => ?_)
        refine g_iconst X rfl (v := nI 0) (by decide) ?_
        refine g_iret X rfl rfl (by first | rfl | exact bI_nar _ | decide) (Nat.le_of_ble_eq_true rfl) (Nat.le_of_ble_eq_true rfl) ⟨rfl, ?_⟩
        exact mBx (E := eIAE) (by first | (simp_all [ocOff, nI_eq, vS, vZ, V9]; done) | (simp_all [ocOff, nI_eq, vS, vZ, V9, nI_0, n10]; done) | (simp_all [ocOff, nI_eq, vS, vZ, V9, nI_0, n10, ← Int32.not_le]; done) | (simp_all [ocOff, nI_eq, vS, vZ, V9, ← Int64.not_le]; done) | (simp_all [ocOff, nI_eq, vS, vZ, V9, nI_0, n10, ← Int64.not_le, ← Int32.not_le]; done)) (by decide) hA1
      · refine g_iload_n X rfl rfl ?_
        refine g_i2l X rfl ?_
        refine g_iload_n X rfl rfl ?_
        refine g_i2l X rfl ?_
        refine g_ldc2 X rfl kcX8_174 ?_
        refine g_rS X rfl lcX8_in lmX8_56 stX8_in (cr_X8_in l D cy B od) rfl rfl (Nat.le_of_ble_eq_true rfl) ⟨⟨by decide, by decide⟩, rfl, rfl⟩ ⟨Nat.le_of_ble_eq_true rfl, Nat.le_of_ble_eq_true rfl⟩ ?_
        rw [in64 (lo := f9) (hi := nI 359) rfl (by decide)]
        first | refine g_if_eqB X rfl (fun h8 => ?_) (fun h8 => ?_) | refine g_if_eq X rfl (fun h8 => ?_) (fun h8 => ?_)
        · refine g_iconst X rfl (v := nI 0) (by decide) ?_
          refine g_iconst X rfl (v := nI 2) (by decide) ?_
          refine g_mV X rfl lcX8_fails lmX8_52 lsX8_fails (cm_X8_fails0 l D cy B od (by (repeat (first | exact hM | exact upA_eq | refine (upA_ne (by omega)).trans ?_)))) (ci := 8) (by (repeat (first | exact hM | exact upA_eq | refine (upA_ne (by omega)).trans ?_))) rfl rfl rfl (Nat.le_of_ble_eq_true rfl) ⟨⟨by decide, by decide⟩, rfl, rfl⟩ ⟨Nat.le_of_ble_eq_true rfl, Nat.le_of_ble_eq_true rfl⟩ (fun v9 A9 q9 => ?_)
          obtain ⟨rfl, rfl⟩ := q9
          refine g_if_eq X rfl (fun h => absurd h n10) (fun _ => ?_)
          refine g_iconst X rfl (v := nI 0) (by decide) ?_
          refine g_iret X rfl rfl (by first | rfl | exact bI_nar _ | decide) (Nat.le_of_ble_eq_true rfl) (Nat.le_of_ble_eq_true rfl) ⟨rfl, ?_⟩
          exact mBx (E := eIAE) (by first | (simp_all [ocOff, nI_eq, vS, vZ, V9]; done) | (simp_all [ocOff, nI_eq, vS, vZ, V9, nI_0, n10]; done) | (simp_all [ocOff, nI_eq, vS, vZ, V9, nI_0, n10, ← Int32.not_le]; done) | (simp_all [ocOff, nI_eq, vS, vZ, V9, ← Int64.not_le]; done) | (simp_all [ocOff, nI_eq, vS, vZ, V9, nI_0, n10, ← Int64.not_le, ← Int32.not_le]; done)) (by decide) hA1
        · refine g_iconst X rfl (v := nI 1) (by decide) ?_
          refine g_goto X rfl ?_
          refine g_iconst X rfl (v := nI 2) (by decide) ?_
          refine g_mV X rfl lcX8_fails lmX8_52 lsX8_fails (cm_X8_fails1 l D cy B od (by (repeat (first | exact hM | exact upA_eq | refine (upA_ne (by omega)).trans ?_)))) (ci := 8) (by (repeat (first | exact hM | exact upA_eq | refine (upA_ne (by omega)).trans ?_))) rfl rfl rfl (Nat.le_of_ble_eq_true rfl) ⟨⟨by decide, by decide⟩, rfl, rfl⟩ ⟨Nat.le_of_ble_eq_true rfl, Nat.le_of_ble_eq_true rfl⟩ (fun v10 A10 q10 => ?_)
          obtain ⟨rfl, rfl⟩ := q10
          refine g_if_eq X rfl (fun _ => ?_) (fun h => absurd nI_0 h) 
          refine g_aload_n X rfl rfl ?_
          refine g_iload_n X rfl rfl ?_
          refine g_iconst X rfl (v := nI 0) (by decide) ?_
          refine g_sipush X rfl (v := nI 359) (by decide) ?_
          refine g_rV X rfl lcX8_usedDays lmX8_221 lsX8_usedDays (cr_X8_usedDays l D cy B od hm hg (f0 := 0) (t0 := 359) (by omega) (by omega) (by omega)) (ci := 8) (by (repeat (first | exact hM | exact upA_eq | refine (upA_ne (by omega)).trans ?_))) rfl rfl rfl (Nat.le_of_ble_eq_true rfl) ⟨⟨by decide, by decide⟩, rfl, rfl⟩ ⟨Nat.le_of_ble_eq_true rfl, Nat.le_of_ble_eq_true rfl⟩ ?_
          refine g_istore X rfl (by decide) ?_
          refine g_aload_n X rfl rfl ?_
          refine g_mV X rfl lcX8_record lmX8_193 lsX8_record (cm_X8_record l D cy B od hD hE) (ci := 8) (by (repeat (first | exact hM | exact upA_eq | refine (upA_ne (by omega)).trans ?_))) rfl rfl rfl (Nat.le_of_ble_eq_true rfl) ⟨⟨by decide, by decide⟩, rfl, rfl⟩ ⟨Nat.le_of_ble_eq_true rfl, Nat.le_of_ble_eq_true rfl⟩ (fun v11 A11 q11 => ?_)
          obtain ⟨rfl, rfl⟩ := q11
          have hD3 := (hD.uhi (recH hy f.2.2.1 r)).uf (fN (nI 0, f.2) (recN f.2.2.1))
          obtain ⟨hM, hb, hr, hn, hs, hh, -⟩ := id hD3
          refine g_aload_n X rfl rfl ?_
          refine g_get X rfl flX8_16 (ci := 8) rfl (by (repeat (first | exact hM | exact upA_eq | refine (upA_ne (by omega)).trans ?_))) rfl ?_
          refine g_bipush X rfl (v := nI 17) (by decide) ?_
          refine g_iconst X rfl (v := nI 3) (by decide) ?_
          refine g_iload_n X rfl rfl ?_
          refine g_imul X rfl ?_
          refine g_iadd X rfl ?_
          refine g_iconst X rfl (v := nI 1) (by decide) ?_
          refine g_iadd X rfl ?_
          rw [pk_mul, nI_add, nI_add]
          refine g_iload_n X rfl rfl ?_
          refine g_iastN X rfl (by (repeat (first | exact hn | exact upA_eq | refine (upA_ne (by decide)).trans ?_))) (by omega) (by decide) ?_
          first | rw [upA_up] | skip
          refine g_aload_n X rfl rfl ?_
          refine g_get X rfl flX8_16 (ci := 8) rfl (by (repeat (first | exact hM | exact upA_eq | refine (upA_ne (by omega)).trans ?_))) rfl ?_
          refine g_bipush X rfl (v := nI 17) (by decide) ?_
          refine g_iconst X rfl (v := nI 3) (by decide) ?_
          refine g_iload_n X rfl rfl ?_
          refine g_imul X rfl ?_
          refine g_iadd X rfl ?_
          refine g_iconst X rfl (v := nI 2) (by decide) ?_
          refine g_iadd X rfl ?_
          rw [pk_mul, nI_add, nI_add]
          refine g_iload_n X rfl rfl ?_
          refine g_iconst X rfl (v := (-1)) (by decide) ?_
          refine g_icmp_ne X rfl (fun h12 => ?_) (fun h12 => ?_)
          · refine g_iload_n X rfl rfl ?_
            refine g_iastN X rfl (by (repeat (first | exact hn | exact upA_eq | refine (upA_ne (by decide)).trans ?_))) (by omega) (by decide) ?_
            first | rw [upA_up] | skip
            refine g_iload X rfl rfl ?_
            refine g_iret X rfl rfl (by first | rfl | exact bI_nar _ | decide) (Nat.le_of_ble_eq_true rfl) (Nat.le_of_ble_eq_true rfl) ⟨rfl, ?_⟩
            rw [hcl]
            first | (rw [if_neg (show ¬ f9 = -1 from by assumption)]; exact mG0 (f := f) (by first | (simp_all [ocOff, nI_eq, vS, vZ, V9]; done) | (simp_all [ocOff, nI_eq, vS, vZ, V9, nI_0, n10]; done) | (simp_all [ocOff, nI_eq, vS, vZ, V9, nI_0, n10, ← Int32.not_le]; done) | (simp_all [ocOff, nI_eq, vS, vZ, V9, ← Int64.not_le]; done) | (simp_all [ocOff, nI_eq, vS, vZ, V9, nI_0, n10, ← Int64.not_le, ← Int32.not_le]; done)) ⟨(by repeat (first | exact hO1 | refine MOff.up ?_ (by decide) (by decide))), hD3.ur _⟩) | (rw [if_pos (show f9 = -1 from by first | assumption | (apply Classical.not_not.mp; assumption))]; exact mG0 (f := f) (by first | (simp_all [ocOff, nI_eq, vS, vZ, V9]; done) | (simp_all [ocOff, nI_eq, vS, vZ, V9, nI_0, n10]; done) | (simp_all [ocOff, nI_eq, vS, vZ, V9, nI_0, n10, ← Int32.not_le]; done) | (simp_all [ocOff, nI_eq, vS, vZ, V9, ← Int64.not_le]; done) | (simp_all [ocOff, nI_eq, vS, vZ, V9, nI_0, n10, ← Int64.not_le, ← Int32.not_le]; done)) ⟨(by repeat (first | exact hO1 | refine MOff.up ?_ (by decide) (by decide))), hD3.ur _⟩)
          · refine g_iconst X rfl (v := (-1)) (by decide) ?_
            refine g_goto X rfl ?_
            refine g_iastN X rfl (by (repeat (first | exact hn | exact upA_eq | refine (upA_ne (by decide)).trans ?_))) (by omega) (by decide) ?_
            first | rw [upA_up] | skip
            refine g_iload X rfl rfl ?_
            refine g_iret X rfl rfl (by first | rfl | exact bI_nar _ | decide) (Nat.le_of_ble_eq_true rfl) (Nat.le_of_ble_eq_true rfl) ⟨rfl, ?_⟩
            rw [hcl]
            first | (rw [if_neg (show ¬ f9 = -1 from by assumption)]; exact mG0 (f := f) (by first | (simp_all [ocOff, nI_eq, vS, vZ, V9]; done) | (simp_all [ocOff, nI_eq, vS, vZ, V9, nI_0, n10]; done) | (simp_all [ocOff, nI_eq, vS, vZ, V9, nI_0, n10, ← Int32.not_le]; done) | (simp_all [ocOff, nI_eq, vS, vZ, V9, ← Int64.not_le]; done) | (simp_all [ocOff, nI_eq, vS, vZ, V9, nI_0, n10, ← Int64.not_le, ← Int32.not_le]; done)) ⟨(by repeat (first | exact hO1 | refine MOff.up ?_ (by decide) (by decide))), hD3.ur _⟩) | (rw [if_pos (show f9 = -1 from by first | assumption | (apply Classical.not_not.mp; assumption))]; exact mG0 (f := f) (by first | (simp_all [ocOff, nI_eq, vS, vZ, V9]; done) | (simp_all [ocOff, nI_eq, vS, vZ, V9, nI_0, n10]; done) | (simp_all [ocOff, nI_eq, vS, vZ, V9, nI_0, n10, ← Int32.not_le]; done) | (simp_all [ocOff, nI_eq, vS, vZ, V9, ← Int64.not_le]; done) | (simp_all [ocOff, nI_eq, vS, vZ, V9, nI_0, n10, ← Int64.not_le, ← Int32.not_le]; done)) ⟨(by repeat (first | exact hO1 | refine MOff.up ?_ (by decide) (by decide))), hD3.ur _⟩)
  · refine g_if_ne X rfl (fun _ => ?_) (fun h => absurd h n10) 
    refine g_iconst X rfl (v := nI 0) (by decide) ?_
    refine g_iret X rfl rfl (by first | rfl | exact bI_nar _ | decide) (Nat.le_of_ble_eq_true rfl) (Nat.le_of_ble_eq_true rfl) ⟨rfl, ?_⟩
    exact mBx (E := eIOB) (by first | (simp_all [ocOff, nI_eq, vS, vZ, V9]; done) | (simp_all [ocOff, nI_eq, vS, vZ, V9, nI_0, n10]; done) | (simp_all [ocOff, nI_eq, vS, vZ, V9, nI_0, n10, ← Int32.not_le]; done) | (simp_all [ocOff, nI_eq, vS, vZ, V9, ← Int64.not_le]; done) | (simp_all [ocOff, nI_eq, vS, vZ, V9, nI_0, n10, ← Int64.not_le, ← Int32.not_le]; done)) (by decide) hA1
set_option maxRecDepth 100000 in
set_option maxHeartbeats 400000 in
theorem cm_X8_addAsset (l : Launch) (D : va_G) (cy : Nat → ClassId) (B : Nat) (od : Nat → Option Nat) {A : AH} {f : MF} {r : Nat → Int32} {Z : SV} {S : StV} (hm : MdR cy A f r Z S) (hg : Rng Z S) (hgz : RngZ Z) {mb rd sv hy : Nat → Int32} (hD : MdA cy A f mb rd r sv hy) (hE : f.2.2.1 ≤ 8)  {pr dy li : Int32} : CM l D cy B od yX8_addAsset cX8_addAsset 5 (some .int) rmX8_addAsset [.ref 231, .int pr, .int dy, .int li] A (fun v A' => v = some (mV (.int (nI 0)) (ocAddA (V9 Z S) pr dy li)) ∧ ((∃ E, (ocAddA (V9 Z S) pr dy li) = .inl E ∧ A' = upA A 231 (moE (nI (cX [eIAE, eISE] (ocAddA (V9 Z S) pr dy li)), f.2))) ∨ ((∃ y9, (ocAddA (V9 Z S) pr dy li) = .inr y9) ∧ (MOff A A' ∧ MdA cy A' (fN (nI 0, f.2) (recN f.2.2.1)) (mb) (rd) (upd (upd (upd (upd (upd (upd r (457 + 5 * S.2.2.1.1) pr) (457 + 5 * S.2.2.1.1 + 1) dy) (457 + 5 * S.2.2.1.1 + 2) li) (457 + 5 * S.2.2.1.1 + 3) (-1)) (457 + 5 * S.2.2.1.1 + 4) (-1)) 456 (nI (S.2.2.1.1 + 1))) (sv) (recH hy f.2.2.1 r))))) := by
  intro z
  refine CT.of (by decide) tX8_addAsset okX8_addAsset (Nat.le_of_ble_eq_true rfl) (q0 := tX8_addAsset[0]) rfl rfl ?_
  intro p e s m args below meth c X _
  have hM := hm.1
  refine g_aload_n X rfl rfl ?_
  refine g_iconst X rfl (v := nI 0) (by decide) ?_
  refine g_put X rfl flX8_41 rfl (ci := 8) rfl (by (repeat (first | exact hM | exact upA_eq | refine (upA_ne (by omega)).trans ?_))) (Nat.le_of_ble_eq_true rfl) (by first | rfl | exact bI_nar _) (by first | rfl | decide) ?_
  refine G.cast (A2 := upA A 231 (moE (nI 0, f.2))) rfl ?_
  obtain ⟨A1, hA1⟩ : ∃ A1, A1 = upA A 231 (moE (nI 0, f.2)) := ⟨_, rfl⟩
  refine G.cast (A2 := A1) hA1.symm ?_
  have hm := hm.thr (nI 0)
  rw [← hA1] at hm
  obtain ⟨hM, hn, hc, hw, hwb, hz⟩ := id hm
  obtain ⟨c0, ⟨c1, c2, c3, c4, c5⟩, cb, ⟨c16, cr⟩, ⟨c35, ce⟩, ⟨c456, ca⟩, c517, cp⟩ := id hc
  obtain ⟨w1, w2, w3, w4, w5⟩ := id hw
  have hD := hD.uf (nI 0, f.2)
  rw [← hA1] at hD
  obtain ⟨hM, hb, hr, hn, hs, hh, -⟩ := id hD
  have hO1 := MOff.r1 hA1
  refine g_aload_n X rfl rfl ?_
  refine g_iload_n X rfl rfl ?_
  refine g_i2l X rfl ?_
  refine g_lconst X rfl (v := 1) (by decide) ?_
  refine g_ldc2 X rfl kcX8_225 ?_
  refine g_rS X rfl lcX8_in lmX8_56 stX8_in (cr_X8_in l D cy B od) rfl rfl (Nat.le_of_ble_eq_true rfl) ⟨⟨by decide, by decide⟩, rfl, rfl⟩ ⟨Nat.le_of_ble_eq_true rfl, Nat.le_of_ble_eq_true rfl⟩ ?_
  rw [in64 (lo := nI 1) (hi := nI 5000000) (by decide) (by decide)]
  first | refine g_if_eqB X rfl (fun h1 => ?_) (fun h1 => ?_) | refine g_if_eq X rfl (fun h1 => ?_) (fun h1 => ?_)
  · refine g_iconst X rfl (v := nI 0) (by decide) ?_
    refine g_iconst X rfl (v := nI 1) (by decide) ?_
    refine g_mV X rfl lcX8_fails lmX8_52 lsX8_fails (cm_X8_fails0 l D cy B od (by (repeat (first | exact hM | exact upA_eq | refine (upA_ne (by omega)).trans ?_)))) (ci := 8) (by (repeat (first | exact hM | exact upA_eq | refine (upA_ne (by omega)).trans ?_))) rfl rfl rfl (Nat.le_of_ble_eq_true rfl) ⟨⟨by decide, by decide⟩, rfl, rfl⟩ ⟨Nat.le_of_ble_eq_true rfl, Nat.le_of_ble_eq_true rfl⟩ (fun v2 A2 q2 => ?_)
    obtain ⟨rfl, rfl⟩ := q2
    refine g_if_ne X rfl (fun _ => ?_) (fun h => absurd h n10) 
    refine g_iconst X rfl (v := nI 0) (by decide) ?_
    refine g_iret X rfl rfl (by first | rfl | exact bI_nar _ | decide) (Nat.le_of_ble_eq_true rfl) (Nat.le_of_ble_eq_true rfl) ⟨rfl, ?_⟩
    exact mBx (E := eIAE) (by first | (simp_all [ocAddA, nI_eq, vS, vZ, V9]; done) | (simp_all [ocAddA, nI_eq, vS, vZ, V9, nI_0, n10]; done) | (simp_all [ocAddA, nI_eq, vS, vZ, V9, nI_0, n10, ← Int32.not_le]; done) | (simp_all [ocAddA, nI_eq, vS, vZ, V9, ← Int64.not_le]; done) | (simp_all [ocAddA, nI_eq, vS, vZ, V9, nI_0, n10, ← Int64.not_le, ← Int32.not_le]; done)) (by decide) hA1
  · refine g_iload_n X rfl rfl ?_
    refine g_rS X rfl lcX8_isDay lmX8_204 stX8_isDay (cr_X8_isDay l D cy B od) rfl rfl (Nat.le_of_ble_eq_true rfl) ⟨⟨by decide, by decide⟩, rfl, rfl⟩ ⟨Nat.le_of_ble_eq_true rfl, Nat.le_of_ble_eq_true rfl⟩ ?_
    first | refine g_if_eqB X rfl (fun h3 => ?_) (fun h3 => ?_) | refine g_if_eq X rfl (fun h3 => ?_) (fun h3 => ?_)
    · refine g_iconst X rfl (v := nI 0) (by decide) ?_
      refine g_iconst X rfl (v := nI 1) (by decide) ?_
      refine g_mV X rfl lcX8_fails lmX8_52 lsX8_fails (cm_X8_fails0 l D cy B od (by (repeat (first | exact hM | exact upA_eq | refine (upA_ne (by omega)).trans ?_)))) (ci := 8) (by (repeat (first | exact hM | exact upA_eq | refine (upA_ne (by omega)).trans ?_))) rfl rfl rfl (Nat.le_of_ble_eq_true rfl) ⟨⟨by decide, by decide⟩, rfl, rfl⟩ ⟨Nat.le_of_ble_eq_true rfl, Nat.le_of_ble_eq_true rfl⟩ (fun v4 A4 q4 => ?_)
      obtain ⟨rfl, rfl⟩ := q4
      refine g_if_ne X rfl (fun _ => ?_) (fun h => absurd h n10) 
      refine g_iconst X rfl (v := nI 0) (by decide) ?_
      refine g_iret X rfl rfl (by first | rfl | exact bI_nar _ | decide) (Nat.le_of_ble_eq_true rfl) (Nat.le_of_ble_eq_true rfl) ⟨rfl, ?_⟩
      exact mBx (E := eIAE) (by first | (simp_all [ocAddA, nI_eq, vS, vZ, V9]; done) | (simp_all [ocAddA, nI_eq, vS, vZ, V9, nI_0, n10]; done) | (simp_all [ocAddA, nI_eq, vS, vZ, V9, nI_0, n10, ← Int32.not_le]; done) | (simp_all [ocAddA, nI_eq, vS, vZ, V9, ← Int64.not_le]; done) | (simp_all [ocAddA, nI_eq, vS, vZ, V9, nI_0, n10, ← Int64.not_le, ← Int32.not_le]; done)) (by decide) hA1
    · refine g_iload_n X rfl rfl ?_
      refine g_i2l X rfl ?_
      refine g_lconst X rfl (v := 1) (by decide) ?_
      refine g_ldc2 X rfl kcX8_227 ?_
      refine g_rS X rfl lcX8_in lmX8_56 stX8_in (cr_X8_in l D cy B od) rfl rfl (Nat.le_of_ble_eq_true rfl) ⟨⟨by decide, by decide⟩, rfl, rfl⟩ ⟨Nat.le_of_ble_eq_true rfl, Nat.le_of_ble_eq_true rfl⟩ ?_
      rw [in64 (lo := nI 1) (hi := nI 120) (by decide) (by decide)]
      first | refine g_if_eqB X rfl (fun h5 => ?_) (fun h5 => ?_) | refine g_if_eq X rfl (fun h5 => ?_) (fun h5 => ?_)
      · refine g_iconst X rfl (v := nI 0) (by decide) ?_
        refine g_iconst X rfl (v := nI 1) (by decide) ?_
        refine g_mV X rfl lcX8_fails lmX8_52 lsX8_fails (cm_X8_fails0 l D cy B od (by (repeat (first | exact hM | exact upA_eq | refine (upA_ne (by omega)).trans ?_)))) (ci := 8) (by (repeat (first | exact hM | exact upA_eq | refine (upA_ne (by omega)).trans ?_))) rfl rfl rfl (Nat.le_of_ble_eq_true rfl) ⟨⟨by decide, by decide⟩, rfl, rfl⟩ ⟨Nat.le_of_ble_eq_true rfl, Nat.le_of_ble_eq_true rfl⟩ (fun v6 A6 q6 => ?_)
        obtain ⟨rfl, rfl⟩ := q6
        refine g_if_ne X rfl (fun _ => ?_) (fun h => absurd h n10) 
        refine g_iconst X rfl (v := nI 0) (by decide) ?_
        refine g_iret X rfl rfl (by first | rfl | exact bI_nar _ | decide) (Nat.le_of_ble_eq_true rfl) (Nat.le_of_ble_eq_true rfl) ⟨rfl, ?_⟩
        exact mBx (E := eIAE) (by first | (simp_all [ocAddA, nI_eq, vS, vZ, V9]; done) | (simp_all [ocAddA, nI_eq, vS, vZ, V9, nI_0, n10]; done) | (simp_all [ocAddA, nI_eq, vS, vZ, V9, nI_0, n10, ← Int32.not_le]; done) | (simp_all [ocAddA, nI_eq, vS, vZ, V9, ← Int64.not_le]; done) | (simp_all [ocAddA, nI_eq, vS, vZ, V9, nI_0, n10, ← Int64.not_le, ← Int32.not_le]; done)) (by decide) hA1
      · refine g_iconst X rfl (v := nI 1) (by decide) ?_
        refine g_goto X rfl ?_
        refine g_iconst X rfl (v := nI 1) (by decide) ?_
        refine g_mV X rfl lcX8_fails lmX8_52 lsX8_fails (cm_X8_fails1 l D cy B od (by (repeat (first | exact hM | exact upA_eq | refine (upA_ne (by omega)).trans ?_)))) (ci := 8) (by (repeat (first | exact hM | exact upA_eq | refine (upA_ne (by omega)).trans ?_))) rfl rfl rfl (Nat.le_of_ble_eq_true rfl) ⟨⟨by decide, by decide⟩, rfl, rfl⟩ ⟨Nat.le_of_ble_eq_true rfl, Nat.le_of_ble_eq_true rfl⟩ (fun v7 A7 q7 => ?_)
        obtain ⟨rfl, rfl⟩ := q7
        refine g_if_ne X rfl (fun h => absurd nI_0 h) (fun _ => ?_)
        refine g_aload_n X rfl rfl ?_
        refine g_aload_n X rfl rfl ?_
        refine g_get X rfl flX8_16 (ci := 8) rfl (by (repeat (first | exact hM | exact upA_eq | refine (upA_ne (by omega)).trans ?_))) rfl ?_
        refine g_sipush X rfl (v := nI 456) (by decide) ?_
        refine g_ialdN X rfl (by (repeat (first | exact hn | exact upA_eq | refine (upA_ne (by omega)).trans ?_))) (by omega) (by decide) ?_
        rw [c456]
        refine g_bipush X rfl (v := nI 12) (by decide) ?_
        first | refine g_ic_geN X rfl (by omega) (by omega) (fun h8 => ?_) (fun h8 => ?_) | refine g_icmp_ge X rfl (fun h8 => ?_) (fun h8 => ?_)
        · refine g_iconst X rfl (v := nI 0) (by decide) ?_
          refine g_iconst X rfl (v := nI 2) (by decide) ?_
          refine g_mV X rfl lcX8_fails lmX8_52 lsX8_fails (cm_X8_fails0 l D cy B od (by (repeat (first | exact hM | exact upA_eq | refine (upA_ne (by omega)).trans ?_)))) (ci := 8) (by (repeat (first | exact hM | exact upA_eq | refine (upA_ne (by omega)).trans ?_))) rfl rfl rfl (Nat.le_of_ble_eq_true rfl) ⟨⟨by decide, by decide⟩, rfl, rfl⟩ ⟨Nat.le_of_ble_eq_true rfl, Nat.le_of_ble_eq_true rfl⟩ (fun v9 A9 q9 => ?_)
          obtain ⟨rfl, rfl⟩ := q9
          refine g_if_eq X rfl (fun h => absurd h n10) (fun _ => ?_)
          refine g_iconst X rfl (v := nI 0) (by decide) ?_
          refine g_iret X rfl rfl (by first | rfl | exact bI_nar _ | decide) (Nat.le_of_ble_eq_true rfl) (Nat.le_of_ble_eq_true rfl) ⟨rfl, ?_⟩
          exact mBx (E := eISE) (by first | (simp_all [ocAddA, nI_eq, vS, vZ, V9]; done) | (simp_all [ocAddA, nI_eq, vS, vZ, V9, nI_0, n10]; done) | (simp_all [ocAddA, nI_eq, vS, vZ, V9, nI_0, n10, ← Int32.not_le]; done) | (simp_all [ocAddA, nI_eq, vS, vZ, V9, ← Int64.not_le]; done) | (simp_all [ocAddA, nI_eq, vS, vZ, V9, nI_0, n10, ← Int64.not_le, ← Int32.not_le]; done)) (by decide) hA1
        · refine g_iconst X rfl (v := nI 1) (by decide) ?_
          refine g_goto X rfl ?_
          refine g_iconst X rfl (v := nI 2) (by decide) ?_
          refine g_mV X rfl lcX8_fails lmX8_52 lsX8_fails (cm_X8_fails1 l D cy B od (by (repeat (first | exact hM | exact upA_eq | refine (upA_ne (by omega)).trans ?_)))) (ci := 8) (by (repeat (first | exact hM | exact upA_eq | refine (upA_ne (by omega)).trans ?_))) rfl rfl rfl (Nat.le_of_ble_eq_true rfl) ⟨⟨by decide, by decide⟩, rfl, rfl⟩ ⟨Nat.le_of_ble_eq_true rfl, Nat.le_of_ble_eq_true rfl⟩ (fun v10 A10 q10 => ?_)
          obtain ⟨rfl, rfl⟩ := q10
          refine g_if_eq X rfl (fun _ => ?_) (fun h => absurd nI_0 h) 
          refine g_aload_n X rfl rfl ?_
          refine g_mV X rfl lcX8_record lmX8_193 lsX8_record (cm_X8_record l D cy B od hD hE) (ci := 8) (by (repeat (first | exact hM | exact upA_eq | refine (upA_ne (by omega)).trans ?_))) rfl rfl rfl (Nat.le_of_ble_eq_true rfl) ⟨⟨by decide, by decide⟩, rfl, rfl⟩ ⟨Nat.le_of_ble_eq_true rfl, Nat.le_of_ble_eq_true rfl⟩ (fun v11 A11 q11 => ?_)
          obtain ⟨rfl, rfl⟩ := q11
          have hD3 := (hD.uhi (recH hy f.2.2.1 r)).uf (fN (nI 0, f.2) (recN f.2.2.1))
          obtain ⟨hM, hb, hr, hn, hs, hh, -⟩ := id hD3
          refine g_sipush X rfl (v := nI 457) (by decide) ?_
          refine g_iconst X rfl (v := nI 5) (by decide) ?_
          refine g_aload_n X rfl rfl ?_
          refine g_get X rfl flX8_16 (ci := 8) rfl (by (repeat (first | exact hM | exact upA_eq | refine (upA_ne (by omega)).trans ?_))) rfl ?_
          refine g_sipush X rfl (v := nI 456) (by decide) ?_
          refine g_ialdN X rfl (by (repeat (first | exact hn | exact upA_eq | refine (upA_ne (by omega)).trans ?_))) (by omega) (by decide) ?_
          rw [c456]
          refine g_imul X rfl ?_
          refine g_iadd X rfl ?_
          rw [pk_mul, nI_add]
          refine g_istore X rfl (by decide) ?_
          refine g_aload_n X rfl rfl ?_
          refine g_get X rfl flX8_16 (ci := 8) rfl (by (repeat (first | exact hM | exact upA_eq | refine (upA_ne (by omega)).trans ?_))) rfl ?_
          refine g_iload X rfl rfl ?_
          refine g_iconst X rfl (v := nI 0) (by decide) ?_
          refine g_iadd X rfl ?_
          rw [show nI (457 + 5 * S.2.2.1.1) + nI 0 = nI (457 + 5 * S.2.2.1.1) by rw [nI_add, Nat.add_zero]]
          refine g_iload_n X rfl rfl ?_
          refine g_iastN X rfl (by (repeat (first | exact hn | exact upA_eq | refine (upA_ne (by decide)).trans ?_))) (by omega) (by decide) ?_
          first | rw [upA_up] | skip
          refine g_aload_n X rfl rfl ?_
          refine g_get X rfl flX8_16 (ci := 8) rfl (by (repeat (first | exact hM | exact upA_eq | refine (upA_ne (by omega)).trans ?_))) rfl ?_
          refine g_iload X rfl rfl ?_
          refine g_iconst X rfl (v := nI 1) (by decide) ?_
          refine g_iadd X rfl ?_
          rw [nI_add]
          refine g_iload_n X rfl rfl ?_
          refine g_iastN X rfl (by (repeat (first | exact hn | exact upA_eq | refine (upA_ne (by decide)).trans ?_))) (by omega) (by decide) ?_
          first | rw [upA_up] | skip
          refine g_aload_n X rfl rfl ?_
          refine g_get X rfl flX8_16 (ci := 8) rfl (by (repeat (first | exact hM | exact upA_eq | refine (upA_ne (by omega)).trans ?_))) rfl ?_
          refine g_iload X rfl rfl ?_
          refine g_iconst X rfl (v := nI 2) (by decide) ?_
          refine g_iadd X rfl ?_
          rw [nI_add]
          refine g_iload_n X rfl rfl ?_
          refine g_iastN X rfl (by (repeat (first | exact hn | exact upA_eq | refine (upA_ne (by decide)).trans ?_))) (by omega) (by decide) ?_
          first | rw [upA_up] | skip
          refine g_aload_n X rfl rfl ?_
          refine g_get X rfl flX8_16 (ci := 8) rfl (by (repeat (first | exact hM | exact upA_eq | refine (upA_ne (by omega)).trans ?_))) rfl ?_
          refine g_iload X rfl rfl ?_
          refine g_iconst X rfl (v := nI 3) (by decide) ?_
          refine g_iadd X rfl ?_
          rw [nI_add]
          refine g_iconst X rfl (v := (-1)) (by decide) ?_
          refine g_iastN X rfl (by (repeat (first | exact hn | exact upA_eq | refine (upA_ne (by decide)).trans ?_))) (by omega) (by decide) ?_
          first | rw [upA_up] | skip
          refine g_aload_n X rfl rfl ?_
          refine g_get X rfl flX8_16 (ci := 8) rfl (by (repeat (first | exact hM | exact upA_eq | refine (upA_ne (by omega)).trans ?_))) rfl ?_
          refine g_iload X rfl rfl ?_
          refine g_iconst X rfl (v := nI 4) (by decide) ?_
          refine g_iadd X rfl ?_
          rw [nI_add]
          refine g_iconst X rfl (v := (-1)) (by decide) ?_
          refine g_iastN X rfl (by (repeat (first | exact hn | exact upA_eq | refine (upA_ne (by decide)).trans ?_))) (by omega) (by decide) ?_
          first | rw [upA_up] | skip
          refine g_aload_n X rfl rfl ?_
          refine g_get X rfl flX8_16 (ci := 8) rfl (by (repeat (first | exact hM | exact upA_eq | refine (upA_ne (by omega)).trans ?_))) rfl ?_
          refine g_sipush X rfl (v := nI 456) (by decide) ?_
          refine g_dup2 X rfl rfl rfl ?_
          refine g_ialdN X rfl upA_eq (by omega) (by decide) ?_
          rw [show (upd (upd (upd (upd (upd r (457 + 5 * S.2.2.1.1) pr) (457 + 5 * S.2.2.1.1 + 1) dy) (457 + 5 * S.2.2.1.1 + 2) li) (457 + 5 * S.2.2.1.1 + 3) (-1)) (457 + 5 * S.2.2.1.1 + 4) (-1)) 456 = nI S.2.2.1.1 by rw [pk_un (by omega), pk_un (by omega), pk_un (by omega), pk_un (by omega), pk_un (by omega), c456]]
          refine g_iconst X rfl (v := nI 1) (by decide) ?_
          refine g_iadd X rfl ?_
          rw [nI_add]
          refine g_iastN X rfl (by (repeat (first | exact hn | exact upA_eq | refine (upA_ne (by decide)).trans ?_))) (by omega) (by decide) ?_
          first | rw [upA_up] | skip
          refine g_aload_n X rfl rfl ?_
          refine g_get X rfl flX8_16 (ci := 8) rfl (by (repeat (first | exact hM | exact upA_eq | refine (upA_ne (by omega)).trans ?_))) rfl ?_
          refine g_sipush X rfl (v := nI 456) (by decide) ?_
          refine g_ialdN X rfl upA_eq (by omega) (by decide) ?_
          rw [pk_us]
          refine g_iconst X rfl (v := nI 1) (by decide) ?_
          refine g_isub X rfl ?_
          rw [pk_sub (by omega), Nat.add_sub_cancel]
          refine g_iret X rfl rfl (by first | rfl | exact bI_nar _ | decide) (Nat.le_of_ble_eq_true rfl) (Nat.le_of_ble_eq_true rfl) ⟨rfl, ?_⟩
          exact mG0 (f := f) (by first | (simp_all [ocAddA, nI_eq, vS, vZ, V9]; done) | (simp_all [ocAddA, nI_eq, vS, vZ, V9, nI_0, n10]; done) | (simp_all [ocAddA, nI_eq, vS, vZ, V9, nI_0, n10, ← Int32.not_le]; done) | (simp_all [ocAddA, nI_eq, vS, vZ, V9, ← Int64.not_le]; done) | (simp_all [ocAddA, nI_eq, vS, vZ, V9, nI_0, n10, ← Int64.not_le, ← Int32.not_le]; done)) (⟨(by repeat (first | exact hO1 | refine MOff.up ?_ (by decide) (by decide))), hD3.ur _⟩)
set_option maxRecDepth 100000 in
set_option maxHeartbeats 400000 in
theorem cm_X8_closeQuarter (l : Launch) (D : va_G) (cy : Nat → ClassId) (B : Nat) (od : Nat → Option Nat) {A : AH} {f : MF} {r : Nat → Int32} {Z : SV} {S : StV} (hm : MdR cy A f r Z S) (hg : Rng Z S) (hgz : RngZ Z) {mb rd sv hy : Nat → Int32} (hD : MdA cy A f mb rd r sv hy) (hE : f.2.2.1 ≤ 8)   : CM l D cy B od yX8_closeQuarter cX8_closeQuarter 3 (some .int) rmX8_closeQuarter [.ref 231] A (fun v A' => v = some (mV (.int (nI 0)) (ocClose (V9 Z S))) ∧ ((∃ E, (ocClose (V9 Z S)) = .inl E ∧ A' = upA A 231 (moE (nI (cX [eISE] (ocClose (V9 Z S))), f.2))) ∨ ((∃ y9, (ocClose (V9 Z S)) = .inr y9) ∧ (MOff A A' ∧ MdA cy A' (fN (nI 0, f.2) (recN f.2.2.1)) (mb) (rd) (upd (upd r (518 + S.2.2.2.2.1) (cqAmt (V9 Z S))) 517 (nI (S.2.2.2.2.1 + 1))) (sv) (recH hy f.2.2.1 r))))) := by
  intro z
  refine CT.of (by decide) tX8_closeQuarter okX8_closeQuarter (Nat.le_of_ble_eq_true rfl) (q0 := tX8_closeQuarter[0]) rfl rfl ?_
  intro p e s m args below meth c X _
  have hM := hm.1
  refine g_aload_n X rfl rfl ?_
  refine g_iconst X rfl (v := nI 0) (by decide) ?_
  refine g_put X rfl flX8_41 rfl (ci := 8) rfl (by (repeat (first | exact hM | exact upA_eq | refine (upA_ne (by omega)).trans ?_))) (Nat.le_of_ble_eq_true rfl) (by first | rfl | exact bI_nar _) (by first | rfl | decide) ?_
  refine G.cast (A2 := upA A 231 (moE (nI 0, f.2))) rfl ?_
  obtain ⟨A1, hA1⟩ : ∃ A1, A1 = upA A 231 (moE (nI 0, f.2)) := ⟨_, rfl⟩
  refine G.cast (A2 := A1) hA1.symm ?_
  have hm := hm.thr (nI 0)
  rw [← hA1] at hm
  obtain ⟨hM, hn, hc, hw, hwb, hz⟩ := id hm
  obtain ⟨c0, ⟨c1, c2, c3, c4, c5⟩, cb, ⟨c16, cr⟩, ⟨c35, ce⟩, ⟨c456, ca⟩, c517, cp⟩ := id hc
  obtain ⟨w1, w2, w3, w4, w5⟩ := id hw
  have hD := hD.uf (nI 0, f.2)
  rw [← hA1] at hD
  obtain ⟨hM, hb, hr, hn, hs, hh, -⟩ := id hD
  have hO1 := MOff.r1 hA1
  refine g_aload_n X rfl rfl ?_
  refine g_aload_n X rfl rfl ?_
  refine g_get X rfl flX8_16 (ci := 8) rfl (by (repeat (first | exact hM | exact upA_eq | refine (upA_ne (by omega)).trans ?_))) rfl ?_
  refine g_sipush X rfl (v := nI 517) (by decide) ?_
  refine g_ialdN X rfl (by (repeat (first | exact hn | exact upA_eq | refine (upA_ne (by omega)).trans ?_))) (by omega) (by decide) ?_
  rw [c517]
  refine g_iconst X rfl (v := nI 4) (by decide) ?_
  first | refine g_ic_geN X rfl (by omega) (by omega) (fun h1 => ?_) (fun h1 => ?_) | refine g_icmp_ge X rfl (fun h1 => ?_) (fun h1 => ?_)
  · refine g_iconst X rfl (v := nI 0) (by decide) ?_
    refine g_iconst X rfl (v := nI 1) (by decide) ?_
    refine g_mV X rfl lcX8_fails lmX8_52 lsX8_fails (cm_X8_fails0 l D cy B od (by (repeat (first | exact hM | exact upA_eq | refine (upA_ne (by omega)).trans ?_)))) (ci := 8) (by (repeat (first | exact hM | exact upA_eq | refine (upA_ne (by omega)).trans ?_))) rfl rfl rfl (Nat.le_of_ble_eq_true rfl) ⟨⟨by decide, by decide⟩, rfl, rfl⟩ ⟨Nat.le_of_ble_eq_true rfl, Nat.le_of_ble_eq_true rfl⟩ (fun v2 A2 q2 => ?_)
    obtain ⟨rfl, rfl⟩ := q2
    refine g_if_eq X rfl (fun h => absurd h n10) (fun _ => ?_)
    refine g_iconst X rfl (v := nI 0) (by decide) ?_
    refine g_iret X rfl rfl (by first | rfl | exact bI_nar _ | decide) (Nat.le_of_ble_eq_true rfl) (Nat.le_of_ble_eq_true rfl) ⟨rfl, ?_⟩
    exact mBx (E := eISE) (by first | (simp_all [ocClose, nI_eq, vS, vZ, V9]; done) | (simp_all [ocClose, nI_eq, vS, vZ, V9, nI_0, n10]; done) | (simp_all [ocClose, nI_eq, vS, vZ, V9, nI_0, n10, ← Int32.not_le]; done) | (simp_all [ocClose, nI_eq, vS, vZ, V9, ← Int64.not_le]; done) | (simp_all [ocClose, nI_eq, vS, vZ, V9, nI_0, n10, ← Int64.not_le, ← Int32.not_le]; done)) (by decide) hA1
  · refine g_iconst X rfl (v := nI 1) (by decide) ?_
    refine g_goto X rfl ?_
    refine g_iconst X rfl (v := nI 1) (by decide) ?_
    refine g_mV X rfl lcX8_fails lmX8_52 lsX8_fails (cm_X8_fails1 l D cy B od (by (repeat (first | exact hM | exact upA_eq | refine (upA_ne (by omega)).trans ?_)))) (ci := 8) (by (repeat (first | exact hM | exact upA_eq | refine (upA_ne (by omega)).trans ?_))) rfl rfl rfl (Nat.le_of_ble_eq_true rfl) ⟨⟨by decide, by decide⟩, rfl, rfl⟩ ⟨Nat.le_of_ble_eq_true rfl, Nat.le_of_ble_eq_true rfl⟩ (fun v3 A3 q3 => ?_)
    obtain ⟨rfl, rfl⟩ := q3
    refine g_if_eq X rfl (fun _ => ?_) (fun h => absurd nI_0 h) 
    refine g_aload_n X rfl rfl ?_
    refine g_get X rfl flX8_16 (ci := 8) rfl (by (repeat (first | exact hM | exact upA_eq | refine (upA_ne (by omega)).trans ?_))) rfl ?_
    refine g_sipush X rfl (v := nI 517) (by decide) ?_
    refine g_ialdN X rfl (by (repeat (first | exact hn | exact upA_eq | refine (upA_ne (by omega)).trans ?_))) (by omega) (by decide) ?_
    rw [c517]
    refine g_istore_n X rfl (by decide) ?_
    refine g_aload_n X rfl rfl ?_
    refine g_iload_n X rfl rfl ?_
    refine g_aload_n X rfl rfl ?_
    refine g_iload_n X rfl rfl ?_
    refine g_rV X rfl lcX8_prepaidTo lmX8_241 lsX8_prepaidTo (cr_X8_prepaidTo l D cy B od hm hg (by omega)) (ci := 8) (by (repeat (first | exact hM | exact upA_eq | refine (upA_ne (by omega)).trans ?_))) rfl rfl rfl (Nat.le_of_ble_eq_true rfl) ⟨⟨by decide, by decide⟩, rfl, rfl⟩ ⟨Nat.le_of_ble_eq_true rfl, Nat.le_of_ble_eq_true rfl⟩ ?_
    refine g_rV X rfl lcX8_prepaymentFor lmX8_245 lsX8_prepaymentFor (cr_X8_prepaymentFor l D cy B od hm hg hgz (by omega)) (ci := 8) (by (repeat (first | exact hM | exact upA_eq | refine (upA_ne (by omega)).trans ?_))) rfl rfl rfl (Nat.le_of_ble_eq_true rfl) ⟨⟨by decide, by decide⟩, rfl, rfl⟩ ⟨Nat.le_of_ble_eq_true rfl, Nat.le_of_ble_eq_true rfl⟩ ?_
    rw [show (if sTgt Z (nI S.2.2.2.2.1) (sProf S (nI S.2.2.2.2.1)) - sumL 0 (fun i => (S.2.2.2.1 i).toInt64) S.2.2.2.2.1 < 0 then 0 else sTgt Z (nI S.2.2.2.2.1) (sProf S (nI S.2.2.2.2.1)) - sumL 0 (fun i => (S.2.2.2.1 i).toInt64) S.2.2.2.2.1).toInt32 = cqAmt (V9 Z S) from rfl]
    refine g_istore_n X rfl (by decide) ?_
    refine g_aload_n X rfl rfl ?_
    refine g_mV X rfl lcX8_record lmX8_193 lsX8_record (cm_X8_record l D cy B od hD hE) (ci := 8) (by (repeat (first | exact hM | exact upA_eq | refine (upA_ne (by omega)).trans ?_))) rfl rfl rfl (Nat.le_of_ble_eq_true rfl) ⟨⟨by decide, by decide⟩, rfl, rfl⟩ ⟨Nat.le_of_ble_eq_true rfl, Nat.le_of_ble_eq_true rfl⟩ (fun v4 A4 q4 => ?_)
    obtain ⟨rfl, rfl⟩ := q4
    have hD3 := (hD.uhi (recH hy f.2.2.1 r)).uf (fN (nI 0, f.2) (recN f.2.2.1))
    obtain ⟨hM, hb, hr, hn, hs, hh, -⟩ := id hD3
    refine g_aload_n X rfl rfl ?_
    refine g_get X rfl flX8_16 (ci := 8) rfl (by (repeat (first | exact hM | exact upA_eq | refine (upA_ne (by omega)).trans ?_))) rfl ?_
    refine g_sipush X rfl (v := nI 518) (by decide) ?_
    refine g_iload_n X rfl rfl ?_
    refine g_iadd X rfl ?_
    rw [nI_add]
    refine g_iload_n X rfl rfl ?_
    refine g_iastN X rfl (by (repeat (first | exact hn | exact upA_eq | refine (upA_ne (by decide)).trans ?_))) (by omega) (by decide) ?_
    first | rw [upA_up] | skip
    refine g_aload_n X rfl rfl ?_
    refine g_get X rfl flX8_16 (ci := 8) rfl (by (repeat (first | exact hM | exact upA_eq | refine (upA_ne (by omega)).trans ?_))) rfl ?_
    refine g_sipush X rfl (v := nI 517) (by decide) ?_
    refine g_dup2 X rfl rfl rfl ?_
    refine g_ialdN X rfl upA_eq (by omega) (by decide) ?_
    rw [show upd r (518 + S.2.2.2.2.1) (cqAmt (V9 Z S)) 517 = nI S.2.2.2.2.1 by rw [pk_un (by omega), c517]]
    refine g_iconst X rfl (v := nI 1) (by decide) ?_
    refine g_iadd X rfl ?_
    rw [nI_add]
    refine g_iastN X rfl (by (repeat (first | exact hn | exact upA_eq | refine (upA_ne (by decide)).trans ?_))) (by omega) (by decide) ?_
    first | rw [upA_up] | skip
    refine g_iload_n X rfl rfl ?_
    refine g_iret X rfl rfl (by first | rfl | exact bI_nar _ | decide) (Nat.le_of_ble_eq_true rfl) (Nat.le_of_ble_eq_true rfl) ⟨rfl, ?_⟩
    exact mG0 (f := f) (by first | (simp_all [ocClose, nI_eq, vS, vZ, V9]; done) | (simp_all [ocClose, nI_eq, vS, vZ, V9, nI_0, n10]; done) | (simp_all [ocClose, nI_eq, vS, vZ, V9, nI_0, n10, ← Int32.not_le]; done) | (simp_all [ocClose, nI_eq, vS, vZ, V9, ← Int64.not_le]; done) | (simp_all [ocClose, nI_eq, vS, vZ, V9, nI_0, n10, ← Int64.not_le, ← Int32.not_le]; done)) (⟨(by repeat (first | exact hO1 | refine MOff.up ?_ (by decide) (by decide))), hD3.ur _⟩)
set_option maxRecDepth 100000 in
set_option maxHeartbeats 400000 in
theorem cm_X8_sellAsset (l : Launch) (D : va_G) (cy : Nat → ClassId) (B : Nat) (od : Nat → Option Nat) {A : AH} {f : MF} {r : Nat → Int32} {Z : SV} {S : StV} (hm : MdR cy A f r Z S) (hg : Rng Z S) (hgz : RngZ Z) {mb rd sv hy : Nat → Int32} (hD : MdA cy A f mb rd r sv hy) (hE : f.2.2.1 ≤ 8)  {x dy pr : Int32} : CM l D cy B od yX8_sellAsset cX8_sellAsset 6 (some .int) rmX8_sellAsset [.ref 231, .int x, .int dy, .int pr] A (fun v A' => v = some (mV (.int (nI 0)) (ocSell (V9 Z S) x dy pr)) ∧ ((∃ E, (ocSell (V9 Z S) x dy pr) = .inl E ∧ A' = upA A 231 (moE (nI (cX [eIOB, eIAE, eISE] (ocSell (V9 Z S) x dy pr)), f.2))) ∨ ((∃ y9, (ocSell (V9 Z S) x dy pr) = .inr y9) ∧ (MOff A A' ∧ MdA cy A' (fN (nI 0, f.2) (recN f.2.2.1)) (mb) (rd) (upd (upd r (457 + 5 * x.toNatClampNeg + 3) dy) (457 + 5 * x.toNatClampNeg + 4) pr) (sv) (recH hy f.2.2.1 r))))) := by
  intro z
  refine CT.of (by decide) tX8_sellAsset okX8_sellAsset (Nat.le_of_ble_eq_true rfl) (q0 := tX8_sellAsset[0]) rfl rfl ?_
  intro p e s m args below meth c X _
  have hM := hm.1
  refine g_aload_n X rfl rfl ?_
  refine g_iconst X rfl (v := nI 0) (by decide) ?_
  refine g_put X rfl flX8_41 rfl (ci := 8) rfl (by (repeat (first | exact hM | exact upA_eq | refine (upA_ne (by omega)).trans ?_))) (Nat.le_of_ble_eq_true rfl) (by first | rfl | exact bI_nar _) (by first | rfl | decide) ?_
  refine G.cast (A2 := upA A 231 (moE (nI 0, f.2))) rfl ?_
  obtain ⟨A1, hA1⟩ : ∃ A1, A1 = upA A 231 (moE (nI 0, f.2)) := ⟨_, rfl⟩
  refine G.cast (A2 := A1) hA1.symm ?_
  have hm := hm.thr (nI 0)
  rw [← hA1] at hm
  obtain ⟨hM, hn, hc, hw, hwb, hz⟩ := id hm
  obtain ⟨c0, ⟨c1, c2, c3, c4, c5⟩, cb, ⟨c16, cr⟩, ⟨c35, ce⟩, ⟨c456, ca⟩, c517, cp⟩ := id hc
  obtain ⟨w1, w2, w3, w4, w5⟩ := id hw
  have hD := hD.uf (nI 0, f.2)
  rw [← hA1] at hD
  obtain ⟨hM, hb, hr, hn, hs, hh, -⟩ := id hD
  have hO1 := MOff.r1 hA1
  refine g_aload_n X rfl rfl ?_
  refine g_aload_n X rfl rfl ?_
  refine g_iload_n X rfl rfl ?_
  refine g_rV X rfl lcX8_isAsset lmX8_232 lsX8_isAsset (cr_X8_isAsset l D cy B od hm) (ci := 8) (by (repeat (first | exact hM | exact upA_eq | refine (upA_ne (by omega)).trans ?_))) rfl rfl rfl (Nat.le_of_ble_eq_true rfl) ⟨⟨by decide, by decide⟩, rfl, rfl⟩ ⟨Nat.le_of_ble_eq_true rfl, Nat.le_of_ble_eq_true rfl⟩ ?_
  refine g_iconst X rfl (v := nI 1) (by decide) ?_
  refine g_mV X rfl lcX8_fails lmX8_52 lsX8_fails (cm_X8_failsB l D cy B od (by (repeat (first | exact hM | exact upA_eq | refine (upA_ne (by omega)).trans ?_)))) (ci := 8) (by (repeat (first | exact hM | exact upA_eq | refine (upA_ne (by omega)).trans ?_))) rfl rfl rfl (Nat.le_of_ble_eq_true rfl) ⟨⟨by decide, by decide⟩, rfl, rfl⟩ ⟨Nat.le_of_ble_eq_true rfl, Nat.le_of_ble_eq_true rfl⟩ (fun v1 A1 q1 => ?_)
  rcases q1 with ⟨h1, rfl, rfl⟩ | ⟨h1, rfl, rfl⟩
  · obtain ⟨i9, hi9, e9⟩ := ix_of (by simpa using h1) (by omega)
    subst e9
    have hcl := nI_clamp (n := i9) (by omega)
    obtain ⟨p8, d8, l8, s8, o8, hN⟩ := asset_N hg hi9
    obtain ⟨a1, a2, b2, g1, g2, s1, so1, a3, b3, g3, s2, e9⟩ := id hN
    refine g_if_ne X rfl (fun h => absurd nI_0 h) (fun _ => ?_)
    refine g_aload_n X rfl rfl ?_
    refine g_iload_n X rfl rfl ?_
    refine g_i2l X rfl ?_
    refine g_aload_n X rfl rfl ?_
    refine g_iload_n X rfl rfl ?_
    refine g_iconst X rfl (v := nI 1) (by decide) ?_
    refine g_rV X rfl lcX8_assetPart lmX8_229 lsX8_assetPart (cr_X8_assetPart l D cy B od hm (q := 1) (q2 := 1) (by omega) (by decide) rfl) (ci := 8) (by (repeat (first | exact hM | exact upA_eq | refine (upA_ne (by omega)).trans ?_))) rfl rfl rfl (Nat.le_of_ble_eq_true rfl) ⟨⟨by decide, by decide⟩, rfl, rfl⟩ ⟨Nat.le_of_ble_eq_true rfl, Nat.le_of_ble_eq_true rfl⟩ ?_
    refine g_i2l X rfl ?_
    refine g_ldc2 X rfl kcX8_174 ?_
    refine g_rS X rfl lcX8_in lmX8_56 stX8_in (cr_X8_in l D cy B od) rfl rfl (Nat.le_of_ble_eq_true rfl) ⟨⟨by decide, by decide⟩, rfl, rfl⟩ ⟨Nat.le_of_ble_eq_true rfl, Nat.le_of_ble_eq_true rfl⟩ ?_
    rw [in64 (lo := S.2.2.1.2 1 i9) (hi := nI 359) rfl (by decide)]
    first | refine g_if_eqB X rfl (fun h2 => ?_) (fun h2 => ?_) | refine g_if_eq X rfl (fun h2 => ?_) (fun h2 => ?_)
    · refine g_iconst X rfl (v := nI 0) (by decide) ?_
      refine g_iconst X rfl (v := nI 2) (by decide) ?_
      refine g_mV X rfl lcX8_fails lmX8_52 lsX8_fails (cm_X8_fails0 l D cy B od (by (repeat (first | exact hM | exact upA_eq | refine (upA_ne (by omega)).trans ?_)))) (ci := 8) (by (repeat (first | exact hM | exact upA_eq | refine (upA_ne (by omega)).trans ?_))) rfl rfl rfl (Nat.le_of_ble_eq_true rfl) ⟨⟨by decide, by decide⟩, rfl, rfl⟩ ⟨Nat.le_of_ble_eq_true rfl, Nat.le_of_ble_eq_true rfl⟩ (fun v3 A3 q3 => ?_)
      obtain ⟨rfl, rfl⟩ := q3
      refine g_if_ne X rfl (fun _ => ?_) (fun h => absurd h n10) 
      refine g_iconst X rfl (v := nI 0) (by decide) ?_
      refine g_iret X rfl rfl (by first | rfl | exact bI_nar _ | decide) (Nat.le_of_ble_eq_true rfl) (Nat.le_of_ble_eq_true rfl) ⟨rfl, ?_⟩
      exact mBx (E := eIAE) (by first | (simp_all [ocSell, nI_eq, vS, vZ, V9]; done) | (simp_all [ocSell, nI_eq, vS, vZ, V9, nI_0, n10]; done) | (simp_all [ocSell, nI_eq, vS, vZ, V9, nI_0, n10, ← Int32.not_le]; done) | (simp_all [ocSell, nI_eq, vS, vZ, V9, ← Int64.not_le]; done) | (simp_all [ocSell, nI_eq, vS, vZ, V9, nI_0, n10, ← Int64.not_le, ← Int32.not_le]; done)) (by decide) hA1
    · refine g_iload_n X rfl rfl ?_
      refine g_i2l X rfl ?_
      refine g_lconst X rfl (v := 0) (by decide) ?_
      refine g_ldc2 X rfl kcX8_225 ?_
      refine g_rS X rfl lcX8_in lmX8_56 stX8_in (cr_X8_in l D cy B od) rfl rfl (Nat.le_of_ble_eq_true rfl) ⟨⟨by decide, by decide⟩, rfl, rfl⟩ ⟨Nat.le_of_ble_eq_true rfl, Nat.le_of_ble_eq_true rfl⟩ ?_
      rw [in64 (lo := nI 0) (hi := nI 5000000) (by decide) (by decide)]
      first | refine g_if_eqB X rfl (fun h4 => ?_) (fun h4 => ?_) | refine g_if_eq X rfl (fun h4 => ?_) (fun h4 => ?_)
      · refine g_iconst X rfl (v := nI 0) (by decide) ?_
        refine g_iconst X rfl (v := nI 2) (by decide) ?_
        refine g_mV X rfl lcX8_fails lmX8_52 lsX8_fails (cm_X8_fails0 l D cy B od (by (repeat (first | exact hM | exact upA_eq | refine (upA_ne (by omega)).trans ?_)))) (ci := 8) (by (repeat (first | exact hM | exact upA_eq | refine (upA_ne (by omega)).trans ?_))) rfl rfl rfl (Nat.le_of_ble_eq_true rfl) ⟨⟨by decide, by decide⟩, rfl, rfl⟩ ⟨Nat.le_of_ble_eq_true rfl, Nat.le_of_ble_eq_true rfl⟩ (fun v5 A5 q5 => ?_)
        obtain ⟨rfl, rfl⟩ := q5
        refine g_if_ne X rfl (fun _ => ?_) (fun h => absurd h n10) 
        refine g_iconst X rfl (v := nI 0) (by decide) ?_
        refine g_iret X rfl rfl (by first | rfl | exact bI_nar _ | decide) (Nat.le_of_ble_eq_true rfl) (Nat.le_of_ble_eq_true rfl) ⟨rfl, ?_⟩
        exact mBx (E := eIAE) (by first | (simp_all [ocSell, nI_eq, vS, vZ, V9]; done) | (simp_all [ocSell, nI_eq, vS, vZ, V9, nI_0, n10]; done) | (simp_all [ocSell, nI_eq, vS, vZ, V9, nI_0, n10, ← Int32.not_le]; done) | (simp_all [ocSell, nI_eq, vS, vZ, V9, ← Int64.not_le]; done) | (simp_all [ocSell, nI_eq, vS, vZ, V9, nI_0, n10, ← Int64.not_le, ← Int32.not_le]; done)) (by decide) hA1
      · refine g_iconst X rfl (v := nI 1) (by decide) ?_
        refine g_goto X rfl ?_
        refine g_iconst X rfl (v := nI 2) (by decide) ?_
        refine g_mV X rfl lcX8_fails lmX8_52 lsX8_fails (cm_X8_fails1 l D cy B od (by (repeat (first | exact hM | exact upA_eq | refine (upA_ne (by omega)).trans ?_)))) (ci := 8) (by (repeat (first | exact hM | exact upA_eq | refine (upA_ne (by omega)).trans ?_))) rfl rfl rfl (Nat.le_of_ble_eq_true rfl) ⟨⟨by decide, by decide⟩, rfl, rfl⟩ ⟨Nat.le_of_ble_eq_true rfl, Nat.le_of_ble_eq_true rfl⟩ (fun v6 A6 q6 => ?_)
        obtain ⟨rfl, rfl⟩ := q6
        refine g_if_ne X rfl (fun h => absurd nI_0 h) (fun _ => ?_)
        refine g_aload_n X rfl rfl ?_
        refine g_aload_n X rfl rfl ?_
        refine g_iload_n X rfl rfl ?_
        refine g_rV X rfl lcX8_isSold lmX8_235 lsX8_isSold (cr_X8_isSold l D cy B od hm (by omega)) (ci := 8) (by (repeat (first | exact hM | exact upA_eq | refine (upA_ne (by omega)).trans ?_))) rfl rfl rfl (Nat.le_of_ble_eq_true rfl) ⟨⟨by decide, by decide⟩, rfl, rfl⟩ ⟨Nat.le_of_ble_eq_true rfl, Nat.le_of_ble_eq_true rfl⟩ ?_
        first | refine g_if_neB X rfl (fun h7 => ?_) (fun h7 => ?_) | refine g_if_ne X rfl (fun h7 => ?_) (fun h7 => ?_)
        · refine g_iconst X rfl (v := nI 0) (by decide) ?_
          refine g_iconst X rfl (v := nI 3) (by decide) ?_
          refine g_mV X rfl lcX8_fails lmX8_52 lsX8_fails (cm_X8_fails0 l D cy B od (by (repeat (first | exact hM | exact upA_eq | refine (upA_ne (by omega)).trans ?_)))) (ci := 8) (by (repeat (first | exact hM | exact upA_eq | refine (upA_ne (by omega)).trans ?_))) rfl rfl rfl (Nat.le_of_ble_eq_true rfl) ⟨⟨by decide, by decide⟩, rfl, rfl⟩ ⟨Nat.le_of_ble_eq_true rfl, Nat.le_of_ble_eq_true rfl⟩ (fun v8 A8 q8 => ?_)
          obtain ⟨rfl, rfl⟩ := q8
          refine g_if_eq X rfl (fun h => absurd h n10) (fun _ => ?_)
          refine g_iconst X rfl (v := nI 0) (by decide) ?_
          refine g_iret X rfl rfl (by first | rfl | exact bI_nar _ | decide) (Nat.le_of_ble_eq_true rfl) (Nat.le_of_ble_eq_true rfl) ⟨rfl, ?_⟩
          exact mBx (E := eISE) (by first | (simp_all [ocSell, nI_eq, vS, vZ, V9]; done) | (simp_all [ocSell, nI_eq, vS, vZ, V9, nI_0, n10]; done) | (simp_all [ocSell, nI_eq, vS, vZ, V9, nI_0, n10, ← Int32.not_le]; done) | (simp_all [ocSell, nI_eq, vS, vZ, V9, ← Int64.not_le]; done) | (simp_all [ocSell, nI_eq, vS, vZ, V9, nI_0, n10, ← Int64.not_le, ← Int32.not_le]; done)) (by decide) hA1
        · refine g_iconst X rfl (v := nI 1) (by decide) ?_
          refine g_goto X rfl ?_
          refine g_iconst X rfl (v := nI 3) (by decide) ?_
          refine g_mV X rfl lcX8_fails lmX8_52 lsX8_fails (cm_X8_fails1 l D cy B od (by (repeat (first | exact hM | exact upA_eq | refine (upA_ne (by omega)).trans ?_)))) (ci := 8) (by (repeat (first | exact hM | exact upA_eq | refine (upA_ne (by omega)).trans ?_))) rfl rfl rfl (Nat.le_of_ble_eq_true rfl) ⟨⟨by decide, by decide⟩, rfl, rfl⟩ ⟨Nat.le_of_ble_eq_true rfl, Nat.le_of_ble_eq_true rfl⟩ (fun v9 A9 q9 => ?_)
          obtain ⟨rfl, rfl⟩ := q9
          obtain ⟨y9, hy9, ey⟩ : ∃ y, y ≤ 359 ∧ dy = nI y := by
            have hw9 : within9 dy (S.2.2.1.2 1 i9) (nI 359) = true := by assumption
            rw [b3] at hw9
            unfold within9 at hw9
            rw [Bool.and_eq_true, decide_eq_true_eq, decide_eq_true_eq] at hw9
            obtain ⟨j, hj, e⟩ := nI_of (x := dy) (Int32.not_lt.mpr (Int32.le_trans (nI_pos' (by omega)) hw9.1))
            rw [e] at hw9
            exact ⟨j, (nI_leI hj (by decide)).mp hw9.2, e⟩
          have hoc : ocSell (V9 Z S) (nI i9) dy pr = .inr (.int (aVal S.2.2.1 i9 (dy / nI 30 - nI 1))) := by first | (simp_all [ocSell, nI_eq, vS, vZ, V9]; done) | (simp_all [ocSell, nI_eq, vS, vZ, V9, nI_0, n10]; done) | (simp_all [ocSell, nI_eq, vS, vZ, V9, nI_0, n10, ← Int32.not_le]; done) | (simp_all [ocSell, nI_eq, vS, vZ, V9, ← Int64.not_le]; done) | (simp_all [ocSell, nI_eq, vS, vZ, V9, nI_0, n10, ← Int64.not_le, ← Int32.not_le]; done)
          rw [ey] at hoc ⊢
          rw [pk_div (by omega) (by decide) (by decide)] at hoc
          refine g_if_eq X rfl (fun _ => ?_) (fun h => absurd nI_0 h) 
          refine g_iload_n X rfl rfl ?_
          refine g_bipush X rfl (v := nI 30) (by decide) ?_
          refine g_idiv X rfl (by decide) ?_
          rw [pk_div (by omega) (by decide) (by decide)]
          refine g_istore X rfl (by decide) ?_
          refine g_iload X rfl rfl ?_
          refine g_if_ne X rfl (fun h10 => ?_) (fun h10 => ?_)
          · rw [nI_eq0 (by omega)] at h10
            refine g_aload_n X rfl rfl ?_
            refine g_iload_n X rfl rfl ?_
            refine g_iload X rfl rfl ?_
            refine g_iconst X rfl (v := nI 1) (by decide) ?_
            refine g_isub X rfl ?_
            rw [pk_sub (by omega)]
            refine g_rV X rfl lcX8_valueOf lmX8_238 lsX8_valueOf (cr_X8_valueOf l D cy B od hm hg (by omega) (by omega)) (ci := 8) (by (repeat (first | exact hM | exact upA_eq | refine (upA_ne (by omega)).trans ?_))) rfl rfl rfl (Nat.le_of_ble_eq_true rfl) ⟨⟨by decide, by decide⟩, rfl, rfl⟩ ⟨Nat.le_of_ble_eq_true rfl, Nat.le_of_ble_eq_true rfl⟩ ?_
            refine g_istore X rfl (by decide) ?_
            first | (have hval : aVal S.2.2.1 i9 (nI (y9 / 30) - nI 1) = nI 0 := by rw [show y9 / 30 = 0 from by assumption]; exact aVal_m hg hi9) | (have hval : aVal S.2.2.1 i9 (nI (y9 / 30) - nI 1) = aVal S.2.2.1 i9 (nI (y9 / 30 - 1)) := by rw [pk_sub (by omega)])
            refine g_aload_n X rfl rfl ?_
            refine g_mV X rfl lcX8_record lmX8_193 lsX8_record (cm_X8_record l D cy B od hD hE) (ci := 8) (by (repeat (first | exact hM | exact upA_eq | refine (upA_ne (by omega)).trans ?_))) rfl rfl rfl (Nat.le_of_ble_eq_true rfl) ⟨⟨by decide, by decide⟩, rfl, rfl⟩ ⟨Nat.le_of_ble_eq_true rfl, Nat.le_of_ble_eq_true rfl⟩ (fun v11 A11 q11 => ?_)
            obtain ⟨rfl, rfl⟩ := q11
            have hD3 := (hD.uhi (recH hy f.2.2.1 r)).uf (fN (nI 0, f.2) (recN f.2.2.1))
            obtain ⟨hM, hb, hr, hn, hs, hh, -⟩ := id hD3
            refine g_aload_n X rfl rfl ?_
            refine g_get X rfl flX8_16 (ci := 8) rfl (by (repeat (first | exact hM | exact upA_eq | refine (upA_ne (by omega)).trans ?_))) rfl ?_
            refine g_sipush X rfl (v := nI 457) (by decide) ?_
            refine g_iconst X rfl (v := nI 5) (by decide) ?_
            refine g_iload_n X rfl rfl ?_
            refine g_imul X rfl ?_
            refine g_iadd X rfl ?_
            refine g_iconst X rfl (v := nI 3) (by decide) ?_
            refine g_iadd X rfl ?_
            rw [pk_mul, nI_add, nI_add]
            refine g_iload_n X rfl rfl ?_
            refine g_iastN X rfl (by (repeat (first | exact hn | exact upA_eq | refine (upA_ne (by decide)).trans ?_))) (by omega) (by decide) ?_
            first | rw [upA_up] | skip
            refine g_aload_n X rfl rfl ?_
            refine g_get X rfl flX8_16 (ci := 8) rfl (by (repeat (first | exact hM | exact upA_eq | refine (upA_ne (by omega)).trans ?_))) rfl ?_
            refine g_sipush X rfl (v := nI 457) (by decide) ?_
            refine g_iconst X rfl (v := nI 5) (by decide) ?_
            refine g_iload_n X rfl rfl ?_
            refine g_imul X rfl ?_
            refine g_iadd X rfl ?_
            refine g_iconst X rfl (v := nI 4) (by decide) ?_
            refine g_iadd X rfl ?_
            rw [pk_mul, nI_add, nI_add]
            refine g_iload_n X rfl rfl ?_
            refine g_iastN X rfl (by (repeat (first | exact hn | exact upA_eq | refine (upA_ne (by decide)).trans ?_))) (by omega) (by decide) ?_
            first | rw [upA_up] | skip
            refine g_iload X rfl rfl ?_
            refine g_iret X rfl rfl (by first | rfl | exact bI_nar _ | decide) (Nat.le_of_ble_eq_true rfl) (Nat.le_of_ble_eq_true rfl) ⟨rfl, ?_⟩
            rw [hcl]
            exact mG0 (f := f) (by rw [hoc, hval]) ⟨(by repeat (first | exact hO1 | refine MOff.up ?_ (by decide) (by decide))), hD3.ur _⟩
          · rw [nI_eq0 (by omega)] at h10
            refine g_iconst X rfl (v := nI 0) (by decide) ?_
            refine g_goto X rfl ?_
            refine g_istore X rfl (by decide) ?_
            first | (have hval : aVal S.2.2.1 i9 (nI (y9 / 30) - nI 1) = nI 0 := by rw [show y9 / 30 = 0 from by assumption]; exact aVal_m hg hi9) | (have hval : aVal S.2.2.1 i9 (nI (y9 / 30) - nI 1) = aVal S.2.2.1 i9 (nI (y9 / 30 - 1)) := by rw [pk_sub (by omega)])
            refine g_aload_n X rfl rfl ?_
            refine g_mV X rfl lcX8_record lmX8_193 lsX8_record (cm_X8_record l D cy B od hD hE) (ci := 8) (by (repeat (first | exact hM | exact upA_eq | refine (upA_ne (by omega)).trans ?_))) rfl rfl rfl (Nat.le_of_ble_eq_true rfl) ⟨⟨by decide, by decide⟩, rfl, rfl⟩ ⟨Nat.le_of_ble_eq_true rfl, Nat.le_of_ble_eq_true rfl⟩ (fun v12 A12 q12 => ?_)
            obtain ⟨rfl, rfl⟩ := q12
            have hD3 := (hD.uhi (recH hy f.2.2.1 r)).uf (fN (nI 0, f.2) (recN f.2.2.1))
            obtain ⟨hM, hb, hr, hn, hs, hh, -⟩ := id hD3
            refine g_aload_n X rfl rfl ?_
            refine g_get X rfl flX8_16 (ci := 8) rfl (by (repeat (first | exact hM | exact upA_eq | refine (upA_ne (by omega)).trans ?_))) rfl ?_
            refine g_sipush X rfl (v := nI 457) (by decide) ?_
            refine g_iconst X rfl (v := nI 5) (by decide) ?_
            refine g_iload_n X rfl rfl ?_
            refine g_imul X rfl ?_
            refine g_iadd X rfl ?_
            refine g_iconst X rfl (v := nI 3) (by decide) ?_
            refine g_iadd X rfl ?_
            rw [pk_mul, nI_add, nI_add]
            refine g_iload_n X rfl rfl ?_
            refine g_iastN X rfl (by (repeat (first | exact hn | exact upA_eq | refine (upA_ne (by decide)).trans ?_))) (by omega) (by decide) ?_
            first | rw [upA_up] | skip
            refine g_aload_n X rfl rfl ?_
            refine g_get X rfl flX8_16 (ci := 8) rfl (by (repeat (first | exact hM | exact upA_eq | refine (upA_ne (by omega)).trans ?_))) rfl ?_
            refine g_sipush X rfl (v := nI 457) (by decide) ?_
            refine g_iconst X rfl (v := nI 5) (by decide) ?_
            refine g_iload_n X rfl rfl ?_
            refine g_imul X rfl ?_
            refine g_iadd X rfl ?_
            refine g_iconst X rfl (v := nI 4) (by decide) ?_
            refine g_iadd X rfl ?_
            rw [pk_mul, nI_add, nI_add]
            refine g_iload_n X rfl rfl ?_
            refine g_iastN X rfl (by (repeat (first | exact hn | exact upA_eq | refine (upA_ne (by decide)).trans ?_))) (by omega) (by decide) ?_
            first | rw [upA_up] | skip
            refine g_iload X rfl rfl ?_
            refine g_iret X rfl rfl (by first | rfl | exact bI_nar _ | decide) (Nat.le_of_ble_eq_true rfl) (Nat.le_of_ble_eq_true rfl) ⟨rfl, ?_⟩
            rw [hcl]
            exact mG0 (f := f) (by rw [hoc, hval]) ⟨(by repeat (first | exact hO1 | refine MOff.up ?_ (by decide) (by decide))), hD3.ur _⟩
  · refine g_if_ne X rfl (fun _ => ?_) (fun h => absurd h n10) 
    refine g_iconst X rfl (v := nI 0) (by decide) ?_
    refine g_iret X rfl rfl (by first | rfl | exact bI_nar _ | decide) (Nat.le_of_ble_eq_true rfl) (Nat.le_of_ble_eq_true rfl) ⟨rfl, ?_⟩
    exact mBx (E := eIOB) (by first | (simp_all [ocSell, nI_eq, vS, vZ, V9]; done) | (simp_all [ocSell, nI_eq, vS, vZ, V9, nI_0, n10]; done) | (simp_all [ocSell, nI_eq, vS, vZ, V9, nI_0, n10, ← Int32.not_le]; done) | (simp_all [ocSell, nI_eq, vS, vZ, V9, ← Int64.not_le]; done) | (simp_all [ocSell, nI_eq, vS, vZ, V9, nI_0, n10, ← Int64.not_le, ← Int32.not_le]; done)) (by decide) hA1
