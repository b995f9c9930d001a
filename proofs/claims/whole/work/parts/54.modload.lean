/-! 54: the reference: append, errorPosition, load -/
set_option maxRecDepth 100000 in
set_option maxHeartbeats 400000 in
theorem lp_X8_appendN (l : Launch) (D : va_G) (cy : Nat → ClassId) (B : Nat) (od : Nat → Option Nat) {p : Program} {e : Env} {s : State} {m : MethodId} {args : Array Value} {below : List Frame} {meth : Method} {c : Code} {A : AH} {z : Nat} {a9 b9 c9 d9 e9 : Int32} {F : State → Prop} (X : Cx p s m args meth c D cy B od cX8_append 9 tX8_append RX8 (some .int)) (K : G p l e rmX8_append s m args below meth c D B od 9 tX8_append F 0 0 A z 26 [some (.ref 231), some (.int a9), some (.int b9), some (.int c9), some (.int d9), some (.int e9), some (.int (nI (cM (byM a9 b9 c9 d9 e9) 20))), some (.int (nI (20))), none] []) : ∀ (k i : Nat), 0 ≤ i → i ≤ 20 → 20 - i < k → G p l e rmX8_append s m args below meth c D B od 9 tX8_append F 0 0 A z 7 [some (.ref 231), some (.int a9), some (.int b9), some (.int c9), some (.int d9), some (.int e9), some (.int (nI (cM (byM a9 b9 c9 d9 e9) i))), some (.int (nI (i))), none] [] := by
  intro k
  induction k with
  | zero => intro i _ _ h; omega
  | succ k ih =>
    intro i hlo hi hk
    refine g_iload X rfl rfl ?_
    refine g_bipush X rfl (v := nI 20) (by decide) ?_
    first | refine g_ic_geN X rfl (by omega) (by omega) (fun h1 => ?_) (fun h1 => ?_) | refine g_icmp_ge X rfl (fun h1 => ?_) (fun h1 => ?_)
    · rw [show cM (byM a9 b9 c9 d9 e9) i = cM (byM a9 b9 c9 d9 e9) 20 by rw [show i = 20 by omega], show nI i = nI 20 by rw [show i = 20 by omega]]
      exact K
    · refine g_iload X rfl rfl ?_
      refine g_iload_n X rfl rfl ?_
      refine g_iload_n X rfl rfl ?_
      refine g_iload_n X rfl rfl ?_
      refine g_iload X rfl rfl ?_
      refine g_iload X rfl rfl ?_
      refine g_iload X rfl rfl ?_
      refine g_rS X rfl lcX8_byteOf lmX8_45 stX8_byteOf (cr_X8_byteOf l D cy B od (by omega)) rfl rfl (Nat.le_of_ble_eq_true rfl) ⟨⟨by decide, by decide⟩, rfl, rfl⟩ ⟨Nat.le_of_ble_eq_true rfl, Nat.le_of_ble_eq_true rfl⟩ ?_
      refine g_if_eq X rfl (fun h2 => ?_) (fun h2 => ?_)
      · refine g_iconst X rfl (v := nI 0) (by decide) ?_
        refine g_iadd X rfl ?_
        refine g_istore X rfl (by decide) ?_
        refine g_iinc1 X rfl rfl (by decide) ?_
        refine g_goto X rfl ?_
        have K9 := ih (i + 1) (by omega) (by omega) (by omega)
        first | (rw [show nI (cM (byM a9 b9 c9 d9 e9) (i + 1)) = nI (cM (byM a9 b9 c9 d9 e9) i) + nI 1 by rw [cM, cntN, if_pos (by simp_all), nI_add]] at K9; exact K9) | (rw [show nI (cM (byM a9 b9 c9 d9 e9) (i + 1)) = nI (cM (byM a9 b9 c9 d9 e9) i) + nI 0 by rw [cM, cntN, if_neg (by simp_all), nI_0, Int32.add_zero]] at K9; exact K9)
      · refine g_iconst X rfl (v := nI 1) (by decide) ?_
        refine g_goto X rfl ?_
        refine g_iadd X rfl ?_
        refine g_istore X rfl (by decide) ?_
        refine g_iinc1 X rfl rfl (by decide) ?_
        refine g_goto X rfl ?_
        have K9 := ih (i + 1) (by omega) (by omega) (by omega)
        first | (rw [show nI (cM (byM a9 b9 c9 d9 e9) (i + 1)) = nI (cM (byM a9 b9 c9 d9 e9) i) + nI 1 by rw [cM, cntN, if_pos (by simp_all), nI_add]] at K9; exact K9) | (rw [show nI (cM (byM a9 b9 c9 d9 e9) (i + 1)) = nI (cM (byM a9 b9 c9 d9 e9) i) + nI 0 by rw [cM, cntN, if_neg (by simp_all), nI_0, Int32.add_zero]] at K9; exact K9)
set_option maxRecDepth 100000 in
set_option maxHeartbeats 400000 in
theorem lp_X8_append (l : Launch) (D : va_G) (cy : Nat → ClassId) (B : Nat) (od : Nat → Option Nat) {p : Program} {e : Env} {s : State} {m : MethodId} {args : Array Value} {below : List Frame} {meth : Method} {c : Code} {A : AH} {z : Nat} {f : MF} {mb rd r sv hy : Nat → Int32} (hD : MdA cy A f mb rd r sv hy) {n6 : Int32} {a9 b9 c9 d9 e9 : Int32} (hl : f.2.1.1 + cM (byM a9 b9 c9 d9 e9) 20 ≤ 400) {Qf : Option Value → AH → Prop} (hQ : Qf (some (.int (nI (mPu (mb, f.2.1.1) (byM a9 b9 c9 d9 e9) 20).2))) (upA (upA A 232 (.inl (cy 0, 400, .inl ((mPu (mb, f.2.1.1) (byM a9 b9 c9 d9 e9) 20).1)))) 231 (moE (fL f (mPu (mb, f.2.1.1) (byM a9 b9 c9 d9 e9) 20).2)))) (X : Cx p s m args meth c D cy B od cX8_append 9 tX8_append RX8 (some .int)) : ∀ (k i : Nat) (o0 : Option Value), 0 ≤ i → i ≤ 20 → 20 - i < k → G p l e rmX8_append s m args below meth c D B od 9 tX8_append (FinQ false D B od (fun v A' z' => z' = z ∧ (Qf) v A') (fun _ _ => True) args s below rmX8_append.cells rmX8_append.slots) 0 0 (upA (upA A 232 (.inl (cy 0, 400, .inl ((mPu (mb, f.2.1.1) (byM a9 b9 c9 d9 e9) i).1)))) 231 (moE (fL f (mPu (mb, f.2.1.1) (byM a9 b9 c9 d9 e9) i).2))) z 43 [some (.ref 231), some (.int a9), some (.int b9), some (.int c9), some (.int d9), some (.int e9), some (.int n6), some (.int (nI i)), o0] [] := by
  intro k
  induction k with
  | zero => intro i _ _ _ h; omega
  | succ k ih =>
    intro i o0 hlo hi hk
    obtain ⟨hM, hb, hr, hn, hs, hh, -⟩ := id hD
    have hn9 := mPu_n (mb, f.2.1.1) (byM a9 b9 c9 d9 e9) i
    have hmo := cntN_mono (fun i => !((byM a9 b9 c9 d9 e9) i == 0)) i (20 - i)
    rw [show i + (20 - i) = 20 by omega] at hmo
    have hl20 : f.2.1.1 + cntN (fun i => !((byM a9 b9 c9 d9 e9) i == 0)) 20 ≤ 400 := hl
    have hn10 : (mPu (mb, f.2.1.1) (byM a9 b9 c9 d9 e9) i).2 = f.2.1.1 + cntN (fun i => !((byM a9 b9 c9 d9 e9) i == 0)) i := hn9
    have hM2 : (upA (upA A 232 (.inl (cy 0, 400, .inl ((mPu (mb, f.2.1.1) (byM a9 b9 c9 d9 e9) i).1)))) 231 (moE (fL f (mPu (mb, f.2.1.1) (byM a9 b9 c9 d9 e9) i).2))) 231 = some (moE (fL f (mPu (mb, f.2.1.1) (byM a9 b9 c9 d9 e9) i).2)) := upA_eq
    have hb2 : (upA (upA A 232 (.inl (cy 0, 400, .inl ((mPu (mb, f.2.1.1) (byM a9 b9 c9 d9 e9) i).1)))) 231 (moE (fL f (mPu (mb, f.2.1.1) (byM a9 b9 c9 d9 e9) i).2))) 232 = some (.inl (cy 0, 400, .inl ((mPu (mb, f.2.1.1) (byM a9 b9 c9 d9 e9) i).1))) := (upA_ne (by decide)).trans upA_eq
    refine g_iload X rfl rfl ?_
    refine g_bipush X rfl (v := nI 20) (by decide) ?_
    first | refine g_ic_geN X rfl (by omega) (by omega) (fun h1 => ?_) (fun h1 => ?_) | refine g_icmp_ge X rfl (fun h1 => ?_) (fun h1 => ?_)
    · refine g_aload_n X rfl rfl ?_
      refine g_get X rfl flX8_49 (ci := 8) rfl (by (repeat (first | exact hM | exact upA_eq | refine (upA_ne (by omega)).trans ?_))) rfl ?_
      refine g_iret X rfl rfl (by first | rfl | exact bI_nar _ | decide) (Nat.le_of_ble_eq_true rfl) (Nat.le_of_ble_eq_true rfl) ⟨rfl, ?_⟩
      have e22 : i = 20 := by omega
      subst e22
      exact hQ
    · refine g_iload_n X rfl rfl ?_
      refine g_iload_n X rfl rfl ?_
      refine g_iload_n X rfl rfl ?_
      refine g_iload X rfl rfl ?_
      refine g_iload X rfl rfl ?_
      refine g_iload X rfl rfl ?_
      refine g_rS X rfl lcX8_byteOf lmX8_45 stX8_byteOf (cr_X8_byteOf l D cy B od (by omega)) rfl rfl (Nat.le_of_ble_eq_true rfl) ⟨⟨by decide, by decide⟩, rfl, rfl⟩ ⟨Nat.le_of_ble_eq_true rfl, Nat.le_of_ble_eq_true rfl⟩ ?_
      refine g_istore X rfl (by decide) ?_
      refine g_iload X rfl rfl ?_
      refine g_if_eq X rfl (fun h2 => ?_) (fun h2 => ?_)
      · refine g_iinc1 X rfl rfl (by decide) ?_
        refine g_goto X rfl ?_
        have K9 := fun u0 => ih (i + 1) u0 (by omega) (by omega) (by omega)
        first | (rw [show mPu (mb, f.2.1.1) (byM a9 b9 c9 d9 e9) (i + 1) = mPu (mb, f.2.1.1) (byM a9 b9 c9 d9 e9) i from if_pos (by assumption)] at K9; exact K9 _) | (rw [show mPu (mb, f.2.1.1) (byM a9 b9 c9 d9 e9) (i + 1) = (upd (mPu (mb, f.2.1.1) (byM a9 b9 c9 d9 e9) i).1 (mPu (mb, f.2.1.1) (byM a9 b9 c9 d9 e9) i).2 ((byM a9 b9 c9 d9 e9) i), (mPu (mb, f.2.1.1) (byM a9 b9 c9 d9 e9) i).2 + 1) from if_neg (by assumption)] at K9; exact K9 _)
      · have hnz := h2
        have hlt : (mPu (mb, f.2.1.1) (byM a9 b9 c9 d9 e9) i).2 < 400 := by
          have h8 := cntN_mono (fun i => !((byM a9 b9 c9 d9 e9) i == 0)) (i + 1) (20 - (i + 1))
          rw [show i + 1 + (20 - (i + 1)) = 20 by omega, cntN, if_pos (by simp [hnz])] at h8
          omega
        refine g_aload_n X rfl rfl ?_
        refine g_get X rfl flX8_9 (ci := 8) rfl (by (repeat (first | exact hM | exact upA_eq | refine (upA_ne (by omega)).trans ?_))) rfl ?_
        refine g_aload_n X rfl rfl ?_
        refine g_get X rfl flX8_49 (ci := 8) rfl (by (repeat (first | exact hM | exact upA_eq | refine (upA_ne (by omega)).trans ?_))) rfl ?_
        refine g_iload X rfl rfl ?_
        refine g_iastN X rfl hb2 (by exact hlt) (by decide) ?_
        refine g_aload_n X rfl rfl ?_
        refine g_dup X rfl rfl ?_
        refine g_get X rfl flX8_49 (ci := 8) rfl (by (repeat (first | exact hM | exact upA_eq | refine (upA_ne (by omega)).trans ?_))) rfl ?_
        refine g_iconst X rfl (v := nI 1) (by decide) ?_
        refine g_iadd X rfl ?_
        rw [show (fL f (mPu (mb, f.2.1.1) (byM a9 b9 c9 d9 e9) i).2).2.1.1 = (mPu (mb, f.2.1.1) (byM a9 b9 c9 d9 e9) i).2 from rfl, nI_add]
        refine g_put X rfl flX8_49 rfl (ci := 8) rfl (by (repeat (first | exact hM | exact upA_eq | refine (upA_ne (by omega)).trans ?_))) (Nat.le_of_ble_eq_true rfl) (by first | rfl | exact bI_nar _) (by first | rfl | decide) ?_
        refine G.cast (A2 := upA (upA A 232 (.inl (cy 0, 400, .inl (upd (mPu (mb, f.2.1.1) (byM a9 b9 c9 d9 e9) i).1 (mPu (mb, f.2.1.1) (byM a9 b9 c9 d9 e9) i).2 ((byM a9 b9 c9 d9 e9) i))))) 231 (moE (fL f ((mPu (mb, f.2.1.1) (byM a9 b9 c9 d9 e9) i).2 + 1)))) (upA_sw (by decide)) ?_
        refine g_iinc1 X rfl rfl (by decide) ?_
        refine g_goto X rfl ?_
        have K9 := fun u0 => ih (i + 1) u0 (by omega) (by omega) (by omega)
        first | (rw [show mPu (mb, f.2.1.1) (byM a9 b9 c9 d9 e9) (i + 1) = mPu (mb, f.2.1.1) (byM a9 b9 c9 d9 e9) i from if_pos (by assumption)] at K9; exact K9 _) | (rw [show mPu (mb, f.2.1.1) (byM a9 b9 c9 d9 e9) (i + 1) = (upd (mPu (mb, f.2.1.1) (byM a9 b9 c9 d9 e9) i).1 (mPu (mb, f.2.1.1) (byM a9 b9 c9 d9 e9) i).2 ((byM a9 b9 c9 d9 e9) i), (mPu (mb, f.2.1.1) (byM a9 b9 c9 d9 e9) i).2 + 1) from if_neg (by assumption)] at K9; exact K9 _)
set_option maxRecDepth 100000 in
set_option maxHeartbeats 400000 in
theorem cm_X8_append (l : Launch) (D : va_G) (cy : Nat → ClassId) (B : Nat) (od : Nat → Option Nat) {A : AH} {f : MF} {r : Nat → Int32} {Z : SV} {S : StV} (hm : MdR cy A f r Z S) (hg : Rng Z S) (hgz : RngZ Z) {mb rd sv hy : Nat → Int32} (hD : MdA cy A f mb rd r sv hy) (hE : f.2.2.1 ≤ 8) (hlen : f.2.1.1 ≤ 400)  {a9 b9 c9 d9 e9 : Int32}  : CM l D cy B od yX8_append cX8_append 9 (some .int) rmX8_append [.ref 231, .int a9, .int b9, .int c9, .int d9, .int e9] A (fun v A' => v = some (mV (.int (nI 0)) (ocApp ((4, f.2.1.1, 0, S, Z) : LV) a9 b9 c9 d9 e9 (mPu (mb, f.2.1.1) (byM a9 b9 c9 d9 e9) 20).2)) ∧ ((∃ E, (ocApp ((4, f.2.1.1, 0, S, Z) : LV) a9 b9 c9 d9 e9 (mPu (mb, f.2.1.1) (byM a9 b9 c9 d9 e9) 20).2) = .inl E ∧ A' = upA A 231 (moE (nI (cX [eISE] (ocApp ((4, f.2.1.1, 0, S, Z) : LV) a9 b9 c9 d9 e9 (mPu (mb, f.2.1.1) (byM a9 b9 c9 d9 e9) 20).2)), f.2))) ∨ ((∃ y9, (ocApp ((4, f.2.1.1, 0, S, Z) : LV) a9 b9 c9 d9 e9 (mPu (mb, f.2.1.1) (byM a9 b9 c9 d9 e9) 20).2) = .inr y9) ∧ (MOff A A' ∧ MdA cy A' (fL (nI 0, f.2) (mPu (mb, f.2.1.1) (byM a9 b9 c9 d9 e9) 20).2) ((mPu (mb, f.2.1.1) (byM a9 b9 c9 d9 e9) 20).1) (rd) (r) (sv) (hy))))) := by
  intro z
  refine CT.of (by decide) tX8_append okX8_append (Nat.le_of_ble_eq_true rfl) (q0 := tX8_append[0]) rfl rfl ?_
  intro p e s m args below meth c X _
  have hM := hm.1
  refine g_aload_n X rfl rfl ?_
  refine g_iconst X rfl (v := nI 0) (by decide) ?_
  refine g_put X rfl flX8_41 rfl (ci := 8) rfl (by (repeat (first | exact hM | exact upA_eq | refine (upA_ne (by omega)).trans ?_))) (Nat.le_of_ble_eq_true rfl) (by first | rfl | exact bI_nar _) (by first | rfl | decide) ?_
  refine G.cast (A2 := upA A 231 (moE (nI 0, f.2))) rfl ?_
  obtain ⟨A1, hA1⟩ : ∃ A1, A1 = upA A 231 (moE (nI 0, f.2)) := ⟨_, rfl⟩
  refine G.cast (A2 := A1) hA1.symm ?_
  have hm := hm.thr (nI 0)
  rw [← hA1] at hm
  obtain ⟨hM, hn, hc, hw, hwb, hz⟩ := id hm
  obtain ⟨c0, ⟨c1, c2, c3, c4, c5⟩, cb, ⟨c16, cr⟩, ⟨c35, ce⟩, ⟨c456, ca⟩, c517, cp⟩ := id hc
  obtain ⟨w1, w2, w3, w4, w5⟩ := id hw
  have hD := hD.uf (nI 0, f.2)
  rw [← hA1] at hD
  obtain ⟨hM, hb, hr, hn, hs, hh, -⟩ := id hD
  have hO1 := MOff.r1 hA1
  refine g_iconst X rfl (v := nI 0) (by decide) ?_
  refine g_istore X rfl (by decide) ?_
  refine g_iconst X rfl (v := nI 0) (by decide) ?_
  refine g_istore X rfl (by decide) ?_
  refine lp_X8_appendN l D cy B od X ?_ 21 0 (by omega) (by omega) (by omega)
  refine g_aload_n X rfl rfl ?_
  refine g_aload_n X rfl rfl ?_
  refine g_get X rfl flX8_49 (ci := 8) rfl (by (repeat (first | exact hM | exact upA_eq | refine (upA_ne (by omega)).trans ?_))) rfl ?_
  refine g_iload X rfl rfl ?_
  refine g_iadd X rfl ?_
  rw [show (nI 0, f.2).2.1.1 = f.2.1.1 from rfl, nI_add]
  have hc20 : cM (byM a9 b9 c9 d9 e9) 20 ≤ 20 := cntN_le _ 20
  refine g_sipush X rfl (v := nI 400) (by decide) ?_
  first | refine g_ic_gtN X rfl (by omega) (by omega) (fun h1 => ?_) (fun h1 => ?_) | refine g_icmp_gt X rfl (fun h1 => ?_) (fun h1 => ?_)
  · refine g_iconst X rfl (v := nI 0) (by decide) ?_
    refine g_iconst X rfl (v := nI 1) (by decide) ?_
    refine g_mV X rfl lcX8_fails lmX8_52 lsX8_fails (cm_X8_fails0 l D cy B od (by (repeat (first | exact hM | exact upA_eq | refine (upA_ne (by omega)).trans ?_)))) (ci := 8) (by (repeat (first | exact hM | exact upA_eq | refine (upA_ne (by omega)).trans ?_))) rfl rfl rfl (Nat.le_of_ble_eq_true rfl) ⟨⟨by decide, by decide⟩, rfl, rfl⟩ ⟨Nat.le_of_ble_eq_true rfl, Nat.le_of_ble_eq_true rfl⟩ (fun v2 A2 q2 => ?_)
    obtain ⟨rfl, rfl⟩ := q2
    refine g_if_eq X rfl (fun h => absurd h n10) (fun _ => ?_)
    refine g_iconst X rfl (v := nI 0) (by decide) ?_
    refine g_iret X rfl rfl (by first | rfl | exact bI_nar _ | decide) (Nat.le_of_ble_eq_true rfl) (Nat.le_of_ble_eq_true rfl) ⟨rfl, ?_⟩
    exact mBx (E := eISE) (by unfold ocApp; rw [← cM_20]; exact if_neg (by show ¬ (f.2.1.1 + _ ≤ 400); omega)) (by decide) hA1
  · refine g_iconst X rfl (v := nI 1) (by decide) ?_
    refine g_goto X rfl ?_
    refine g_iconst X rfl (v := nI 1) (by decide) ?_
    refine g_mV X rfl lcX8_fails lmX8_52 lsX8_fails (cm_X8_fails1 l D cy B od (by (repeat (first | exact hM | exact upA_eq | refine (upA_ne (by omega)).trans ?_)))) (ci := 8) (by (repeat (first | exact hM | exact upA_eq | refine (upA_ne (by omega)).trans ?_))) rfl rfl rfl (Nat.le_of_ble_eq_true rfl) ⟨⟨by decide, by decide⟩, rfl, rfl⟩ ⟨Nat.le_of_ble_eq_true rfl, Nat.le_of_ble_eq_true rfl⟩ (fun v3 A3 q3 => ?_)
    obtain ⟨rfl, e8⟩ := q3
    have e8 := e8.symm
    subst e8
    refine g_if_eq X rfl (fun _ => ?_) (fun h => absurd nI_0 h) 
    refine g_iconst X rfl (v := nI 0) (by decide) ?_
    refine g_istore X rfl (by decide) ?_
    refine G.cast (A2 := upA (upA A1 232 (.inl (cy 0, 400, .inl ((mPu (mb, (nI 0, f.2).2.1.1) (byM a9 b9 c9 d9 e9) 0).1)))) 231 (moE (fL (nI 0, f.2) (mPu (mb, (nI 0, f.2).2.1.1) (byM a9 b9 c9 d9 e9) 0).2))) (by rw [show upA A1 232 (.inl (cy 0, 400, .inl ((mPu (mb, (nI 0, f.2).2.1.1) (byM a9 b9 c9 d9 e9) 0).1))) = A1 from upA_same hb]; exact (upA_same hM).symm) ?_
    exact lp_X8_append l D cy B od hD (Qf := fun v A' => v = some (mV (.int (nI 0)) (ocApp ((4, f.2.1.1, 0, S, Z) : LV) a9 b9 c9 d9 e9 (mPu (mb, f.2.1.1) (byM a9 b9 c9 d9 e9) 20).2)) ∧ ((∃ E, (ocApp ((4, f.2.1.1, 0, S, Z) : LV) a9 b9 c9 d9 e9 (mPu (mb, f.2.1.1) (byM a9 b9 c9 d9 e9) 20).2) = .inl E ∧ A' = upA A 231 (moE (nI (cX [eISE] (ocApp ((4, f.2.1.1, 0, S, Z) : LV) a9 b9 c9 d9 e9 (mPu (mb, f.2.1.1) (byM a9 b9 c9 d9 e9) 20).2)), f.2))) ∨ ((∃ y9, (ocApp ((4, f.2.1.1, 0, S, Z) : LV) a9 b9 c9 d9 e9 (mPu (mb, f.2.1.1) (byM a9 b9 c9 d9 e9) 20).2) = .inr y9) ∧ (MOff A A' ∧ MdA cy A' (fL (nI 0, f.2) (mPu (mb, f.2.1.1) (byM a9 b9 c9 d9 e9) 20).2) ((mPu (mb, f.2.1.1) (byM a9 b9 c9 d9 e9) 20).1) (rd) (r) (sv) (hy))))) (by show f.2.1.1 + _ ≤ 400; omega) (mG0 (f := f) (by unfold ocApp; rw [← cM_20]; exact if_pos (by show f.2.1.1 + _ ≤ 400; omega)) ⟨(by repeat (first | exact hO1 | refine MOff.up ?_ (by decide) (by decide))), (hD.ubu _).uf _⟩) X 21 0 _ (by omega) (by omega) (by omega)
def fPr (f : MF) (th : Int32) (len en : Nat) (sv : Int32) : Prop := f.1 = th ∧ f.2.1.1 = len ∧ f.2.2.1 = en ∧ f.2.2.2.2 = sv
/-- the reference after a text was read -/
theorem PEnd.md {cy : Nat → ClassId} {A A' : AH} {f : MF} {mb rd r sv hy : Nat → Int32} {R : Int32 × PS} (h : MdA cy A f mb rd r sv hy) (hE : PEnd cy A A' f.1 f.2.1.1 f.2.2.1 f.2.2.2.2 R) : ∃ f2 rd2, MOff A A' ∧ MdA cy A' f2 mb rd2 r sv hy ∧ fPr f2 f.1 f.2.1.1 f.2.2.1 f.2.2.2.2 ∧ ((R.1 = -1 ∧ RdC rd2 R.2.2.2.1 R.2.2.2.2 ∧ RgP R.2.2.2.1 R.2.2.2.2) ∨ ∃ n, n < 1000 ∧ R.1 = nI n) := by
  obtain ⟨h1, h2, h3, h4, h5, h6, g9, h7⟩ := h
  obtain ⟨hF, at9, fr, kd, num, td, rr, e1, e2, e3⟩ := hE
  exact ⟨(f.1, (f.2.1.1, at9, fr, kd, R.1, num), f.2.2.1, td, f.2.2.2.2), rr, fun k hk => hF k (by omega) (by omega), ⟨e1, (hF _ (by decide) (by decide)).trans h2, e2, (hF _ (by decide) (by decide)).trans h4, (hF _ (by decide) (by decide)).trans h5, (hF _ (by decide) (by decide)).trans h6, g9, (hF _ (by decide) (by decide)).trans h7⟩, ⟨rfl, rfl, rfl, rfl⟩, e3⟩
set_option maxRecDepth 100000 in
set_option maxHeartbeats 400000 in
theorem cm_X8_errorPosition (l : Launch) (D : va_G) (cy : Nat → ClassId) (B : Nat) (od : Nat → Option Nat) {A : AH} {f : MF} {mb rd r sv hy : Nat → Int32} (hD : MdA cy A f mb rd r sv hy) {tx : Nat → Int32} (hlen : f.2.1.1 ≤ 400) (hal : ∀ j, j < f.2.1.1 → mb j = tx j) (hpos : ∀ j, j < f.2.1.1 → 0 ≤ tx j) {kd0 nm0 : Int32} {n0 : Nat} {Z0 : SV} {Rm0 : RV}  : CM l D cy B od yX8_errorPosition cX8_errorPosition 1 (some .int) rmX8_errorPosition [.ref 231] A (fun v A' => v = some (.int (rdL tx f.2.1.1 400 (tokN tx f.2.1.1 (0, kd0, n0, nm0), (nI 0, nI 0, nI 0, nI 0), zDef Z0, (0, Rm0.2))).1) ∧ MOff A A' ∧ ∃ f2 rd2, MdA cy A' f2 mb rd2 r sv hy ∧ fPr f2 (nI 0) f.2.1.1 f.2.2.1 f.2.2.2.2) := by
  intro z
  refine CT.of (by decide) tX8_errorPosition okX8_errorPosition (Nat.le_of_ble_eq_true rfl) (q0 := tX8_errorPosition[0]) rfl rfl ?_
  intro p e s m args below meth c X _
  obtain ⟨hM, hb, hr, hn, hs, hh, -⟩ := id hD
  refine g_aload_n X rfl rfl ?_
  refine g_iconst X rfl (v := nI 0) (by decide) ?_
  refine g_put X rfl flX8_41 rfl (ci := 8) rfl (by (repeat (first | exact hM | exact upA_eq | refine (upA_ne (by omega)).trans ?_))) (Nat.le_of_ble_eq_true rfl) (by first | rfl | exact bI_nar _) (by first | rfl | decide) ?_
  refine G.cast (A2 := upA A 231 (moE (nI 0, f.2))) rfl ?_
  obtain ⟨A1, hA1⟩ : ∃ A1, A1 = upA A 231 (moE (nI 0, f.2)) := ⟨_, rfl⟩
  refine G.cast (A2 := A1) hA1.symm ?_
  have hD := hD.uf (nI 0, f.2)
  rw [← hA1] at hD
  obtain ⟨hM, hb, hr, hn, hs, hh, -⟩ := id hD
  have hO1 := MOff.r1 hA1
  refine g_aload_n X rfl rfl ?_
  refine g_mV X rfl lcX8_parse lmX8_164 lsX8_parse (cm_X8_parse l D cy B od (th := nI 0) (len := f.2.1.1) (at9 := f.2.1.2.1) (fr := f.2.1.2.2.1) (kd := f.2.1.2.2.2.1) (wr := f.2.1.2.2.2.2.1) (num := f.2.1.2.2.2.2.2) (en := f.2.2.1) (td := f.2.2.2.1) (sv := f.2.2.2.2) (mb := mb) (tx := tx) (rr := rd) hM ⟨hb, hlen, hal, hpos⟩ hr (kd0 := kd0) (nm0 := nm0) (n0 := n0) (Z0 := Z0) (Rm0 := Rm0)) (ci := 8) (by (repeat (first | exact hM | exact upA_eq | refine (upA_ne (by omega)).trans ?_))) rfl rfl rfl (Nat.le_of_ble_eq_true rfl) ⟨⟨by decide, by decide⟩, rfl, rfl⟩ ⟨Nat.le_of_ble_eq_true rfl, Nat.le_of_ble_eq_true rfl⟩ (fun v1 A1 q1 => ?_)
  obtain ⟨rfl, hPE⟩ := q1
  obtain ⟨f2, rd2, hO2, hD2, hf2, hcs⟩ := PEnd.md hD hPE
  refine g_iret X rfl rfl (by first | rfl | exact bI_nar _ | decide) (Nat.le_of_ble_eq_true rfl) (Nat.le_of_ble_eq_true rfl) ⟨rfl, ?_⟩
  exact ⟨rfl, hO1.trans hO2, f2, rd2, hD2, hf2⟩
set_option maxRecDepth 100000 in
set_option maxHeartbeats 400000 in
theorem cm_X8_load (l : Launch) (D : va_G) (cy : Nat → ClassId) (B : Nat) (od : Nat → Option Nat) {A : AH} {f : MF} {mb rd r sv hy : Nat → Int32} (hD : MdA cy A f mb rd r sv hy) {tx : Nat → Int32} (hlen : f.2.1.1 ≤ 400) (hal : ∀ j, j < f.2.1.1 → mb j = tx j) (hpos : ∀ j, j < f.2.1.1 → 0 ≤ tx j) {kd0 nm0 : Int32} {n0 : Nat} {Z0 : SV} {Rm0 : RV}  : CM l D cy B od yX8_load cX8_load 1 (some .int) rmX8_load [.ref 231] A (fun v A' => MOff A A' ∧ (((rdL tx f.2.1.1 400 (tokN tx f.2.1.1 (0, kd0, n0, nm0), (nI 0, nI 0, nI 0, nI 0), zDef Z0, (0, Rm0.2))).1 = -1 ∧ v = some (.int (nI (rdL tx f.2.1.1 400 (tokN tx f.2.1.1 (0, kd0, n0, nm0), (nI 0, nI 0, nI 0, nI 0), zDef Z0, (0, Rm0.2))).2.2.2.2.1)) ∧ ∃ f2 rd2, MdA cy A' f2 mb rd2 (cpF r 0 rd2 522) sv hy ∧ fPr f2 (nI 0) 0 0 (nI 0) ∧ RdC rd2 (rdL tx f.2.1.1 400 (tokN tx f.2.1.1 (0, kd0, n0, nm0), (nI 0, nI 0, nI 0, nI 0), zDef Z0, (0, Rm0.2))).2.2.2.1 (rdL tx f.2.1.1 400 (tokN tx f.2.1.1 (0, kd0, n0, nm0), (nI 0, nI 0, nI 0, nI 0), zDef Z0, (0, Rm0.2))).2.2.2.2 ∧ RgP (rdL tx f.2.1.1 400 (tokN tx f.2.1.1 (0, kd0, n0, nm0), (nI 0, nI 0, nI 0, nI 0), zDef Z0, (0, Rm0.2))).2.2.2.1 (rdL tx f.2.1.1 400 (tokN tx f.2.1.1 (0, kd0, n0, nm0), (nI 0, nI 0, nI 0, nI 0), zDef Z0, (0, Rm0.2))).2.2.2.2) ∨ (¬ (rdL tx f.2.1.1 400 (tokN tx f.2.1.1 (0, kd0, n0, nm0), (nI 0, nI 0, nI 0, nI 0), zDef Z0, (0, Rm0.2))).1 = -1 ∧ v = some (.int (nI 0)) ∧ ∃ f2 rd2, MdA cy A' f2 mb rd2 r sv hy ∧ fPr f2 (nI 1) f.2.1.1 f.2.2.1 f.2.2.2.2))) := by
  intro z
  refine CT.of (by decide) tX8_load okX8_load (Nat.le_of_ble_eq_true rfl) (q0 := tX8_load[0]) rfl rfl ?_
  intro p e s m args below meth c X _
  obtain ⟨hM, hb, hr, hn, hs, hh, -⟩ := id hD
  refine g_aload_n X rfl rfl ?_
  refine g_iconst X rfl (v := nI 0) (by decide) ?_
  refine g_put X rfl flX8_41 rfl (ci := 8) rfl (by (repeat (first | exact hM | exact upA_eq | refine (upA_ne (by omega)).trans ?_))) (Nat.le_of_ble_eq_true rfl) (by first | rfl | exact bI_nar _) (by first | rfl | decide) ?_
  refine G.cast (A2 := upA A 231 (moE (nI 0, f.2))) rfl ?_
  obtain ⟨A1, hA1⟩ : ∃ A1, A1 = upA A 231 (moE (nI 0, f.2)) := ⟨_, rfl⟩
  refine G.cast (A2 := A1) hA1.symm ?_
  have hD := hD.uf (nI 0, f.2)
  rw [← hA1] at hD
  obtain ⟨hM, hb, hr, hn, hs, hh, -⟩ := id hD
  have hO1 := MOff.r1 hA1
  refine g_aload_n X rfl rfl ?_
  refine g_aload_n X rfl rfl ?_
  refine g_mV X rfl lcX8_parse lmX8_164 lsX8_parse (cm_X8_parse l D cy B od (th := nI 0) (len := f.2.1.1) (at9 := f.2.1.2.1) (fr := f.2.1.2.2.1) (kd := f.2.1.2.2.2.1) (wr := f.2.1.2.2.2.2.1) (num := f.2.1.2.2.2.2.2) (en := f.2.2.1) (td := f.2.2.2.1) (sv := f.2.2.2.2) (mb := mb) (tx := tx) (rr := rd) hM ⟨hb, hlen, hal, hpos⟩ hr (kd0 := kd0) (nm0 := nm0) (n0 := n0) (Z0 := Z0) (Rm0 := Rm0)) (ci := 8) (by (repeat (first | exact hM | exact upA_eq | refine (upA_ne (by omega)).trans ?_))) rfl rfl rfl (Nat.le_of_ble_eq_true rfl) ⟨⟨by decide, by decide⟩, rfl, rfl⟩ ⟨Nat.le_of_ble_eq_true rfl, Nat.le_of_ble_eq_true rfl⟩ (fun v1 A1 q1 => ?_)
  obtain ⟨rfl, hPE⟩ := q1
  obtain ⟨f2, rd2, hO2, hD2, hf2, hcs⟩ := PEnd.md hD hPE
  refine g_if_ge X rfl (fun h2 => ?_) (fun h2 => ?_)
  · have hM := hD2.1
    have hne : ¬ (rdL tx f.2.1.1 400 (tokN tx f.2.1.1 (0, kd0, n0, nm0), (nI 0, nI 0, nI 0, nI 0), zDef Z0, (0, Rm0.2))).1 = -1 := fun z => absurd h2 (by rw [z]; decide)
    refine g_iconst X rfl (v := nI 0) (by decide) ?_
    refine g_iconst X rfl (v := nI 1) (by decide) ?_
    refine g_mV X rfl lcX8_fails lmX8_52 lsX8_fails (cm_X8_fails0 l D cy B od (by (repeat (first | exact hM | exact upA_eq | refine (upA_ne (by omega)).trans ?_)))) (ci := 8) (by (repeat (first | exact hM | exact upA_eq | refine (upA_ne (by omega)).trans ?_))) rfl rfl rfl (Nat.le_of_ble_eq_true rfl) ⟨⟨by decide, by decide⟩, rfl, rfl⟩ ⟨Nat.le_of_ble_eq_true rfl, Nat.le_of_ble_eq_true rfl⟩ (fun v3 A3 q3 => ?_)
    obtain ⟨rfl, rfl⟩ := q3
    refine g_if_eq X rfl (fun h => absurd h n10) (fun _ => ?_)
    refine g_iconst X rfl (v := nI 0) (by decide) ?_
    refine g_iret X rfl rfl (by first | rfl | exact bI_nar _ | decide) (Nat.le_of_ble_eq_true rfl) (Nat.le_of_ble_eq_true rfl) ⟨rfl, ?_⟩
    obtain ⟨g1, g2, g3, g4⟩ := hf2
    exact ⟨(hO1.trans hO2).up (by decide) (by decide), Or.inr ⟨hne, rfl, _, rd2, hD2.uf (nI 1, f2.2), rfl, g2, g3, g4⟩⟩
  · have hM := hD2.1
    obtain ⟨he, hC2, hg2⟩ : (rdL tx f.2.1.1 400 (tokN tx f.2.1.1 (0, kd0, n0, nm0), (nI 0, nI 0, nI 0, nI 0), zDef Z0, (0, Rm0.2))).1 = -1 ∧ RdC rd2 (rdL tx f.2.1.1 400 (tokN tx f.2.1.1 (0, kd0, n0, nm0), (nI 0, nI 0, nI 0, nI 0), zDef Z0, (0, Rm0.2))).2.2.2.1 (rdL tx f.2.1.1 400 (tokN tx f.2.1.1 (0, kd0, n0, nm0), (nI 0, nI 0, nI 0, nI 0), zDef Z0, (0, Rm0.2))).2.2.2.2 ∧ RgP (rdL tx f.2.1.1 400 (tokN tx f.2.1.1 (0, kd0, n0, nm0), (nI 0, nI 0, nI 0, nI 0), zDef Z0, (0, Rm0.2))).2.2.2.1 (rdL tx f.2.1.1 400 (tokN tx f.2.1.1 (0, kd0, n0, nm0), (nI 0, nI 0, nI 0, nI 0), zDef Z0, (0, Rm0.2))).2.2.2.2 := hcs.resolve_right (fun ⟨n, q1, q2⟩ => h2 (by rw [q2]; exact nI_pos' (by omega)))
    refine g_iconst X rfl (v := nI 1) (by decide) ?_
    refine g_goto X rfl ?_
    refine g_iconst X rfl (v := nI 1) (by decide) ?_
    refine g_mV X rfl lcX8_fails lmX8_52 lsX8_fails (cm_X8_fails1 l D cy B od (by (repeat (first | exact hM | exact upA_eq | refine (upA_ne (by omega)).trans ?_)))) (ci := 8) (by (repeat (first | exact hM | exact upA_eq | refine (upA_ne (by omega)).trans ?_))) rfl rfl rfl (Nat.le_of_ble_eq_true rfl) ⟨⟨by decide, by decide⟩, rfl, rfl⟩ ⟨Nat.le_of_ble_eq_true rfl, Nat.le_of_ble_eq_true rfl⟩ (fun v4 A4 q4 => ?_)
    obtain ⟨rfl, e8⟩ := q4
    have e8 := e8.symm
    subst e8
    refine g_if_eq X rfl (fun _ => ?_) (fun h => absurd nI_0 h) 
    refine g_aload_n X rfl rfl ?_
    refine g_mV X rfl lcX8_takeRead lmX8_38 lsX8_takeRead (cm_X8_takeRead l D cy B od hD2) (ci := 8) (by (repeat (first | exact hM | exact upA_eq | refine (upA_ne (by omega)).trans ?_))) rfl rfl rfl (Nat.le_of_ble_eq_true rfl) ⟨⟨by decide, by decide⟩, rfl, rfl⟩ ⟨Nat.le_of_ble_eq_true rfl, Nat.le_of_ble_eq_true rfl⟩ (fun v5 A5 q5 => ?_)
    obtain ⟨rfl, rfl⟩ := q5
    have hD3 := (hD2.ur (cpF r 0 rd2 522)).uf (fSv (fN f2 0) (nI 0))
    have hM := hD3.1
    have hn := hD3.2.2.2.1
    refine g_aload_n X rfl rfl ?_
    refine g_iconst X rfl (v := nI 0) (by decide) ?_
    refine g_put X rfl flX8_49 rfl (ci := 8) rfl (by (repeat (first | exact hM | exact upA_eq | refine (upA_ne (by omega)).trans ?_))) (Nat.le_of_ble_eq_true rfl) (by first | rfl | exact bI_nar _) (by first | rfl | decide) ?_
    refine g_aload_n X rfl rfl ?_
    refine g_get X rfl flX8_16 (ci := 8) rfl (by (repeat (first | exact hM | exact upA_eq | refine (upA_ne (by omega)).trans ?_))) rfl ?_
    refine g_bipush X rfl (v := nI 16) (by decide) ?_
    refine g_ialdN X rfl ((upA_ne (by decide)).trans hn) (by omega) (by decide) ?_
    rw [show cpF r 0 rd2 522 16 = rd2 16 from rfl, hC2.2.2.2.1.1]
    refine g_iret X rfl rfl (by first | rfl | exact bI_nar _ | decide) (Nat.le_of_ble_eq_true rfl) (Nat.le_of_ble_eq_true rfl) ⟨rfl, ?_⟩
    exact ⟨(((hO1.trans hO2).up (by decide) (by decide)).up (by decide) (by decide)).up (by decide) (by decide), Or.inl ⟨he, rfl, _, rd2, hD3.uf (fL (fSv (fN f2 0) (nI 0)) 0), ⟨hf2.1, rfl, rfl, rfl⟩, hC2, hg2⟩⟩
