/-! 23: append; the balance asked for -/
/-- the shifts 24, 16, 8, 0 and what follows -/
def shI : Nat → Int32
  | 0 => nI 24
  | 1 => nI 16
  | 2 => nI 8
  | 3 => nI 0
  | _ => -8
theorem shI_s : ∀ i, i < 4 → shI i + Int32.ofInt (-8) = shI (i + 1) := by decide
theorem shI_n : ∀ i, i < 4 → ¬ shI i < 0 := by decide
theorem shI_e : shI 4 < 0 := by decide
/-- the byte of a word at a shift -/
def byW (w : Int32) (i : Nat) : Int32 := (w.toUInt32 >>> ((shI i).toUInt32 &&& Int32.toUInt32 31)).toInt32 &&& nI 255
def bCnt (w : Int32) : Nat → Nat := cntN (fun i => !(byW w i == 0))
/-- a byte put behind the others -/
def pushB (st : (Nat → Int32) × Nat) (v : Int32) : (Nat → Int32) × Nat := if v = 0 then st else (upd st.1 st.2 v, st.2 + 1)
def pushC (st : (Nat → Int32) × Nat) (v : Int32) : (Nat → Int32) × Nat := if v = 0 ∨ 400 ≤ st.2 then st else (upd st.1 st.2 v, st.2 + 1)
def putW (st : (Nat → Int32) × Nat) (w : Int32) : Nat → (Nat → Int32) × Nat
  | 0 => st
  | n + 1 => pushC (putW st w n) (byW w n)
theorem pushC_le {st : (Nat → Int32) × Nat} {v : Int32} (h : st.2 ≤ 400) : (pushC st v).2 ≤ 400 := by
  unfold pushC
  split
  · exact h
  · rename_i g
    show st.2 + 1 ≤ 400
    have := (not_or.mp g).2
    omega
theorem putW_le {st : (Nat → Int32) × Nat} {w : Int32} (h : st.2 ≤ 400) : ∀ n, (putW st w n).2 ≤ 400
  | 0 => h
  | n + 1 => pushC_le (putW_le h n)
theorem upA_2 {A : AH} {x y x2 y2 : va_E} : upA (upA (upA (upA A 1 x) 0 y) 1 x2) 0 y2 = upA (upA A 1 x2) 0 y2 := by
  funext j
  unfold upA
  by_cases h0 : j = 0
  · simp [h0]
  · by_cases h1 : j = 1 <;> simp [h0, h1]
/-- the heap with another buffer and length -/
def buH (cy : Nat → ClassId) (A : AH) (V : LV) (st : (Nat → Int32) × Nat) : AH := upA (upA A 1 (.inl (cy 0, 400, .inl st.1))) 0 (.inr (7, [.ref 1, .int (nI st.2), .ref 2, .ref V.1, .ref 18, .ref 39, .int V.2.2.1, .ref 60, .ref 230]))
theorem buH_2 {cy : Nat → ClassId} {A : AH} {V : LV} {st : (Nat → Int32) × Nat} {f : Nat → Int32} {n : Nat} : upA (upA (buH cy A V st) 1 (.inl (cy 0, 400, .inl f))) 0 (.inr (7, [.ref 1, .int (nI n), .ref 2, .ref V.1, .ref 18, .ref 39, .int V.2.2.1, .ref 60, .ref 230])) = buH cy A V (f, n) := upA_2
theorem LedA.bu {cy : Nat → ClassId} {A : AH} {W : LW} {st : (Nat → Int32) × Nat} (h : LedA cy A W) (hn : st.2 ≤ 400) : LedA cy (buH cy A W.1 st) ((W.1.1, st.2, W.1.2.2), st.1, W.2.2) := h.upBuf.upObj hn
theorem buH_self {cy : Nat → ClassId} {A : AH} {W : LW} (h : LedA cy A W) : buH cy A W.1 (W.2.1, W.1.2.1) = A := by
  unfold buH
  rw [upA_same (x := .inl (cy 0, 400, .inl W.2.1)) h.2.2.2.1.1]
  exact upA_same h.1.1
set_option maxRecDepth 100000 in
set_option maxHeartbeats 400000 in
theorem lp_X7_bytesIn (l : Launch) (D : va_G) (cy : Nat → ClassId) (B : Nat) (od : Nat → Option Nat) {p : Program} {e : Env} {s : State} {m : MethodId} {args : Array Value} {below : List Frame} {meth : Method} {c : Code} {A : AH} {z : Nat} {w : Int32} (X : Cx p s m args meth c D cy B od cX7_bytesIn 3 tX7_bytesIn RX7 (some .int)) : ∀ (k i : Nat), 0 ≤ i → i ≤ 4 → 4 - i < k → G p l e rmX7_bytesIn s m args below meth c D B od 3 tX7_bytesIn (FinQ false D B od (fun v A' z' => v = some (.int (nI (bCnt w 4))) ∧ A' = A ∧ z' = z) (fun _ _ => True) args s below 0 0) 0 0 A z 4 [some (.int w), some (.int (nI (bCnt w i))), some (.int (shI i))] [] := by
  intro k
  induction k with
  | zero => intro i _ _ h; omega
  | succ k ih =>
    intro i hlo hi hk
    refine g_iload_n X rfl rfl ?_
    refine g_if_lt X rfl (fun h1 => ?_) (fun h1 => ?_)
    · refine g_iload_n X rfl rfl ?_
      refine g_iret X rfl rfl (by first | rfl | exact bI_nar _ | decide) (Nat.le_refl _) (Nat.le_refl _) ⟨?_, rfl, rfl⟩
      rw [show i = 4 by rcases Nat.lt_or_ge i 4 with g | g; exact absurd (by assumption) (shI_n i g); omega]
    · have hi4 : i < 4 := by rcases Nat.lt_or_ge i 4 with g | g; exact g; rw [show i = 4 by omega] at h1; exact absurd shI_e (by assumption)
      refine g_iload_n X rfl rfl ?_
      refine g_iload_n X rfl rfl ?_
      refine g_iushr X rfl ?_
      refine g_sipush X rfl (v := nI 255) (by decide) ?_
      refine g_iand X rfl ?_
      refine g_if_eq X rfl (fun h2 => ?_) (fun h2 => ?_)
      · refine g_iinc X rfl rfl (by decide) ?_
        refine g_goto X rfl ?_
        have K9 := ih (i + 1) (by omega) (by omega) (by omega)
        rw [← shI_s i (by omega)] at K9
        first | (rw [show bCnt w (i + 1) = bCnt w i + 1 by show cntN _ (i + 1) = _; rw [cntN, if_pos (by simp_all [byW])]; rfl] at K9; exact K9) | (rw [show bCnt w (i + 1) = bCnt w i by show cntN _ (i + 1) = _; rw [cntN, if_neg (by simp_all [byW])]; rfl] at K9; exact K9)
      · refine g_iinc1 X rfl rfl (by decide) ?_
        refine g_iinc X rfl rfl (by decide) ?_
        refine g_goto X rfl ?_
        have K9 := ih (i + 1) (by omega) (by omega) (by omega)
        rw [← shI_s i (by omega)] at K9
        first | (rw [show bCnt w (i + 1) = bCnt w i + 1 by show cntN _ (i + 1) = _; rw [cntN, if_pos (by simp_all [byW])]; rfl] at K9; exact K9) | (rw [show bCnt w (i + 1) = bCnt w i by show cntN _ (i + 1) = _; rw [cntN, if_neg (by simp_all [byW])]; rfl] at K9; exact K9)
set_option maxRecDepth 100000 in
set_option maxHeartbeats 400000 in
theorem cr_X7_bytesIn (l : Launch) (D : va_G) (cy : Nat → ClassId) (B : Nat) (od : Nat → Option Nat) {A : AH} {w : Int32} : CR l D cy B od yX7_bytesIn cX7_bytesIn 3 (some .int) rmX7_bytesIn [.int w] A (.int (nI (bCnt w 4))) := by
  intro z
  refine CT.of (by decide) tX7_bytesIn okX7_bytesIn (Nat.le_of_ble_eq_true rfl) (q0 := tX7_bytesIn[0]) rfl rfl ?_
  intro p e s m args below meth c X _
  refine g_iconst X rfl (v := nI 0) (by decide) ?_
  refine g_istore_n X rfl (by decide) ?_
  refine g_bipush X rfl (v := nI 24) (by decide) ?_
  refine g_istore_n X rfl (by decide) ?_
  exact lp_X7_bytesIn l D cy B od  X (4 + 1) 0 (by omega) (by omega) (by omega)
set_option maxRecDepth 100000 in
set_option maxHeartbeats 400000 in
theorem lp_X7_putBytes (l : Launch) (D : va_G) (cy : Nat → ClassId) (B : Nat) (od : Nat → Option Nat) {p : Program} {e : Env} {s : State} {m : MethodId} {args : Array Value} {below : List Frame} {meth : Method} {c : Code} {A : AH} {z : Nat} {W : LW} {w : Int32} (hbl : W.1.2.1 ≤ 400) (X : Cx p s m args meth c D cy B od cX7_putBytes 4 tX7_putBytes RX7 none) : ∀ (k i : Nat) (o0 : Option Value), 0 ≤ i → i ≤ 4 → 4 - i < k → G p l e rmX7_putBytes s m args below meth c D B od 4 tX7_putBytes (FinQ false D B od (fun v A' z' => z' = z ∧ (fun v A' => v = none ∧ A' = buH cy A W.1 (putW (W.2.1, W.1.2.1) w 4)) v A') (fun _ _ => True) args s below rmX7_putBytes.cells rmX7_putBytes.slots) 0 0 (buH cy A W.1 (putW (W.2.1, W.1.2.1) w i)) z 2 [some (.ref 0), some (.int w), some (.int (shI i)), o0] [] := by
  intro k
  induction k with
  | zero => intro i _ _ _ h; omega
  | succ k ih =>
    intro i o0 hlo hi hk
    have hle := putW_le (st := (W.2.1, W.1.2.1)) (w := w) hbl i
    have hL : buH cy A W.1 (putW (W.2.1, W.1.2.1) w i) 0 = some (.inr (7, [.ref 1, .int (nI (putW (W.2.1, W.1.2.1) w i).2), .ref 2, .ref W.1.1, .ref 18, .ref 39, .int W.1.2.2.1, .ref 60, .ref 230])) := upA_eq
    have hb : buH cy A W.1 (putW (W.2.1, W.1.2.1) w i) 1 = some (.inl (cy 0, 400, .inl (putW (W.2.1, W.1.2.1) w i).1)) := (upA_ne (by decide)).trans upA_eq
    refine g_iload_n X rfl rfl ?_
    refine g_if_lt X rfl (fun h1 => ?_) (fun h1 => ?_)
    · refine g_vret X rfl rfl (Nat.le_of_ble_eq_true rfl) (Nat.le_of_ble_eq_true rfl) ⟨rfl, ?_⟩
      exact ⟨rfl, by rw [show i = 4 by rcases Nat.lt_or_ge i 4 with g | g; exact absurd (by assumption) (shI_n i g); omega]⟩
    · have hi4 : i < 4 := by rcases Nat.lt_or_ge i 4 with g | g; exact g; rw [show i = 4 by omega] at h1; exact absurd shI_e (by assumption)
      refine g_iload_n X rfl rfl ?_
      refine g_iload_n X rfl rfl ?_
      refine g_iushr X rfl ?_
      refine g_sipush X rfl (v := nI 255) (by decide) ?_
      refine g_iand X rfl ?_
      refine g_istore_n X rfl (by decide) ?_
      refine g_iload_n X rfl rfl ?_
      refine g_if_eq X rfl (fun h2 => ?_) (fun h2 => ?_)
      · refine g_iinc X rfl rfl (by decide) ?_
        refine g_goto X rfl ?_
        have K9 := fun u0 => ih (i + 1) u0 (by omega) (by omega) (by omega)
        rw [← shI_s i (by omega)] at K9
        first | (rw [show putW (W.2.1, W.1.2.1) w (i + 1) = (putW (W.2.1, W.1.2.1) w i) by show pushC _ _ = _; unfold pushC; rw [if_pos (Or.inl (by assumption))]] at K9; exact K9 _) | (rw [show putW (W.2.1, W.1.2.1) w (i + 1) = (putW (W.2.1, W.1.2.1) w i) by show pushC _ _ = _; unfold pushC; rw [if_pos (Or.inr (by assumption))]] at K9; exact K9 _) | (rw [show putW (W.2.1, W.1.2.1) w (i + 1) = (upd (putW (W.2.1, W.1.2.1) w i).1 (putW (W.2.1, W.1.2.1) w i).2 (byW w i), (putW (W.2.1, W.1.2.1) w i).2 + 1) by show pushC _ _ = _; unfold pushC; rw [if_neg (fun q => q.elim (by assumption) (by omega))]] at K9; refine G.cast (A2 := buH cy A W.1 (upd (putW (W.2.1, W.1.2.1) w i).1 (putW (W.2.1, W.1.2.1) w i).2 (byW w i), (putW (W.2.1, W.1.2.1) w i).2 + 1)) buH_2 ?_; exact K9 _)
      · refine g_aload_n X rfl rfl ?_
        refine g_get X rfl flX7_62 (ci := 7) rfl (by (repeat (first | exact hL | exact upA_eq | refine (upA_ne (by omega)).trans ?_))) rfl ?_
        refine g_sipush X rfl (v := nI 400) (by decide) ?_
        first | refine g_ic_geN X rfl (by omega) (by omega) (fun h3 => ?_) (fun h3 => ?_) | refine g_icmp_ge X rfl (fun h3 => ?_) (fun h3 => ?_)
        · refine g_iinc X rfl rfl (by decide) ?_
          refine g_goto X rfl ?_
          have K9 := fun u0 => ih (i + 1) u0 (by omega) (by omega) (by omega)
          rw [← shI_s i (by omega)] at K9
          first | (rw [show putW (W.2.1, W.1.2.1) w (i + 1) = (putW (W.2.1, W.1.2.1) w i) by show pushC _ _ = _; unfold pushC; rw [if_pos (Or.inl (by assumption))]] at K9; exact K9 _) | (rw [show putW (W.2.1, W.1.2.1) w (i + 1) = (putW (W.2.1, W.1.2.1) w i) by show pushC _ _ = _; unfold pushC; rw [if_pos (Or.inr (by assumption))]] at K9; exact K9 _) | (rw [show putW (W.2.1, W.1.2.1) w (i + 1) = (upd (putW (W.2.1, W.1.2.1) w i).1 (putW (W.2.1, W.1.2.1) w i).2 (byW w i), (putW (W.2.1, W.1.2.1) w i).2 + 1) by show pushC _ _ = _; unfold pushC; rw [if_neg (fun q => q.elim (by assumption) (by omega))]] at K9; refine G.cast (A2 := buH cy A W.1 (upd (putW (W.2.1, W.1.2.1) w i).1 (putW (W.2.1, W.1.2.1) w i).2 (byW w i), (putW (W.2.1, W.1.2.1) w i).2 + 1)) buH_2 ?_; exact K9 _)
        · refine g_aload_n X rfl rfl ?_
          refine g_get X rfl flX7_9 (ci := 7) rfl (by (repeat (first | exact hL | exact upA_eq | refine (upA_ne (by omega)).trans ?_))) rfl ?_
          refine g_aload_n X rfl rfl ?_
          refine g_get X rfl flX7_62 (ci := 7) rfl (by (repeat (first | exact hL | exact upA_eq | refine (upA_ne (by omega)).trans ?_))) rfl ?_
          refine g_iload_n X rfl rfl ?_
          refine g_iastN X rfl (by (repeat (first | exact hb | exact upA_eq | refine (upA_ne (by omega)).trans ?_))) (by omega) (by decide) ?_
          refine g_aload_n X rfl rfl ?_
          refine g_dup X rfl rfl ?_
          refine g_get X rfl flX7_62 (ci := 7) rfl (by (repeat (first | exact hL | exact upA_eq | refine (upA_ne (by omega)).trans ?_))) rfl ?_
          refine g_iconst X rfl (v := nI 1) (by decide) ?_
          refine g_iadd X rfl ?_
          rw [nI_add]
          refine g_put X rfl flX7_62 rfl (ci := 7) rfl (by (repeat (first | exact hL | exact upA_eq | refine (upA_ne (by omega)).trans ?_))) (Nat.le_of_ble_eq_true rfl) (by first | rfl | exact bI_nar _) (by first | rfl | decide) ?_
          refine g_iinc X rfl rfl (by decide) ?_
          refine g_goto X rfl ?_
          have K9 := fun u0 => ih (i + 1) u0 (by omega) (by omega) (by omega)
          rw [← shI_s i (by omega)] at K9
          first | (rw [show putW (W.2.1, W.1.2.1) w (i + 1) = (putW (W.2.1, W.1.2.1) w i) by show pushC _ _ = _; unfold pushC; rw [if_pos (Or.inl (by assumption))]] at K9; exact K9 _) | (rw [show putW (W.2.1, W.1.2.1) w (i + 1) = (putW (W.2.1, W.1.2.1) w i) by show pushC _ _ = _; unfold pushC; rw [if_pos (Or.inr (by assumption))]] at K9; exact K9 _) | (rw [show putW (W.2.1, W.1.2.1) w (i + 1) = (upd (putW (W.2.1, W.1.2.1) w i).1 (putW (W.2.1, W.1.2.1) w i).2 (byW w i), (putW (W.2.1, W.1.2.1) w i).2 + 1) by show pushC _ _ = _; unfold pushC; rw [if_neg (fun q => q.elim (by assumption) (by omega))]] at K9; refine G.cast (A2 := buH cy A W.1 (upd (putW (W.2.1, W.1.2.1) w i).1 (putW (W.2.1, W.1.2.1) w i).2 (byW w i), (putW (W.2.1, W.1.2.1) w i).2 + 1)) buH_2 ?_; exact K9 _)
set_option maxRecDepth 100000 in
set_option maxHeartbeats 400000 in
theorem cm_X7_putBytes (l : Launch) (D : va_G) (cy : Nat → ClassId) (B : Nat) (od : Nat → Option Nat) {A : AH} {W : LW} (hW : LedA cy A W) {w : Int32} : CM l D cy B od yX7_putBytes cX7_putBytes 4 none rmX7_putBytes [.ref 0, .int w] A (fun v A' => v = none ∧ A' = buH cy A W.1 (putW (W.2.1, W.1.2.1) w 4)) := by
  intro z
  refine CT.of (by decide) tX7_putBytes okX7_putBytes (Nat.le_of_ble_eq_true rfl) (q0 := tX7_putBytes[0]) rfl rfl ?_
  intro p e s m args below meth c X _
  have hbl := hW.2.2.2.1.2
  refine g_bipush X rfl (v := nI 24) (by decide) ?_
  refine g_istore_n X rfl (by decide) ?_
  refine G.cast (A2 := buH cy A W.1 (putW (W.2.1, W.1.2.1) w 0)) (buH_self hW).symm ?_
  exact lp_X7_putBytes l D cy B od hbl X 5 0 _ (by omega) (by omega) (by omega)
def putL (st : (Nat → Int32) × Nat) : List Int32 → (Nat → Int32) × Nat
  | [] => st
  | w :: ws => putL (putW st w 4) ws
theorem putL_le {st : (Nat → Int32) × Nat} (h : st.2 ≤ 400) : ∀ ws, (putL st ws).2 ≤ 400
  | [] => h
  | w :: ws => putL_le (putW_le h 4) ws
theorem buH_bu {cy : Nat → ClassId} {A : AH} {V : LV} {st st2 : (Nat → Int32) × Nat} {n : Nat} {rest : Int32 × StV × SV} (h : V = (V.1, n, V.2.2)) : buH cy (buH cy A V st) (V.1, st.2, V.2.2) st2 = buH cy A V st2 := upA_2
def ocApp (V : LV) (a b c d e : Int32) (n2 : Nat) : OC := if V.2.1 + (bCnt a 4 + bCnt b 4 + bCnt c 4 + bCnt d 4 + bCnt e 4) ≤ 400 then .inr (.int (nI n2)) else .inl eISE
set_option maxRecDepth 100000 in
set_option maxHeartbeats 400000 in
theorem cp_X7_append (l : Launch) (D : va_G) (cy : Nat → ClassId) (B : Nat) (od : Nat → Option Nat) (hl9 : l.stackTraces = false) {A : AH} {W : LW} (hW : LedA cy A W) {a9 b9 c9 d9 e9 : Int32} : CP l D cy B od yX7_append cX7_append 7 (some .int) rmX7_append [.ref 0, .int a9, .int b9, .int c9, .int d9, .int e9] A (ocApp W.1 a9 b9 c9 d9 e9 (putL (W.2.1, W.1.2.1) [a9, b9, c9, d9, e9]).2) (fun A' => SameOff A A' 0 231 ∧ LedA cy A' ((W.1.1, (putL (W.2.1, W.1.2.1) [a9, b9, c9, d9, e9]).2, W.1.2.2), (putL (W.2.1, W.1.2.1) [a9, b9, c9, d9, e9]).1, W.2.2)) (fun A' => A' = A) := by
  intro z
  refine CX.of (by decide) tX7_append okX7_append (Nat.le_of_ble_eq_true rfl) (q0 := tX7_append[0]) rfl rfl ?_
  intro p e s m args below meth c X hnt
  obtain ⟨hV, hwb, ⟨Rm, hRm, hRn⟩, ⟨hb, hbl⟩, ⟨hv9, hvw, hvb⟩, ⟨hH9, hHw⟩, ⟨fb, hbal⟩, hrd⟩ := id hW
  obtain ⟨hL, hs9, hw, hS9, hsn⟩ := id hV
  obtain ⟨hS, hS0, hS1⟩ := id hS9
  obtain ⟨hs, hE9, hR9, hA9, hp⟩ := id hs9
  obtain ⟨hE, hE0, hE1, hE2, hE3, hE4, hE5, hE6⟩ := id hE9
  obtain ⟨hR, hR0, hR1, hR2⟩ := id hR9
  obtain ⟨hA, hA0, hA1, hA2, hA3, hA4, hA5⟩ := id hA9
  obtain ⟨w1, w2, w3, w4, w5⟩ := id hw
  refine g_iload_n X rfl rfl ?_
  refine g_rS X rfl lcX7_bytesIn lmX7_58 stX7_bytesIn (cr_X7_bytesIn l D cy B od) rfl rfl (Nat.le_of_ble_eq_true rfl) ⟨⟨by decide, by decide⟩, rfl, rfl⟩ ⟨Nat.le_of_ble_eq_true rfl, Nat.le_of_ble_eq_true rfl⟩ ?_
  refine g_iload_n X rfl rfl ?_
  refine g_rS X rfl lcX7_bytesIn lmX7_58 stX7_bytesIn (cr_X7_bytesIn l D cy B od) rfl rfl (Nat.le_of_ble_eq_true rfl) ⟨⟨by decide, by decide⟩, rfl, rfl⟩ ⟨Nat.le_of_ble_eq_true rfl, Nat.le_of_ble_eq_true rfl⟩ ?_
  refine g_iadd X rfl ?_
  refine g_iload_n X rfl rfl ?_
  refine g_rS X rfl lcX7_bytesIn lmX7_58 stX7_bytesIn (cr_X7_bytesIn l D cy B od) rfl rfl (Nat.le_of_ble_eq_true rfl) ⟨⟨by decide, by decide⟩, rfl, rfl⟩ ⟨Nat.le_of_ble_eq_true rfl, Nat.le_of_ble_eq_true rfl⟩ ?_
  refine g_iadd X rfl ?_
  refine g_iload X rfl rfl ?_
  refine g_rS X rfl lcX7_bytesIn lmX7_58 stX7_bytesIn (cr_X7_bytesIn l D cy B od) rfl rfl (Nat.le_of_ble_eq_true rfl) ⟨⟨by decide, by decide⟩, rfl, rfl⟩ ⟨Nat.le_of_ble_eq_true rfl, Nat.le_of_ble_eq_true rfl⟩ ?_
  refine g_iadd X rfl ?_
  refine g_iload X rfl rfl ?_
  refine g_rS X rfl lcX7_bytesIn lmX7_58 stX7_bytesIn (cr_X7_bytesIn l D cy B od) rfl rfl (Nat.le_of_ble_eq_true rfl) ⟨⟨by decide, by decide⟩, rfl, rfl⟩ ⟨Nat.le_of_ble_eq_true rfl, Nat.le_of_ble_eq_true rfl⟩ ?_
  refine g_iadd X rfl ?_
  rw [nI_add, nI_add, nI_add, nI_add]
  have hc9 : ∀ w, bCnt w 4 ≤ 4 := fun w => cntN_le _ 4
  have q1 := hc9 a9
  have q2 := hc9 b9
  have q3 := hc9 c9
  have q4 := hc9 d9
  have q5 := hc9 e9
  refine g_istore X rfl (by decide) ?_
  refine g_aload_n X rfl rfl ?_
  refine g_get X rfl flX7_62 (ci := 7) rfl (by (repeat (first | exact hL | exact upA_eq | refine (upA_ne (by omega)).trans ?_))) rfl ?_
  refine g_iload X rfl rfl ?_
  refine g_iadd X rfl ?_
  rw [nI_add]
  refine g_sipush X rfl (v := nI 400) (by decide) ?_
  first | refine g_ic_gtN X rfl (by omega) (by omega) (fun h1 => ?_) (fun h1 => ?_) | refine g_icmp_gt X rfl (fun h1 => ?_) (fun h1 => ?_)
  · refine g_iconst X rfl (v := nI 0) (by decide) ?_
    refine g_req X hnt rfl lcX7_requireState lmX7_66 stX7_requireState (cq_X7_requireState l D cy B od hl9) rfl rfl (Nat.le_of_ble_eq_true rfl) ⟨by decide, by decide⟩ ⟨Nat.le_of_ble_eq_true rfl, Nat.le_of_ble_eq_true rfl⟩ (Nat.le_of_ble_eq_true rfl) (Nat.le_of_ble_eq_true rfl) (fun h2 => ?_) (fun h2 => absurd nI_0 h2)
    exact ⟨by rw [ocApp, if_neg (by omega)], rfl⟩
  · refine g_iconst X rfl (v := nI 1) (by decide) ?_
    refine g_goto X rfl ?_
    refine g_req X hnt rfl lcX7_requireState lmX7_66 stX7_requireState (cq_X7_requireState l D cy B od hl9) rfl rfl (Nat.le_of_ble_eq_true rfl) ⟨by decide, by decide⟩ ⟨Nat.le_of_ble_eq_true rfl, Nat.le_of_ble_eq_true rfl⟩ (Nat.le_of_ble_eq_true rfl) (Nat.le_of_ble_eq_true rfl) (fun h3 => absurd n10 h3) (fun h3 => ?_)
    have hoc : (ocApp W.1 a9 b9 c9 d9 e9 (putL (W.2.1, W.1.2.1) [a9, b9, c9, d9, e9]).2) = .inr (.int (nI (putL (W.2.1, W.1.2.1) [a9, b9, c9, d9, e9]).2)) := by first | (rw [ocApp, if_pos (by omega)]) | first | (simp_all [ocApp, nI_eq, bI_0, bI_n0]; done) | (simp_all [ocApp, nI_eq, bI_0, bI_n0, nI_0, n10]; done) | (simp_all [ocApp, nI_eq, bI_0, bI_n0, nI_0, n10, ← Int32.not_le]; done) | (simp_all [ocApp, nI_eq, bI_0, bI_n0, ← Int64.not_le]; done) | (simp_all [ocApp, nI_eq, bI_0, bI_n0, nI_0, n10, ← Int64.not_le, ← Int32.not_le]; done)
    have hL : buH cy A W.1 (putL (W.2.1, W.1.2.1) []) 0 = some (.inr (7, [.ref 1, .int (nI (putL (W.2.1, W.1.2.1) []).2), .ref 2, .ref W.1.1, .ref 18, .ref 39, .int W.1.2.2.1, .ref 60, .ref 230])) := upA_eq
    refine G.cast (A2 := buH cy A W.1 (putL (W.2.1, W.1.2.1) [])) (buH_self hW).symm ?_
    refine g_aload_n X rfl rfl ?_
    refine g_iload_n X rfl rfl ?_
    refine g_mV X rfl lcX7_putBytes lmX7_70 lsX7_putBytes (cm_X7_putBytes l D cy B od (hW.bu (st := putL (W.2.1, W.1.2.1) []) (putL_le hbl _))) (ci := 7) (by (repeat (first | exact hL | exact upA_eq | refine (upA_ne (by omega)).trans ?_))) rfl rfl rfl (Nat.le_of_ble_eq_true rfl) ⟨⟨by decide, by decide⟩, rfl, rfl⟩ ⟨Nat.le_of_ble_eq_true rfl, Nat.le_of_ble_eq_true rfl⟩ (fun v4 A4 q4 => ?_)
    obtain ⟨rfl, rfl⟩ := q4
    refine G.cast (A2 := buH cy A W.1 (putL (W.2.1, W.1.2.1) [a9])) upA_2 ?_
    refine g_aload_n X rfl rfl ?_
    refine g_iload_n X rfl rfl ?_
    refine g_mV X rfl lcX7_putBytes lmX7_70 lsX7_putBytes (cm_X7_putBytes l D cy B od (hW.bu (st := putL (W.2.1, W.1.2.1) [a9]) (putL_le hbl _))) (ci := 7) (by (repeat (first | exact hL | exact upA_eq | refine (upA_ne (by omega)).trans ?_))) rfl rfl rfl (Nat.le_of_ble_eq_true rfl) ⟨⟨by decide, by decide⟩, rfl, rfl⟩ ⟨Nat.le_of_ble_eq_true rfl, Nat.le_of_ble_eq_true rfl⟩ (fun v5 A5 q5 => ?_)
    obtain ⟨rfl, rfl⟩ := q5
    refine G.cast (A2 := buH cy A W.1 (putL (W.2.1, W.1.2.1) [a9, b9])) upA_2 ?_
    refine g_aload_n X rfl rfl ?_
    refine g_iload_n X rfl rfl ?_
    refine g_mV X rfl lcX7_putBytes lmX7_70 lsX7_putBytes (cm_X7_putBytes l D cy B od (hW.bu (st := putL (W.2.1, W.1.2.1) [a9, b9]) (putL_le hbl _))) (ci := 7) (by (repeat (first | exact hL | exact upA_eq | refine (upA_ne (by omega)).trans ?_))) rfl rfl rfl (Nat.le_of_ble_eq_true rfl) ⟨⟨by decide, by decide⟩, rfl, rfl⟩ ⟨Nat.le_of_ble_eq_true rfl, Nat.le_of_ble_eq_true rfl⟩ (fun v6 A6 q6 => ?_)
    obtain ⟨rfl, rfl⟩ := q6
    refine G.cast (A2 := buH cy A W.1 (putL (W.2.1, W.1.2.1) [a9, b9, c9])) upA_2 ?_
    refine g_aload_n X rfl rfl ?_
    refine g_iload X rfl rfl ?_
    refine g_mV X rfl lcX7_putBytes lmX7_70 lsX7_putBytes (cm_X7_putBytes l D cy B od (hW.bu (st := putL (W.2.1, W.1.2.1) [a9, b9, c9]) (putL_le hbl _))) (ci := 7) (by (repeat (first | exact hL | exact upA_eq | refine (upA_ne (by omega)).trans ?_))) rfl rfl rfl (Nat.le_of_ble_eq_true rfl) ⟨⟨by decide, by decide⟩, rfl, rfl⟩ ⟨Nat.le_of_ble_eq_true rfl, Nat.le_of_ble_eq_true rfl⟩ (fun v7 A7 q7 => ?_)
    obtain ⟨rfl, rfl⟩ := q7
    refine G.cast (A2 := buH cy A W.1 (putL (W.2.1, W.1.2.1) [a9, b9, c9, d9])) upA_2 ?_
    refine g_aload_n X rfl rfl ?_
    refine g_iload X rfl rfl ?_
    refine g_mV X rfl lcX7_putBytes lmX7_70 lsX7_putBytes (cm_X7_putBytes l D cy B od (hW.bu (st := putL (W.2.1, W.1.2.1) [a9, b9, c9, d9]) (putL_le hbl _))) (ci := 7) (by (repeat (first | exact hL | exact upA_eq | refine (upA_ne (by omega)).trans ?_))) rfl rfl rfl (Nat.le_of_ble_eq_true rfl) ⟨⟨by decide, by decide⟩, rfl, rfl⟩ ⟨Nat.le_of_ble_eq_true rfl, Nat.le_of_ble_eq_true rfl⟩ (fun v8 A8 q8 => ?_)
    obtain ⟨rfl, rfl⟩ := q8
    refine G.cast (A2 := buH cy A W.1 (putL (W.2.1, W.1.2.1) [a9, b9, c9, d9, e9])) upA_2 ?_
    refine g_aload_n X rfl rfl ?_
    refine g_get X rfl flX7_62 (ci := 7) rfl (by (repeat (first | exact hL | exact upA_eq | refine (upA_ne (by omega)).trans ?_))) rfl ?_
    refine g_iret X rfl rfl (by first | rfl | exact bI_nar _ | decide) (Nat.le_of_ble_eq_true rfl) (Nat.le_of_ble_eq_true rfl) ⟨_, ?_, rfl, rfl, ?_⟩
    · exact hoc
    · exact ⟨((SameOff.refl A 0 231).up (by omega) (by omega)).up (by omega) (by omega), hW.bu (putL_le hbl _)⟩
