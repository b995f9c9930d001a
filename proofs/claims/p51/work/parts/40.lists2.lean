/-! 40: lists grow and shrink; boxed ints; loops over lists -/
theorem nI_subd (a b : Nat) : nI (a + b) - nI a = nI b := by rw [← nI_add, Int32.add_comm]; exact Int32.add_sub_cancel _ _
/-- after an element was added -/
def AddQ (cy : Nat → ClassId) (A A' : AH) (z z' k : Nat) (mc : Int32) (ed n : Nat) (f : Nat → Nat) (x : Nat) : Prop := ∃ ed' z1, z' = z1 + 1 ∧ LsC cy A' k mc ed' (n + 1) (fun j => if j = n then x else f j) ∧ (ed' = ed ∧ z1 = z ∨ ed' = z ∧ z1 = z + 1) ∧ FRs A' z1 ∧ ∀ q, q ≠ k → q ≠ ed → q ≠ z → A' q = A q
theorem LsC.mcU {cy : Nat → ClassId} {A : AH} {k ed n : Nat} {mc mc' : Int32} {f : Nat → Nat} (h : LsC cy A k mc ed n f) : LsC cy (upA A k (.inr (9, [.int mc', .ref ed, .int (nI n)]))) k mc' ed n f := by
  obtain ⟨g1, g0, g2, g3⟩ := h
  refine ⟨upA_eq, g0, ?_, fun j hj => (g3 j hj).upL g1⟩
  rcases g2 with h | ⟨h0, cap, g, h4, h5⟩
  · exact Or.inl h
  · exact Or.inr ⟨h0, cap, g, (upA_ne (AH.ne h4 g1 (by intro q; cases q))).trans h4, h5⟩
/-- an int in its box: a new one, or one that the machine keeps -/
def IntA (A : AH) (r : Nat) (v : Int32) : Prop := A r = some (.inr (11, [.int v])) ∨ ∃ k, k < 256 ∧ r = 3001000 + k ∧ v = vb_c k
theorem IntA.le {A A' : AH} {r : Nat} {v : Int32} (h : IntA A r v) (hl : HLe A A') : IntA A' r v := by
  rcases h with h | h
  · exact Or.inl (hl _ _ h)
  · exact Or.inr h
theorem IntA.obj {A : AH} {r : Nat} {v : Int32} {cy : Nat → ClassId} (h : IntA A r v) : ObjA cy A r := by
  rcases h with h | ⟨k, h1, h2, -⟩
  · exact Or.inr (Or.inr (Or.inl ⟨_, h⟩))
  · exact Or.inr (Or.inr (Or.inr ⟨k, h1, h2⟩))
theorem box_k (x : Int32) (h1 : ¬ x < -128) (h2 : ¬ nI 127 < x) : ∃ k, k < 256 ∧ x + nI 128 = nI k ∧ x = vb_c k := by
  have a1 : -128 ≤ x.toInt := by rw [Int32.lt_iff_toInt_lt] at h1; have : (-128 : Int32).toInt = -128 := by decide
                                 omega
  have a2 : x.toInt ≤ 127 := by rw [Int32.lt_iff_toInt_lt, nI_toInt (by decide)] at h2; omega
  have e : (x + nI 128).toInt = x.toInt + 128 := by
    rw [Int32.toInt_add, nI_toInt (by decide)]
    exact Int.bmod_eq_of_le (by omega) (by omega)
  obtain ⟨k, hk, ek⟩ := nI_of (x := x + nI 128) (by rw [Int32.lt_iff_toInt_lt, e]; have : (0 : Int32).toInt = 0 := by decide
                                                    omega)
  have hk2 : k < 256 := by have := e; rw [ek, nI_toInt hk] at this; omega
  refine ⟨k, hk2, ek, ?_⟩
  have : vb_c k = nI k - nI 128 := rfl
  rw [this, ← ek]
  exact (Int32.add_sub_cancel _ _).symm
set_option maxRecDepth 100000 in
set_option maxHeartbeats 400000 in
theorem ct_grow2 (l : Launch) (D : va_G) (cy : Nat → ClassId) (B : Nat) (od : Nat → Option Nat) {A : AH} {k ed n : Nat} {mc : Int32} {f : Nat → Nat} (hL : LsC cy A k mc ed n f) {z : Nat} (hn : n ≤ 72) (hfull : (n = 0 ∧ ed = 3000001) ∨ (10 ≤ n ∧ ∃ g, A ed = some (.inl (cy 5, n, .inr (.inr (.inr (.inr g))))) ∧ ∀ j, j < n → g j = some (f j))) (hF : FRs A z) (hz : z < 1000000) : CT l D cy B od yJx4a65c_grow_92f84 cJx4a65c_grow_92f84 4 (some (.array (.object "java/lang/Object"))) rmJx4a65c_grow_92f84 [.ref k, .int (nI (n + 1))] A (z + 1) (fun v A' z' => v = some (.ref z) ∧ z' = z + 2 ∧ ∃ cap g', A' = upA (upA A z (.inl (cy 5, cap, .inr (.inr (.inr (.inr g')))))) k (.inr (9, [.int mc, .ref z, .int (nI n)])) ∧ n < cap ∧ 10 ≤ cap ∧ cap ≤ 109 ∧ ∀ j, j < n → g' j = some (f j)) := by
  refine CT.of (by decide) tJx4a65c_grow_92f84 okJx4a65c_grow_92f84 (Nat.le_of_ble_eq_true rfl) (q0 := tJx4a65c_grow_92f84[0]) rfl rfl ?_
  intro p e s m args below meth c X hnm
  have hk : k ≠ z := fun e => by subst e; have := hL.1; rw [hF.at] at this; cases this
  rcases hfull with ⟨rfl, rfl⟩ | ⟨h10, g, ha, hg⟩
  · refine g_aload_n X rfl rfl ?_
    refine g_get X rfl flJx4a65c_9 (ci := 9) rfl (hL.1) rfl ?_
    refine g_elen X rfl ?_
    refine g_istore_n X rfl (by decide) ?_
    refine g_iload_n X rfl rfl ?_
    refine g_if_gt X rfl (fun h => absurd h (by decide)) (fun _ => ?_)
    · refine g_aload_n X rfl rfl ?_
      refine g_get X rfl flJx4a65c_9 (ci := 9) rfl (hL.1) rfl ?_
      refine g_gst X rfl gsJx4a65c_39 X.zE ?_
      refine g_acmp_eqT X rfl ?_
      refine g_aload_n X rfl rfl ?_
      refine g_bipush X rfl (v := nI 10) (by decide) ?_
      refine g_iload_n X rfl rfl ?_
      refine g_m_max_i X rfl lmJx4a65c_79 (Nat.le_of_ble_eq_true rfl) ⟨by decide, by decide⟩ ⟨Nat.le_of_ble_eq_true rfl, Nat.le_of_ble_eq_true rfl⟩ ?_
      rw [show (if nI 10 < nI (0 + 1) then nI (0 + 1) else nI 10) = nI 10 from by decide]
      refine g_anewO X rfl clJx4a65c_7 (N := 10) (nI_pos (by decide)) (nI_clamp (by decide)) (by decide) hz (Nat.le_of_ble_eq_true rfl) (Nat.le_of_ble_eq_true rfl) ?_
      refine g_dup_x1 X rfl rfl rfl ?_
      refine g_put X rfl flJx4a65c_9 rfl (ci := 9) rfl ((upA_ne hk).trans hL.1) (Nat.le_of_ble_eq_true rfl) (by rfl) (by rfl) ?_
      exact g_aretA X rfl rfl (Nat.le_of_ble_eq_true rfl) (Nat.le_of_ble_eq_true rfl) ⟨rfl, rfl, 10, fun _ => none, rfl, by decide, by decide, by decide, fun j hj => absurd hj (Nat.not_lt_zero _)⟩
  · refine g_aload_n X rfl rfl ?_
    refine g_get X rfl flJx4a65c_9 (ci := 9) rfl (hL.1) rfl ?_
    refine g_alenq X rfl ha ?_
    refine g_istore_n X rfl (by decide) ?_
    refine g_iload_n X rfl rfl ?_
    refine g_if_gt X rfl (fun _ => ?_) (fun h => absurd (by rw [← nI_0]; exact nI_lt (by omega) (by omega)) h)
    skip
    refine g_iload_n X rfl rfl ?_
    refine g_iload_n X rfl rfl ?_
    refine g_iload_n X rfl rfl ?_
    refine g_isub X rfl ?_
    rw [nI_d1 n (by omega)]
    refine g_iload_n X rfl rfl ?_
    refine g_iconst X rfl (v := nI 1) (by decide) ?_
    refine g_ishr X rfl ?_
    rw [nI_h n (by omega)]
    refine g_rS X rfl lcJ8_newLength_cabcc lmJx4a65c_73 stJ8_newLength_cabcc (cr_newLen l D cy B od (by omega) (by omega) (by omega)) rfl rfl (Nat.le_of_ble_eq_true rfl) ⟨⟨by decide, by decide⟩, rfl, rfl⟩ ⟨Nat.le_of_ble_eq_true rfl, Nat.le_of_ble_eq_true rfl⟩ ?_
    refine g_istore_n X rfl (by decide) ?_
    refine g_aload_n X rfl rfl ?_
    refine g_aload_n X rfl rfl ?_
    refine g_get X rfl flJx4a65c_9 (ci := 9) rfl (hL.1) rfl ?_
    refine g_iload_n X rfl rfl ?_
    refine g_callS X rfl lcJ7_copyOf_1904c lmJx4a65c_66 stJ7_copyOf_1904c (ct_copyOf l D cy B od ha (fun j hj y hy => by rw [hg j hj] at hy; cases hy; exact hL.2.2.2 j hj) (N := n + n / 2) (by omega) (by omega) hF hz) rfl rfl (Nat.le_of_ble_eq_true rfl) ⟨by decide, by decide⟩ ⟨Nat.le_of_ble_eq_true rfl, Nat.le_of_ble_eq_true rfl⟩ (fun v1 A1 z1 q1 => ?_)
    obtain ⟨rfl, rfl, rfl⟩ := q1
    refine g_dup_x1 X rfl rfl rfl ?_
    refine g_put X rfl flJx4a65c_9 rfl (ci := 9) rfl ((upA_ne hk).trans hL.1) (Nat.le_of_ble_eq_true rfl) (by rfl) (by rfl) ?_
    refine g_aretA X rfl rfl (Nat.le_of_ble_eq_true rfl) (Nat.le_of_ble_eq_true rfl) ⟨rfl, rfl, n + n / 2, _, rfl, by omega, by omega, by omega, fun j hj => ?_⟩
    show va_cpy _ _ 0 0 n j = _
    unfold va_cpy
    rw [if_pos ⟨Nat.zero_le _, by omega⟩, show 0 + (j - 0) = j from by omega]
    exact hg j hj
set_option maxRecDepth 100000 in
set_option maxHeartbeats 400000 in
theorem ct_grow1 (l : Launch) (D : va_G) (cy : Nat → ClassId) (B : Nat) (od : Nat → Option Nat) {A : AH} {k ed n : Nat} {mc : Int32} {f : Nat → Nat} (hL : LsC cy A k mc ed n f) {z : Nat} (hn : n ≤ 72) (hfull : (n = 0 ∧ ed = 3000001) ∨ (10 ≤ n ∧ ∃ g, A ed = some (.inl (cy 5, n, .inr (.inr (.inr (.inr g))))) ∧ ∀ j, j < n → g j = some (f j))) (hF : FRs A z) (hz : z < 1000000) : CT l D cy B od yJx4a65c_grow_d5877 cJx4a65c_grow_d5877 1 (some (.array (.object "java/lang/Object"))) rmJx4a65c_grow_d5877 [.ref k] A (z + 1) (fun v A' z' => v = some (.ref z) ∧ z' = z + 2 ∧ ∃ cap g', A' = upA (upA A z (.inl (cy 5, cap, .inr (.inr (.inr (.inr g')))))) k (.inr (9, [.int mc, .ref z, .int (nI n)])) ∧ n < cap ∧ 10 ≤ cap ∧ cap ≤ 109 ∧ ∀ j, j < n → g' j = some (f j)) := by
  refine CT.of (by decide) tJx4a65c_grow_d5877 okJx4a65c_grow_d5877 (Nat.le_of_ble_eq_true rfl) (q0 := tJx4a65c_grow_d5877[0]) rfl rfl ?_
  intro p e s m args below meth c X hnm
  refine g_aload_n X rfl rfl ?_
  refine g_aload_n X rfl rfl ?_
  refine g_get X rfl flJx4a65c_48 (ci := 9) rfl (hL.1) rfl ?_
  refine g_iconst X rfl (v := nI 1) (by decide) ?_
  refine g_iadd X rfl ?_
  rw [show nI n + nI 1 = nI (n + 1) from nI_1 n]
  refine g_callV X rfl lcJx4a65c_grow_92f84 lmJx4a65c_69 lsJx4a65c_grow_92f84 (ct_grow2 l D cy B od hL hn hfull hF hz) (ci := 9) (hL.1) rfl rfl rfl (Nat.le_of_ble_eq_true rfl) ⟨by decide, by decide⟩ ⟨Nat.le_of_ble_eq_true rfl, Nat.le_of_ble_eq_true rfl⟩ (fun v1 A1 z1 q1 => ?_)
  obtain ⟨rfl, q1⟩ := q1
  exact g_aretA X rfl rfl (Nat.le_of_ble_eq_true rfl) (Nat.le_of_ble_eq_true rfl) ⟨rfl, q1⟩
set_option maxRecDepth 100000 in
set_option maxHeartbeats 400000 in
theorem ct_add3 (l : Launch) (D : va_G) (cy : Nat → ClassId) (B : Nat) (od : Nat → Option Nat) {A : AH} {k ed n : Nat} {mc : Int32} {f : Nat → Nat} (hL : LsC cy A k mc ed n f) {x z : Nat} (hx : ObjA cy A x) (hn : n ≤ 72) (hF : FRs A z) (hz : z < 1000000) : CT l D cy B od yJx4a65c_add_72be8 cJx4a65c_add_72be8 4 none rmJx4a65c_add_72be8 [.ref k, .ref x, .ref ed, .int (nI n)] A (z + 1) (fun v A' z' => v = none ∧ AddQ cy A A' z z' k mc ed n f x) := by
  refine CT.of (by decide) tJx4a65c_add_72be8 okJx4a65c_add_72be8 (Nat.le_of_ble_eq_true rfl) (q0 := tJx4a65c_add_72be8[0]) rfl rfl ?_
  intro p e s m args below meth c X hnm
  have hk : k ≠ z := fun e => by subst e; have := hL.1; rw [hF.at] at this; cases this
  have tail : ∀ (A1 : AH) (z1 ed1 cap : Nat) (g1 : Nat → Option Nat) (cells slots : Nat), cells ≤ 1 → slots ≤ 120 → A1 k = some (.inr (9, [.int mc, .ref ed1, .int (nI n)])) → A1 ed1 = some (.inl (cy 5, cap, .inr (.inr (.inr (.inr g1))))) → n < cap → 10 ≤ cap → cap ≤ 109 → (∀ j, j < n → g1 j = some (f j)) → (∀ j, j < n → ObjA cy A1 (f j)) → ObjA cy A1 x → (ed1 = ed ∧ z1 = z ∨ ed1 = z ∧ z1 = z + 1) → ed1 ≠ 3000001 → FRs A1 z1 → (∀ q, q ≠ k → q ≠ ed → q ≠ z → A1 q = A q) → G p l e rmJx4a65c_add_72be8 s m args below meth c D B od 4 tJx4a65c_add_72be8 (FinQ false D B od (fun v A' z' => v = none ∧ AddQ cy A A' z z' k mc ed n f x) (fun _ _ => True) args s below rmJx4a65c_add_72be8.cells rmJx4a65c_add_72be8.slots) cells slots A1 (z1 + 1) 7 [some (.ref k), some (.ref x), some (.ref ed1), some (.int (nI n))] [] := by
    intro A1 z1 ed1 cap g1 cells slots hc hs h1 h2 h3 h4 h5 h6 h7 h8 h9 h10 h11 h12
    have hke : k ≠ ed1 := AH.ne h1 h2 (by intro q; cases q)
    have hkz : k < z1 := h11.lt h1
    have hez : ed1 < z1 := h11.lt h2
    refine g_aload_n X rfl rfl ?_
    refine g_iload_n X rfl rfl ?_
    refine g_aload_n X rfl rfl ?_
    refine g_aastO X rfl h2 h8 h3 (by omega) ?_
    refine g_aload_n X rfl rfl ?_
    refine g_iload_n X rfl rfl ?_
    refine g_iconst X rfl (v := nI 1) (by decide) ?_
    refine g_iadd X rfl ?_
    rw [show nI n + nI 1 = nI (n + 1) from nI_1 n]
    refine g_put X rfl flJx4a65c_48 rfl (ci := 9) rfl ((upA_ne hke).trans h1) (Nat.le_of_ble_eq_true rfl) (by rfl) (by rfl) ?_
    refine g_vret X rfl rfl hc hs ⟨rfl, ed1, z1, rfl, ⟨upA_eq, by omega, Or.inr ⟨h10, cap, va_up g1 n (some x), (upA_ne hke.symm).trans upA_eq, by omega, h4, h5, fun j hj => ?_⟩, fun j hj => ?_⟩, h9, (h11.up hez).up hkz, fun q hq1 hq2 hq3 => ?_⟩
    · show va_up g1 n (some x) j = some (if j = n then x else f j)
      unfold va_up
      by_cases e : j = n
      · rw [if_pos e, if_pos e]
      · rw [if_neg e, if_neg e]; exact h6 j (by omega)
    · refine ObjA.upL (ObjA.upQ ?_ h2) ((upA_ne hke).trans h1)
      show ObjA cy A1 (if j = n then x else f j)
      by_cases e : j = n
      · rw [if_pos e]; exact h8
      · rw [if_neg e]; exact h7 j (by omega)
    · rw [upA_ne hq1, upA_ne (show q ≠ ed1 from by rcases h9 with h | h; (rw [h.1]; exact hq2); (rw [h.1]; exact hq3))]
      exact h12 q hq1 hq2 hq3
  rcases hL.2.2.1 with ⟨rfl, rfl⟩ | ⟨he, cap, g0, ha, a1, a2, a3, a4⟩
  · refine g_iload_n X rfl rfl ?_
    refine g_aload_n X rfl rfl ?_
    refine g_elen X rfl ?_
    refine g_ic_neN X rfl (by omega) (by omega) (fun h => absurd rfl h) (fun _ => ?_)
    · refine g_aload_n X rfl rfl ?_
      refine g_callV X rfl lcJx4a65c_grow_d5877 lmJx4a65c_129 lsJx4a65c_grow_d5877 (ct_grow1 l D cy B od hL hn (Or.inl ⟨rfl, rfl⟩) hF hz) (ci := 9) (hL.1) rfl rfl rfl (Nat.le_of_ble_eq_true rfl) ⟨by decide, by decide⟩ ⟨Nat.le_of_ble_eq_true rfl, Nat.le_of_ble_eq_true rfl⟩ (fun v1 A1 z1 q1 => ?_)
      obtain ⟨rfl, rfl, cap, g1, rfl, c1, c2, c3, c4⟩ := q1
      refine g_astore_n X rfl (by decide) ?_
      exact tail _ (z + 1) z cap g1 _ _ (Nat.le_of_ble_eq_true rfl) (Nat.le_of_ble_eq_true rfl) upA_eq ((upA_ne hk.symm).trans upA_eq) c1 c2 c3 c4 (fun j hj => ((hL.2.2.2 j hj).up hF.at).upL ((upA_ne hk).trans hL.1)) ((hx.up hF.at).upL ((upA_ne hk).trans hL.1)) (Or.inr ⟨rfl, rfl⟩) (by omega) (hF.new.up (Nat.lt_succ_of_lt (hF.lt hL.1))) (fun q hq1 _ hq3 => by rw [upA_ne hq1, upA_ne hq3])
  · refine g_iload_n X rfl rfl ?_
    refine g_aload_n X rfl rfl ?_
    refine g_alenq X rfl ha ?_
    refine g_ic_neN X rfl (by omega) (by omega) (fun h => ?_) (fun h => ?_)
    · exact tail A z ed cap g0 _ _ (by decide) (by decide) hL.1 ha (by omega) a2 a3 a4 hL.2.2.2 hx (Or.inl ⟨rfl, rfl⟩) he hF (fun _ _ _ _ => rfl)
    · subst h
      refine g_aload_n X rfl rfl ?_
      refine g_callV X rfl lcJx4a65c_grow_d5877 lmJx4a65c_129 lsJx4a65c_grow_d5877 (ct_grow1 l D cy B od hL hn (Or.inr ⟨a2, g0, ha, a4⟩) hF hz) (ci := 9) (hL.1) rfl rfl rfl (Nat.le_of_ble_eq_true rfl) ⟨by decide, by decide⟩ ⟨Nat.le_of_ble_eq_true rfl, Nat.le_of_ble_eq_true rfl⟩ (fun v1 A1 z1 q1 => ?_)
      obtain ⟨rfl, rfl, cap, g1, rfl, c1, c2, c3, c4⟩ := q1
      refine g_astore_n X rfl (by decide) ?_
      exact tail _ (z + 1) z cap g1 _ _ (Nat.le_of_ble_eq_true rfl) (Nat.le_of_ble_eq_true rfl) upA_eq ((upA_ne hk.symm).trans upA_eq) c1 c2 c3 c4 (fun j hj => ((hL.2.2.2 j hj).up hF.at).upL ((upA_ne hk).trans hL.1)) ((hx.up hF.at).upL ((upA_ne hk).trans hL.1)) (Or.inr ⟨rfl, rfl⟩) (by omega) (hF.new.up (Nat.lt_succ_of_lt (hF.lt hL.1))) (fun q hq1 _ hq3 => by rw [upA_ne hq1, upA_ne hq3])
set_option maxRecDepth 100000 in
set_option maxHeartbeats 400000 in
theorem ct_add (l : Launch) (D : va_G) (cy : Nat → ClassId) (B : Nat) (od : Nat → Option Nat) {A : AH} {k ed n : Nat} {mc : Int32} {f : Nat → Nat} (hL : LsC cy A k mc ed n f) {x z : Nat} (hx : ObjA cy A x) (hn : n ≤ 72) (hF : FRs A z) (hz : z < 1000000) : CT l D cy B od yJx4a65c_add_9ea2d cJx4a65c_add_9ea2d 2 (some .boolean) rmJx4a65c_add_9ea2d [.ref k, .ref x] A (z + 1) (fun v A' z' => v = some (.int (nI 1)) ∧ AddQ cy A A' z z' k (mc + nI 1) ed n f x) := by
  refine CT.of (by decide) tJx4a65c_add_9ea2d okJx4a65c_add_9ea2d (Nat.le_of_ble_eq_true rfl) (q0 := tJx4a65c_add_9ea2d[0]) rfl rfl ?_
  intro p e s m args below meth c X hnm
  refine g_aload_n X rfl rfl ?_
  refine g_dup X rfl rfl ?_
  refine g_getR X rfl frJx4a65c_63 (ci := 9) rfl hL.1 rfl ?_
  refine g_iconst X rfl (v := nI 1) (by decide) ?_
  refine g_iadd X rfl ?_
  refine g_putR X rfl frJx4a65c_63 rfl (ci := 9) rfl hL.1 (Nat.le_of_ble_eq_true rfl) (by rfl) (by rfl) ?_
  refine g_aload_n X rfl rfl ?_
  refine g_aload_n X rfl rfl ?_
  refine g_aload_n X rfl rfl ?_
  refine g_get X rfl flJx4a65c_9 (ci := 9) rfl (upA_eq) rfl ?_
  refine g_aload_n X rfl rfl ?_
  refine g_get X rfl flJx4a65c_48 (ci := 9) rfl (upA_eq) rfl ?_
  refine g_callV X rfl lcJx4a65c_add_72be8 lmJx4a65c_131 lsJx4a65c_add_72be8 (ct_add3 l D cy B od hL.mcU (hx.upL hL.1) hn (hF.up (hF.lt hL.1)) hz) (ci := 9) (upA_eq) rfl rfl rfl (Nat.le_of_ble_eq_true rfl) ⟨by decide, by decide⟩ ⟨Nat.le_of_ble_eq_true rfl, Nat.le_of_ble_eq_true rfl⟩ (fun v1 A1 z1 q1 => ?_)
  refine g_iconst X rfl (v := nI 1) (by decide) ?_
  obtain ⟨rfl, ed1, z2, a1, a2, a3, a4, a5⟩ := q1
  exact g_iret X rfl rfl (by rfl) (Nat.le_of_ble_eq_true rfl) (Nat.le_of_ble_eq_true rfl) ⟨rfl, ed1, z2, a1, a2, a3, a4, fun q h1 h2 h3 => (a5 q h1 h2 h3).trans (upA_ne h1)⟩
set_option maxRecDepth 100000 in
set_option maxHeartbeats 400000 in
theorem cm_fastRemove (l : Launch) (D : va_G) (cy : Nat → ClassId) (B : Nat) (od : Nat → Option Nat) {A : AH} {k ed n : Nat} {mc : Int32} {f : Nat → Nat} (hL : LsC cy A k mc ed (n + 1) f) {i : Nat} (hi : i < n + 1) : CM l D cy B od yJx4a65c_fastRemove_b59b0 cJx4a65c_fastRemove_b59b0 4 none rmJx4a65c_fastRemove_b59b0 [.ref k, .ref ed, .int (nI i)] A (fun v A' => v = none ∧ LsC cy A' k (mc + nI 1) ed n (fun j => if j < i then f j else f (j + 1)) ∧ ∀ q, q ≠ k → q ≠ ed → A' q = A q) := by
  intro z
  refine CT.of (by decide) tJx4a65c_fastRemove_b59b0 okJx4a65c_fastRemove_b59b0 (Nat.le_of_ble_eq_true rfl) (q0 := tJx4a65c_fastRemove_b59b0[0]) rfl rfl ?_
  intro p e s m args below meth c X hnm
  obtain ⟨cap, g0, ha, a1, a2, a3, a4⟩ := hL.arr hi
  have he : ed ≠ 3000001 := by rcases hL.2.2.1 with ⟨h, -⟩ | ⟨h, -⟩; (omega); exact h
  have hke : k ≠ ed := AH.ne hL.1 ha (by intro q; cases q)
  have hn9 := hL.2.1
  have tail : ∀ (A1 : AH) (g1 : Nat → Option Nat), A1 k = some (.inr (9, [.int (mc + nI 1), .ref ed, .int (nI (n + 1))])) → A1 ed = some (.inl (cy 5, cap, .inr (.inr (.inr (.inr g1))))) → (∀ j, j < n → g1 j = some (if j < i then f j else f (j + 1))) → (∀ j, j < n + 1 → ObjA cy A1 (f j)) → (∀ q, q ≠ k → q ≠ ed → A1 q = A q) → G p l e rmJx4a65c_fastRemove_b59b0 s m args below meth c D B od 4 tJx4a65c_fastRemove_b59b0 (FinQ false D B od (fun v A' z' => z' = z ∧ v = none ∧ LsC cy A' k (mc + nI 1) ed n (fun j => if j < i then f j else f (j + 1)) ∧ ∀ q, q ≠ k → q ≠ ed → A' q = A q) (fun _ _ => True) args s below rmJx4a65c_fastRemove_b59b0.cells rmJx4a65c_fastRemove_b59b0.slots) 0 0 A1 z 24 [some (.ref k), some (.ref ed), some (.int (nI i)), some (.int (nI n))] [] := by
    intro A1 g1 h1 h2 h3 h4 h5
    refine g_aload_n X rfl rfl ?_
    refine g_aload_n X rfl rfl ?_
    refine g_iload_n X rfl rfl ?_
    refine g_dup_x1 X rfl rfl rfl ?_
    refine g_put X rfl flJx4a65c_48 rfl (ci := 9) rfl (h1) (Nat.le_of_ble_eq_true rfl) (by rfl) (by rfl) ?_
    refine g_null X rfl ?_
    refine g_aastN X rfl ((upA_ne hke.symm).trans h2) (by omega) (by omega) ?_
    refine g_vret X rfl rfl (Nat.le_of_ble_eq_true rfl) (Nat.le_of_ble_eq_true rfl) ⟨rfl, rfl, ⟨(upA_ne hke).trans upA_eq, by omega, Or.inr ⟨he, cap, va_up g1 n none, upA_eq, by omega, a2, a3, fun j hj => ?_⟩, fun j hj => ?_⟩, fun q hq1 hq2 => ?_⟩
    · unfold va_up; rw [if_neg (by omega)]; exact h3 j hj
    · refine ObjA.upQ (ObjA.upL ?_ h1) ((upA_ne hke.symm).trans h2)
      show ObjA cy A1 (if j < i then f j else f (j + 1))
      by_cases e : j < i
      · rw [if_pos e]; exact h4 j (by omega)
      · rw [if_neg e]; exact h4 (j + 1) (by omega)
    · rw [upA_ne hq2, upA_ne hq1]; exact h5 q hq1 hq2
  refine g_aload_n X rfl rfl ?_
  refine g_dup X rfl rfl ?_
  refine g_getR X rfl frJx4a65c_63 (ci := 9) rfl hL.1 rfl ?_
  refine g_iconst X rfl (v := nI 1) (by decide) ?_
  refine g_iadd X rfl ?_
  refine g_putR X rfl frJx4a65c_63 rfl (ci := 9) rfl hL.1 (Nat.le_of_ble_eq_true rfl) (by rfl) (by rfl) ?_
  refine g_aload_n X rfl rfl ?_
  refine g_get X rfl flJx4a65c_48 (ci := 9) rfl (upA_eq) rfl ?_
  refine g_iconst X rfl (v := nI 1) (by decide) ?_
  refine g_isub X rfl ?_
  rw [show nI (n + 1) - nI 1 = nI n from nI_pred n]
  refine g_dup X rfl rfl ?_
  refine g_istore_n X rfl (by decide) ?_
  refine g_iload_n X rfl rfl ?_
  refine g_ic_leN X rfl (by omega) (by omega) (fun h => ?_) (fun h => ?_)
  · exact tail _ g0 upA_eq ((upA_ne hke.symm).trans ha) (fun j hj => by rw [if_pos (show j < i from by omega)]; exact a4 j (by omega)) (fun j hj => (hL.2.2.2 j hj).upL hL.1) (fun q h1 _ => upA_ne h1)
  · refine g_aload_n X rfl rfl ?_
    refine g_iload_n X rfl rfl ?_
    refine g_iconst X rfl (v := nI 1) (by decide) ?_
    refine g_iadd X rfl ?_
    rw [show nI i + nI 1 = nI (i + 1) from nI_1 i]
    refine g_aload_n X rfl rfl ?_
    refine g_iload_n X rfl rfl ?_
    refine g_iload_n X rfl rfl ?_
    refine g_iload_n X rfl rfl ?_
    refine g_isub X rfl ?_
    rw [show nI n - nI i = nI (n - i) from by have := nI_subd i (n - i); rw [show i + (n - i) = n from by omega] at this; exact this]
    refine g_copyq X rfl cpJx4a65c_112 (sp := i + 1) (dp := i) (n := n - i) ((upA_ne hke.symm).trans ha) ((upA_ne hke.symm).trans ha) (by omega) (by omega) (by omega) (by omega) (fun j hj y hy => by rw [a4 _ (by omega)] at hy; cases hy; exact (hL.2.2.2 _ (by omega)).upL hL.1) (Nat.le_of_ble_eq_true rfl) ⟨by decide, by decide⟩ ?_
    refine tail _ _ ((upA_ne hke).trans upA_eq) upA_eq (fun j hj => ?_) (fun j hj => ((hL.2.2.2 j hj).upL hL.1).upQ ((upA_ne hke.symm).trans ha)) (fun q h1 h2 => by rw [upA_ne h2, upA_ne h1])
    unfold va_cpy
    by_cases e : j < i
    · rw [if_neg (by omega), if_pos e]; exact a4 j (by omega)
    · rw [if_pos (by omega), if_neg e, show i + 1 + (j - i) = j + 1 from by omega]; exact a4 _ (by omega)
set_option maxRecDepth 100000 in
set_option maxHeartbeats 400000 in
theorem cm_AL_remove (l : Launch) (D : va_G) (cy : Nat → ClassId) (B : Nat) (od : Nat → Option Nat) {A : AH} {k ed n : Nat} {mc : Int32} {f : Nat → Nat} (hL : LsC cy A k mc ed (n + 1) f) {i : Nat} (hi : i < n + 1) : CM l D cy B od yJx4a65c_remove_915e3 cJx4a65c_remove_915e3 4 (some (.object "java/lang/Object")) rmJx4a65c_remove_915e3 [.ref k, .int (nI i)] A (fun v A' => v = some (.ref (f i)) ∧ LsC cy A' k (mc + nI 1) ed n (fun j => if j < i then f j else f (j + 1)) ∧ ∀ q, q ≠ k → q ≠ ed → A' q = A q) := by
  intro z
  refine CT.of (by decide) tJx4a65c_remove_915e3 okJx4a65c_remove_915e3 (Nat.le_of_ble_eq_true rfl) (q0 := tJx4a65c_remove_915e3[0]) rfl rfl ?_
  intro p e s m args below meth c X hnm
  obtain ⟨cap, g0, ha, a1, a2, a3, a4⟩ := hL.arr hi
  have hn9 := hL.2.1
  refine g_iload_n X rfl rfl ?_
  refine g_aload_n X rfl rfl ?_
  refine g_get X rfl flJx4a65c_48 (ci := 9) rfl (hL.1) rfl ?_
  refine g_rS X rfl lcJ15_checkIndex_7cf53 lmJx4a65c_118 stJ15_checkIndex_7cf53 (cr_oix l D cy B od hi (by omega)) rfl rfl (Nat.le_of_ble_eq_true rfl) ⟨⟨by decide, by decide⟩, rfl, rfl⟩ ⟨Nat.le_of_ble_eq_true rfl, Nat.le_of_ble_eq_true rfl⟩ ?_
  refine g_pop X rfl rfl ?_
  refine g_aload_n X rfl rfl ?_
  refine g_get X rfl flJx4a65c_9 (ci := 9) rfl (hL.1) rfl ?_
  refine g_astore_n X rfl (by decide) ?_
  refine g_aload_n X rfl rfl ?_
  refine g_iload_n X rfl rfl ?_
  refine g_aaldO X rfl ha (by omega) (by omega) (a4 i hi) ?_
  refine g_astore_n X rfl (by decide) ?_
  refine g_aload_n X rfl rfl ?_
  refine g_aload_n X rfl rfl ?_
  refine g_iload_n X rfl rfl ?_
  refine g_mV X rfl lcJx4a65c_fastRemove_b59b0 lmJx4a65c_144 lsJx4a65c_fastRemove_b59b0 (cm_fastRemove l D cy B od hL hi) (ci := 9) (hL.1) rfl rfl rfl (Nat.le_of_ble_eq_true rfl) ⟨⟨by decide, by decide⟩, rfl, rfl⟩ ⟨Nat.le_of_ble_eq_true rfl, Nat.le_of_ble_eq_true rfl⟩ (fun v1 A1 q1 => ?_)
  obtain ⟨rfl, q1⟩ := q1
  refine g_aload_n X rfl rfl ?_
  exact g_aret X rfl rfl (Nat.le_of_ble_eq_true rfl) (Nat.le_of_ble_eq_true rfl) ⟨rfl, rfl, q1⟩
set_option maxRecDepth 100000 in
set_option maxHeartbeats 400000 in
theorem cm_clear (l : Launch) (D : va_G) (cy : Nat → ClassId) (B : Nat) (od : Nat → Option Nat) {A : AH} {k ed n : Nat} {mc : Int32} {f : Nat → Nat} (hL : LsC cy A k mc ed n f) : CM l D cy B od yJx4a65c_clear_da8c8 cJx4a65c_clear_da8c8 4 none rmJx4a65c_clear_da8c8 [.ref k] A (fun v A' => v = none ∧ LsC cy A' k (mc + nI 1) ed 0 f ∧ ∀ q, q ≠ k → q ≠ ed → A' q = A q) := by
  intro z
  refine CT.of (by decide) tJx4a65c_clear_da8c8 okJx4a65c_clear_da8c8 (Nat.le_of_ble_eq_true rfl) (q0 := tJx4a65c_clear_da8c8[0]) rfl rfl ?_
  intro p e s m args below meth c X hnm
  have hn9 := hL.2.1
  have loop : ∀ (d i : Nat) (A1 : AH), i + d = n → A1 k = some (.inr (9, [.int (mc + nI 1), .ref ed, .int (nI 0)])) → ((n = 0 ∧ ed = 3000001) ∨ (ed ≠ 3000001 ∧ ∃ cap g1, A1 ed = some (.inl (cy 5, cap, .inr (.inr (.inr (.inr g1))))) ∧ n ≤ cap ∧ 10 ≤ cap ∧ cap ≤ 109)) → (∀ q, q ≠ k → q ≠ ed → A1 q = A q) → G p l e rmJx4a65c_clear_da8c8 s m args below meth c D B od 4 tJx4a65c_clear_da8c8 (FinQ false D B od (fun v A' z' => z' = z ∧ v = none ∧ LsC cy A' k (mc + nI 1) ed 0 f ∧ ∀ q, q ≠ k → q ≠ ed → A' q = A q) (fun _ _ => True) args s below rmJx4a65c_clear_da8c8.cells rmJx4a65c_clear_da8c8.slots) 0 0 A1 z 17 [some (.ref k), some (.ref ed), some (.int (nI n)), some (.int (nI i))] [] := by
    intro d
    induction d with
    | zero =>
      intro i A1 hid h1 h2 h3
      have e : i = n := by omega
      subst e
      refine g_iload_n X rfl rfl ?_
      refine g_iload_n X rfl rfl ?_
      refine g_ic_geN X rfl (by omega) (by omega) (fun h => ?_) (fun h => absurd h (by omega))
      · refine g_vret X rfl rfl (Nat.le_of_ble_eq_true rfl) (Nat.le_of_ble_eq_true rfl) ⟨rfl, rfl, ⟨h1, by decide, ?_, fun j hj => absurd hj (Nat.not_lt_zero _)⟩, h3⟩
        rcases h2 with ⟨-, h⟩ | ⟨h, cap, g1, a1, a2, a3, a4⟩
        · exact Or.inl ⟨rfl, h⟩
        · exact Or.inr ⟨h, cap, g1, a1, by omega, a3, a4, fun j hj => absurd hj (Nat.not_lt_zero _)⟩
    | succ d ih =>
      intro i A1 hid h1 h2 h3
      rcases h2 with ⟨h, -⟩ | ⟨h, cap, g1, a1, a2, a3, a4⟩
      · omega
      have hke : k ≠ ed := AH.ne h1 a1 (by intro q; cases q)
      refine g_iload_n X rfl rfl ?_
      refine g_iload_n X rfl rfl ?_
      refine g_ic_geN X rfl (by omega) (by omega) (fun h => absurd h (by omega)) (fun h => ?_)
      · refine g_aload_n X rfl rfl ?_
        refine g_iload_n X rfl rfl ?_
        refine g_null X rfl ?_
        refine g_aastN X rfl a1 (by omega) (by omega) ?_
        refine g_iinc1 X rfl rfl (by decide) ?_
        refine g_goto X rfl ?_
        exact ih (i + 1) _ (by omega) ((upA_ne hke).trans h1) (Or.inr ⟨‹_›, cap, _, upA_eq, a2, a3, a4⟩) (fun q hq1 hq2 => (upA_ne hq2).trans (h3 q hq1 hq2))
  refine g_aload_n X rfl rfl ?_
  refine g_dup X rfl rfl ?_
  refine g_getR X rfl frJx4a65c_63 (ci := 9) rfl hL.1 rfl ?_
  refine g_iconst X rfl (v := nI 1) (by decide) ?_
  refine g_iadd X rfl ?_
  refine g_putR X rfl frJx4a65c_63 rfl (ci := 9) rfl hL.1 (Nat.le_of_ble_eq_true rfl) (by rfl) (by rfl) ?_
  refine g_aload_n X rfl rfl ?_
  refine g_get X rfl flJx4a65c_9 (ci := 9) rfl (upA_eq) rfl ?_
  refine g_astore_n X rfl (by decide) ?_
  refine g_aload_n X rfl rfl ?_
  refine g_get X rfl flJx4a65c_48 (ci := 9) rfl (upA_eq) rfl ?_
  refine g_istore_n X rfl (by decide) ?_
  refine g_aload_n X rfl rfl ?_
  refine g_iconst X rfl (v := nI 0) (by decide) ?_
  refine g_dup_x1 X rfl rfl rfl ?_
  refine g_put X rfl flJx4a65c_48 rfl (ci := 9) rfl (upA_eq) (Nat.le_of_ble_eq_true rfl) (by rfl) (by rfl) ?_
  refine g_istore_n X rfl (by decide) ?_
  refine loop n 0 _ (Nat.zero_add n) upA_eq ?_ (fun q hq1 _ => (upA_ne hq1).trans (upA_ne hq1))
  rcases hL.2.2.1 with h | ⟨h0, cap, g1, a1, a2, a3, a4, -⟩
  · exact Or.inl h
  · have hke : ed ≠ k := AH.ne a1 hL.1 (by intro q; cases q)
    exact Or.inr ⟨h0, cap, g1, (upA_ne hke).trans ((upA_ne hke).trans a1), a2, a3, a4⟩
set_option maxRecDepth 100000 in
set_option maxHeartbeats 400000 in
theorem cm_Num_init (l : Launch) (D : va_G) (cy : Nat → ClassId) (B : Nat) (od : Nat → Option Nat) {A : AH} {b : Nat} : CM l D cy B od yJxd2413_init_da8c8 cJxd2413_init_da8c8 1 none rmJxd2413_init_da8c8 [.ref b] A (fun v A' => v = none ∧ A' = A) := by
  intro z
  refine CT.of (by decide) tJxd2413_init_da8c8 okJxd2413_init_da8c8 (Nat.le_of_ble_eq_true rfl) (q0 := tJxd2413_init_da8c8[0]) rfl rfl ?_
  intro p e s m args below meth c X hnm
  refine g_aload_n X rfl rfl ?_
  refine g_objInit X rfl oiJxd2413_1 (by decide) (Nat.le_of_ble_eq_true rfl) (by decide) ?_
  exact g_vret X rfl rfl (Nat.le_of_ble_eq_true rfl) (Nat.le_of_ble_eq_true rfl) ⟨rfl, rfl, rfl⟩
set_option maxRecDepth 100000 in
set_option maxHeartbeats 400000 in
theorem cm_Int_init (l : Launch) (D : va_G) (cy : Nat → ClassId) (B : Nat) (od : Nat → Option Nat) {A : AH} {b : Nat} {x y : Int32} (hb : A b = some (.inr (11, [.int y]))) : CM l D cy B od yJ6_init_d00df cJ6_init_d00df 2 none rmJ6_init_d00df [.ref b, .int x] A (fun v A' => v = none ∧ A' = upA A b (.inr (11, [.int x]))) := by
  intro z
  refine CT.of (by decide) tJ6_init_d00df okJ6_init_d00df (Nat.le_of_ble_eq_true rfl) (q0 := tJ6_init_d00df[0]) rfl rfl ?_
  intro p e s m args below meth c X hnm
  refine g_aload_n X rfl rfl ?_
  refine g_mI X rfl lcJxd2413_init_da8c8 lmJ6_202 liJxd2413_init_da8c8 rfl (cm_Num_init l D cy B od) rfl rfl (Nat.le_of_ble_eq_true rfl) ⟨⟨by decide, by decide⟩, rfl, rfl⟩ ⟨Nat.le_of_ble_eq_true rfl, Nat.le_of_ble_eq_true rfl⟩ (fun v1 A1 q1 => ?_)
  obtain ⟨rfl, rfl⟩ := q1
  refine g_aload_n X rfl rfl ?_
  refine g_iload_n X rfl rfl ?_
  refine g_putF X rfl flJ6_205 rfl hnm rfl ffJ6_205 (ci := 11) rfl hb (Nat.le_of_ble_eq_true rfl) (by rfl) (by rfl) ?_
  exact g_vret X rfl rfl (Nat.le_of_ble_eq_true rfl) (Nat.le_of_ble_eq_true rfl) ⟨rfl, rfl, rfl⟩
set_option maxRecDepth 100000 in
set_option maxHeartbeats 400000 in
theorem cg_valueOf (l : Launch) (D : va_G) (cy : Nat → ClassId) (B : Nat) (od : Nat → Option Nat) {A : AH} {x : Int32} : CG l D cy B od yJ6_valueOf_2dffe cJ6_valueOf_2dffe 1 (some (.object "java/lang/Integer")) rmJ6_valueOf_2dffe [.int x] A (fun v A' => ∃ r, v = some (.ref r) ∧ IntA A' r x) := by
  intro z hF hz
  refine CT.of (by decide) tJ6_valueOf_2dffe okJ6_valueOf_2dffe (Nat.le_of_ble_eq_true rfl) (q0 := tJ6_valueOf_2dffe[0]) rfl rfl ?_
  intro p e s m args below meth c X hnm
  have tail : G p l e rmJ6_valueOf_2dffe s m args below meth c D B od 1 tJ6_valueOf_2dffe (FinQ false D B od (fun v A' z' => (∃ r, v = some (.ref r) ∧ IntA A' r x) ∧ ∃ z1, z' = z1 + 1 ∧ Grw A z A' z1 rmJ6_valueOf_2dffe.cells) (fun _ _ => True) args s below rmJ6_valueOf_2dffe.cells rmJ6_valueOf_2dffe.slots) 0 0 A (z + 1) 12 [some (.int x)] [] := by
    refine g_new X rfl nwJ6_1 (ci := 11) rfl (fs := [.int (nI 0)]) rfl rfl (by have : z + 1 ≤ 900000 := hz; omega) (Nat.le_of_ble_eq_true rfl) (Nat.le_of_ble_eq_true rfl) ?_
    refine g_dup X rfl rfl ?_
    refine g_iload_n X rfl rfl ?_
    refine g_mI X rfl lcJ6_init_d00df lmJ6_199 liJ6_init_d00df rfl (cm_Int_init l D cy B od upA_eq) rfl rfl (Nat.le_of_ble_eq_true rfl) ⟨⟨by decide, by decide⟩, rfl, rfl⟩ ⟨Nat.le_of_ble_eq_true rfl, Nat.le_of_ble_eq_true rfl⟩ (fun v1 A1 q1 => ?_)
    obtain ⟨rfl, rfl⟩ := q1
    rw [upA_up]
    exact g_aret X rfl rfl (Nat.le_of_ble_eq_true rfl) (Nat.le_of_ble_eq_true rfl) ⟨⟨z, rfl, Or.inl upA_eq⟩, z + 1, rfl, (Grw.rf hF).new hF⟩
  refine g_iload_n X rfl rfl ?_
  refine g_bipush X rfl (v := (-128)) (by decide) ?_
  refine g_icmp_lt X rfl (fun _ => ?_) (fun h1 => ?_)
  · exact tail
  · refine g_iload_n X rfl rfl ?_
    refine g_gst X rfl gsJ6_191 X.zH ?_
    refine g_icmp_gt X rfl (fun _ => ?_) (fun h2 => ?_)
    · exact tail
    · obtain ⟨k, hk, e1, e2⟩ := box_k x h1 h2
      refine g_gst X rfl gsJ6_195 X.zC ?_
      refine g_iload_n X rfl rfl ?_
      refine g_sipush X rfl (v := nI 128) (by decide) ?_
      refine g_iadd X rfl ?_
      rw [e1]
      refine g_cache X hk rfl ?_
      exact g_aret X rfl rfl (Nat.le_of_ble_eq_true rfl) (Nat.le_of_ble_eq_true rfl) ⟨⟨3001000 + k, rfl, Or.inr ⟨k, hk, rfl, e2⟩⟩, z, rfl, (Grw.rf hF).wide (by decide)⟩
set_option maxRecDepth 100000 in
set_option maxHeartbeats 400000 in
theorem cr_intValue (l : Launch) (D : va_G) (cy : Nat → ClassId) (B : Nat) (od : Nat → Option Nat) {A : AH} {r : Nat} {x : Int32} (h : IntA A r x) : CR l D cy B od yJ6_intValue_8abf5 cJ6_intValue_8abf5 1 (some .int) rmJ6_intValue_8abf5 [.ref r] A (.int x) := by
  intro z
  refine CT.of (by decide) tJ6_intValue_8abf5 okJ6_intValue_8abf5 (Nat.le_of_ble_eq_true rfl) (q0 := tJ6_intValue_8abf5[0]) rfl rfl ?_
  intro p e s m args below meth c X hnm
  rcases h with h | ⟨k, hk, rfl, rfl⟩
  · refine g_aload_n X rfl rfl ?_
    refine g_get X rfl flJ6_205 (ci := 11) rfl (h) rfl ?_
    exact g_iret X rfl rfl (by first | rfl | exact bI_nar _ | decide) (Nat.le_of_ble_eq_true rfl) (Nat.le_of_ble_eq_true rfl) ⟨rfl, rfl, rfl⟩
  · refine g_aload_n X rfl rfl ?_
    refine g_cval X hk rfl ffJ6_205 ?_
    exact g_iret X rfl rfl (by first | rfl | exact bI_nar _ | decide) (Nat.le_of_ble_eq_true rfl) (Nat.le_of_ble_eq_true rfl) ⟨rfl, rfl, rfl⟩
section CORE40
variable {p : Program} {l : Launch} {e : Env} {R : Room} {s : State} {m : MethodId} {args : Array Value} {below : List Frame} {meth : Method} {c : Code}
variable {D : va_G} {cy : Nat → ClassId} {B : Nat} {od : Nat → Option Nat} {cc : ByteArray} {nL : Nat} {tab : List PT} {own : String} {ret : Option FieldType}
variable {F : State → Prop} {cells slots : Nat} {A : AH} {z i pc len nx tg ix : Nat} {lv : List (Option Value)} {st : List Value}
/-- an int from its box -/
theorem g_unbox (X : Cx p s m args meth c D cy B od cc nL tab own ret) (hi : tab[i]? = some (pc, .invokevirtual ix, 3, nx, tg)) (hM : LkM own ix yJ6_intValue_8abf5) {r : Nat} {x : Int32} (h : IntA A r x) (hw : (st.map fun v => v.category).sum ≤ 8) (hRm : rmJ6_intValue_8abf5.frames + 1 ≤ R.frames ∧ 8 + (1 + 11) + rmJ6_intValue_8abf5.locals ≤ R.locals) (hf : cells ≤ R.cells ∧ slots ≤ R.slots)
    (kk : G p l e R s m args below meth c D B od nL tab F cells slots A z nx lv (.int x :: st)) : G p l e R s m args below meth c D B od nL tab F cells slots A z i lv (.ref r :: st) := by
  have hC := cr_intValue l D cy B od h
  rcases h with h | ⟨k, hk, rfl, rfl⟩
  · exact g_rV X hi lcJ6_intValue_8abf5 hM lsJ6_intValue_8abf5 hC (ci := 11) h rfl (As := []) rfl rfl hw ⟨hRm, rfl, rfl⟩ hf kk
  · intro q hq H locs ls hR hS hl
    cases Option.some.inj (hi.symm.trans hq)
    obtain ⟨q2, hq2, e2⟩ := X.2.2.2.1.fall hi rfl
    obtain ⟨-, a, h1, -, ad, h4, h5, h6⟩ := X.ox.2.2.2.2.2.2.1
    refine run_go (va_runV (As := []) (b := rho B od (3001000 + k)) (rest := st.map (trV B od)) X.1 (hC z) ⟨mkB X lcJ6_intValue_8abf5 hM hRm, X.1.2.2.2.2 _ lsJ6_intValue_8abf5.1, X.1.2.2.2.2 _ lsJ6_intValue_8abf5.2⟩ ⟨PcA.blind, by rw [rho_od (h4 k hk)]; exact va_Orecv (h6.1 k hk) hS, fun U hU hW => ⟨rfl, X.world hR hS U hU hW⟩⟩ rfl rfl hl.1 rfl (lv_room (st_cat hw)) (X.2.2.2.1.dec hi) hf) hS (fun v A' z' H1 locs1 hq hR1 hS1 => ?_)
    obtain ⟨rfl, rfl, rfl⟩ := hq
    have K := kk q2 hq2 H1 locs1 ls hR1 hS1 hl
    rw [e2] at K
    exact K
theorem g_castN (X : Cx p s m args meth c D cy B od cc nL tab own ret) (hi : tab[i]? = some (pc, .checkcast ix, 3, nx, tg)) (hw : Cond.classLink own ix RJ6 ∈ lw_good) {r : Nat} {x : Int32} (h : IntA A r x) (kk : G p l e R s m args below meth c D B od nL tab F cells slots A z nx lv (.ref r :: st)) : G p l e R s m args below meth c D B od nL tab F cells slots A z i lv (.ref r :: st) := by
  rcases h with h | ⟨k, hk, rfl, rfl⟩
  · exact g_castC X hi hw (ci := 11) rfl h kk
  · exact g_castB X hk hi hw kk
/-- loops over lists: where the iterator is made, whether there is more, the next -/
theorem g_iter (X : Cx p s m args meth c D cy B od cc nL tab own ret) (hi : tab[i]? = some (pc, .invokevirtual ix, 3, nx, tg)) (hM : LkM own ix yJx4a65c_iterator_32c93) {k ed n : Nat} {mc : Int32} {f : Nat → Nat} (hL : LsC cy A k mc ed n f) (hF : FRs A z) (hz : z < 1000000) (hw : (st.map fun v => v.category).sum ≤ 8) (hRm : rmJx4a65c_iterator_32c93.frames + 1 ≤ R.frames ∧ 8 + (1 + 11) + rmJx4a65c_iterator_32c93.locals ≤ R.locals) (hf : cells + 1 ≤ R.cells ∧ slots + 4 ≤ R.slots)
    (kk : G p l e R s m args below meth c D B od nL tab F (cells + 1) (slots + 4) (upA A z (itE 0 (-1) mc k)) (z + 2) nx lv (.ref z :: st)) : G p l e R s m args below meth c D B od nL tab F cells slots A (z + 1) i lv (.ref k :: st) := by
  refine g_callV X hi lcJx4a65c_iterator_32c93 hM lsJx4a65c_iterator_32c93 (ct_iterator l D cy B od hL hF hz) (ci := 9) hL.1 rfl (As := []) rfl rfl hw hRm hf (fun v A' z' h => ?_)
  obtain ⟨rfl, rfl, rfl⟩ := h
  exact kk
theorem g_hasNext (X : Cx p s m args meth c D cy B od cc nL tab own ret) {cnt : Nat} (hi : tab[i]? = some (pc, .invokeinterface ix cnt, 5, nx, tg)) (hM : Cond.methodLink own ix ⟨"java/util/Iterator", "hasNext", "()Z"⟩ ∈ lw_good) {b k j n : Nat} {mc mc2 lr : Int32} {v1 : Value} (hk : A k = some (.inr (9, [.int mc2, v1, .int (nI n)]))) (hb : A b = some (itE j lr mc k)) (hj : j ≤ n) (hn : n < 1000) (hw : (st.map fun v => v.category).sum ≤ 8) (hRm : rmJx35411_hasNext_aae02.frames + 1 ≤ R.frames ∧ 8 + (1 + 11) + rmJx35411_hasNext_aae02.locals ≤ R.locals) (hf : cells ≤ R.cells ∧ slots ≤ R.slots)
    (kk : G p l e R s m args below meth c D B od nL tab F cells slots A z nx lv (.int (bI (decide (j < n))) :: st)) : G p l e R s m args below meth c D B od nL tab F cells slots A z i lv (.ref b :: st) := by
  refine g_callF X hi lcJx35411_hasNext_aae02 hM se_hasNext liJx35411_hasNext_aae02 (List.Mem.head _) ⟨by decide, by decide +kernel⟩ (cr_hasNext l D cy B od hk hb hj hn z) (ci := 10) hb rfl (As := []) rfl rfl hw hRm hf (fun v A' z' h => ?_)
  obtain ⟨rfl, rfl, rfl⟩ := h
  exact kk
theorem g_next (X : Cx p s m args meth c D cy B od cc nL tab own ret) {cnt : Nat} (hi : tab[i]? = some (pc, .invokeinterface ix cnt, 5, nx, tg)) (hM : Cond.methodLink own ix ⟨"java/util/Iterator", "next", "()Ljava/lang/Object;"⟩ ∈ lw_good) {b k ed j n : Nat} {mc lr : Int32} {f : Nat → Nat} (hL : LsC cy A k mc ed n f) (hb : A b = some (itE j lr mc k)) (hj : j < n) (hw : (st.map fun v => v.category).sum ≤ 8) (hRm : rmJx35411_next_0502b.frames + 1 ≤ R.frames ∧ 8 + (3 + 11) + rmJx35411_next_0502b.locals ≤ R.locals) (hf : cells ≤ R.cells ∧ slots ≤ R.slots)
    (kk : G p l e R s m args below meth c D B od nL tab F cells slots (upA A b (itE (j + 1) (nI j) mc k)) z nx lv (.ref (f j) :: st)) : G p l e R s m args below meth c D B od nL tab F cells slots A z i lv (.ref b :: st) := by
  refine g_mF X hi lcJx35411_next_0502b hM se_next liJx35411_next_0502b (List.Mem.tail _ (List.Mem.head _)) ⟨by decide, by decide +kernel⟩ (cm_next l D cy B od hL hb hj) (ci := 10) hb rfl (As := []) rfl rfl hw ⟨hRm, rfl, rfl⟩ hf (fun v A' h => ?_)
  obtain ⟨rfl, rfl⟩ := h
  exact kk
/-- what stands in front isn't the first half of a long -/
def lsafe (lv : List (Option Value)) (i : Nat) : Bool := match i with
  | 0 => true
  | j + 1 => !(isC2 lv[j]?)
theorem lset1_s {lv : List (Option Value)} {i : Nat} {v : Value} (h : lsafe lv i = true) : lset1 lv i v = lv.set i (some v) := by
  cases i with
  | zero => rfl
  | succ j =>
    have h2 : isC2 lv[j]? = false := by
      have h3 : (!(isC2 lv[j]?)) = true := h
      simpa using h3
    show (if isC2 lv[j]? = true then _ else lv.set (j + 1) (some v)) = _
    rw [if_neg (by rw [h2]; decide)]
theorem g_istoreS (X : Cx p s m args meth c D cy B od cc nL tab own ret) {k : Nat} {x : Int32} (hi : tab[i]? = some (pc, .istore k, 2, nx, tg)) (hn : k < nL) (hs : lsafe lv k = true) (kk : G p l e R s m args below meth c D B od nL tab F cells slots A z nx (lv.set k (some (.int x))) st) : G p l e R s m args below meth c D B od nL tab F cells slots A z i lv (.int x :: st) := by
  refine g_istore X hi hn ?_
  rw [lset1_s hs]
  exact kk
theorem g_istore_nS (X : Cx p s m args meth c D cy B od cc nL tab own ret) {k : Fin 4} {x : Int32} (hi : tab[i]? = some (pc, .istore_n k, 1, nx, tg)) (hn : (k : Nat) < nL) (hs : lsafe lv (k : Nat) = true) (kk : G p l e R s m args below meth c D B od nL tab F cells slots A z nx (lv.set (k : Nat) (some (.int x))) st) : G p l e R s m args below meth c D B od nL tab F cells slots A z i lv (.int x :: st) := by
  refine g_istore_n X hi hn ?_
  rw [lset1_s hs]
  exact kk
theorem g_astoreS (X : Cx p s m args meth c D cy B od cc nL tab own ret) {k : Nat} {x : Nat} (hi : tab[i]? = some (pc, .astore k, 2, nx, tg)) (hn : k < nL) (hs : lsafe lv k = true) (kk : G p l e R s m args below meth c D B od nL tab F cells slots A z nx (lv.set k (some (.ref x))) st) : G p l e R s m args below meth c D B od nL tab F cells slots A z i lv (.ref x :: st) := by
  refine g_astore X hi hn ?_
  rw [lset1_s hs]
  exact kk
theorem g_astore_nS (X : Cx p s m args meth c D cy B od cc nL tab own ret) {k : Fin 4} {x : Nat} (hi : tab[i]? = some (pc, .astore_n k, 1, nx, tg)) (hn : (k : Nat) < nL) (hs : lsafe lv (k : Nat) = true) (kk : G p l e R s m args below meth c D B od nL tab F cells slots A z nx (lv.set (k : Nat) (some (.ref x))) st) : G p l e R s m args below meth c D B od nL tab F cells slots A z i lv (.ref x :: st) := by
  refine g_astore_n X hi hn ?_
  rw [lset1_s hs]
  exact kk
theorem g_lstoreS (X : Cx p s m args meth c D cy B od cc nL tab own ret) {k : Nat} {x : Int64} (hi : tab[i]? = some (pc, .lstore k, 2, nx, tg)) (hn : k + 1 < nL) (hs : lsafe lv k = true) (kk : G p l e R s m args below meth c D B od nL tab F cells slots A z nx ((lv.set k (some (.long x))).set (k + 1) none) st) : G p l e R s m args below meth c D B od nL tab F cells slots A z i lv (.long x :: st) := by
  refine g_lstore X hi hn ?_
  unfold lset2
  rw [lset1_s hs]
  exact kk
theorem g_lstore_nS (X : Cx p s m args meth c D cy B od cc nL tab own ret) {k : Fin 4} {x : Int64} (hi : tab[i]? = some (pc, .lstore_n k, 1, nx, tg)) (hn : (k : Nat) + 1 < nL) (hs : lsafe lv (k : Nat) = true) (kk : G p l e R s m args below meth c D B od nL tab F cells slots A z nx ((lv.set (k : Nat) (some (.long x))).set ((k : Nat) + 1) none) st) : G p l e R s m args below meth c D B od nL tab F cells slots A z i lv (.long x :: st) := by
  refine g_lstore_n X hi hn ?_
  unfold lset2
  rw [lset1_s hs]
  exact kk
theorem g_iincS (X : Cx p s m args meth c D cy B od cc nL tab own ret) {k : Nat} {n : Int} {x : Int32} (hi : tab[i]? = some (pc, .iinc k n, 3, nx, tg)) (hk : lv[k]? = some (some (.int x))) (hn : k < nL) (hs : lsafe lv k = true) (kk : G p l e R s m args below meth c D B od nL tab F cells slots A z nx (lv.set k (some (.int (x + Int32.ofInt n)))) st) : G p l e R s m args below meth c D B od nL tab F cells slots A z i lv st := by
  refine g_iinc X hi hk hn ?_
  rw [lset1_s hs]
  exact kk
theorem g_iinc1S (X : Cx p s m args meth c D cy B od cc nL tab own ret) {k j : Nat} (hi : tab[i]? = some (pc, .iinc k 1, 3, nx, tg)) (hk : lv[k]? = some (some (.int (nI j)))) (hn : k < nL) (hs : lsafe lv k = true) (kk : G p l e R s m args below meth c D B od nL tab F cells slots A z nx (lv.set k (some (.int (nI (j + 1))))) st) : G p l e R s m args below meth c D B od nL tab F cells slots A z i lv st := by
  refine g_iinc1 X hi hk hn ?_
  rw [lset1_s hs]
  exact kk
end CORE40
