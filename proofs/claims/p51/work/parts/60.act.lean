/-! 60: the book is asked the same -/
theorem bI_iff : ∀ b : Bool, bI b = 0 ↔ b = false := fun b => by cases b <;> decide
/-- what an answer leaves of a book: `S'` when it answered, else what stood -/
def ActQ (cy : Nat → ClassId) (A A' : AH) (z g : Nat) (L : BL) (S : StV) (Z : SV) (oc : OC) (S' : StV) : Prop := ∃ (L' : BL) (S1 : StV), (∀ r, oc = .inr r → S1 = S') ∧ (∀ E, oc = .inl E → S1 = S) ∧ BkW cy A' g L' S1 Z ∧ (∀ q, Foot g L' S1 Z q → Foot g L S Z q ∨ z ≤ q) ∧ ∀ q, q < z → ¬ Foot g L S Z q → A' q = A q
def ActR (cy : Nat → ClassId) (A : AH) (z g : Nat) (L : BL) (S : StV) (Z : SV) (oc : OC) (S' : StV) : QT := fun v A' z' => v = some (.int (ocI oc)) ∧ (∃ z1, z' = z1 + 1 ∧ z ≤ z1 ∧ z1 ≤ z + 700 ∧ FRs A' z1) ∧ ActQ cy A A' z g L S Z oc S'
theorem ActR.err {cy : Nat → ClassId} {A : AH} {z g : Nat} {L : BL} {S S' : StV} {Z : SV} {oc : OC} {E : String} {x : Int32} (hb : BkW cy A g L S Z) (hF : FRs A z) (h : oc = .inl E) (hx : ecode E = x) : ActR cy A z g L S Z oc S' (some (.int x)) A (z + 1) := by
  subst h
  exact ⟨by rw [← hx]; rfl, ⟨z, rfl, Nat.le_refl _, by omega, hF⟩, L, S, (fun r q => by cases q), (fun _ _ => rfl), hb, (fun q h => Or.inl h), fun _ _ _ => rfl⟩
/-- the book with another start -/
def stS (S : StV) (v : Int32) : StV := (S.1, S.2.1, S.2.2.1, S.2.2.2.1, S.2.2.2.2.1, v)
set_option maxRecDepth 100000 in
set_option maxHeartbeats 400000 in
theorem ct_L_act_13 (l : Launch) (D : va_G) (cy : Nat → ClassId) (B : Nat) (od : Nat → Option Nat) {A : AH} {g n : Nat} {L : BL} {S : StV} {Z : SV} (hb : BkW cy A g L S Z) (hw : WfS S) (hn : n < 10000000) {V : LV} (hV : vS V = S) (z : Nat) (hF : FRs A z) (hz : z + 700 ≤ 900000) : CT l D cy B od yL_act cL_act 11 (some .int) rmL_act [.ref g, .int (nI 13), .int (nI n)] A (z + 1) (ActR cy A z g L S Z (ocStart V (numI n (-10000000) (nI 10000000) 20000001)) (stS S (numI n (-10000000) (nI 10000000) 20000001))) := by
  refine CT.of (by decide) tL_act okL_act (Nat.le_of_ble_eq_true rfl) (q0 := tL_act[0]) rfl rfl ?_
  intro p e s m args below meth c X hnm
  have hw1 := hw.1
  have hw2 := hw.2.1
  have hw3 := hw.2.2.1
  refine g_iload_n X rfl rfl ?_
  refine g_bipush X rfl (v := nI 64) (by decide) ?_
  refine g_idiv X rfl (by decide) ?_
  rw [pk_div (by omega) (by decide) (by decide)]
  first | refine g_istore_nS X rfl (by decide) rfl ?_ | refine g_istore_n X rfl (by decide) ?_
  refine g_iload_n X rfl rfl ?_
  refine g_aload_n X rfl rfl ?_
  refine g_get X rfl flL_91 (ci := 8) rfl (hb.1.1) rfl ?_
  refine g_rV X rfl lcJx4a65c_size_8abf5 lmL_97 lsJx4a65c_size_8abf5 (cr_size l D cy B od (show LsC cy A (L.1 2) (L.2.1 2) (L.2.2.1 2) S.1.1 (L.2.2.2 2) from hb.1.2.1 2 (by decide))) (ci := 9) ((hb.1.2.1 2 (by decide)).1) rfl rfl rfl (Nat.le_of_ble_eq_true rfl) ⟨⟨by decide, by decide⟩, rfl, rfl⟩ ⟨Nat.le_of_ble_eq_true rfl, Nat.le_of_ble_eq_true rfl⟩ ?_
  refine g_iconst X rfl (v := nI 1) (by decide) ?_
  refine g_iadd X rfl ?_
  rw [nI_1b]
  refine g_irem X rfl (fun q => by rw [nI_eq0 (by omega)] at q; omega) ?_
  rw [rem_N (by omega) (by omega) (by omega)]
  first | refine g_istoreS X rfl (by decide) rfl ?_ | refine g_istore X rfl (by decide) ?_
  refine g_iload_n X rfl rfl ?_
  refine g_aload_n X rfl rfl ?_
  refine g_get X rfl flL_102 (ci := 8) rfl (hb.1.1) rfl ?_
  refine g_rV X rfl lcJx4a65c_size_8abf5 lmL_97 lsJx4a65c_size_8abf5 (cr_size l D cy B od (show LsC cy A (L.1 3) (L.2.1 3) (L.2.2.1 3) S.2.2.1.1 (L.2.2.2 3) from hb.1.2.1 3 (by decide))) (ci := 9) ((hb.1.2.1 3 (by decide)).1) rfl rfl rfl (Nat.le_of_ble_eq_true rfl) ⟨⟨by decide, by decide⟩, rfl, rfl⟩ ⟨Nat.le_of_ble_eq_true rfl, Nat.le_of_ble_eq_true rfl⟩ ?_
  refine g_iconst X rfl (v := nI 1) (by decide) ?_
  refine g_iadd X rfl ?_
  rw [nI_1b]
  refine g_irem X rfl (fun q => by rw [nI_eq0 (by omega)] at q; omega) ?_
  rw [rem_N (by omega) (by omega) (by omega)]
  first | refine g_istoreS X rfl (by decide) rfl ?_ | refine g_istore X rfl (by decide) ?_
  refine g_iload_n X rfl rfl ?_
  refine g_aload_n X rfl rfl ?_
  refine g_get X rfl flL_105 (ci := 8) rfl (hb.1.1) rfl ?_
  refine g_rV X rfl lcJx4a65c_size_8abf5 lmL_97 lsJx4a65c_size_8abf5 (cr_size l D cy B od (show LsC cy A (L.1 1) (L.2.1 1) (L.2.2.1 1) S.2.1.1 (L.2.2.2 1) from hb.1.2.1 1 (by decide))) (ci := 9) ((hb.1.2.1 1 (by decide)).1) rfl rfl rfl (Nat.le_of_ble_eq_true rfl) ⟨⟨by decide, by decide⟩, rfl, rfl⟩ ⟨Nat.le_of_ble_eq_true rfl, Nat.le_of_ble_eq_true rfl⟩ ?_
  refine g_iconst X rfl (v := nI 1) (by decide) ?_
  refine g_iadd X rfl ?_
  rw [nI_1b]
  refine g_irem X rfl (fun q => by rw [nI_eq0 (by omega)] at q; omega) ?_
  rw [rem_N (by omega) (by omega) (by omega)]
  first | refine g_istoreS X rfl (by decide) rfl ?_ | refine g_istore X rfl (by decide) ?_
  refine g_iload_n X rfl rfl ?_
  refine g_tswO X rfl (j := 508) (Or.inr (by decide)) rfl (by decide) ?_
  refine g_iload_n X rfl rfl ?_
  refine g_ldc X rfl kcL_150 ?_
  refine g_ldc X rfl kcL_85 ?_
  refine g_rS X rfl lcL_number lmL_86 stL_number (cr_L_number l D cy B od (n := n) (N := 20000001) (lo := -10000000) (hi := nI 10000000) (by omega) (by decide) (by decide) (by decide)) rfl rfl (Nat.le_of_ble_eq_true rfl) ⟨⟨by decide, by decide⟩, rfl, rfl⟩ ⟨Nat.le_of_ble_eq_true rfl, Nat.le_of_ble_eq_true rfl⟩ ?_
  first | refine g_istoreS X rfl (by decide) rfl ?_ | refine g_istore X rfl (by decide) ?_
  refine g_iload X rfl rfl ?_
  refine g_ldc X rfl kcL_150 ?_
  refine g_ldc X rfl kcL_85 ?_
  refine g_rS X rfl lcL_is lmL_114 stL_is (cr_L_is l D cy B od (v := numI n (-10000000) (nI 10000000) 20000001) (lo := -10000000) (hi := nI 10000000)) rfl rfl (Nat.le_of_ble_eq_true rfl) ⟨⟨by decide, by decide⟩, rfl, rfl⟩ ⟨Nat.le_of_ble_eq_true rfl, Nat.le_of_ble_eq_true rfl⟩ ?_
  refine g_if_ne X rfl (fun h => ?_) (fun h => ?_)
  · have h1 : ¬ within9 (numI n (-10000000) (nI 10000000) 20000001) (-10000000) (nI 10000000) = false := fun q => h ((bI_iff _).mpr q)
    have hoc : ocStart V (numI n (-10000000) (nI 10000000) 20000001) = .inr (.int S.2.2.2.2.2) := by rw [← hV]; exact if_pos (by simpa using h1)
    refine g_aload_n X rfl rfl ?_
    refine g_get X rfl flL_151 (ci := 8) rfl (hb.1.1) rfl ?_
    first | refine g_istoreS X rfl (by decide) rfl ?_ | refine g_istore X rfl (by decide) ?_
    refine g_aload_n X rfl rfl ?_
    refine g_iload X rfl rfl ?_
    refine g_put X rfl flL_151 rfl (ci := 8) rfl (hb.1.1) (Nat.le_of_ble_eq_true rfl) (by rfl) (by rfl) ?_
    refine g_iload X rfl rfl ?_
    exact g_iret X rfl rfl (by rfl) (Nat.le_of_ble_eq_true rfl) (Nat.le_of_ble_eq_true rfl) (⟨by rw [hoc]; rfl, ⟨z, rfl, Nat.le_refl _, by omega, hF.up (hF.lt hb.1.1)⟩, L, stS S (numI n (-10000000) (nI 10000000) 20000001), (fun _ _ => rfl), (fun E q => by rw [hoc] at q; cases q), hb.own (S' := stS S (numI n (-10000000) (nI 10000000) 20000001)) (Z' := Z) hF (by omega) (fun u hu => by rcases (show u = 0 ∨ u = 1 ∨ u = 2 ∨ u = 3 ∨ u = 4 by omega) with rfl | rfl | rfl | rfl | rfl <;> rfl) (fun u hu i _ cy A a q => by rcases (show u = 0 ∨ u = 1 ∨ u = 2 ∨ u = 3 ∨ u = 4 by omega) with rfl | rfl | rfl | rfl | rfl <;> exact q), (fun q h => Or.inl (by rcases h with h | h | ⟨t, j, h1, h2, h3, h4⟩; exact Or.inl h; exact Or.inr (Or.inl h); exact Or.inr (Or.inr ⟨t, j, h1, h2, by rcases (show t = 1 ∨ t = 2 ∨ t = 3 by omega) with rfl | rfl | rfl <;> exact h3, h4⟩))), fun q _ h => upA_ne (fun e => h (Or.inl e))⟩)
  · have h1 : within9 (numI n (-10000000) (nI 10000000) 20000001) (-10000000) (nI 10000000) = false := (bI_iff _).mp h
    have hoc : ocStart V (numI n (-10000000) (nI 10000000) 20000001) = .inl eIAE := if_neg (by rw [h1]; decide)
    refine g_ldc X rfl kcL_29 ?_
    exact g_iret X rfl rfl (by rfl) (Nat.le_of_ble_eq_true rfl) (Nat.le_of_ble_eq_true rfl) (ActR.err hb hF hoc (by decide))
