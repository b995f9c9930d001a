/-! 60: the book is asked the same -/
theorem bI_iff : ∀ b : Bool, bI b = 0 ↔ b = false := fun b => by cases b <;> decide
/-- what an answer leaves of a book: `S'` when it answered, else what stood -/
def ActQ (cy : Nat → ClassId) (A A' : AH) (z g : Nat) (L : BL) (S : StV) (Z : SV) (oc : OC) (S' : StV) : Prop := ∃ (L' : BL) (S1 : StV), (∀ r, oc = .inr r → S1 = S') ∧ (∀ E, oc = .inl E → S1 = S) ∧ BkW cy A' g L' S1 Z ∧ (∀ q, Foot g L' S1 Z q → Foot g L S Z q ∨ z ≤ q) ∧ ∀ q y, A q = some y → ¬ Foot g L S Z q → A' q = some y
def ActR (cy : Nat → ClassId) (A : AH) (z g : Nat) (L : BL) (S : StV) (Z : SV) (oc : OC) (S' : StV) : QT := fun v A' z' => v = some (.int (ocI oc)) ∧ (∃ z1, z' = z1 + 1 ∧ z ≤ z1 ∧ z1 ≤ z + 700 ∧ FRs A' z1) ∧ ActQ cy A A' z g L S Z oc S'
theorem ActR.err {cy : Nat → ClassId} {A : AH} {z g : Nat} {L : BL} {S S' : StV} {Z : SV} {oc : OC} {E : String} {x : Int32} (hb : BkW cy A g L S Z) (hF : FRs A z) (h : oc = .inl E) (hx : ecode E = x) : ActR cy A z g L S Z oc S' (some (.int x)) A (z + 1) := by
  subst h
  exact ⟨by rw [← hx]; rfl, ⟨z, rfl, Nat.le_refl _, by omega, hF⟩, L, S, (fun r q => by cases q), (fun _ _ => rfl), hb, (fun q h => Or.inl h), fun _ _ h _ => h⟩
/-- the book with another start -/
def stS (S : StV) (v : Int32) : StV := (S.1, S.2.1, S.2.2.1, S.2.2.2.1, S.2.2.2.2.1, v)
set_option maxRecDepth 100000 in
set_option maxHeartbeats 400000 in
theorem ct_L_act_13 (l : Launch) (D : va_G) (cy : Nat → ClassId) (B : Nat) (od : Nat → Option Nat) {A : AH} {g n : Nat} {L : BL} {S : StV} {Z : SV} (hb : BkW cy A g L S Z) (hw : WfS S) (hwB : WfB S) (hn : n < 10000000) {V : LV} (hV : vS V = S) (z : Nat) (hF : FRs A z) (hz : z + 700 ≤ 900000) : CT l D cy B od yL_act cL_act 11 (some .int) rmL_act [.ref g, .int (nI 13), .int (nI n)] A (z + 1) (ActR cy A z g L S Z (ocStart V (numI n (-10000000) (nI 10000000) 20000001)) (stS S (numI n (-10000000) (nI 10000000) 20000001))) := by
  refine CT.of (by decide) tL_act okL_act (Nat.le_of_ble_eq_true rfl) (q0 := tL_act[0]) rfl rfl ?_
  intro p e s m args below meth c X hnm
  have hw1 := hw.1
  have hw2 := hw.2.1
  have hw3 := hw.2.2.1
  refine g_iload_n X rfl rfl ?_
  refine g_bipush X rfl (v := nI 64) (by decide) ?_
  refine g_idiv X rfl (by decide) ?_
  rw [pk_div (by omega) (by decide) (by decide)]
  first | refine g_istore_nS X rfl (by decide) rfl ?_ | refine g_istore_n X rfl (by decide) ?_
  refine g_iload_n X rfl rfl ?_
  refine g_aload_n X rfl rfl ?_
  refine g_get X rfl flL_91 (ci := 8) rfl (hb.1.1) rfl ?_
  refine g_rV X rfl lcJx4a65c_size_8abf5 lmL_97 lsJx4a65c_size_8abf5 (cr_size l D cy B od (show LsC cy A (L.1 2) (L.2.1 2) (L.2.2.1 2) S.1.1 (L.2.2.2 2) from hb.1.2.1 2 (by decide))) (ci := 9) ((hb.1.2.1 2 (by decide)).1) rfl rfl rfl (Nat.le_of_ble_eq_true rfl) ⟨⟨by decide, by decide⟩, rfl, rfl⟩ ⟨Nat.le_of_ble_eq_true rfl, Nat.le_of_ble_eq_true rfl⟩ ?_
  refine g_iconst X rfl (v := nI 1) (by decide) ?_
  refine g_iadd X rfl ?_
  rw [nI_1b]
  refine g_irem X rfl (fun q => by rw [nI_eq0 (by omega)] at q; omega) ?_
  rw [rem_N (by omega) (by omega) (by omega)]
  first | refine g_istoreS X rfl (by decide) rfl ?_ | refine g_istore X rfl (by decide) ?_
  refine g_iload_n X rfl rfl ?_
  refine g_aload_n X rfl rfl ?_
  refine g_get X rfl flL_102 (ci := 8) rfl (hb.1.1) rfl ?_
  refine g_rV X rfl lcJx4a65c_size_8abf5 lmL_97 lsJx4a65c_size_8abf5 (cr_size l D cy B od (show LsC cy A (L.1 3) (L.2.1 3) (L.2.2.1 3) S.2.2.1.1 (L.2.2.2 3) from hb.1.2.1 3 (by decide))) (ci := 9) ((hb.1.2.1 3 (by decide)).1) rfl rfl rfl (Nat.le_of_ble_eq_true rfl) ⟨⟨by decide, by decide⟩, rfl, rfl⟩ ⟨Nat.le_of_ble_eq_true rfl, Nat.le_of_ble_eq_true rfl⟩ ?_
  refine g_iconst X rfl (v := nI 1) (by decide) ?_
  refine g_iadd X rfl ?_
  rw [nI_1b]
  refine g_irem X rfl (fun q => by rw [nI_eq0 (by omega)] at q; omega) ?_
  rw [rem_N (by omega) (by omega) (by omega)]
  first | refine g_istoreS X rfl (by decide) rfl ?_ | refine g_istore X rfl (by decide) ?_
  refine g_iload_n X rfl rfl ?_
  refine g_aload_n X rfl rfl ?_
  refine g_get X rfl flL_105 (ci := 8) rfl (hb.1.1) rfl ?_
  refine g_rV X rfl lcJx4a65c_size_8abf5 lmL_97 lsJx4a65c_size_8abf5 (cr_size l D cy B od (show LsC cy A (L.1 1) (L.2.1 1) (L.2.2.1 1) S.2.1.1 (L.2.2.2 1) from hb.1.2.1 1 (by decide))) (ci := 9) ((hb.1.2.1 1 (by decide)).1) rfl rfl rfl (Nat.le_of_ble_eq_true rfl) ⟨⟨by decide, by decide⟩, rfl, rfl⟩ ⟨Nat.le_of_ble_eq_true rfl, Nat.le_of_ble_eq_true rfl⟩ ?_
  refine g_iconst X rfl (v := nI 1) (by decide) ?_
  refine g_iadd X rfl ?_
  rw [nI_1b]
  refine g_irem X rfl (fun q => by rw [nI_eq0 (by omega)] at q; omega) ?_
  rw [rem_N (by omega) (by omega) (by omega)]
  first | refine g_istoreS X rfl (by decide) rfl ?_ | refine g_istore X rfl (by decide) ?_
  refine g_iload_n X rfl rfl ?_
  refine g_tswO X rfl (j := 508) (Or.inr (by decide)) rfl (by decide) ?_
  refine g_iload_n X rfl rfl ?_
  refine g_ldc X rfl kcL_150 ?_
  refine g_ldc X rfl kcL_85 ?_
  refine g_rS X rfl lcL_number lmL_86 stL_number (cr_L_number l D cy B od (n := n) (N := 20000001) (lo := -10000000) (hi := nI 10000000) (by omega) (by decide) (by decide) (by decide)) rfl rfl (Nat.le_of_ble_eq_true rfl) ⟨⟨by decide, by decide⟩, rfl, rfl⟩ ⟨Nat.le_of_ble_eq_true rfl, Nat.le_of_ble_eq_true rfl⟩ ?_
  first | refine g_istoreS X rfl (by decide) rfl ?_ | refine g_istore X rfl (by decide) ?_
  refine g_iload X rfl rfl ?_
  refine g_ldc X rfl kcL_150 ?_
  refine g_ldc X rfl kcL_85 ?_
  refine g_rS X rfl lcL_is lmL_114 stL_is (cr_L_is l D cy B od (v := numI n (-10000000) (nI 10000000) 20000001) (lo := -10000000) (hi := nI 10000000)) rfl rfl (Nat.le_of_ble_eq_true rfl) ⟨⟨by decide, by decide⟩, rfl, rfl⟩ ⟨Nat.le_of_ble_eq_true rfl, Nat.le_of_ble_eq_true rfl⟩ ?_
  refine g_if_ne X rfl (fun h => ?_) (fun h => ?_)
  · have h1 : ¬ within9 (numI n (-10000000) (nI 10000000) 20000001) (-10000000) (nI 10000000) = false := fun q => h ((bI_iff _).mpr q)
    have hoc : ocStart V (numI n (-10000000) (nI 10000000) 20000001) = .inr (.int S.2.2.2.2.2) := by rw [← hV]; exact if_pos (by simpa using h1)
    refine g_aload_n X rfl rfl ?_
    refine g_get X rfl flL_151 (ci := 8) rfl (hb.1.1) rfl ?_
    first | refine g_istoreS X rfl (by decide) rfl ?_ | refine g_istore X rfl (by decide) ?_
    refine g_aload_n X rfl rfl ?_
    refine g_iload X rfl rfl ?_
    refine g_put X rfl flL_151 rfl (ci := 8) rfl (hb.1.1) (Nat.le_of_ble_eq_true rfl) (by rfl) (by rfl) ?_
    refine g_iload X rfl rfl ?_
    exact g_iret X rfl rfl (by rfl) (Nat.le_of_ble_eq_true rfl) (Nat.le_of_ble_eq_true rfl) (⟨by rw [hoc]; rfl, ⟨z, rfl, Nat.le_refl _, by omega, hF.up (hF.lt hb.1.1)⟩, L, stS S (numI n (-10000000) (nI 10000000) 20000001), (fun _ _ => rfl), (fun E q => by rw [hoc] at q; cases q), hb.own (S' := stS S (numI n (-10000000) (nI 10000000) 20000001)) (Z' := Z) hF (by omega) (fun u hu => by rcases (show u = 0 ∨ u = 1 ∨ u = 2 ∨ u = 3 ∨ u = 4 by omega) with rfl | rfl | rfl | rfl | rfl <;> rfl) (fun u hu i _ cy A a q => by rcases (show u = 0 ∨ u = 1 ∨ u = 2 ∨ u = 3 ∨ u = 4 by omega) with rfl | rfl | rfl | rfl | rfl <;> exact q), (fun q h => Or.inl (by rcases h with h | h | ⟨t, j, h1, h2, h3, h4⟩; exact Or.inl h; exact Or.inr (Or.inl h); exact Or.inr (Or.inr ⟨t, j, h1, h2, by rcases (show t = 1 ∨ t = 2 ∨ t = 3 by omega) with rfl | rfl | rfl <;> exact h3, h4⟩))), fun q y hy h => (upA_ne (fun e => h (Or.inl e))).trans hy⟩)
  · have h1 : within9 (numI n (-10000000) (nI 10000000) 20000001) (-10000000) (nI 10000000) = false := (bI_iff _).mp h
    have hoc : ocStart V (numI n (-10000000) (nI 10000000) 20000001) = .inl eIAE := if_neg (by rw [h1]; decide)
    refine g_ldc X rfl kcL_29 ?_
    exact g_iret X rfl rfl (by rfl) (Nat.le_of_ble_eq_true rfl) (Nat.le_of_ble_eq_true rfl) (ActR.err hb hF hoc (by decide))
theorem isDN_w (d : Int32) : isDN d = within9 d (-1) (nI 359) := by
  have e : d = -1 ↔ d.toInt = -1 := ⟨fun h => by rw [h]; decide, fun h => Int32.toInt_inj.mp (h.trans (by decide))⟩
  have e1 : (-1 : Int32).toInt = -1 := by decide
  have e2 : (nI 0).toInt = 0 := by decide
  have e3 : (nI 359).toInt = 359 := by decide
  rw [Bool.eq_iff_iff]
  simp only [isDN, within9, Bool.or_eq_true, Bool.and_eq_true, decide_eq_true_eq, Int32.le_iff_toInt_le, e, e1, e2, e3]
  omega
theorem rSet_ne {R : RV} {c i j q : Nat} {v : Int32} (h : i ≠ j) : (rSet R c j v).2 q i = R.2 q i := by
  by_cases e : q = c
  · subst e
    simp [rSet, upd, h]
  · simp [rSet, e]
theorem rSet_at {R : RV} {c j q : Nat} {v : Int32} : (rSet R c j v).2 q j = upd (fun q => R.2 q j) c v q := by
  by_cases e : q = c
  · subst e
    simp [rSet, upd]
  · simp [rSet, upd, e]
theorem RwA.cong {cy : Nat → ClassId} {A : AH} {a n : Nat} {f g : Nat → Int32} (h : RwA cy A a n f) (e : ∀ i, i < n → f i = g i) : RwA cy A a n g := by
  obtain ⟨r, h1, h2⟩ := h
  exact ⟨r, h1, fun i hi => (h2 i hi).trans (e i hi)⟩
theorem BkW.ent {cy : Nat → ClassId} {A : AH} {g c E z : Nat} {L : BL} {S : StV} {Z : SV} {v : Int32} {r : Nat → Int32} (h : BkW cy A g L S Z) (hF : FRs A z) (hz : z ≤ 900000) (hE : E < S.1.1) (hr : ∀ i, i < 7 → r i = S.1.2 i E) : BkW cy (upA A (L.2.2.2 2 E) (.inl (cy 0, 7, .inl (upd r c v)))) g L (rSet S.1 c E v, S.2) Z :=
  h.row (t := 2) (j := E) (r' := upd r c v) (by decide) (by decide) hE hF hz (fun u hu => by rcases (show u = 0 ∨ u = 1 ∨ u = 2 ∨ u = 3 ∨ u = 4 by omega) with rfl | rfl | rfl | rfl | rfl <;> rfl) rfl
    (fun u hu i hi hne cy A a q => by
      rcases (show u = 0 ∨ u = 1 ∨ u = 2 ∨ u = 3 ∨ u = 4 by omega) with rfl | rfl | rfl | rfl | rfl
      · exact q
      · exact q
      · exact RwA.cong q (fun k _ => (rSet_ne (hne.resolve_left (fun e => e rfl))).symm)
      · exact q
      · exact q)
    ⟨_, upA_eq, fun k hk => by
      show upd r c v k = (rSet S.1 c E v).2 k E
      rw [rSet_at]
      show (if k = c then v else r k) = (if k = c then v else S.1.2 k E)
      rw [hr k hk]⟩
theorem ActR.ent {cy : Nat → ClassId} {A : AH} {g c E z : Nat} {L : BL} {S : StV} {Z : SV} {oc : OC} {v x : Int32} {r : Nat → Int32} (h : BkW cy A g L S Z) (hF : FRs A z) (hz : z + 700 ≤ 900000) (hE : E < S.1.1) (h0 : A (L.2.2.2 2 E) = some (.inl (cy 0, 7, .inl r))) (hr : ∀ i, i < 7 → r i = S.1.2 i E) (hoc : oc = .inr (.int x)) : ActR cy A z g L S Z oc (rSet S.1 c E v, S.2) (some (.int x)) (upA A (L.2.2.2 2 E) (.inl (cy 0, 7, .inl (upd r c v)))) (z + 1) := by
  subst hoc
  exact ⟨rfl, ⟨z, rfl, Nat.le_refl _, by omega, hF.up (hF.lt h0)⟩, L, _, (fun _ _ => rfl), (fun E q => by cases q), h.ent hF (by omega) hE hr, (fun q h => Or.inl (by
    rcases h with h | h | ⟨t, j, h1, h2, h3, h4⟩
    · exact Or.inl h
    · exact Or.inr (Or.inl h)
    · exact Or.inr (Or.inr ⟨t, j, h1, h2, by rcases (show t = 1 ∨ t = 2 ∨ t = 3 by omega) with rfl | rfl | rfl <;> exact h3, h4⟩))), fun q y hy h => (upA_ne (fun e => h (Or.inr (Or.inr ⟨2, E, by decide, by decide, hE, e⟩)))).trans hy⟩
set_option maxRecDepth 100000 in
set_option maxHeartbeats 400000 in
theorem ct_L_act_6 (l : Launch) (D : va_G) (cy : Nat → ClassId) (B : Nat) (od : Nat → Option Nat) {A : AH} {g n : Nat} {L : BL} {S : StV} {Z : SV} (hb : BkW cy A g L S Z) (hw : WfS S) (hwB : WfB S) (hn : n < 10000000) {V : LV} (hV : vS V = S) (z : Nat) (hF : FRs A z) (hz : z + 700 ≤ 900000) : CT l D cy B od yL_act cL_act 11 (some .int) rmL_act [.ref g, .int (nI 6), .int (nI n)] A (z + 1) (ActR cy A z g L S Z (ocCan V (nI (n % (S.1.1 + 1)))) (rSet S.1 5 (n % (S.1.1 + 1)) (nI 1), S.2)) := by
  refine CT.of (by decide) tL_act okL_act (Nat.le_of_ble_eq_true rfl) (q0 := tL_act[0]) rfl rfl ?_
  intro p e s m args below meth c X hnm
  have hw1 := hw.1
  have hw2 := hw.2.1
  have hw3 := hw.2.2.1
  refine g_iload_n X rfl rfl ?_
  refine g_bipush X rfl (v := nI 64) (by decide) ?_
  refine g_idiv X rfl (by decide) ?_
  rw [pk_div (by omega) (by decide) (by decide)]
  first | refine g_istore_nS X rfl (by decide) rfl ?_ | refine g_istore_n X rfl (by decide) ?_
  refine g_iload_n X rfl rfl ?_
  refine g_aload_n X rfl rfl ?_
  refine g_get X rfl flL_91 (ci := 8) rfl (hb.1.1) rfl ?_
  refine g_rV X rfl lcJx4a65c_size_8abf5 lmL_97 lsJx4a65c_size_8abf5 (cr_size l D cy B od (show LsC cy A (L.1 2) (L.2.1 2) (L.2.2.1 2) S.1.1 (L.2.2.2 2) from hb.1.2.1 2 (by decide))) (ci := 9) ((hb.1.2.1 2 (by decide)).1) rfl rfl rfl (Nat.le_of_ble_eq_true rfl) ⟨⟨by decide, by decide⟩, rfl, rfl⟩ ⟨Nat.le_of_ble_eq_true rfl, Nat.le_of_ble_eq_true rfl⟩ ?_
  refine g_iconst X rfl (v := nI 1) (by decide) ?_
  refine g_iadd X rfl ?_
  rw [nI_1b]
  refine g_irem X rfl (fun q => by rw [nI_eq0 (by omega)] at q; omega) ?_
  rw [rem_N (by omega) (by omega) (by omega)]
  first | refine g_istoreS X rfl (by decide) rfl ?_ | refine g_istore X rfl (by decide) ?_
  refine g_iload_n X rfl rfl ?_
  refine g_aload_n X rfl rfl ?_
  refine g_get X rfl flL_102 (ci := 8) rfl (hb.1.1) rfl ?_
  refine g_rV X rfl lcJx4a65c_size_8abf5 lmL_97 lsJx4a65c_size_8abf5 (cr_size l D cy B od (show LsC cy A (L.1 3) (L.2.1 3) (L.2.2.1 3) S.2.2.1.1 (L.2.2.2 3) from hb.1.2.1 3 (by decide))) (ci := 9) ((hb.1.2.1 3 (by decide)).1) rfl rfl rfl (Nat.le_of_ble_eq_true rfl) ⟨⟨by decide, by decide⟩, rfl, rfl⟩ ⟨Nat.le_of_ble_eq_true rfl, Nat.le_of_ble_eq_true rfl⟩ ?_
  refine g_iconst X rfl (v := nI 1) (by decide) ?_
  refine g_iadd X rfl ?_
  rw [nI_1b]
  refine g_irem X rfl (fun q => by rw [nI_eq0 (by omega)] at q; omega) ?_
  rw [rem_N (by omega) (by omega) (by omega)]
  first | refine g_istoreS X rfl (by decide) rfl ?_ | refine g_istore X rfl (by decide) ?_
  refine g_iload_n X rfl rfl ?_
  refine g_aload_n X rfl rfl ?_
  refine g_get X rfl flL_105 (ci := 8) rfl (hb.1.1) rfl ?_
  refine g_rV X rfl lcJx4a65c_size_8abf5 lmL_97 lsJx4a65c_size_8abf5 (cr_size l D cy B od (show LsC cy A (L.1 1) (L.2.1 1) (L.2.2.1 1) S.2.1.1 (L.2.2.2 1) from hb.1.2.1 1 (by decide))) (ci := 9) ((hb.1.2.1 1 (by decide)).1) rfl rfl rfl (Nat.le_of_ble_eq_true rfl) ⟨⟨by decide, by decide⟩, rfl, rfl⟩ ⟨Nat.le_of_ble_eq_true rfl, Nat.le_of_ble_eq_true rfl⟩ ?_
  refine g_iconst X rfl (v := nI 1) (by decide) ?_
  refine g_iadd X rfl ?_
  rw [nI_1b]
  refine g_irem X rfl (fun q => by rw [nI_eq0 (by omega)] at q; omega) ?_
  rw [rem_N (by omega) (by omega) (by omega)]
  first | refine g_istoreS X rfl (by decide) rfl ?_ | refine g_istore X rfl (by decide) ?_
  refine g_iload_n X rfl rfl ?_
  refine g_tsw X rfl (j := 191) (by decide) (by decide) rfl rfl (by decide) ?_
  refine g_iload X rfl rfl ?_
  refine g_aload_n X rfl rfl ?_
  refine g_get X rfl flL_91 (ci := 8) rfl (hb.1.1) rfl ?_
  refine g_rV X rfl lcJx4a65c_size_8abf5 lmL_97 lsJx4a65c_size_8abf5 (cr_size l D cy B od (show LsC cy A (L.1 2) (L.2.1 2) (L.2.2.1 2) S.1.1 (L.2.2.2 2) from hb.1.2.1 2 (by decide))) (ci := 9) ((hb.1.2.1 2 (by decide)).1) rfl rfl rfl (Nat.le_of_ble_eq_true rfl) ⟨⟨by decide, by decide⟩, rfl, rfl⟩ ⟨Nat.le_of_ble_eq_true rfl, Nat.le_of_ble_eq_true rfl⟩ ?_
  refine g_icmp_ne X rfl (fun h => ?_) (fun h => ?_)
  · have hE : n % (S.1.1 + 1) < S.1.1 := Nat.lt_of_le_of_ne (Nat.le_of_lt_succ (Nat.mod_lt _ (by omega))) (fun q => h (by rw [q]))
    have hcl := nI_clamp (n := n % (S.1.1 + 1)) (by omega)
    have hx9 : 0 ≤ nI (n % (S.1.1 + 1)) ∧ nI (n % (S.1.1 + 1)) < nI S.1.1 := ⟨nI_le (a := 0) (Nat.zero_le _) (by omega), nI_lt hE (by omega)⟩
    obtain ⟨r, hr0, hrv⟩ : ∃ r, A (L.2.2.2 2 (n % (S.1.1 + 1))) = some (.inl (cy 0, 7, .inl r)) ∧ ∀ j, j < 7 → r j = S.1.2 j (n % (S.1.1 + 1)) := hb.1.2.2.2.2.1 _ hE
    refine g_aload_n X rfl rfl ?_
    refine g_get X rfl flL_91 (ci := 8) rfl (hb.1.1) rfl ?_
    refine g_iload X rfl rfl ?_
    refine g_rV X rfl lcJx4a65c_get_915e3 lmL_125 lsJx4a65c_get_915e3 (cr_get l D cy B od (show LsC cy A (L.1 2) (L.2.1 2) (L.2.2.1 2) S.1.1 (L.2.2.2 2) from hb.1.2.1 2 (by decide)) hE) (ci := 9) ((hb.1.2.1 2 (by decide)).1) rfl rfl rfl (Nat.le_of_ble_eq_true rfl) ⟨⟨by decide, by decide⟩, rfl, rfl⟩ ⟨Nat.le_of_ble_eq_true rfl, Nat.le_of_ble_eq_true rfl⟩ ?_
    refine g_castI X rfl clL_129 hr0 ?_
    first | refine g_astoreS X rfl (by decide) rfl ?_ | refine g_astore X rfl (by decide) ?_
    refine g_aload X rfl rfl ?_
    refine g_iconst X rfl (v := nI 5) (by decide) ?_
    refine g_ialdN X rfl hr0 (by decide) (by decide) ?_
    rw [hrv 5 (by decide)]
    refine g_iconst X rfl (v := nI 1) (by decide) ?_
    refine g_icmp_ne X rfl (fun h2 => ?_) (fun h2 => ?_)
    · have h3 : S.1.2 5 (n % (S.1.1 + 1)) = 0 := (hwB _ hE).1.resolve_right h2
      have hoc : ocCan V (nI (n % (S.1.1 + 1))) = .inr (.int (S.1.2 2 (n % (S.1.1 + 1)))) := by unfold ocCan; rw [hV, hcl, if_neg (fun q => q hx9), if_pos h3]
      refine g_aload X rfl rfl ?_
      refine g_iconst X rfl (v := nI 5) (by decide) ?_
      refine g_iconst X rfl (v := nI 1) (by decide) ?_
      refine g_iastN X rfl hr0 (by decide) (by decide) ?_
      refine g_aload X rfl rfl ?_
      refine g_iconst X rfl (v := nI 2) (by decide) ?_
      refine g_ialdN X rfl upA_eq (by decide) (by decide) ?_
      rw [show upd r 5 (nI 1) 2 = S.1.2 2 (n % (S.1.1 + 1)) from hrv 2 (by decide)]
      exact g_iret X rfl rfl (by rfl) (Nat.le_of_ble_eq_true rfl) (Nat.le_of_ble_eq_true rfl) (ActR.ent hb hF hz hE hr0 hrv hoc)
    · have hoc : ocCan V (nI (n % (S.1.1 + 1))) = .inl eISE := by unfold ocCan; rw [hV, hcl, if_neg (fun q => q hx9), if_neg (fun q => by rw [q] at h2; exact absurd h2 (by decide))]
      refine g_ldc X rfl kcL_22 ?_
      exact g_iret X rfl rfl (by rfl) (Nat.le_of_ble_eq_true rfl) (Nat.le_of_ble_eq_true rfl) (ActR.err hb hF hoc (by decide))
  · have hoc : ocCan V (nI (n % (S.1.1 + 1))) = .inl eIOB := by rw [h]; exact if_pos (fun q => by rw [hV] at q; exact Int32.lt_irrefl q.2)
    refine g_ldc X rfl kcL_58 ?_
    exact g_iret X rfl rfl (by rfl) (Nat.le_of_ble_eq_true rfl) (Nat.le_of_ble_eq_true rfl) (ActR.err hb hF hoc (by decide))
set_option maxRecDepth 100000 in
set_option maxHeartbeats 400000 in
theorem ct_L_act_4 (l : Launch) (D : va_G) (cy : Nat → ClassId) (B : Nat) (od : Nat → Option Nat) {A : AH} {g n : Nat} {L : BL} {S : StV} {Z : SV} (hb : BkW cy A g L S Z) (hw : WfS S) (hwB : WfB S) (hn : n < 10000000) {V : LV} (hV : vS V = S) (z : Nat) (hF : FRs A z) (hz : z + 700 ≤ 900000) : CT l D cy B od yL_act cL_act 11 (some .int) rmL_act [.ref g, .int (nI 4), .int (nI n)] A (z + 1) (ActR cy A z g L S Z (ocPay V (nI (n % (S.1.1 + 1))) (dayI (n / 64))) (rSet S.1 4 (n % (S.1.1 + 1)) (dayI (n / 64)), S.2)) := by
  refine CT.of (by decide) tL_act okL_act (Nat.le_of_ble_eq_true rfl) (q0 := tL_act[0]) rfl rfl ?_
  intro p e s m args below meth c X hnm
  have hw1 := hw.1
  have hw2 := hw.2.1
  have hw3 := hw.2.2.1
  refine g_iload_n X rfl rfl ?_
  refine g_bipush X rfl (v := nI 64) (by decide) ?_
  refine g_idiv X rfl (by decide) ?_
  rw [pk_div (by omega) (by decide) (by decide)]
  first | refine g_istore_nS X rfl (by decide) rfl ?_ | refine g_istore_n X rfl (by decide) ?_
  refine g_iload_n X rfl rfl ?_
  refine g_aload_n X rfl rfl ?_
  refine g_get X rfl flL_91 (ci := 8) rfl (hb.1.1) rfl ?_
  refine g_rV X rfl lcJx4a65c_size_8abf5 lmL_97 lsJx4a65c_size_8abf5 (cr_size l D cy B od (show LsC cy A (L.1 2) (L.2.1 2) (L.2.2.1 2) S.1.1 (L.2.2.2 2) from hb.1.2.1 2 (by decide))) (ci := 9) ((hb.1.2.1 2 (by decide)).1) rfl rfl rfl (Nat.le_of_ble_eq_true rfl) ⟨⟨by decide, by decide⟩, rfl, rfl⟩ ⟨Nat.le_of_ble_eq_true rfl, Nat.le_of_ble_eq_true rfl⟩ ?_
  refine g_iconst X rfl (v := nI 1) (by decide) ?_
  refine g_iadd X rfl ?_
  rw [nI_1b]
  refine g_irem X rfl (fun q => by rw [nI_eq0 (by omega)] at q; omega) ?_
  rw [rem_N (by omega) (by omega) (by omega)]
  first | refine g_istoreS X rfl (by decide) rfl ?_ | refine g_istore X rfl (by decide) ?_
  refine g_iload_n X rfl rfl ?_
  refine g_aload_n X rfl rfl ?_
  refine g_get X rfl flL_102 (ci := 8) rfl (hb.1.1) rfl ?_
  refine g_rV X rfl lcJx4a65c_size_8abf5 lmL_97 lsJx4a65c_size_8abf5 (cr_size l D cy B od (show LsC cy A (L.1 3) (L.2.1 3) (L.2.2.1 3) S.2.2.1.1 (L.2.2.2 3) from hb.1.2.1 3 (by decide))) (ci := 9) ((hb.1.2.1 3 (by decide)).1) rfl rfl rfl (Nat.le_of_ble_eq_true rfl) ⟨⟨by decide, by decide⟩, rfl, rfl⟩ ⟨Nat.le_of_ble_eq_true rfl, Nat.le_of_ble_eq_true rfl⟩ ?_
  refine g_iconst X rfl (v := nI 1) (by decide) ?_
  refine g_iadd X rfl ?_
  rw [nI_1b]
  refine g_irem X rfl (fun q => by rw [nI_eq0 (by omega)] at q; omega) ?_
  rw [rem_N (by omega) (by omega) (by omega)]
  first | refine g_istoreS X rfl (by decide) rfl ?_ | refine g_istore X rfl (by decide) ?_
  refine g_iload_n X rfl rfl ?_
  refine g_aload_n X rfl rfl ?_
  refine g_get X rfl flL_105 (ci := 8) rfl (hb.1.1) rfl ?_
  refine g_rV X rfl lcJx4a65c_size_8abf5 lmL_97 lsJx4a65c_size_8abf5 (cr_size l D cy B od (show LsC cy A (L.1 1) (L.2.1 1) (L.2.2.1 1) S.2.1.1 (L.2.2.2 1) from hb.1.2.1 1 (by decide))) (ci := 9) ((hb.1.2.1 1 (by decide)).1) rfl rfl rfl (Nat.le_of_ble_eq_true rfl) ⟨⟨by decide, by decide⟩, rfl, rfl⟩ ⟨Nat.le_of_ble_eq_true rfl, Nat.le_of_ble_eq_true rfl⟩ ?_
  refine g_iconst X rfl (v := nI 1) (by decide) ?_
  refine g_iadd X rfl ?_
  rw [nI_1b]
  refine g_irem X rfl (fun q => by rw [nI_eq0 (by omega)] at q; omega) ?_
  rw [rem_N (by omega) (by omega) (by omega)]
  first | refine g_istoreS X rfl (by decide) rfl ?_ | refine g_istore X rfl (by decide) ?_
  refine g_iload_n X rfl rfl ?_
  refine g_tsw X rfl (j := 151) (by decide) (by decide) rfl rfl (by decide) ?_
  refine g_iload_n X rfl rfl ?_
  refine g_rS X rfl lcL_day lmL_111 stL_day (cr_L_day l D cy B od (n := n / 64) (by omega)) rfl rfl (Nat.le_of_ble_eq_true rfl) ⟨⟨by decide, by decide⟩, rfl, rfl⟩ ⟨Nat.le_of_ble_eq_true rfl, Nat.le_of_ble_eq_true rfl⟩ ?_
  first | refine g_istoreS X rfl (by decide) rfl ?_ | refine g_istore X rfl (by decide) ?_
  refine g_iload X rfl rfl ?_
  refine g_aload_n X rfl rfl ?_
  refine g_get X rfl flL_91 (ci := 8) rfl (hb.1.1) rfl ?_
  refine g_rV X rfl lcJx4a65c_size_8abf5 lmL_97 lsJx4a65c_size_8abf5 (cr_size l D cy B od (show LsC cy A (L.1 2) (L.2.1 2) (L.2.2.1 2) S.1.1 (L.2.2.2 2) from hb.1.2.1 2 (by decide))) (ci := 9) ((hb.1.2.1 2 (by decide)).1) rfl rfl rfl (Nat.le_of_ble_eq_true rfl) ⟨⟨by decide, by decide⟩, rfl, rfl⟩ ⟨Nat.le_of_ble_eq_true rfl, Nat.le_of_ble_eq_true rfl⟩ ?_
  refine g_icmp_ne X rfl (fun h => ?_) (fun h => ?_)
  · have hE : n % (S.1.1 + 1) < S.1.1 := Nat.lt_of_le_of_ne (Nat.le_of_lt_succ (Nat.mod_lt _ (by omega))) (fun q => h (by rw [q]))
    have hcl := nI_clamp (n := n % (S.1.1 + 1)) (by omega)
    have hx9 : 0 ≤ nI (n % (S.1.1 + 1)) ∧ nI (n % (S.1.1 + 1)) < nI S.1.1 := ⟨nI_le (a := 0) (Nat.zero_le _) (by omega), nI_lt hE (by omega)⟩
    obtain ⟨r, hr0, hrv⟩ : ∃ r, A (L.2.2.2 2 (n % (S.1.1 + 1))) = some (.inl (cy 0, 7, .inl r)) ∧ ∀ j, j < 7 → r j = S.1.2 j (n % (S.1.1 + 1)) := hb.1.2.2.2.2.1 _ hE
    refine g_iload X rfl rfl ?_
    refine g_iconst X rfl (v := (-1)) (by decide) ?_
    refine g_sipush X rfl (v := nI 359) (by decide) ?_
    refine g_rS X rfl lcL_is lmL_114 stL_is (cr_L_is l D cy B od (v := dayI (n / 64)) (lo := -1) (hi := nI 359)) rfl rfl (Nat.le_of_ble_eq_true rfl) ⟨⟨by decide, by decide⟩, rfl, rfl⟩ ⟨Nat.le_of_ble_eq_true rfl, Nat.le_of_ble_eq_true rfl⟩ ?_
    refine g_if_ne X rfl (fun h1 => ?_) (fun h1 => ?_)
    · have hdn : isDN (dayI (n / 64)) := by rw [isDN_w]; exact (Bool.not_eq_false _).mp (mt (bI_iff _).mpr h1)
      refine g_aload_n X rfl rfl ?_
      refine g_get X rfl flL_91 (ci := 8) rfl (hb.1.1) rfl ?_
      refine g_iload X rfl rfl ?_
      refine g_rV X rfl lcJx4a65c_get_915e3 lmL_125 lsJx4a65c_get_915e3 (cr_get l D cy B od (show LsC cy A (L.1 2) (L.2.1 2) (L.2.2.1 2) S.1.1 (L.2.2.2 2) from hb.1.2.1 2 (by decide)) hE) (ci := 9) ((hb.1.2.1 2 (by decide)).1) rfl rfl rfl (Nat.le_of_ble_eq_true rfl) ⟨⟨by decide, by decide⟩, rfl, rfl⟩ ⟨Nat.le_of_ble_eq_true rfl, Nat.le_of_ble_eq_true rfl⟩ ?_
      refine g_castI X rfl clL_129 hr0 ?_
      first | refine g_astoreS X rfl (by decide) rfl ?_ | refine g_astore X rfl (by decide) ?_
      refine g_aload X rfl rfl ?_
      refine g_iconst X rfl (v := nI 5) (by decide) ?_
      refine g_ialdN X rfl hr0 (by decide) (by decide) ?_
      rw [hrv 5 (by decide)]
      refine g_iconst X rfl (v := nI 1) (by decide) ?_
      refine g_icmp_ne X rfl (fun h2 => ?_) (fun h2 => ?_)
      · have h3 : S.1.2 5 (n % (S.1.1 + 1)) = 0 := (hwB _ hE).1.resolve_right h2
        have hoc : ocPay V (nI (n % (S.1.1 + 1))) (dayI (n / 64)) = .inr (.int (S.1.2 4 (n % (S.1.1 + 1)))) := by unfold ocPay; rw [hV, hcl, if_neg (fun q => q hx9), if_pos hdn, if_pos h3]
        refine g_aload X rfl rfl ?_
        refine g_iconst X rfl (v := nI 4) (by decide) ?_
        refine g_ialdN X rfl hr0 (by decide) (by decide) ?_
        rw [hrv 4 (by decide)]
        first | refine g_istoreS X rfl (by decide) rfl ?_ | refine g_istore X rfl (by decide) ?_
        refine g_aload X rfl rfl ?_
        refine g_iconst X rfl (v := nI 4) (by decide) ?_
        refine g_iload X rfl rfl ?_
        refine g_iastN X rfl hr0 (by decide) (by decide) ?_
        refine g_iload X rfl rfl ?_
        exact g_iret X rfl rfl (by rfl) (Nat.le_of_ble_eq_true rfl) (Nat.le_of_ble_eq_true rfl) (ActR.ent hb hF hz hE hr0 hrv hoc)
      · have hoc : ocPay V (nI (n % (S.1.1 + 1))) (dayI (n / 64)) = .inl eISE := by unfold ocPay; rw [hV, hcl, if_neg (fun q => q hx9), if_pos hdn, if_neg (fun q => by rw [q] at h2; exact absurd h2 (by decide))]
        refine g_ldc X rfl kcL_22 ?_
        exact g_iret X rfl rfl (by rfl) (Nat.le_of_ble_eq_true rfl) (Nat.le_of_ble_eq_true rfl) (ActR.err hb hF hoc (by decide))
    · have hdn : ¬ isDN (dayI (n / 64)) := by rw [isDN_w, (bI_iff _).mp h1]; decide
      have hoc : ocPay V (nI (n % (S.1.1 + 1))) (dayI (n / 64)) = .inl eIAE := by unfold ocPay; rw [hV, if_neg (fun q => q hx9), if_neg hdn]
      refine g_ldc X rfl kcL_29 ?_
      exact g_iret X rfl rfl (by rfl) (Nat.le_of_ble_eq_true rfl) (Nat.le_of_ble_eq_true rfl) (ActR.err hb hF hoc (by decide))
  · have hoc : ocPay V (nI (n % (S.1.1 + 1))) (dayI (n / 64)) = .inl eIOB := by rw [h]; exact if_pos (fun q => by rw [hV] at q; exact Int32.lt_irrefl q.2)
    refine g_ldc X rfl kcL_58 ?_
    exact g_iret X rfl rfl (by rfl) (Nat.le_of_ble_eq_true rfl) (Nat.le_of_ble_eq_true rfl) (ActR.err hb hF hoc (by decide))
set_option maxRecDepth 100000 in
set_option maxHeartbeats 400000 in
theorem ct_L_act_5 (l : Launch) (D : va_G) (cy : Nat → ClassId) (B : Nat) (od : Nat → Option Nat) {A : AH} {g n : Nat} {L : BL} {S : StV} {Z : SV} (hb : BkW cy A g L S Z) (hw : WfS S) (hwB : WfB S) (hn : n < 10000000) {V : LV} (hV : vS V = S) (z : Nat) (hF : FRs A z) (hz : z + 700 ≤ 900000) : CT l D cy B od yL_act cL_act 11 (some .int) rmL_act [.ref g, .int (nI 5), .int (nI n)] A (z + 1) (ActR cy A z g L S Z (ocPay V (nI (n % (S.1.1 + 1))) (dayI (n / 64))) (rSet S.1 4 (n % (S.1.1 + 1)) (dayI (n / 64)), S.2)) := by
  refine CT.of (by decide) tL_act okL_act (Nat.le_of_ble_eq_true rfl) (q0 := tL_act[0]) rfl rfl ?_
  intro p e s m args below meth c X hnm
  have hw1 := hw.1
  have hw2 := hw.2.1
  have hw3 := hw.2.2.1
  refine g_iload_n X rfl rfl ?_
  refine g_bipush X rfl (v := nI 64) (by decide) ?_
  refine g_idiv X rfl (by decide) ?_
  rw [pk_div (by omega) (by decide) (by decide)]
  first | refine g_istore_nS X rfl (by decide) rfl ?_ | refine g_istore_n X rfl (by decide) ?_
  refine g_iload_n X rfl rfl ?_
  refine g_aload_n X rfl rfl ?_
  refine g_get X rfl flL_91 (ci := 8) rfl (hb.1.1) rfl ?_
  refine g_rV X rfl lcJx4a65c_size_8abf5 lmL_97 lsJx4a65c_size_8abf5 (cr_size l D cy B od (show LsC cy A (L.1 2) (L.2.1 2) (L.2.2.1 2) S.1.1 (L.2.2.2 2) from hb.1.2.1 2 (by decide))) (ci := 9) ((hb.1.2.1 2 (by decide)).1) rfl rfl rfl (Nat.le_of_ble_eq_true rfl) ⟨⟨by decide, by decide⟩, rfl, rfl⟩ ⟨Nat.le_of_ble_eq_true rfl, Nat.le_of_ble_eq_true rfl⟩ ?_
  refine g_iconst X rfl (v := nI 1) (by decide) ?_
  refine g_iadd X rfl ?_
  rw [nI_1b]
  refine g_irem X rfl (fun q => by rw [nI_eq0 (by omega)] at q; omega) ?_
  rw [rem_N (by omega) (by omega) (by omega)]
  first | refine g_istoreS X rfl (by decide) rfl ?_ | refine g_istore X rfl (by decide) ?_
  refine g_iload_n X rfl rfl ?_
  refine g_aload_n X rfl rfl ?_
  refine g_get X rfl flL_102 (ci := 8) rfl (hb.1.1) rfl ?_
  refine g_rV X rfl lcJx4a65c_size_8abf5 lmL_97 lsJx4a65c_size_8abf5 (cr_size l D cy B od (show LsC cy A (L.1 3) (L.2.1 3) (L.2.2.1 3) S.2.2.1.1 (L.2.2.2 3) from hb.1.2.1 3 (by decide))) (ci := 9) ((hb.1.2.1 3 (by decide)).1) rfl rfl rfl (Nat.le_of_ble_eq_true rfl) ⟨⟨by decide, by decide⟩, rfl, rfl⟩ ⟨Nat.le_of_ble_eq_true rfl, Nat.le_of_ble_eq_true rfl⟩ ?_
  refine g_iconst X rfl (v := nI 1) (by decide) ?_
  refine g_iadd X rfl ?_
  rw [nI_1b]
  refine g_irem X rfl (fun q => by rw [nI_eq0 (by omega)] at q; omega) ?_
  rw [rem_N (by omega) (by omega) (by omega)]
  first | refine g_istoreS X rfl (by decide) rfl ?_ | refine g_istore X rfl (by decide) ?_
  refine g_iload_n X rfl rfl ?_
  refine g_aload_n X rfl rfl ?_
  refine g_get X rfl flL_105 (ci := 8) rfl (hb.1.1) rfl ?_
  refine g_rV X rfl lcJx4a65c_size_8abf5 lmL_97 lsJx4a65c_size_8abf5 (cr_size l D cy B od (show LsC cy A (L.1 1) (L.2.1 1) (L.2.2.1 1) S.2.1.1 (L.2.2.2 1) from hb.1.2.1 1 (by decide))) (ci := 9) ((hb.1.2.1 1 (by decide)).1) rfl rfl rfl (Nat.le_of_ble_eq_true rfl) ⟨⟨by decide, by decide⟩, rfl, rfl⟩ ⟨Nat.le_of_ble_eq_true rfl, Nat.le_of_ble_eq_true rfl⟩ ?_
  refine g_iconst X rfl (v := nI 1) (by decide) ?_
  refine g_iadd X rfl ?_
  rw [nI_1b]
  refine g_irem X rfl (fun q => by rw [nI_eq0 (by omega)] at q; omega) ?_
  rw [rem_N (by omega) (by omega) (by omega)]
  first | refine g_istoreS X rfl (by decide) rfl ?_ | refine g_istore X rfl (by decide) ?_
  refine g_iload_n X rfl rfl ?_
  refine g_tsw X rfl (j := 151) (by decide) (by decide) rfl rfl (by decide) ?_
  refine g_iload_n X rfl rfl ?_
  refine g_rS X rfl lcL_day lmL_111 stL_day (cr_L_day l D cy B od (n := n / 64) (by omega)) rfl rfl (Nat.le_of_ble_eq_true rfl) ⟨⟨by decide, by decide⟩, rfl, rfl⟩ ⟨Nat.le_of_ble_eq_true rfl, Nat.le_of_ble_eq_true rfl⟩ ?_
  first | refine g_istoreS X rfl (by decide) rfl ?_ | refine g_istore X rfl (by decide) ?_
  refine g_iload X rfl rfl ?_
  refine g_aload_n X rfl rfl ?_
  refine g_get X rfl flL_91 (ci := 8) rfl (hb.1.1) rfl ?_
  refine g_rV X rfl lcJx4a65c_size_8abf5 lmL_97 lsJx4a65c_size_8abf5 (cr_size l D cy B od (show LsC cy A (L.1 2) (L.2.1 2) (L.2.2.1 2) S.1.1 (L.2.2.2 2) from hb.1.2.1 2 (by decide))) (ci := 9) ((hb.1.2.1 2 (by decide)).1) rfl rfl rfl (Nat.le_of_ble_eq_true rfl) ⟨⟨by decide, by decide⟩, rfl, rfl⟩ ⟨Nat.le_of_ble_eq_true rfl, Nat.le_of_ble_eq_true rfl⟩ ?_
  refine g_icmp_ne X rfl (fun h => ?_) (fun h => ?_)
  · have hE : n % (S.1.1 + 1) < S.1.1 := Nat.lt_of_le_of_ne (Nat.le_of_lt_succ (Nat.mod_lt _ (by omega))) (fun q => h (by rw [q]))
    have hcl := nI_clamp (n := n % (S.1.1 + 1)) (by omega)
    have hx9 : 0 ≤ nI (n % (S.1.1 + 1)) ∧ nI (n % (S.1.1 + 1)) < nI S.1.1 := ⟨nI_le (a := 0) (Nat.zero_le _) (by omega), nI_lt hE (by omega)⟩
    obtain ⟨r, hr0, hrv⟩ : ∃ r, A (L.2.2.2 2 (n % (S.1.1 + 1))) = some (.inl (cy 0, 7, .inl r)) ∧ ∀ j, j < 7 → r j = S.1.2 j (n % (S.1.1 + 1)) := hb.1.2.2.2.2.1 _ hE
    refine g_iload X rfl rfl ?_
    refine g_iconst X rfl (v := (-1)) (by decide) ?_
    refine g_sipush X rfl (v := nI 359) (by decide) ?_
    refine g_rS X rfl lcL_is lmL_114 stL_is (cr_L_is l D cy B od (v := dayI (n / 64)) (lo := -1) (hi := nI 359)) rfl rfl (Nat.le_of_ble_eq_true rfl) ⟨⟨by decide, by decide⟩, rfl, rfl⟩ ⟨Nat.le_of_ble_eq_true rfl, Nat.le_of_ble_eq_true rfl⟩ ?_
    refine g_if_ne X rfl (fun h1 => ?_) (fun h1 => ?_)
    · have hdn : isDN (dayI (n / 64)) := by rw [isDN_w]; exact (Bool.not_eq_false _).mp (mt (bI_iff _).mpr h1)
      refine g_aload_n X rfl rfl ?_
      refine g_get X rfl flL_91 (ci := 8) rfl (hb.1.1) rfl ?_
      refine g_iload X rfl rfl ?_
      refine g_rV X rfl lcJx4a65c_get_915e3 lmL_125 lsJx4a65c_get_915e3 (cr_get l D cy B od (show LsC cy A (L.1 2) (L.2.1 2) (L.2.2.1 2) S.1.1 (L.2.2.2 2) from hb.1.2.1 2 (by decide)) hE) (ci := 9) ((hb.1.2.1 2 (by decide)).1) rfl rfl rfl (Nat.le_of_ble_eq_true rfl) ⟨⟨by decide, by decide⟩, rfl, rfl⟩ ⟨Nat.le_of_ble_eq_true rfl, Nat.le_of_ble_eq_true rfl⟩ ?_
      refine g_castI X rfl clL_129 hr0 ?_
      first | refine g_astoreS X rfl (by decide) rfl ?_ | refine g_astore X rfl (by decide) ?_
      refine g_aload X rfl rfl ?_
      refine g_iconst X rfl (v := nI 5) (by decide) ?_
      refine g_ialdN X rfl hr0 (by decide) (by decide) ?_
      rw [hrv 5 (by decide)]
      refine g_iconst X rfl (v := nI 1) (by decide) ?_
      refine g_icmp_ne X rfl (fun h2 => ?_) (fun h2 => ?_)
      · have h3 : S.1.2 5 (n % (S.1.1 + 1)) = 0 := (hwB _ hE).1.resolve_right h2
        have hoc : ocPay V (nI (n % (S.1.1 + 1))) (dayI (n / 64)) = .inr (.int (S.1.2 4 (n % (S.1.1 + 1)))) := by unfold ocPay; rw [hV, hcl, if_neg (fun q => q hx9), if_pos hdn, if_pos h3]
        refine g_aload X rfl rfl ?_
        refine g_iconst X rfl (v := nI 4) (by decide) ?_
        refine g_ialdN X rfl hr0 (by decide) (by decide) ?_
        rw [hrv 4 (by decide)]
        first | refine g_istoreS X rfl (by decide) rfl ?_ | refine g_istore X rfl (by decide) ?_
        refine g_aload X rfl rfl ?_
        refine g_iconst X rfl (v := nI 4) (by decide) ?_
        refine g_iload X rfl rfl ?_
        refine g_iastN X rfl hr0 (by decide) (by decide) ?_
        refine g_iload X rfl rfl ?_
        exact g_iret X rfl rfl (by rfl) (Nat.le_of_ble_eq_true rfl) (Nat.le_of_ble_eq_true rfl) (ActR.ent hb hF hz hE hr0 hrv hoc)
      · have hoc : ocPay V (nI (n % (S.1.1 + 1))) (dayI (n / 64)) = .inl eISE := by unfold ocPay; rw [hV, hcl, if_neg (fun q => q hx9), if_pos hdn, if_neg (fun q => by rw [q] at h2; exact absurd h2 (by decide))]
        refine g_ldc X rfl kcL_22 ?_
        exact g_iret X rfl rfl (by rfl) (Nat.le_of_ble_eq_true rfl) (Nat.le_of_ble_eq_true rfl) (ActR.err hb hF hoc (by decide))
    · have hdn : ¬ isDN (dayI (n / 64)) := by rw [isDN_w, (bI_iff _).mp h1]; decide
      have hoc : ocPay V (nI (n % (S.1.1 + 1))) (dayI (n / 64)) = .inl eIAE := by unfold ocPay; rw [hV, if_neg (fun q => q hx9), if_neg hdn]
      refine g_ldc X rfl kcL_29 ?_
      exact g_iret X rfl rfl (by rfl) (Nat.le_of_ble_eq_true rfl) (Nat.le_of_ble_eq_true rfl) (ActR.err hb hF hoc (by decide))
  · have hoc : ocPay V (nI (n % (S.1.1 + 1))) (dayI (n / 64)) = .inl eIOB := by rw [h]; exact if_pos (fun q => by rw [hV] at q; exact Int32.lt_irrefl q.2)
    refine g_ldc X rfl kcL_58 ?_
    exact g_iret X rfl rfl (by rfl) (Nat.le_of_ble_eq_true rfl) (Nat.le_of_ble_eq_true rfl) (ActR.err hb hF hoc (by decide))
