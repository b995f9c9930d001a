/-! 43: what is written off by months, what is left, the pool -/
theorem wN_mono {p b li s so m : Nat} (hl : 1 ≤ li) : wN p b li s so m ≤ wN p b li s so (m + 1) := by
  unfold wN
  by_cases h1 : s = 1 ∨ m < b
  · rw [if_pos h1]; exact Nat.zero_le _
  · have h2 : ¬ (s = 1 ∨ m + 1 < b) := by omega
    rw [if_neg h1, if_neg h2]
    by_cases h3 : s = 0 ∨ li ≤ m - b + 1 ∨ so ≤ m
    · have h4 : s = 0 ∨ li ≤ m + 1 - b + 1 ∨ so ≤ m + 1 := by omega
      rw [if_pos h3, if_pos h4]; exact Nat.le_refl _
    · rw [if_neg h3]
      by_cases h4 : s = 0 ∨ li ≤ m + 1 - b + 1 ∨ so ≤ m + 1
      · rw [if_pos h4]
        refine Nat.le_trans (Nat.div_le_div_right (Nat.mul_le_mul_left p (show m - b + 1 ≤ li by omega))) ?_
        rw [Nat.mul_div_cancel _ (by omega)]
        exact Nat.le_refl _
      · rw [if_neg h4]
        exact Nat.div_le_div_right (Nat.mul_le_mul_left p (by omega))
/-- what is written off ahead of a month -/
def wP (p b li s so : Nat) : Nat → Nat
  | 0 => 0
  | m + 1 => wN p b li s so m
theorem wP_le {p b li s so : Nat} (hl : 1 ≤ li) : ∀ m, wP p b li s so m ≤ p
  | 0 => Nat.zero_le _
  | _ + 1 => wN_le hl
theorem wP_wN {p b li s so : Nat} (hl : 1 ≤ li) : ∀ m, wP p b li s so m ≤ wN p b li s so m
  | 0 => Nat.zero_le _
  | _ + 1 => wN_mono hl
theorem wP_mono {p b li s so m j : Nat} (hl : 1 ≤ li) (h : m ≤ j) : wP p b li s so m ≤ wP p b li s so j := by
  induction h with
  | refl => exact Nat.le_refl _
  | step _ ih => exact Nat.le_trans ih (wP_wN hl _)
theorem wP_b {p b li s so : Nat} : ∀ m, m ≤ b → wP p b li s so m = 0
  | 0, _ => rfl
  | m + 1, h => by show wN p b li s so m = 0; unfold wN; rw [if_pos (Or.inr (by omega))]
theorem wN_b {p b li s so m : Nat} (h : m < b) : wN p b li s so m = 0 := by unfold wN; rw [if_pos (Or.inr h)]
theorem AsN.wd {As : RV} {k p d li s so : Nat} (h : AsN As k p d li s so) {m : Nat} (hm : m ≤ 11) : aWU As k (nI m) - aWU As k (nI m - nI 1) = nI (wN p (d / 30) li s so m - wP p (d / 30) li s so m) := by
  cases m with
  | zero => rw [h.wm, h.wu hm, pk_sub (Nat.zero_le _)]; rfl
  | succ m =>
    rw [show nI (m + 1) - nI 1 = nI m from nI_pred m, h.wu hm, h.wu (by omega), pk_sub (wN_mono h.2.2.2.1)]; rfl
theorem min_cm (x y : Int64) : (if y < x then y else x) = (if x < y then x else y) := by
  by_cases h1 : y < x
  · by_cases h2 : x < y
    · rw [Int64.lt_iff_toInt_lt] at h1 h2; omega
    · rw [if_pos h1, if_neg h2]
  · by_cases h2 : x < y
    · rw [if_neg h1, if_pos h2]
    · rw [if_neg h1, if_neg h2]
      rw [Int64.lt_iff_toInt_lt] at h1 h2
      exact Int64.toInt_inj.mp (by omega)
theorem i32_64 (x : Int32) : x.toInt64.toInt32 = x := by simp
theorem life_W {p x li w : Nat} (hp : p ≤ 5000000) (hx : x ≤ 12) (h1 : 1 ≤ li) (h2 : li ≤ 120) (hw : w ≤ (if li ≤ x then p else p * x / li)) : ((if (nI p).toInt64 * (nI x).toInt64 / (nI li).toInt64 < (nI p).toInt64 then (nI p).toInt64 * (nI x).toInt64 / (nI li).toInt64 else (nI p).toInt64) - (nI w).toInt64).toInt32 = nI ((if li ≤ x then p else p * x / li) - w) := by
  rw [min_cm, Int64.toInt32_sub, i32_64, life_N hp hx h1 h2, pk_sub hw]
theorem wN_2 {p b li so m : Nat} (h1 : b ≤ m) (h2 : m < so) : wN p b li 2 so m = if li ≤ m - b + 1 then p else p * (m - b + 1) / li := by
  unfold wN
  rw [if_neg (by omega)]
  by_cases h : li ≤ m - b + 1
  · rw [if_pos (Or.inr (Or.inl h)), if_pos h]
  · rw [if_neg (by omega), if_neg h]
theorem wN_so {p b li so m : Nat} (h1 : b ≤ m) (h2 : so ≤ m) : wN p b li 2 so m = p := by
  unfold wN
  rw [if_neg (by omega), if_pos (Or.inr (Or.inr h2))]
theorem wP_so {p b li so : Nat} (h0 : b ≤ so) : ∀ m, so < m → wP p b li 2 so m = p
  | 0, h => by omega
  | _ + 1, h => wN_so (by omega) (by omega)
set_option maxRecDepth 100000 in
set_option maxHeartbeats 400000 in
theorem cg_X8_written (l : Launch) (D : va_G) (cy : Nat → ClassId) (B : Nat) (od : Nat → Option Nat) {A : AH} {g : Nat} {L : BL} {S : StV} {Z : SV} (hb : BkR cy A g L S Z) {a k p9 d9 li s9 so : Nat} {r : Nat → Int32} (hr : A a = some (.inl (cy 0, 5, .inl r))) (hrv : ∀ j, j < 5 → r j = S.2.2.1.2 (asC j) k) (hN : AsN S.2.2.1 k p9 d9 li s9 so) (hs : S.2.2.1.2 3 k = sSort Z (S.2.2.1.2 0 k)) (hso : d9 / 30 ≤ so) : CG l D cy B od yX8_written cX8_written 9 (some (.array .int)) rmX8_written [.ref g, .ref a] A (fun v A' => ∃ w g1, v = some (.ref w) ∧ A' w = some (.inl (cy 0, 12, .inl g1)) ∧ ∀ j, j < 12 → g1 j = nI (wN p9 (d9 / 30) li s9 so j - wP p9 (d9 / 30) li s9 so j)) := by
  intro z hF hz
  refine CT.of (by decide) tX8_written okX8_written (Nat.le_of_ble_eq_true rfl) (q0 := tX8_written[0]) rfl rfl ?_
  intro p e s m args below meth c X hnm
  obtain ⟨p1, p2, d1, l1, l2, s2, so2, e0, e1, e2, e3, e4⟩ := hN
  have r0 : r 0 = nI p9 := (hrv 0 (by decide)).trans e0
  have r1 : r 1 = nI d9 := (hrv 1 (by decide)).trans e1
  have r2 : r 2 = nI li := (hrv 2 (by decide)).trans e2
  have r3 : r 3 = S.2.2.1.2 4 k := hrv 3 (by decide)
  have hsr : sSort Z (r 0) = nI s9 := by rw [show r 0 = S.2.2.1.2 0 k from hrv 0 (by decide), ← hs]; exact e3
  have haz : a ≠ z := fun e => by subst e; rw [hF.at] at hr; cases hr
  have hG1 : Grw A z (upA A z (.inl (cy 0, 12, .inl (fun _ => 0)))) (z + 1) 1 := (Grw.rf hF).new hF
  have hr1 := hG1.1 _ _ hr
  have tail : ∀ sj, (sj = so ∨ (sj = 99 ∧ so = 12)) → G p l e rmX8_written s m args below meth c D B od 9 tX8_written (FinQ false D B od (fun v A' z' => (fun v A' => ∃ w g1, v = some (.ref w) ∧ A' w = some (.inl (cy 0, 12, .inl g1)) ∧ ∀ j, j < 12 → g1 j = nI (wN p9 (d9 / 30) li s9 so j - wP p9 (d9 / 30) li s9 so j)) v A' ∧ ∃ z1, z' = z1 + 1 ∧ Grw A z A' z1 rmX8_written.cells) (fun _ _ => True) args s below rmX8_written.cells rmX8_written.slots) 1 12 (upA A z (.inl (cy 0, 12, .inl (fun _ => 0)))) (z + 2) 22 [some (.ref g), some (.ref a), some (.ref z), some (.int (nI (d9 / 30))), some (.int (nI sj)), none, none, none, none] [] := by
    intro sj hsj
    have hs3 : s9 = 0 ∨ s9 = 1 ∨ s9 = 2 := by omega
    rcases hs3 with rfl | rfl | rfl
    · refine g_aload_n X rfl rfl ?_
      refine g_aload_n X rfl rfl ?_
      refine g_rV X rfl lcX8_sort lmX8_149 lsX8_sort (cr_X8_sort l D cy B od (hb.le hG1.1) hr1) (ci := 8) ((hb.le hG1.1).1) rfl rfl rfl (Nat.le_of_ble_eq_true rfl) ⟨⟨by decide, by decide⟩, rfl, rfl⟩ ⟨Nat.le_of_ble_eq_true rfl, Nat.le_of_ble_eq_true rfl⟩ ?_
      rw [hsr]
      refine g_if_ne X rfl (fun h => absurd rfl h) (fun _ => ?_)
      · refine g_aload_n X rfl rfl ?_
        refine g_iload_n X rfl rfl ?_
        refine g_aload_n X rfl rfl ?_
        refine g_iconst X rfl (v := nI 0) (by decide) ?_
        refine g_ialdN X rfl hr1 (by decide) (by decide) ?_
        rw [r0]
        refine g_iastN X rfl upA_eq (by omega) (by decide) ?_
        rw [upA_up]
        have hr3 : (upA A z (.inl (cy 0, 12, .inl (upd (fun _ => 0) (d9 / 30) (nI p9))))) a = some (.inl (cy 0, 5, .inl r)) := (upA_ne haz).trans hr
        have hG3 : Grw A z (upA A z (.inl (cy 0, 12, .inl (upd (fun _ => 0) (d9 / 30) (nI p9))))) (z + 1) 1 := (Grw.rf hF).new hF
        refine g_aload_n X rfl rfl ?_
        refine g_aload_n X rfl rfl ?_
        refine g_rV X rfl lcX8_sort lmX8_149 lsX8_sort (cr_X8_sort l D cy B od (hb.le hG3.1) hr3) (ci := 8) ((hb.le hG3.1).1) rfl rfl rfl (Nat.le_of_ble_eq_true rfl) ⟨⟨by decide, by decide⟩, rfl, rfl⟩ ⟨Nat.le_of_ble_eq_true rfl, Nat.le_of_ble_eq_true rfl⟩ ?_
        rw [hsr]
        refine g_iconst X rfl (v := nI 2) (by decide) ?_
        refine g_icmp_eq X rfl (fun h => absurd h (by decide)) (fun _ => ?_)
        · refine g_aload_n X rfl rfl ?_
          refine g_aretA X rfl rfl (Nat.le_of_ble_eq_true rfl) (Nat.le_of_ble_eq_true rfl) ⟨⟨z, _, rfl, upA_eq, fun j hj => ?_⟩, z + 1, rfl, (Grw.rf hF).new hF⟩
          by_cases e : j < d9 / 30
          · rw [wN_b e, Nat.zero_sub]; exact (if_neg (by omega)).trans rfl
          · by_cases e2 : j = d9 / 30
            · subst e2
              refine (if_pos rfl).trans ?_
              rw [wP_b _ (Nat.le_refl _), wN, if_neg (by omega), if_pos (Or.inl rfl)]; rfl
            · refine (if_neg e2).trans ?_
              obtain ⟨j2, rfl⟩ : ∃ j2, j = j2 + 1 := ⟨j - 1, by omega⟩
              show (0 : Int32) = nI (wN _ _ _ _ _ (j2 + 1) - wN _ _ _ _ _ j2)
              rw [wN, if_neg (by omega), if_pos (Or.inl rfl), wN, if_neg (by omega), if_pos (Or.inl rfl), Nat.sub_self]; rfl
    · refine g_aload_n X rfl rfl ?_
      refine g_aload_n X rfl rfl ?_
      refine g_rV X rfl lcX8_sort lmX8_149 lsX8_sort (cr_X8_sort l D cy B od (hb.le hG1.1) hr1) (ci := 8) ((hb.le hG1.1).1) rfl rfl rfl (Nat.le_of_ble_eq_true rfl) ⟨⟨by decide, by decide⟩, rfl, rfl⟩ ⟨Nat.le_of_ble_eq_true rfl, Nat.le_of_ble_eq_true rfl⟩ ?_
      rw [hsr]
      refine g_if_ne X rfl (fun _ => ?_) (fun h => absurd h (by decide))
      · refine g_aload_n X rfl rfl ?_
        refine g_aload_n X rfl rfl ?_
        refine g_rV X rfl lcX8_sort lmX8_149 lsX8_sort (cr_X8_sort l D cy B od (hb.le hG1.1) hr1) (ci := 8) ((hb.le hG1.1).1) rfl rfl rfl (Nat.le_of_ble_eq_true rfl) ⟨⟨by decide, by decide⟩, rfl, rfl⟩ ⟨Nat.le_of_ble_eq_true rfl, Nat.le_of_ble_eq_true rfl⟩ ?_
        rw [hsr]
        refine g_iconst X rfl (v := nI 2) (by decide) ?_
        refine g_icmp_eq X rfl (fun h => absurd h (by decide)) (fun _ => ?_)
        · refine g_aload_n X rfl rfl ?_
          refine g_aretA X rfl rfl (Nat.le_of_ble_eq_true rfl) (Nat.le_of_ble_eq_true rfl) ⟨⟨z, _, rfl, upA_eq, fun j hj => ?_⟩, z + 1, rfl, (Grw.rf hF).new hF⟩
          show (0 : Int32) = _
          cases j with
          | zero => show _ = nI (wN _ _ _ _ _ 0 - 0); rw [wN, if_pos (Or.inl rfl)]; rfl
          | succ j => show _ = nI (wN _ _ _ _ _ (j + 1) - wN _ _ _ _ _ j); rw [wN, if_pos (Or.inl rfl), wN, if_pos (Or.inl rfl)]; rfl
    · have loop : ∀ (dd m2 : Nat) (g1 : Nat → Int32) (o : Option Value), m2 + dd = 12 → d9 / 30 ≤ m2 → (∀ j, j < m2 → g1 j = nI (wN p9 (d9 / 30) li 2 so j - wP p9 (d9 / 30) li 2 so j)) → (∀ j, m2 ≤ j → j < 12 → g1 j = 0) → G p l e rmX8_written s m args below meth c D B od 9 tX8_written (FinQ false D B od (fun v A' z' => (fun v A' => ∃ w g1, v = some (.ref w) ∧ A' w = some (.inl (cy 0, 12, .inl g1)) ∧ ∀ j, j < 12 → g1 j = nI (wN p9 (d9 / 30) li 2 so j - wP p9 (d9 / 30) li 2 so j)) v A' ∧ ∃ z1, z' = z1 + 1 ∧ Grw A z A' z1 rmX8_written.cells) (fun _ _ => True) args s below rmX8_written.cells rmX8_written.slots) 1 12 (upA A z (.inl (cy 0, 12, .inl g1))) (z + 2) 45 [some (.ref g), some (.ref a), some (.ref z), some (.int (nI (d9 / 30))), some (.int (nI sj)), some (.int (nI (p9 - wP p9 (d9 / 30) li 2 so m2))), some (.int (nI m2)), o, none] [] := by
        intro dd
        induction dd with
        | zero =>
          intro m2 g1 o hid hbm hg1 hg2
          have e : m2 = 12 := by omega
          subst e
          refine g_iload X rfl rfl ?_
          refine g_bipush X rfl (v := nI 12) (by decide) ?_
          refine g_ic_geN X rfl (by omega) (by omega) (fun _ => ?_) (fun h => absurd h (by omega))
          · refine g_aload_n X rfl rfl ?_
            refine g_aretA X rfl rfl (Nat.le_of_ble_eq_true rfl) (Nat.le_of_ble_eq_true rfl) ⟨⟨z, _, rfl, upA_eq, fun j hj => ?_⟩, z + 1, rfl, (Grw.rf hF).new hF⟩
            exact hg1 j hj
        | succ dd ih =>
          intro m2 g1 o hid hbm hg1 hg2
          have hr2 : (upA A z (.inl (cy 0, 12, .inl g1))) a = some (.inl (cy 0, 5, .inl r)) := (upA_ne haz).trans hr
          refine g_iload X rfl rfl ?_
          refine g_bipush X rfl (v := nI 12) (by decide) ?_
          refine g_ic_geN X rfl (by omega) (by omega) (fun h => absurd h (by omega)) (fun _ => ?_)
          · refine g_iload X rfl rfl ?_
            refine g_if_le X rfl (fun h => ?_) (fun h => ?_)
            · have hz0 : wP p9 (d9 / 30) li 2 so m2 = p9 := by
                have a1 := @wP_le p9 (d9 / 30) li 2 so l1 m2
                by_cases e : p9 - wP p9 (d9 / 30) li 2 so m2 = 0
                · omega
                · exact absurd h (nI_nle (by omega) (by omega))
              refine g_aload_n X rfl rfl ?_
              refine g_aretA X rfl rfl (Nat.le_of_ble_eq_true rfl) (Nat.le_of_ble_eq_true rfl) ⟨⟨z, _, rfl, upA_eq, fun j hj => ?_⟩, z + 1, rfl, (Grw.rf hF).new hF⟩
              by_cases hjm : j < m2
              · exact hg1 j hjm
              · rw [hg2 j (by omega) hj, show wN p9 (d9 / 30) li 2 so j - wP p9 (d9 / 30) li 2 so j = 0 from by have a1 := @wP_mono p9 (d9 / 30) li 2 so m2 j l1 (by omega); have a2 := @wN_le p9 (d9 / 30) li 2 so j l1; omega]
                rfl
            · have hz0 : wP p9 (d9 / 30) li 2 so m2 < p9 := by
                have a1 := @wP_le p9 (d9 / 30) li 2 so l1 m2
                by_cases e : p9 - wP p9 (d9 / 30) li 2 so m2 = 0
                · rw [e] at h; exact absurd (Int32.le_refl _) h
                · omega
              have hsm : m2 ≤ so := by
                by_cases e : so < m2
                · have := @wP_so p9 (d9 / 30) li so hso m2 e; omega
                · omega
              refine g_aload_n X rfl rfl ?_
              refine g_iconst X rfl (v := nI 0) (by decide) ?_
              refine g_ialdN X rfl hr2 (by decide) (by decide) ?_
              rw [r0]
              refine g_i2l X rfl ?_
              refine g_aload_n X rfl rfl ?_
              refine g_iconst X rfl (v := nI 0) (by decide) ?_
              refine g_ialdN X rfl hr2 (by decide) (by decide) ?_
              rw [r0]
              refine g_i2l X rfl ?_
              refine g_iload X rfl rfl ?_
              refine g_iload_n X rfl rfl ?_
              refine g_isub X rfl ?_
              rw [pk_sub hbm]
              refine g_iconst X rfl (v := nI 1) (by decide) ?_
              refine g_iadd X rfl ?_
              rw [nI_add]
              refine g_i2l X rfl ?_
              refine g_lmul X rfl ?_
              refine g_aload_n X rfl rfl ?_
              refine g_iconst X rfl (v := nI 2) (by decide) ?_
              refine g_ialdN X rfl hr2 (by decide) (by decide) ?_
              rw [r2]
              refine g_i2l X rfl ?_
              refine g_ldiv X rfl (by rw [nIl0 (by omega)]; omega) ?_
              refine g_m_min_l X rfl lmX8_153 (Nat.le_of_ble_eq_true rfl) ⟨by decide, by decide⟩ ⟨Nat.le_of_ble_eq_true rfl, Nat.le_of_ble_eq_true rfl⟩ ?_
              first | refine g_lstoreS X rfl (by decide) rfl ?_ | refine g_lstore X rfl (by decide) ?_
              refine g_aload_n X rfl rfl ?_
              refine g_iload X rfl rfl ?_
              refine g_iload X rfl rfl ?_
              refine g_iload X rfl rfl ?_
              refine g_ic_neN X rfl (by omega) (by omega) (fun h => ?_) (fun h => ?_)
              · have hlt : m2 < so := by omega
                have hU : wN p9 (d9 / 30) li 2 so m2 = if li ≤ m2 - d9 / 30 + 1 then p9 else p9 * (m2 - d9 / 30 + 1) / li := wN_2 hbm hlt
                refine g_lload X rfl rfl ?_
                refine g_aload_n X rfl rfl ?_
                refine g_iconst X rfl (v := nI 0) (by decide) ?_
                refine g_ialdN X rfl hr2 (by decide) (by decide) ?_
                rw [r0]
                refine g_iload X rfl rfl ?_
                refine g_isub X rfl ?_
                rw [pk_sub (by omega), show p9 - (p9 - wP p9 (d9 / 30) li 2 so m2) = wP p9 (d9 / 30) li 2 so m2 from by omega]
                refine g_i2l X rfl ?_
                refine g_lsub X rfl ?_
                refine g_l2i X rfl ?_
                rw [life_W p2 (by omega) l1 l2 (by rw [← hU]; exact wP_wN l1 m2), ← hU]
                refine g_iastN X rfl upA_eq (by omega) (by decide) ?_
                rw [upA_up]
                refine g_iload X rfl rfl ?_
                refine g_aload_n X rfl rfl ?_
                refine g_iload X rfl rfl ?_
                refine g_ialdN X rfl upA_eq (by omega) (by decide) ?_
                rw [show upd g1 m2 (nI (wN p9 (d9 / 30) li 2 so m2 - wP p9 (d9 / 30) li 2 so m2)) m2 = nI (wN p9 (d9 / 30) li 2 so m2 - wP p9 (d9 / 30) li 2 so m2) from if_pos rfl]
                refine g_isub X rfl ?_
                rw [pk_sub (by have a1 := @wN_le p9 (d9 / 30) li 2 so m2 l1; omega), show p9 - wP p9 (d9 / 30) li 2 so m2 - (wN p9 (d9 / 30) li 2 so m2 - wP p9 (d9 / 30) li 2 so m2) = p9 - wP p9 (d9 / 30) li 2 so (m2 + 1) from by have a1 := @wP_wN p9 (d9 / 30) li 2 so l1 m2; show _ = p9 - wN p9 (d9 / 30) li 2 so m2; omega]
                first | refine g_istoreS X rfl (by decide) rfl ?_ | refine g_istore X rfl (by decide) ?_
                first | refine g_iinc1S X rfl rfl (by decide) rfl ?_ | refine g_iinc1 X rfl rfl (by decide) ?_
                refine g_goto X rfl ?_
                refine ih (m2 + 1) _ _ (by omega) (by omega) (fun j hj => ?_) (fun j hj hj2 => ?_)
                · by_cases e : j = m2
                  · subst e; exact if_pos rfl
                  · exact (if_neg e).trans (hg1 j (by omega))
                · exact (if_neg (by omega)).trans (hg2 j (by omega) hj2)
              · have hU : wN p9 (d9 / 30) li 2 so m2 = p9 := wN_so hbm (by omega)
                have e9 : nI (p9 - wP p9 (d9 / 30) li 2 so m2) = nI (wN p9 (d9 / 30) li 2 so m2 - wP p9 (d9 / 30) li 2 so m2) := by rw [hU]
                refine g_iload X rfl (x := nI (wN p9 (d9 / 30) li 2 so m2 - wP p9 (d9 / 30) li 2 so m2)) (by rw [← e9]; rfl) ?_
                refine g_goto X rfl ?_
                refine g_iastN X rfl upA_eq (by omega) (by decide) ?_
                rw [upA_up]
                refine g_iload X rfl rfl ?_
                refine g_aload_n X rfl rfl ?_
                refine g_iload X rfl rfl ?_
                refine g_ialdN X rfl upA_eq (by omega) (by decide) ?_
                rw [show upd g1 m2 (nI (wN p9 (d9 / 30) li 2 so m2 - wP p9 (d9 / 30) li 2 so m2)) m2 = nI (wN p9 (d9 / 30) li 2 so m2 - wP p9 (d9 / 30) li 2 so m2) from if_pos rfl]
                refine g_isub X rfl ?_
                rw [pk_sub (by have a1 := @wN_le p9 (d9 / 30) li 2 so m2 l1; omega), show p9 - wP p9 (d9 / 30) li 2 so m2 - (wN p9 (d9 / 30) li 2 so m2 - wP p9 (d9 / 30) li 2 so m2) = p9 - wP p9 (d9 / 30) li 2 so (m2 + 1) from by have a1 := @wP_wN p9 (d9 / 30) li 2 so l1 m2; show _ = p9 - wN p9 (d9 / 30) li 2 so m2; omega]
                first | refine g_istoreS X rfl (by decide) rfl ?_ | refine g_istore X rfl (by decide) ?_
                first | refine g_iinc1S X rfl rfl (by decide) rfl ?_ | refine g_iinc1 X rfl rfl (by decide) ?_
                refine g_goto X rfl ?_
                refine ih (m2 + 1) _ _ (by omega) (by omega) (fun j hj => ?_) (fun j hj hj2 => ?_)
                · by_cases e : j = m2
                  · subst e; exact if_pos rfl
                  · exact (if_neg e).trans (hg1 j (by omega))
                · exact (if_neg (by omega)).trans (hg2 j (by omega) hj2)
      refine g_aload_n X rfl rfl ?_
      refine g_aload_n X rfl rfl ?_
      refine g_rV X rfl lcX8_sort lmX8_149 lsX8_sort (cr_X8_sort l D cy B od (hb.le hG1.1) hr1) (ci := 8) ((hb.le hG1.1).1) rfl rfl rfl (Nat.le_of_ble_eq_true rfl) ⟨⟨by decide, by decide⟩, rfl, rfl⟩ ⟨Nat.le_of_ble_eq_true rfl, Nat.le_of_ble_eq_true rfl⟩ ?_
      rw [hsr]
      refine g_if_ne X rfl (fun _ => ?_) (fun h => absurd h (by decide))
      · refine g_aload_n X rfl rfl ?_
        refine g_aload_n X rfl rfl ?_
        refine g_rV X rfl lcX8_sort lmX8_149 lsX8_sort (cr_X8_sort l D cy B od (hb.le hG1.1) hr1) (ci := 8) ((hb.le hG1.1).1) rfl rfl rfl (Nat.le_of_ble_eq_true rfl) ⟨⟨by decide, by decide⟩, rfl, rfl⟩ ⟨Nat.le_of_ble_eq_true rfl, Nat.le_of_ble_eq_true rfl⟩ ?_
        rw [hsr]
        refine g_iconst X rfl (v := nI 2) (by decide) ?_
        refine g_icmp_eq X rfl (fun _ => ?_) (fun h => absurd rfl h)
        skip
        refine g_aload_n X rfl rfl ?_
        refine g_iconst X rfl (v := nI 0) (by decide) ?_
        refine g_ialdN X rfl hr1 (by decide) (by decide) ?_
        rw [r0]
        first | refine g_istoreS X rfl (by decide) rfl ?_ | refine g_istore X rfl (by decide) ?_
        refine g_iload_n X rfl rfl ?_
        first | refine g_istoreS X rfl (by decide) rfl ?_ | refine g_istore X rfl (by decide) ?_
        have := loop (12 - d9 / 30) (d9 / 30) (fun _ => 0) none (by omega) (Nat.le_refl _) (fun j hj => by rw [wN_b hj]; show (0 : Int32) = nI (0 - _); rw [Nat.zero_sub]; rfl) (fun _ _ _ => rfl)
        rw [wP_b _ (Nat.le_refl _), Nat.sub_zero] at this
        exact this
  refine g_bipush X rfl (v := nI 12) (by decide) ?_
  refine g_newai X rfl aw_i (N := 12) (nI_pos (by decide)) (nI_clamp (by decide)) (by decide) (by have : z + 1 ≤ 900000 := hz; omega) (Nat.le_of_ble_eq_true rfl) (Nat.le_of_ble_eq_true rfl) ?_
  first | refine g_astore_nS X rfl (by decide) rfl ?_ | refine g_astore_n X rfl (by decide) ?_
  refine g_aload_n X rfl rfl ?_
  refine g_iconst X rfl (v := nI 1) (by decide) ?_
  refine g_ialdN X rfl hr1 (by decide) (by decide) ?_
  rw [r1]
  refine g_bipush X rfl (v := nI 30) (by decide) ?_
  refine g_idiv X rfl (by decide) ?_
  rw [pk_div (by omega) (by omega) (by omega)]
  first | refine g_istore_nS X rfl (by decide) rfl ?_ | refine g_istore_n X rfl (by decide) ?_
  refine g_aload_n X rfl rfl ?_
  refine g_iconst X rfl (v := nI 3) (by decide) ?_
  refine g_ialdN X rfl hr1 (by decide) (by decide) ?_
  rw [r3]
  refine g_iconst X rfl (v := (-1)) (by decide) ?_
  refine g_icmp_ne X rfl (fun h => ?_) (fun h => ?_)
  · rcases e4 with ⟨e4, -⟩ | ⟨sd, hsd, e4, rfl⟩
    · exact absurd e4 h
    refine g_aload_n X rfl rfl ?_
    refine g_iconst X rfl (v := nI 3) (by decide) ?_
    refine g_ialdN X rfl hr1 (by decide) (by decide) ?_
    rw [r3, e4]
    refine g_bipush X rfl (v := nI 30) (by decide) ?_
    refine g_idiv X rfl (by decide) ?_
    rw [pk_div (by omega) (by omega) (by omega)]
    first | refine g_istoreS X rfl (by decide) rfl ?_ | refine g_istore X rfl (by decide) ?_
    exact tail _ (Or.inl rfl)
  · have hso9 : so = 12 := by
      rcases e4 with ⟨-, e⟩ | ⟨sd, hsd, e4, -⟩
      · exact e
      · rw [e4] at h; exact absurd h (nI_nm1 (by omega))
    refine g_bipush X rfl (v := nI 99) (by decide) ?_
    refine g_goto X rfl ?_
    first | refine g_istoreS X rfl (by decide) rfl ?_ | refine g_istore X rfl (by decide) ?_
    exact tail 99 (Or.inr ⟨rfl, hso9⟩)
set_option maxRecDepth 100000 in
set_option maxHeartbeats 400000 in
theorem cg_X8_value (l : Launch) (D : va_G) (cy : Nat → ClassId) (B : Nat) (od : Nat → Option Nat) {A : AH} {g : Nat} {L : BL} {S : StV} {Z : SV} (hb : BkR cy A g L S Z) {a k p9 d9 li s9 so : Nat} {r : Nat → Int32} (hr : A a = some (.inl (cy 0, 5, .inl r))) (hrv : ∀ j, j < 5 → r j = S.2.2.1.2 (asC j) k) (hN : AsN S.2.2.1 k p9 d9 li s9 so) (hs : S.2.2.1.2 3 k = sSort Z (S.2.2.1.2 0 k)) (hso : d9 / 30 ≤ so) {m9 : Nat} (hm : m9 ≤ 11) : CG l D cy B od yX8_value cX8_value 5 (some .int) rmX8_value [.ref g, .ref a, .int (nI m9)] A (fun v A' => v = some (.int (aVal S.2.2.1 k (nI m9)))) := by
  intro z hF hz
  refine CT.of (by decide) tX8_value okX8_value (Nat.le_of_ble_eq_true rfl) (q0 := tX8_value[0]) rfl rfl ?_
  intro p e s m args below meth c X hnm
  have hN9 := hN
  obtain ⟨p1, p2, d1, l1, l2, s2, so2, e0, e1, e2, e3, e4⟩ := hN
  have r0 : r 0 = nI p9 := (hrv 0 (by decide)).trans e0
  have r1 : r 1 = nI d9 := (hrv 1 (by decide)).trans e1
  have r2 : r 2 = nI li := (hrv 2 (by decide)).trans e2
  have r3 : r 3 = S.2.2.1.2 4 k := hrv 3 (by decide)
  have hsr : sSort Z (r 0) = nI s9 := by rw [show r 0 = S.2.2.1.2 0 k from hrv 0 (by decide), ← hs]; exact e3
  have tail : s9 ≠ 1 → d9 / 30 ≤ m9 → m9 < so → G p l e rmX8_value s m args below meth c D B od 5 tX8_value (FinQ false D B od (fun v A' z' => (fun v A' => v = some (.int (aVal S.2.2.1 k (nI m9)))) v A' ∧ ∃ z1, z' = z1 + 1 ∧ Grw A z A' z1 rmX8_value.cells) (fun _ _ => True) args s below rmX8_value.cells rmX8_value.slots) 0 0 A (z + 1) 26 [some (.ref g), some (.ref a), some (.int (nI m9)), none, none] [] := by
    intro t1 t2 t3
    have loop : ∀ (d i : Nat) (A1 : AH) (z1 : Nat), i + d = m9 + 1 → Grw A z A1 z1 i → G p l e rmX8_value s m args below meth c D B od 5 tX8_value (FinQ false D B od (fun v A' z' => (fun v A' => v = some (.int (aVal S.2.2.1 k (nI m9)))) v A' ∧ ∃ z1, z' = z1 + 1 ∧ Grw A z A' z1 rmX8_value.cells) (fun _ _ => True) args s below rmX8_value.cells rmX8_value.slots) i (12 * i) A1 (z1 + 1) 32 [some (.ref g), some (.ref a), some (.int (nI m9)), some (.int (nI (p9 - wP p9 (d9 / 30) li s9 so i))), some (.int (nI i))] [] := by
      intro d
      induction d with
      | zero =>
        intro i A1 z1 hid hG
        have e : i = m9 + 1 := by omega
        subst e
        refine g_iload X rfl rfl ?_
        refine g_iload_n X rfl rfl ?_
        refine g_ic_gtN X rfl (by omega) (by omega) (fun _ => ?_) (fun h => absurd h (by omega))
        · refine g_iload_n X rfl rfl ?_
          exact g_iret X rfl rfl (by rfl) (by show m9 + 1 ≤ 12; omega) (by show 12 * (m9 + 1) ≤ 144; omega) ⟨by rw [hN9.val hm, if_neg (by omega), hN9.wu hm, pk_sub (wN_le l1)]; rfl, z1, rfl, hG.wide (by show m9 + 1 ≤ 12; omega)⟩
      | succ d ih =>
        intro i A1 z1 hid hG
        refine g_iload X rfl rfl ?_
        refine g_iload_n X rfl rfl ?_
        refine g_ic_gtN X rfl (by omega) (by omega) (fun h => absurd h (by omega)) (fun _ => ?_)
        · refine g_iload_n X rfl rfl ?_
          refine g_aload_n X rfl rfl ?_
          refine g_aload_n X rfl rfl ?_
          refine g_gV X rfl lcX8_written lmX8_156 lsX8_written (cg_X8_written l D cy B od (hb.le hG.1) (hG.1 _ _ hr) hrv hN9 hs hso) hG.2.2.2 (by have a1 : z + 12 ≤ 900000 := hz; have a2 := hG.2.2.1; show z1 + 1 ≤ 900000; omega) (ci := 8) (hG.1 _ _ hb.1) rfl rfl rfl (Nat.le_of_ble_eq_true rfl) ⟨by decide, by decide⟩ ⟨by show i + 1 ≤ 12; omega, by show 12 * i + 12 ≤ 144; omega⟩ (fun v1 A2 z2 q1 hG1 => ?_)
          obtain ⟨w, g1, rfl, hw1, hg1⟩ := q1
          refine g_iload X rfl rfl ?_
          refine g_ialdN X rfl hw1 (by omega) (by decide) ?_
          rw [hg1 i (by omega)]
          refine g_isub X rfl ?_
          rw [pk_sub (by have a1 := @wN_le p9 (d9 / 30) li s9 so i l1; omega), show p9 - wP p9 (d9 / 30) li s9 so i - (wN p9 (d9 / 30) li s9 so i - wP p9 (d9 / 30) li s9 so i) = p9 - wP p9 (d9 / 30) li s9 so (i + 1) from by have a1 := @wP_wN p9 (d9 / 30) li s9 so l1 i; show _ = p9 - wN p9 (d9 / 30) li s9 so i; omega]
          first | refine g_istore_nS X rfl (by decide) rfl ?_ | refine g_istore_n X rfl (by decide) ?_
          first | refine g_iinc1S X rfl rfl (by decide) rfl ?_ | refine g_iinc1 X rfl rfl (by decide) ?_
          refine g_goto X rfl ?_
          exact ih (i + 1) A2 z2 (by omega) (hG.tr hG1)
    refine g_aload_n X rfl rfl ?_
    refine g_iconst X rfl (v := nI 0) (by decide) ?_
    refine g_ialdN X rfl hr (by decide) (by decide) ?_
    rw [r0]
    first | refine g_istore_nS X rfl (by decide) rfl ?_ | refine g_istore_n X rfl (by decide) ?_
    refine g_iconst X rfl (v := nI 0) (by decide) ?_
    first | refine g_istoreS X rfl (by decide) rfl ?_ | refine g_istore X rfl (by decide) ?_
    exact loop (m9 + 1) 0 A z (Nat.zero_add _) (Grw.rf hF)
  refine g_aload_n X rfl rfl ?_
  refine g_aload_n X rfl rfl ?_
  refine g_rV X rfl lcX8_sort lmX8_149 lsX8_sort (cr_X8_sort l D cy B od hb hr) (ci := 8) (hb.1) rfl rfl rfl (Nat.le_of_ble_eq_true rfl) ⟨⟨by decide, by decide⟩, rfl, rfl⟩ ⟨Nat.le_of_ble_eq_true rfl, Nat.le_of_ble_eq_true rfl⟩ ?_
  rw [hsr]
  refine g_iconst X rfl (v := nI 1) (by decide) ?_
  refine g_ic_eqN X rfl (by omega) (by omega) (fun h => ?_) (fun h => ?_)
  · skip
    refine g_iconst X rfl (v := nI 0) (by decide) ?_
    exact g_iret X rfl rfl (by rfl) (Nat.le_of_ble_eq_true rfl) (Nat.le_of_ble_eq_true rfl) ⟨by rw [hN9.val hm, if_pos (Or.inl h)], z, rfl, (Grw.rf hF).wide (by decide)⟩
  · skip
    refine g_iload_n X rfl rfl ?_
    refine g_aload_n X rfl rfl ?_
    refine g_iconst X rfl (v := nI 1) (by decide) ?_
    refine g_ialdN X rfl hr (by decide) (by decide) ?_
    rw [r1]
    refine g_bipush X rfl (v := nI 30) (by decide) ?_
    refine g_idiv X rfl (by decide) ?_
    rw [pk_div (by omega) (by omega) (by omega)]
    refine g_ic_ltN X rfl (by omega) (by omega) (fun h2 => ?_) (fun h2 => ?_)
    · skip
      refine g_iconst X rfl (v := nI 0) (by decide) ?_
      exact g_iret X rfl rfl (by rfl) (Nat.le_of_ble_eq_true rfl) (Nat.le_of_ble_eq_true rfl) ⟨by rw [hN9.val hm, if_pos (Or.inr (Or.inl h2))], z, rfl, (Grw.rf hF).wide (by decide)⟩
    · skip
      refine g_aload_n X rfl rfl ?_
      refine g_iconst X rfl (v := nI 3) (by decide) ?_
      refine g_ialdN X rfl hr (by decide) (by decide) ?_
      rw [r3]
      refine g_iconst X rfl (v := (-1)) (by decide) ?_
      refine g_icmp_eq X rfl (fun h3 => ?_) (fun h3 => ?_)
      · have hso9 : so = 12 := by
          rcases e4 with ⟨-, e⟩ | ⟨sd, hsd, e4, -⟩
          · exact e
          · rw [e4] at h3; exact absurd h3 (nI_nm1 (by omega))
        exact tail h h2 (by omega)
      · rcases e4 with ⟨e4, -⟩ | ⟨sd, hsd, e4, rfl⟩
        · exact absurd e4 h3
        refine g_iload_n X rfl rfl ?_
        refine g_aload_n X rfl rfl ?_
        refine g_iconst X rfl (v := nI 3) (by decide) ?_
        refine g_ialdN X rfl hr (by decide) (by decide) ?_
        rw [r3, e4]
        refine g_bipush X rfl (v := nI 30) (by decide) ?_
        refine g_idiv X rfl (by decide) ?_
        rw [pk_div (by omega) (by omega) (by omega)]
        refine g_ic_ltN X rfl (by omega) (by omega) (fun h4 => ?_) (fun h4 => ?_)
        · exact tail h h2 h4
        · skip
          refine g_iconst X rfl (v := nI 0) (by decide) ?_
          exact g_iret X rfl rfl (by rfl) (Nat.le_of_ble_eq_true rfl) (Nat.le_of_ble_eq_true rfl) ⟨by rw [hN9.val hm, if_pos (Or.inr (Or.inr h4))], z, rfl, (Grw.rf hF).wide (by decide)⟩
set_option maxRecDepth 100000 in
set_option maxHeartbeats 400000 in
theorem cg_X8_pooled (l : Launch) (D : va_G) (cy : Nat → ClassId) (B : Nat) (od : Nat → Option Nat) {A : AH} {g : Nat} {L : BL} {S : StV} {Z : SV} (hb : BkR cy A g L S Z) (hg : Rng Z S) {q9 : Nat} (hq9 : q9 ≤ 3) : CG l D cy B od yX8_pooled cX8_pooled 5 (some .int) rmX8_pooled [.ref g, .int (nI q9)] A (fun v A' => v = some (.int (aPool S.2.2.1 (nI q9)))) := by
  intro z hF hz
  refine CT.of (by decide) tX8_pooled okX8_pooled (Nat.le_of_ble_eq_true rfl) (q0 := tX8_pooled[0]) rfl rfl ?_
  intro p e s m args below meth c X hnm
  have hL : LsC cy A (L.1 3) (L.2.1 3) (L.2.2.1 3) S.2.2.1.1 (L.2.2.2 3) := hb.2.1 3 (by decide)
  have hn9 := hL.2.1
  have loop : ∀ (d i : Nat) (A1 : AH) (z1 : Nat) (lr : Int32) (o : Option Value), i + d = S.2.2.1.1 → Grw A z A1 z1 (1) → A1 z = some (itE i lr (L.2.1 3) (L.1 3)) → G p l e rmX8_pooled s m args below meth c D B od 5 tX8_pooled (FinQ false D B od (fun v A' z' => (fun v A' => v = some (.int (aPool S.2.2.1 (nI q9)))) v A' ∧ ∃ z1, z' = z1 + 1 ∧ Grw A z A' z1 rmX8_pooled.cells) (fun _ _ => True) args s below rmX8_pooled.cells rmX8_pooled.slots) (1) (4) A1 (z1 + 1) 6 [some (.ref g), some (.int (nI q9)), some (.int (sumQ (fun i => S.2.2.1.2 3 i == nI 1 && decide (S.2.2.1.2 1 i / nI 90 ≤ nI q9)) (fun i => S.2.2.1.2 0 i) i)), some (.ref z), o] [] := by
    intro d
    induction d with
    | zero =>
      intro i A1 z1 lr o  hid hG hI 
      have e : i = S.2.2.1.1 := by omega
      subst e
      refine g_aload_n X rfl rfl ?_
      refine g_hasNext X rfl lmX8_52 (hL.le hG.1).1 hI (by omega) hn9 (Nat.le_of_ble_eq_true rfl) ⟨by decide, by decide⟩ ⟨Nat.le_of_ble_eq_true rfl, Nat.le_of_ble_eq_true rfl⟩ ?_
      refine g_if_eqB X rfl (fun _ => ?_) (fun h => absurd (of_decide_eq_true h) (by omega))
      refine g_iload_n X rfl rfl ?_
      exact g_iret X rfl rfl (by rfl) (Nat.le_of_ble_eq_true rfl) (Nat.le_of_ble_eq_true rfl) ⟨rfl, z1, rfl, hG⟩
    | succ d ih =>
      intro i A1 z1 lr o  hid hG hI 
      have hi : i < S.2.2.1.1 := by omega
      refine g_aload_n X rfl rfl ?_
      refine g_hasNext X rfl lmX8_52 (hL.le hG.1).1 hI (by omega) hn9 (Nat.le_of_ble_eq_true rfl) ⟨by decide, by decide⟩ ⟨Nat.le_of_ble_eq_true rfl, Nat.le_of_ble_eq_true rfl⟩ ?_
      refine g_if_eqB X rfl (fun h => absurd hi (of_decide_eq_false h)) (fun _ => ?_)
      refine g_aload_n X rfl rfl ?_
      refine g_next X rfl lmX8_58 (hL.le hG.1) hI hi (Nat.le_of_ble_eq_true rfl) ⟨by decide, by decide⟩ ⟨Nat.le_of_ble_eq_true rfl, Nat.le_of_ble_eq_true rfl⟩ ?_
      have hG2 : Grw A z (upA A1 z (itE (i + 1) (nI i) (L.2.1 3) (L.1 3))) z1 (1) := hG.up hF (Nat.le_refl _) (hG.2.2.2.lt hI)
      obtain ⟨r, hr0, hrv⟩ : ∃ r, A (L.2.2.2 3 i) = some (.inl (cy 0, 5, .inl r)) ∧ ∀ j, j < 5 → r j = S.2.2.1.2 (asC j) i := hb.2.2.2.2.2.1 i hi
      have hr := hG2.1 _ _ hr0
      refine g_castI X rfl clX8_62 hr ?_
      first | refine g_astoreS X rfl (by decide) rfl ?_ | refine g_astore X rfl (by decide) ?_
      refine g_iload_n X rfl rfl ?_
      refine g_aload_n X rfl rfl ?_
      refine g_aload X rfl rfl ?_
      refine g_rV X rfl lcX8_sort lmX8_149 lsX8_sort (cr_X8_sort l D cy B od (hb.le hG2.1) hr) (ci := 8) (hG2.1 _ _ hb.1) rfl rfl rfl (Nat.le_of_ble_eq_true rfl) ⟨⟨by decide, by decide⟩, rfl, rfl⟩ ⟨Nat.le_of_ble_eq_true rfl, Nat.le_of_ble_eq_true rfl⟩ ?_
      obtain ⟨-, ⟨d9, -, hd9, ed⟩, -, hs, -⟩ := hg.2.2.1 i hi
      rw [show r 0 = S.2.2.1.2 0 i from hrv 0 (by decide), ← hs]
      refine g_iconst X rfl (v := nI 1) (by decide) ?_
      refine g_icmp_ne X rfl (fun h => ?_) (fun h => ?_)
      · have hq : sumQ (fun i => S.2.2.1.2 3 i == nI 1 && decide (S.2.2.1.2 1 i / nI 90 ≤ nI q9)) (fun i => S.2.2.1.2 0 i) (i + 1) = sumQ (fun i => S.2.2.1.2 3 i == nI 1 && decide (S.2.2.1.2 1 i / nI 90 ≤ nI q9)) (fun i => S.2.2.1.2 0 i) i + nI 0 := by
          rw [sumQ, if_neg (by simp only [Bool.and_eq_true, beq_iff_eq, decide_eq_true_eq]; exact fun q => h q.1)]
          exact (Int32.add_zero _).symm
        refine g_iconst X rfl (v := nI 0) (by decide) ?_
        refine g_iadd X rfl ?_
        rw [← hq]
        first | refine g_istore_nS X rfl (by decide) rfl ?_ | refine g_istore_n X rfl (by decide) ?_
        refine g_goto X rfl ?_
        exact ih (i + 1) _ z1 _ _ (by omega) hG2 upA_eq
      · skip
        refine g_aload X rfl rfl ?_
        refine g_iconst X rfl (v := nI 1) (by decide) ?_
        refine g_ialdN X rfl hr (by decide) (by decide) ?_
        rw [show r 1 = S.2.2.1.2 1 i from hrv 1 (by decide), ed]
        refine g_bipush X rfl (v := nI 90) (by decide) ?_
        refine g_iload_n X rfl rfl ?_
        refine g_iconst X rfl (v := nI 1) (by decide) ?_
        refine g_iadd X rfl ?_
        rw [nI_add]
        refine g_imul X rfl ?_
        rw [pk_mul]
        refine g_ic_geN X rfl (by omega) (by omega) (fun h2 => ?_) (fun h2 => ?_)
        · have hq : sumQ (fun i => S.2.2.1.2 3 i == nI 1 && decide (S.2.2.1.2 1 i / nI 90 ≤ nI q9)) (fun i => S.2.2.1.2 0 i) (i + 1) = sumQ (fun i => S.2.2.1.2 3 i == nI 1 && decide (S.2.2.1.2 1 i / nI 90 ≤ nI q9)) (fun i => S.2.2.1.2 0 i) i + nI 0 := by
            rw [sumQ, if_neg (by simp only [Bool.and_eq_true, beq_iff_eq, decide_eq_true_eq]; rw [ed, pk_div (by omega) (by omega) (by omega), nI_leI (by omega) (by omega)]; omega)]
            exact (Int32.add_zero _).symm
          refine g_iconst X rfl (v := nI 0) (by decide) ?_
          refine g_iadd X rfl ?_
          rw [← hq]
          first | refine g_istore_nS X rfl (by decide) rfl ?_ | refine g_istore_n X rfl (by decide) ?_
          refine g_goto X rfl ?_
          exact ih (i + 1) _ z1 _ _ (by omega) hG2 upA_eq
        · have hq : sumQ (fun i => S.2.2.1.2 3 i == nI 1 && decide (S.2.2.1.2 1 i / nI 90 ≤ nI q9)) (fun i => S.2.2.1.2 0 i) (i + 1) = sumQ (fun i => S.2.2.1.2 3 i == nI 1 && decide (S.2.2.1.2 1 i / nI 90 ≤ nI q9)) (fun i => S.2.2.1.2 0 i) i + S.2.2.1.2 0 i := by
            rw [sumQ, if_pos (by simp only [Bool.and_eq_true, beq_iff_eq, decide_eq_true_eq]; rw [ed, pk_div (by omega) (by omega) (by omega), nI_leI (by omega) (by omega)]; exact ⟨h, by omega⟩)]
          refine g_aload X rfl rfl ?_
          refine g_iconst X rfl (v := nI 0) (by decide) ?_
          refine g_ialdN X rfl hr (by decide) (by decide) ?_
          rw [show r 0 = S.2.2.1.2 0 i from hrv 0 (by decide)]
          refine g_goto X rfl ?_
          refine g_iadd X rfl ?_
          rw [← hq]
          first | refine g_istore_nS X rfl (by decide) rfl ?_ | refine g_istore_n X rfl (by decide) ?_
          refine g_goto X rfl ?_
          exact ih (i + 1) _ z1 _ _ (by omega) hG2 upA_eq
  refine g_iconst X rfl (v := nI 0) (by decide) ?_
  first | refine g_istore_nS X rfl (by decide) rfl ?_ | refine g_istore_n X rfl (by decide) ?_
  refine g_aload_n X rfl rfl ?_
  refine g_get X rfl flX8_39 (ci := 8) rfl (hb.1) rfl ?_
  refine g_iter X rfl lmX8_48 hL hF (by have : z + 1 ≤ 900000 := hz; omega) (Nat.le_of_ble_eq_true rfl) ⟨by decide, by decide⟩ ⟨Nat.le_of_ble_eq_true rfl, Nat.le_of_ble_eq_true rfl⟩ ?_
  first | refine g_astore_nS X rfl (by decide) rfl ?_ | refine g_astore_n X rfl (by decide) ?_
  exact loop S.2.2.1.1 0 _ (z + 1) _ _ (Nat.zero_add _) ((Grw.rf hF).new hF) upA_eq
set_option maxRecDepth 100000 in
set_option maxHeartbeats 400000 in
theorem cg_X8_poolOff (l : Launch) (D : va_G) (cy : Nat → ClassId) (B : Nat) (od : Nat → Option Nat) {A : AH} {g : Nat} {L : BL} {S : StV} {Z : SV} (hb : BkR cy A g L S Z) (hg : Rng Z S) {q9 : Nat} (hq9 : q9 ≤ 3) : CG l D cy B od yX8_poolOff cX8_poolOff 2 (some .int) rmX8_poolOff [.ref g, .int (nI q9)] A (fun v A' => v = some (.int (aPW S.2.2.1 (nI q9) - aPW S.2.2.1 (nI q9 - nI 1)))) := by
  intro z hF hz
  refine CT.of (by decide) tX8_poolOff okX8_poolOff (Nat.le_of_ble_eq_true rfl) (q0 := tX8_poolOff[0]) rfl rfl ?_
  intro p e s m args below meth c X hnm
  refine g_aload_n X rfl rfl ?_
  refine g_iload_n X rfl rfl ?_
  refine g_gV X rfl lcX8_pooled lmX8_160 lsX8_pooled (cg_X8_pooled l D cy B od hb hg hq9) hF (by have : z + 2 ≤ 900000 := hz; show z + 1 ≤ 900000; omega) (ci := 8) (hb.1) rfl rfl rfl (Nat.le_of_ble_eq_true rfl) ⟨by decide, by decide⟩ ⟨Nat.le_of_ble_eq_true rfl, Nat.le_of_ble_eq_true rfl⟩ (fun v1 A1 z1 q1 hG1 => ?_)
  obtain rfl := q1
  refine g_iload_n X rfl rfl ?_
  refine g_iconst X rfl (v := nI 1) (by decide) ?_
  refine g_iadd X rfl ?_
  refine g_imul X rfl ?_
  refine g_bipush X rfl (v := nI 20) (by decide) ?_
  refine g_idiv X rfl (by decide) ?_
  refine g_iload_n X rfl rfl ?_
  refine g_if_ne X rfl (fun h => ?_) (fun h => ?_)
  · obtain ⟨q8, rfl⟩ : ∃ q8, q9 = q8 + 1 := ⟨q9 - 1, by have : q9 ≠ 0 := fun e => h (by subst e; rfl); omega⟩
    refine g_aload_n X rfl rfl ?_
    refine g_iload_n X rfl rfl ?_
    refine g_iconst X rfl (v := nI 1) (by decide) ?_
    refine g_isub X rfl ?_
    rw [show nI (q8 + 1) - nI 1 = nI q8 from nI_pred q8]
    refine g_gV X rfl lcX8_pooled lmX8_160 lsX8_pooled (cg_X8_pooled l D cy B od (hb.le hG1.1) hg (q9 := q8) (by omega)) hG1.2.2.2 (by have : z + 2 ≤ 900000 := hz; have : z1 ≤ z + 1 := hG1.2.2.1; show z1 + 1 ≤ 900000; omega) (ci := 8) ((hb.le hG1.1).1) rfl rfl rfl (Nat.le_of_ble_eq_true rfl) ⟨by decide, by decide⟩ ⟨Nat.le_of_ble_eq_true rfl, Nat.le_of_ble_eq_true rfl⟩ (fun v2 A2 z2 q2 hG2 => ?_)
    obtain rfl := q2
    refine g_iload_n X rfl rfl ?_
    refine g_imul X rfl ?_
    refine g_bipush X rfl (v := nI 20) (by decide) ?_
    refine g_idiv X rfl (by decide) ?_
    refine g_isub X rfl ?_
    exact g_iret X rfl rfl (by rfl) (Nat.le_of_ble_eq_true rfl) (Nat.le_of_ble_eq_true rfl) ⟨by show some (Value.int _) = some (.int (aPW S.2.2.1 (nI (q8 + 1)) - aPW S.2.2.1 (nI q8))); rw [aPW, aPW, nI_add q8 1], z2, rfl, hG1.tr hG2⟩
  · have e : q9 = 0 := (nI_eq0 (by omega)).mp h
    subst e
    refine g_iconst X rfl (v := nI 0) (by decide) ?_
    refine g_goto X rfl ?_
    refine g_isub X rfl ?_
    exact g_iret X rfl rfl (by rfl) (Nat.le_of_ble_eq_true rfl) (Nat.le_of_ble_eq_true rfl) ⟨by rw [aPW_m]; rfl, z1, rfl, hG1.wide (by decide)⟩
