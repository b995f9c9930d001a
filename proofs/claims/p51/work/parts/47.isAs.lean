/-! 47: whether the Book is as the ledger -/
theorem oc_entry {V : LV} {k i : Nat} (hk : k < (vS V).1.1) (hn : (vS V).1.1 ≤ 60) (hi : i < 7) (hf : WfB (vS V)) : ocEntry V (nI k) (nI i) = .inr (.int ((vS V).1.2 i k)) := by
  unfold ocEntry
  rw [if_neg (fun q => q ⟨nI_pos' (by omega), nI_lt (by omega) (by omega)⟩), nI_clamp (by omega)]
  rcases (show i = 0 ∨ i = 1 ∨ i = 2 ∨ i = 3 ∨ i = 4 ∨ i = 5 ∨ i = 6 by omega) with rfl | rfl | rfl | rfl | rfl | rfl | rfl
  · rw [if_pos rfl]
  · rw [if_neg (by decide), if_pos rfl]
  · rw [if_neg (by decide), if_neg (by decide), if_pos rfl]
  · rw [if_neg (by decide), if_neg (by decide), if_neg (by decide), if_pos rfl]
  · rw [if_neg (by decide), if_neg (by decide), if_neg (by decide), if_neg (by decide), if_pos rfl]
  · rw [if_neg (by decide), if_neg (by decide), if_neg (by decide), if_neg (by decide), if_neg (by decide), if_pos rfl]
    rcases (hf k hk).1 with h | h <;> rw [h] <;> decide
  · rw [if_neg (by decide), if_neg (by decide), if_neg (by decide), if_neg (by decide), if_neg (by decide), if_neg (by decide), if_pos rfl]
    rcases (hf k hk).2 with h | h <;> rw [h] <;> decide
theorem oc_room {V : LV} {k i : Nat} (hk : k < (vS V).2.1.1) (hn : (vS V).2.1.1 ≤ 6) (hi : i < 3) : ocRoom V (nI k) (nI i) = .inr (.int ((vS V).2.1.2 i k)) := by
  unfold ocRoom
  rw [if_neg (fun q => q ⟨nI_pos' (by omega), nI_lt (by omega) (by omega)⟩), nI_clamp (by omega)]
  rcases (show i = 0 ∨ i = 1 ∨ i = 2 by omega) with rfl | rfl | rfl
  · rw [if_pos rfl]
  · rw [if_neg (by decide), if_pos rfl]
  · rw [if_neg (by decide), if_neg (by decide), if_pos rfl]
theorem oc_asset {V : LV} {k i : Nat} (hk : k < (vS V).2.2.1.1) (hn : (vS V).2.2.1.1 ≤ 12) (hi : i < 6) : ocAsset V (nI k) (nI i) = .inr (.int ((vS V).2.2.1.2 i k)) := by
  unfold ocAsset
  rw [if_neg (fun q => q ⟨nI_pos' (by omega), nI_lt (by omega) (by omega)⟩), nI_clamp (by omega)]
  rcases (show i = 0 ∨ i = 1 ∨ i = 2 ∨ i = 3 ∨ i = 4 ∨ i = 5 by omega) with rfl | rfl | rfl | rfl | rfl | rfl
  · rw [if_pos rfl]
  · rw [if_neg (by decide), if_pos rfl]
  · rw [if_neg (by decide), if_neg (by decide), if_pos rfl]
  · rw [if_neg (by decide), if_neg (by decide), if_neg (by decide), if_pos rfl]
  · rw [if_neg (by decide), if_neg (by decide), if_neg (by decide), if_neg (by decide), if_pos rfl]
  · rw [if_neg (by decide), if_neg (by decide), if_neg (by decide), if_neg (by decide), if_neg (by decide), if_pos rfl]
theorem oc_prep {V : LV} {k : Nat} (hk : k < (vS V).2.2.2.2.1) (hn : (vS V).2.2.2.2.1 ≤ 4) : ocPrep V (nI k) = .inr (.int ((vS V).2.2.2.1 k)) := by
  unfold ocPrep within9
  rw [nI_clamp (by omega), if_pos hk, if_pos]
  rw [Bool.and_eq_true, decide_eq_true_eq, decide_eq_true_eq]
  exact ⟨nI_le (by omega) (by omega), nI_le (by omega) (by omega)⟩
/-- the nine counts, as a row -/
def cntR (S : StV) (Z : SV) : Nat → Int32
  | 0 => nI S.1.1
  | 1 => nI (cntN (eOpen S.1) S.1.1)
  | 2 => nI (cntN (fun i => !(S.1.2 5 i == 0)) S.1.1)
  | 3 => nI (cntN (fun i => !(S.1.2 6 i == 0)) S.1.1)
  | 4 => nI S.2.1.1
  | 5 => nI S.2.2.1.1
  | 6 => nI (cntN (fun i => !(S.2.2.1.2 4 i == -1)) S.2.2.1.1)
  | 7 => nI S.2.2.2.2.1
  | _ => nI Z.1
theorem oc_count {V : LV} {k : Nat} (hk : k < 9) : ocCount V (nI k) = .inr (.int (cntR (vS V) (vZ V) k)) := by
  unfold ocCount
  rcases (show k = 0 ∨ k = 1 ∨ k = 2 ∨ k = 3 ∨ k = 4 ∨ k = 5 ∨ k = 6 ∨ k = 7 ∨ k = 8 by omega) with rfl | rfl | rfl | rfl | rfl | rfl | rfl | rfl | rfl
  · rw [if_pos rfl]; rfl
  · rw [if_neg (by decide), if_pos rfl]; rfl
  · rw [if_neg (by decide), if_neg (by decide), if_pos rfl]; rfl
  · rw [if_neg (by decide), if_neg (by decide), if_neg (by decide), if_pos rfl]; rfl
  · rw [if_neg (by decide), if_neg (by decide), if_neg (by decide), if_neg (by decide), if_pos rfl]; rfl
  · rw [if_neg (by decide), if_neg (by decide), if_neg (by decide), if_neg (by decide), if_neg (by decide), if_pos rfl]; rfl
  · rw [if_neg (by decide), if_neg (by decide), if_neg (by decide), if_neg (by decide), if_neg (by decide), if_neg (by decide), if_pos rfl]; rfl
  · rw [if_neg (by decide), if_neg (by decide), if_neg (by decide), if_neg (by decide), if_neg (by decide), if_neg (by decide), if_neg (by decide), if_pos rfl]; rfl
  · rw [if_neg (by decide), if_neg (by decide), if_neg (by decide), if_neg (by decide), if_neg (by decide), if_neg (by decide), if_neg (by decide), if_neg (by decide), if_pos rfl]; rfl
theorem cnt_s {q : Nat → Bool} {n : Nat} {x : Int32} (h : x = if q n = true then nI 1 else nI 0) : nI (cntN q n) + x = nI (cntN q (n + 1)) := by
  rw [h]
  show _ = nI (if q n = true then cntN q n + 1 else cntN q n)
  by_cases e : q n = true
  · rw [if_pos e, if_pos e, nI_add]
  · rw [if_neg e, if_neg e, nI_add]; rfl
theorem flag_s {x : Int32} (h : x = 0 ∨ x = 1) : x = if (!(x == 0)) = true then nI 1 else nI 0 := by
  rcases h with rfl | rfl <;> decide
theorem EntA.has {cy : Nat → ClassId} {A : AH} {b k : Nat} {E : EV} (h : EntA cy A b E) (q1 : b ≤ k) (q2 : k < b + 8) : ∃ x, A k = some x := by
  obtain ⟨h0, h1, h2, h3, h4, h5, h6, h7⟩ := h
  rcases (show k = b ∨ k = b + 1 ∨ k = b + 2 ∨ k = b + 3 ∨ k = b + 4 ∨ k = b + 5 ∨ k = b + 6 ∨ k = b + 7 by omega) with rfl | rfl | rfl | rfl | rfl | rfl | rfl | rfl
  · exact ⟨_, h0⟩
  · exact ⟨_, h1⟩
  · exact ⟨_, h2⟩
  · exact ⟨_, h3⟩
  · exact ⟨_, h4⟩
  · exact ⟨_, h5⟩
  · exact ⟨_, h6⟩
  · exact ⟨_, h7⟩
theorem RoomA.has {cy : Nat → ClassId} {A : AH} {b k : Nat} {E : RV} (h : RoomA cy A b E) (q1 : b ≤ k) (q2 : k < b + 4) : ∃ x, A k = some x := by
  obtain ⟨h0, h1, h2, h3⟩ := h
  rcases (show k = b ∨ k = b + 1 ∨ k = b + 2 ∨ k = b + 3 by omega) with rfl | rfl | rfl | rfl
  · exact ⟨_, h0⟩
  · exact ⟨_, h1⟩
  · exact ⟨_, h2⟩
  · exact ⟨_, h3⟩
theorem AssA.has {cy : Nat → ClassId} {A : AH} {b k : Nat} {E : RV} (h : AssA cy A b E) (q1 : b ≤ k) (q2 : k < b + 7) : ∃ x, A k = some x := by
  obtain ⟨h0, h1, h2, h3, h4, h5, h6⟩ := h
  rcases (show k = b ∨ k = b + 1 ∨ k = b + 2 ∨ k = b + 3 ∨ k = b + 4 ∨ k = b + 5 ∨ k = b + 6 by omega) with rfl | rfl | rfl | rfl | rfl | rfl | rfl
  · exact ⟨_, h0⟩
  · exact ⟨_, h1⟩
  · exact ⟨_, h2⟩
  · exact ⟨_, h3⟩
  · exact ⟨_, h4⟩
  · exact ⟨_, h5⟩
  · exact ⟨_, h6⟩
theorem SetA.has {cy : Nat → ClassId} {A : AH} {b k : Nat} {E : SV} (h : SetA cy A b E) (q1 : b ≤ k) (q2 : k < b + 3) : ∃ x, A k = some x := by
  obtain ⟨h0, h1, h2⟩ := h
  rcases (show k = b ∨ k = b + 1 ∨ k = b + 2 by omega) with rfl | rfl | rfl
  · exact ⟨_, h0⟩
  · exact ⟨_, h1⟩
  · exact ⟨_, h2⟩
theorem StA.has {cy : Nat → ClassId} {A : AH} {b k : Nat} {S : StV} (h : StA cy A b S) (q1 : b ≤ k) (q2 : k < b + 21) : ∃ x, A k = some x := by
  obtain ⟨h0, h1, h2, h3, h4⟩ := h
  by_cases a : k = b
  · subst a; exact ⟨_, h0⟩
  by_cases a1 : k < b + 9
  · exact h1.has (by omega) (by omega)
  by_cases a2 : k < b + 13
  · exact h2.has (by omega) (by omega)
  by_cases a3 : k < b + 20
  · exact h3.has (by omega) (by omega)
  · have e : k = b + 20 := by omega
    subst e; exact ⟨_, h4⟩
theorem HisA.has {cy : Nat → ClassId} {A : AH} {b k : Nat} {K : HV} (h : HisA cy A b K) (q1 : b ≤ k) (q2 : k < b + 170) : ∃ x, A k = some x := by
  obtain ⟨h0, ⟨f, h1, -⟩, h2⟩ := h
  by_cases a : k = b
  · subst a; exact ⟨_, h0⟩
  by_cases a1 : k = b + 1
  · subst a1; exact ⟨_, h1⟩
  · exact (h2 ((k - (b + 2)) / 21) (by omega)).has (by omega) (by omega)
/-- every place of the ledger's holds something -/
theorem LedA.has {cy : Nat → ClassId} {A : AH} {W : LW} (h : LedA cy A W) {k : Nat} (hk : k < 231) : ∃ x, A k = some x := by
  have hu := h.u
  obtain ⟨⟨v1, v2, v3, v4, v5⟩, -, ⟨Rm, r1, -⟩, ⟨b1, -⟩, ⟨s1, -⟩, ⟨k1, -⟩, ⟨f, f1⟩, rd⟩ := h
  obtain ⟨t, len, pos, kd, ts, nm, ss, as, is, tp, txt, Z, Rm2, ht, d1, d2, d3, d4, -⟩ := rd
  by_cases a0 : k = 0
  · subst a0; exact ⟨_, v1⟩
  by_cases a1 : k = 1
  · subst a1; exact ⟨_, b1⟩
  by_cases a2 : k = 2
  · subst a2; exact ⟨_, d1⟩
  by_cases a3 : k = 3
  · subst a3; exact ⟨_, d2⟩
  by_cases a4 : W.1.1 ≤ k ∧ k < W.1.1 + 3
  · exact v4.has a4.1 a4.2
  by_cases a5 : W.1.1 + 3 ≤ k ∧ k < W.1.1 + 3 + 4
  · exact r1.has a5.1 a5.2
  by_cases a6 : t ≤ k ∧ k < t + 3
  · exact d3.has a6.1 a6.2
  by_cases a7 : t + 3 ≤ k ∧ k < t + 3 + 4
  · exact d4.has a7.1 a7.2
  by_cases a8 : k < 39
  · exact v2.has (by omega) (by omega)
  by_cases a9 : k < 60
  · exact s1.has (by omega) (by omega)
  by_cases aa : k < 230
  · exact k1.has (by omega) (by omega)
  · have e : k = 230 := by omega
    subst e; exact ⟨_, f1⟩
set_option maxRecDepth 100000 in
set_option maxHeartbeats 16000000 in
theorem ct_X8_isAs (l : Launch) (D : va_G) (cy : Nat → ClassId) (B : Nat) (od : Nat → Option Nat) (hl9 : l.stackTraces = false) {A : AH} {g : Nat} {L : BL} {S : StV} {Z : SV} (hb : BkR cy A g L S Z) {W : LW} (hW : LedA cy A W) (hS : vS W.1 = S) (hZ : vZ W.1 = Z) (hg : Rng Z S) (hw : WfS S) (hfb : WfB S) (hsl : SldOk S) (hhi : BkHi g L S Z) : ∀ z, FRs A z → z + 2600 ≤ 900000 → 232 ≤ z → CT l D cy B od yX8_isAs cX8_isAs 9 (some .boolean) rmX8_isAs [.ref g, .ref 0] A (z + 1) (fun v A' z' => v = some (.int (nI 1)) ∧ LedA cy A' W ∧ (∀ k, 231 ≤ k → ∀ x, A k = some x → A' k = some x) ∧ ∃ z1, z' = z1 + 1 ∧ z ≤ z1 ∧ z1 ≤ z + 2600 ∧ FRs A' z1) := by
  intro z hF hz hz0
  have hw1 := hw.1
  have hw2 := hw.2.1
  have hw3 := hw.2.2.1
  have hw4 := hw.2.2.2.1
  have hB : LsC cy A (L.1 0) (L.2.1 0) (L.2.2.1 0) Z.1 (L.2.2.2 0) := hb.2.1 0 (by decide)
  have hR : LsC cy A (L.1 1) (L.2.1 1) (L.2.2.1 1) S.2.1.1 (L.2.2.2 1) := hb.2.1 1 (by decide)
  have hE : LsC cy A (L.1 2) (L.2.1 2) (L.2.2.1 2) S.1.1 (L.2.2.2 2) := hb.2.1 2 (by decide)
  have hA : LsC cy A (L.1 3) (L.2.1 3) (L.2.2.1 3) S.2.2.1.1 (L.2.2.2 3) := hb.2.1 3 (by decide)
  have hP : LsC cy A (L.1 4) (L.2.1 4) (L.2.2.1 4) S.2.2.2.2.1 (L.2.2.2 4) := hb.2.1 4 (by decide)
  have hV := hW.1
  have hm := hV.1
  refine CT.of (by decide) tX8_isAs okX8_isAs (Nat.le_of_ble_eq_true rfl) (q0 := tX8_isAs[0]) rfl rfl ?_
  intro p e s m args below meth c X hnm
  have tl : ∀ (g9 : Nat → Int32) (c1 s2 : Nat) (a2 a3 a4 a5 a6 a7 a8 : Option Value), c1 ≤ 1038 → s2 ≤ 6231 → G p l e rmX8_isAs s m args below meth c D B od 9 tX8_isAs (FinQ false D B od (fun v A' z' => v = some (.int (nI 1)) ∧ LedA cy A' W ∧ (∀ k, 231 ≤ k → ∀ x, A k = some x → A' k = some x) ∧ ∃ z1, z' = z1 + 1 ∧ z ≤ z1 ∧ z1 ≤ z + 2600 ∧ FRs A' z1) (fun _ _ => True) args s below rmX8_isAs.cells rmX8_isAs.slots) c1 s2 (upA A z (.inl (cy 0, 9, .inl g9))) (z + 2) 259 [some (.ref g), some (.ref 0), a2, a3, a4, a5, a6, a7, a8] [] := by
    intro g9 c1 s2 a2 a3 a4 a5 a6 a7 a8 hc hs
    have hf1 : ∀ k, k < 231 → (upA A z (.inl (cy 0, 9, .inl g9))) k = A k := fun k hk => upA_ne (by omega)
    have hW1 := hW.off hf1
    have hm1 := hW1.1.1
    have hb1 := hb.le ((HLe.rf A).up hF.at (x := .inl (cy 0, 9, .inl g9)))
    have hF1 := hF.new (x := .inl (cy 0, 9, .inl g9))
    have hbal : ocBal W.1 (nI 359) = .inr (.long (balC S 359)) := by rw [← hS]; rfl
    have hprf : ocProfT W.1 (nI 3) = .inr (.long (sProf S (nI 3))) := by rw [← hS]; rfl
    refine g_aload_n X rfl rfl ?_
    refine g_sipush X rfl (v := nI 359) (by decide) ?_
    refine g_hV X rfl lcX7_balance lmX8_220 lsX7_balance ((cp_X7_balance l D cy B od hl9 hW1 (x := nI 359)).cm hbal) (ci := 7) hm1 rfl rfl rfl (Nat.le_of_ble_eq_true rfl) ⟨by decide, by decide⟩ ⟨by show c1 + 1 ≤ 2600; omega, by show s2 + 6 ≤ 16000; omega⟩ (fun v2 A2 q2 => ?_)
    obtain ⟨rfl, h2, hW2⟩ := q2
    have hb2 := hb1.off hhi (fun k hk => h2 k (Or.inr hk))
    have hF2 : FRs A2 (z + 1) := fun k hk => (h2 k (Or.inr (by omega))).trans (hF1 k hk)
    refine g_aload_n X rfl rfl ?_
    refine g_sipush X rfl (v := nI 359) (by decide) ?_
    refine g_gV X rfl lcX8_balance lmX8_223 lsX8_balance (cg_X8_balance l D cy B od hb2 hg (d9 := 359) (by decide)) hF2 (by show z + 1 + 2 ≤ 900000; omega) (ci := 8) hb2.1 rfl rfl rfl (Nat.le_of_ble_eq_true rfl) ⟨by decide, by decide⟩ ⟨by show c1 + 1 + 2 ≤ 2600; omega, by show s2 + 6 + 8 ≤ 16000; omega⟩ (fun v3 A3 z3 q3 hG3 => ?_)
    obtain rfl := q3
    refine g_l_ne X rfl rfl (fun h => absurd rfl h) (fun _ => ?_)
    · have hW3 := hW2.off (fun k hk => by
        have hk2 : A2 k ≠ none ∨ A2 k = none := by by_cases e : A2 k = none; (exact Or.inr e); exact Or.inl e
        rcases hk2 with e | e
        · obtain ⟨x, hx⟩ := Option.ne_none_iff_exists'.mp e; rw [hx]; exact hG3.1 _ _ hx
        · exact absurd e (by obtain ⟨x, hx⟩ := hW2.has hk; rw [hx]; simp))
      refine g_aload_n X rfl rfl ?_
      refine g_iconst X rfl (v := nI 3) (by decide) ?_
      refine g_kV X rfl lcX7_profitTo lmX8_224 lsX7_profitTo ((co_X7_profitTo l D cy B od hl9 hW3.1 (q := nI 3)).cr hprf) (ci := 7) hW3.1.1 rfl rfl rfl (Nat.le_of_ble_eq_true rfl) ⟨by decide, by decide⟩ ⟨by show c1 + 1 + 2 + 1 ≤ 2600; omega, by show s2 + 6 + 8 + 6 ≤ 16000; omega⟩ ?_
      refine g_aload_n X rfl rfl ?_
      refine g_iconst X rfl (v := nI 3) (by decide) ?_
      have hb3 := hb2.le hG3.1
      have PT := cg_X8_profitTo l D cy B od hb3 hg hw hsl 4 (by decide)
      rw [show nI 4 - nI 1 = nI 3 from by decide] at PT
      refine g_gV X rfl lcX8_profitTo lmX8_175 lsX8_profitTo PT hG3.2.2.2 (by have : z3 ≤ z + 1 + 2 := hG3.2.2.1; show z3 + 640 ≤ 900000; omega) (ci := 8) hb3.1 rfl rfl rfl (Nat.le_of_ble_eq_true rfl) ⟨by decide, by decide⟩ ⟨by show c1 + 1 + 2 + 1 + 640 ≤ 2600; omega, by show s2 + 6 + 8 + 6 + 3712 ≤ 16000; omega⟩ (fun v4 A4 z4 q4 hG4 => ?_)
      obtain rfl := q4
      refine g_l_ne X rfl rfl (fun h => absurd rfl h) (fun _ => ?_)
      · skip
        refine g_iconst X rfl (v := nI 1) (by decide) ?_
        refine g_goto X rfl ?_
        exact g_iret X rfl rfl (by rfl) (by show c1 + 1 + 2 + 1 + 640 ≤ 2600; omega) (by show s2 + 6 + 8 + 6 + 3712 ≤ 16000; omega) ⟨rfl, hW3.off (fun k hk => by obtain ⟨x, hx⟩ := hW3.has hk; rw [hx]; exact hG4.1 _ _ hx), fun k hk x hx => hG4.1 _ _ (hG3.1 _ _ ((h2 k (Or.inr hk)).trans ((upA_ne (fun e => by subst e; rw [hF.at] at hx; cases hx)).trans hx))), z4, rfl, by have := hG3.2.1; have := hG4.2.1; omega, by have a1 : z3 ≤ z + 1 + 2 := hG3.2.2.1; have a2 : z4 ≤ z3 + 640 := hG4.2.2.1; omega, hG4.2.2.2⟩
  have lpP : ∀ (g9 : Nat → Int32) (d k : Nat) (a2 a3 a4 a5 a8 : Option Value), k + d = S.2.2.2.2.1 → G p l e rmX8_isAs s m args below meth c D B od 9 tX8_isAs (FinQ false D B od (fun v A' z' => v = some (.int (nI 1)) ∧ LedA cy A' W ∧ (∀ k, 231 ≤ k → ∀ x, A k = some x → A' k = some x) ∧ ∃ z1, z' = z1 + 1 ∧ z ≤ z1 ∧ z1 ≤ z + 2600 ∧ FRs A' z1) (fun _ _ => True) args s below rmX8_isAs.cells rmX8_isAs.slots) (1030 + 2 * k) (6183 + 12 * k) (upA A z (.inl (cy 0, 9, .inl g9))) (z + 2) 240 [some (.ref g), some (.ref 0), a2, a3, a4, a5, some (.ref z), some (.int (nI (k))), a8] [] := by
    intro g9
    have hf1 : ∀ k, k < 231 → (upA A z (.inl (cy 0, 9, .inl g9))) k = A k := fun k hk => upA_ne (by omega)
    have hW1 := hW.off hf1
    have hb1 := hb.le ((HLe.rf A).up hF.at (x := .inl (cy 0, 9, .inl g9)))
    have hP1 := hP.le ((HLe.rf A).up hF.at (x := .inl (cy 0, 9, .inl g9)))
    have hn9 := hP.2.1
    intro d
    induction d with
    | zero =>
      intro k a2 a3 a4 a5 a8 hid
      have e : k = S.2.2.2.2.1 := by omega
      subst e
      refine g_iload X rfl rfl ?_
      refine g_aload_n X rfl rfl ?_
      refine g_get X rfl flX8_42 (ci := 8) rfl (hb1.1) rfl ?_
      refine g_rV X rfl lcJx4a65c_size_8abf5 lmX8_188 lsJx4a65c_size_8abf5 (cr_size l D cy B od hP1) (ci := 9) (hP1.1) rfl rfl rfl (Nat.le_of_ble_eq_true rfl) ⟨⟨by decide, by decide⟩, rfl, rfl⟩ ⟨by show _ ≤ 2600; omega, by show _ ≤ 16000; omega⟩ ?_
      refine g_ic_geN X rfl (by omega) (by omega) (fun _ => ?_) (fun h => absurd h (by omega))
      · skip
        exact tl g9 (1030 + 2 * S.2.2.2.2.1) (6183 + 12 * S.2.2.2.2.1) _ _ _ _ _ _ _ (by omega) (by omega)
    | succ d ih =>
      intro k a2 a3 a4 a5 a8 hid
      have hi : k < S.2.2.2.2.1 := by omega
      have hr := hb1.2.2.2.2.2.2 k hi
      refine g_iload X rfl rfl ?_
      refine g_aload_n X rfl rfl ?_
      refine g_get X rfl flX8_42 (ci := 8) rfl (hb1.1) rfl ?_
      refine g_rV X rfl lcJx4a65c_size_8abf5 lmX8_188 lsJx4a65c_size_8abf5 (cr_size l D cy B od hP1) (ci := 9) (hP1.1) rfl rfl rfl (Nat.le_of_ble_eq_true rfl) ⟨⟨by decide, by decide⟩, rfl, rfl⟩ ⟨by show _ ≤ 2600; omega, by show _ ≤ 16000; omega⟩ ?_
      refine g_ic_geN X rfl (by omega) (by omega) (fun h => absurd h (by omega)) (fun _ => ?_)
      · skip
        refine g_aload_n X rfl rfl ?_
        refine g_iload X rfl rfl ?_
        refine g_kV X rfl lcX7_prepayment lmX8_218 lsX7_prepayment ((co_X7_prepayment l D cy B od hl9 hW1.1 (q := nI k)).cr (by rw [oc_prep (by rw [hS]; exact hi) (by rw [hS]; omega), hS])) (ci := 7) (hW1.1.1) rfl rfl rfl (Nat.le_of_ble_eq_true rfl) ⟨by decide, by decide⟩ ⟨by show _ + 2 ≤ 2600; omega, by show _ + 12 ≤ 16000; omega⟩ ?_
        refine g_aload_n X rfl rfl ?_
        refine g_get X rfl flX8_42 (ci := 8) rfl (hb1.1) rfl ?_
        refine g_iload X rfl rfl ?_
        refine g_rV X rfl lcJx4a65c_get_915e3 lmX8_184 lsJx4a65c_get_915e3 (cr_get l D cy B od hP1 (j := k) hi) (ci := 9) (hP1.1) rfl rfl rfl (Nat.le_of_ble_eq_true rfl) ⟨⟨by decide, by decide⟩, rfl, rfl⟩ ⟨by show _ + 2 ≤ 2600; omega, by show _ + 12 ≤ 16000; omega⟩ ?_
        refine g_castN X rfl clX8_71 hr ?_
        refine g_unbox X rfl lmX8_73 hr (Nat.le_of_ble_eq_true rfl) ⟨by decide, by decide⟩ ⟨by show _ + 2 ≤ 2600; omega, by show _ + 12 ≤ 16000; omega⟩ ?_
        refine g_icmp_eq X rfl (fun _ => ?_) (fun h => absurd rfl h)
        · skip
          first | refine g_iinc1S X rfl rfl (by decide) rfl ?_ | refine g_iinc1 X rfl rfl (by decide) ?_
          refine g_goto X rfl ?_
          exact g_more (c' := 1030 + 2 * (k + 1)) (s' := 6183 + 12 * (k + 1)) (by show _ + 2 ≤ _; omega) (by show _ + 12 ≤ _; omega) (ih (k + 1) _ _ _ _ _ (by omega))
  have lpC : ∀ (g9 : Nat → Int32), (∀ k, k < 9 → g9 k = cntR S Z k) → ∀ (d k : Nat) (a2 a3 a4 a5 a8 : Option Value), k + d = 9 → G p l e rmX8_isAs s m args below meth c D B od 9 tX8_isAs (FinQ false D B od (fun v A' z' => v = some (.int (nI 1)) ∧ LedA cy A' W ∧ (∀ k, 231 ≤ k → ∀ x, A k = some x → A' k = some x) ∧ ∃ z1, z' = z1 + 1 ∧ z ≤ z1 ∧ z1 ≤ z + 2600 ∧ FRs A' z1) (fun _ _ => True) args s below rmX8_isAs.cells rmX8_isAs.slots) (1021 + 1 * k) (6129 + 6 * k) (upA A z (.inl (cy 0, 9, .inl g9))) (z + 2) 224 [some (.ref g), some (.ref 0), a2, a3, a4, a5, some (.ref z), some (.int (nI (k))), a8] [] := by
    intro g9 h9
    have hf1 : ∀ k, k < 231 → (upA A z (.inl (cy 0, 9, .inl g9))) k = A k := fun k hk => upA_ne (by omega)
    have hW1 := hW.off hf1
    have hn9 := hP.2.1
    intro d
    induction d with
    | zero =>
      intro k a2 a3 a4 a5 a8 hid
      have e : k = 9 := by omega
      subst e
      refine g_iload X rfl rfl ?_
      refine g_bipush X rfl (v := nI 9) (by decide) ?_
      refine g_ic_geN X rfl (by omega) (by omega) (fun _ => ?_) (fun h => absurd h (by omega))
      · skip
        refine g_iconst X rfl (v := nI 0) (by decide) ?_
        first | refine g_istoreS X rfl (by decide) rfl ?_ | refine g_istore X rfl (by decide) ?_
        exact g_more (by omega) (by omega) (lpP g9 S.2.2.2.2.1 0 _ _ _ _ _ (Nat.zero_add _))
    | succ d ih =>
      intro k a2 a3 a4 a5 a8 hid
      have hi : k < 9 := by omega
      refine g_iload X rfl rfl ?_
      refine g_bipush X rfl (v := nI 9) (by decide) ?_
      refine g_ic_geN X rfl (by omega) (by omega) (fun h => absurd h (by omega)) (fun _ => ?_)
      · skip
        refine g_aload_n X rfl rfl ?_
        refine g_iload X rfl rfl ?_
        refine g_kV X rfl lcX7_count lmX8_215 lsX7_count ((co_X7_count l D cy B od hl9 hW1.1 (w := nI k)).cr (by rw [oc_count hi, hS, hZ])) (ci := 7) (hW1.1.1) rfl rfl rfl (Nat.le_of_ble_eq_true rfl) ⟨by decide, by decide⟩ ⟨by show _ + 1 ≤ 2600; omega, by show _ + 6 ≤ 16000; omega⟩ ?_
        refine g_aload X rfl rfl ?_
        refine g_iload X rfl rfl ?_
        refine g_ialdN X rfl upA_eq (by omega) (by decide) ?_
        rw [h9 k hi]
        refine g_icmp_eq X rfl (fun _ => ?_) (fun h => absurd rfl h)
        · skip
          first | refine g_iinc1S X rfl rfl (by decide) rfl ?_ | refine g_iinc1 X rfl rfl (by decide) ?_
          refine g_goto X rfl ?_
          exact g_more (by show _ + 1 ≤ _; omega) (by show _ + 6 ≤ _; omega) (ih (k + 1) _ _ _ _ _ (by omega))
  have c173 : ∀ (a6 a7 a8 : Option Value), G p l e rmX8_isAs s m args below meth c D B od 9 tX8_isAs (FinQ false D B od (fun v A' z' => v = some (.int (nI 1)) ∧ LedA cy A' W ∧ (∀ k, 231 ≤ k → ∀ x, A k = some x → A' k = some x) ∧ ∃ z1, z' = z1 + 1 ∧ z ≤ z1 ∧ z1 ≤ z + 2600 ∧ FRs A' z1) (fun _ _ => True) args s below rmX8_isAs.cells rmX8_isAs.slots) 1020 6120 A (z + 1) 173 [some (.ref g), some (.ref 0), some (.int (nI (cntN (eOpen S.1) S.1.1))), some (.int (nI (cntN (fun i => !(S.1.2 5 i == 0)) S.1.1))), some (.int (nI (cntN (fun i => !(S.1.2 6 i == 0)) S.1.1))), some (.int (nI (cntN (fun i => !(S.2.2.1.2 4 i == -1)) S.2.2.1.1))), a6, a7, a8] [] := by
    intro a6 a7 a8
    refine g_bipush X rfl (v := nI 9) (by decide) ?_
    refine g_newai X rfl aw_i (N := 9) (nI_pos (by decide)) (nI_clamp (by decide)) (by decide) (by omega) (Nat.le_of_ble_eq_true rfl) (Nat.le_of_ble_eq_true rfl) ?_
    refine g_dup X rfl rfl ?_
    refine g_iconst X rfl (v := nI 0) (by decide) ?_
    refine g_aload_n X rfl rfl ?_
    refine g_get X rfl flX8_36 (ci := 8) rfl (((HLe.rf A).up hF.at) _ _ hb.1) rfl ?_
    refine g_rV X rfl lcJx4a65c_size_8abf5 lmX8_188 lsJx4a65c_size_8abf5 (cr_size l D cy B od (hE.le ((HLe.rf A).up hF.at))) (ci := 9) ((hE.le ((HLe.rf A).up hF.at)).1) rfl rfl rfl (Nat.le_of_ble_eq_true rfl) ⟨⟨by decide, by decide⟩, rfl, rfl⟩ ⟨by show _ ≤ 2600; omega, by show _ ≤ 16000; omega⟩ ?_
    refine g_iastN X rfl upA_eq (by decide) (by decide) ?_
    rw [upA_up]
    refine g_dup X rfl rfl ?_
    refine g_iconst X rfl (v := nI 1) (by decide) ?_
    refine g_iload_n X rfl rfl ?_
    refine g_iastN X rfl upA_eq (by decide) (by decide) ?_
    rw [upA_up]
    refine g_dup X rfl rfl ?_
    refine g_iconst X rfl (v := nI 2) (by decide) ?_
    refine g_iload_n X rfl rfl ?_
    refine g_iastN X rfl upA_eq (by decide) (by decide) ?_
    rw [upA_up]
    refine g_dup X rfl rfl ?_
    refine g_iconst X rfl (v := nI 3) (by decide) ?_
    refine g_iload X rfl rfl ?_
    refine g_iastN X rfl upA_eq (by decide) (by decide) ?_
    rw [upA_up]
    refine g_dup X rfl rfl ?_
    refine g_iconst X rfl (v := nI 4) (by decide) ?_
    refine g_aload_n X rfl rfl ?_
    refine g_get X rfl flX8_33 (ci := 8) rfl (((HLe.rf A).up hF.at) _ _ hb.1) rfl ?_
    refine g_rV X rfl lcJx4a65c_size_8abf5 lmX8_188 lsJx4a65c_size_8abf5 (cr_size l D cy B od (hR.le ((HLe.rf A).up hF.at))) (ci := 9) ((hR.le ((HLe.rf A).up hF.at)).1) rfl rfl rfl (Nat.le_of_ble_eq_true rfl) ⟨⟨by decide, by decide⟩, rfl, rfl⟩ ⟨by show _ ≤ 2600; omega, by show _ ≤ 16000; omega⟩ ?_
    refine g_iastN X rfl upA_eq (by decide) (by decide) ?_
    rw [upA_up]
    refine g_dup X rfl rfl ?_
    refine g_iconst X rfl (v := nI 5) (by decide) ?_
    refine g_aload_n X rfl rfl ?_
    refine g_get X rfl flX8_39 (ci := 8) rfl (((HLe.rf A).up hF.at) _ _ hb.1) rfl ?_
    refine g_rV X rfl lcJx4a65c_size_8abf5 lmX8_188 lsJx4a65c_size_8abf5 (cr_size l D cy B od (hA.le ((HLe.rf A).up hF.at))) (ci := 9) ((hA.le ((HLe.rf A).up hF.at)).1) rfl rfl rfl (Nat.le_of_ble_eq_true rfl) ⟨⟨by decide, by decide⟩, rfl, rfl⟩ ⟨by show _ ≤ 2600; omega, by show _ ≤ 16000; omega⟩ ?_
    refine g_iastN X rfl upA_eq (by decide) (by decide) ?_
    rw [upA_up]
    refine g_dup X rfl rfl ?_
    refine g_bipush X rfl (v := nI 6) (by decide) ?_
    refine g_iload X rfl rfl ?_
    refine g_iastN X rfl upA_eq (by decide) (by decide) ?_
    rw [upA_up]
    refine g_dup X rfl rfl ?_
    refine g_bipush X rfl (v := nI 7) (by decide) ?_
    refine g_aload_n X rfl rfl ?_
    refine g_get X rfl flX8_42 (ci := 8) rfl (((HLe.rf A).up hF.at) _ _ hb.1) rfl ?_
    refine g_rV X rfl lcJx4a65c_size_8abf5 lmX8_188 lsJx4a65c_size_8abf5 (cr_size l D cy B od (hP.le ((HLe.rf A).up hF.at))) (ci := 9) ((hP.le ((HLe.rf A).up hF.at)).1) rfl rfl rfl (Nat.le_of_ble_eq_true rfl) ⟨⟨by decide, by decide⟩, rfl, rfl⟩ ⟨by show _ ≤ 2600; omega, by show _ ≤ 16000; omega⟩ ?_
    refine g_iastN X rfl upA_eq (by decide) (by decide) ?_
    rw [upA_up]
    refine g_dup X rfl rfl ?_
    refine g_bipush X rfl (v := nI 8) (by decide) ?_
    refine g_aload_n X rfl rfl ?_
    refine g_get X rfl flX8_29 (ci := 8) rfl (((HLe.rf A).up hF.at) _ _ hb.1) rfl ?_
    refine g_rV X rfl lcJx4a65c_size_8abf5 lmX8_188 lsJx4a65c_size_8abf5 (cr_size l D cy B od (hB.le ((HLe.rf A).up hF.at))) (ci := 9) ((hB.le ((HLe.rf A).up hF.at)).1) rfl rfl rfl (Nat.le_of_ble_eq_true rfl) ⟨⟨by decide, by decide⟩, rfl, rfl⟩ ⟨by show _ ≤ 2600; omega, by show _ ≤ 16000; omega⟩ ?_
    refine g_iastN X rfl upA_eq (by decide) (by decide) ?_
    rw [upA_up]
    first | refine g_astoreS X rfl (by decide) rfl ?_ | refine g_astore X rfl (by decide) ?_
    refine g_iconst X rfl (v := nI 0) (by decide) ?_
    first | refine g_istoreS X rfl (by decide) rfl ?_ | refine g_istore X rfl (by decide) ?_
    refine lpC _ (fun k hk => ?_) 9 0 _ _ _ _ _ rfl
    rcases (show k = 0 ∨ k = 1 ∨ k = 2 ∨ k = 3 ∨ k = 4 ∨ k = 5 ∨ k = 6 ∨ k = 7 ∨ k = 8 by omega) with rfl | rfl | rfl | rfl | rfl | rfl | rfl | rfl | rfl <;> rfl
  have hn9 := hA.2.1
  have lpA : ∀ (d k : Nat) (a7 a8 : Option Value), k + d = S.2.2.1.1 → G p l e rmX8_isAs s m args below meth c D B od 9 tX8_isAs (FinQ false D B od (fun v A' z' => v = some (.int (nI 1)) ∧ LedA cy A' W ∧ (∀ k, 231 ≤ k → ∀ x, A k = some x → A' k = some x) ∧ ∃ z1, z' = z1 + 1 ∧ z ≤ z1 ∧ z1 ≤ z + 2600 ∧ FRs A' z1) (fun _ _ => True) args s below rmX8_isAs.cells rmX8_isAs.slots) (876 + 12 * k) (5256 + 72 * k) A (z + 1) 99 [some (.ref g), some (.ref 0), some (.int (nI (cntN (eOpen S.1) S.1.1))), some (.int (nI (cntN (fun i => !(S.1.2 5 i == 0)) S.1.1))), some (.int (nI (cntN (fun i => !(S.1.2 6 i == 0)) S.1.1))), some (.int (nI (cntN (fun i => !(S.2.2.1.2 4 i == -1)) k))), some (.int (nI (k))), a7, a8] [] := by
    intro d
    induction d with
    | zero =>
      intro k a7 a8 hid
      have e : k = S.2.2.1.1 := by omega
      subst e
      refine g_iload X rfl rfl ?_
      refine g_aload_n X rfl rfl ?_
      refine g_get X rfl flX8_39 (ci := 8) rfl (hb.1) rfl ?_
      refine g_rV X rfl lcJx4a65c_size_8abf5 lmX8_188 lsJx4a65c_size_8abf5 (cr_size l D cy B od hA) (ci := 9) (hA.1) rfl rfl rfl (Nat.le_of_ble_eq_true rfl) ⟨⟨by decide, by decide⟩, rfl, rfl⟩ ⟨by show _ ≤ 2600; omega, by show _ ≤ 16000; omega⟩ ?_
      refine g_ic_geN X rfl (by omega) (by omega) (fun _ => ?_) (fun h => absurd h (by omega))
      · skip
        exact g_more (by omega) (by omega) (c173 _ _ _)
    | succ d ih =>
      intro k a7 a8 hid
      have hi : k < S.2.2.1.1 := by omega
      obtain ⟨r, hr, hrv⟩ : ∃ r, A (L.2.2.2 3 k) = some (.inl (cy 0, 5, .inl r)) ∧ ∀ j, j < 5 → r j = S.2.2.1.2 (asC j) k := hb.2.2.2.2.2.1 k hi
      refine g_iload X rfl rfl ?_
      refine g_aload_n X rfl rfl ?_
      refine g_get X rfl flX8_39 (ci := 8) rfl (hb.1) rfl ?_
      refine g_rV X rfl lcJx4a65c_size_8abf5 lmX8_188 lsJx4a65c_size_8abf5 (cr_size l D cy B od hA) (ci := 9) (hA.1) rfl rfl rfl (Nat.le_of_ble_eq_true rfl) ⟨⟨by decide, by decide⟩, rfl, rfl⟩ ⟨by show _ ≤ 2600; omega, by show _ ≤ 16000; omega⟩ ?_
      refine g_ic_geN X rfl (by omega) (by omega) (fun h => absurd h (by omega)) (fun _ => ?_)
      · skip
        refine g_aload_n X rfl rfl ?_
        refine g_get X rfl flX8_39 (ci := 8) rfl (hb.1) rfl ?_
        refine g_iload X rfl rfl ?_
        refine g_rV X rfl lcJx4a65c_get_915e3 lmX8_184 lsJx4a65c_get_915e3 (cr_get l D cy B od hA (j := k) hi) (ci := 9) (hA.1) rfl rfl rfl (Nat.le_of_ble_eq_true rfl) ⟨⟨by decide, by decide⟩, rfl, rfl⟩ ⟨by show _ ≤ 2600; omega, by show _ ≤ 16000; omega⟩ ?_
        refine g_castI X rfl clX8_62 hr ?_
        first | refine g_astoreS X rfl (by decide) rfl ?_ | refine g_astore X rfl (by decide) ?_
        refine g_aload_n X rfl rfl ?_
        refine g_iload X rfl rfl ?_
        refine g_iconst X rfl (v := nI 0) (by decide) ?_
        refine g_kV X rfl lcX7_asset lmX8_212 lsX7_asset ((co_X7_asset l D cy B od hl9 hV (x := nI k) (w := nI 0)).cr (by rw [oc_asset (by rw [hS]; exact hi) (by rw [hS]; omega) (by decide), hS])) (ci := 7) (hm) rfl rfl rfl (Nat.le_of_ble_eq_true rfl) ⟨by decide, by decide⟩ ⟨by show _ + 2 ≤ 2600; omega, by show _ + 12 ≤ 16000; omega⟩ ?_
        refine g_aload X rfl rfl ?_
        refine g_iconst X rfl (v := nI 0) (by decide) ?_
        refine g_ialdN X rfl hr (by decide) (by decide) ?_
        rw [show r 0 = S.2.2.1.2 0 k from hrv 0 (by decide)]
        refine g_icmp_ne X rfl (fun h => absurd rfl h) (fun _ => ?_)
        · skip
          refine g_aload_n X rfl rfl ?_
          refine g_iload X rfl rfl ?_
          refine g_iconst X rfl (v := nI 1) (by decide) ?_
          refine g_kV X rfl lcX7_asset lmX8_212 lsX7_asset ((co_X7_asset l D cy B od hl9 hV (x := nI k) (w := nI 1)).cr (by rw [oc_asset (by rw [hS]; exact hi) (by rw [hS]; omega) (by decide), hS])) (ci := 7) (hm) rfl rfl rfl (Nat.le_of_ble_eq_true rfl) ⟨by decide, by decide⟩ ⟨by show _ + 2 + 2 ≤ 2600; omega, by show _ + 12 + 12 ≤ 16000; omega⟩ ?_
          refine g_aload X rfl rfl ?_
          refine g_iconst X rfl (v := nI 1) (by decide) ?_
          refine g_ialdN X rfl hr (by decide) (by decide) ?_
          rw [show r 1 = S.2.2.1.2 1 k from hrv 1 (by decide)]
          refine g_icmp_ne X rfl (fun h => absurd rfl h) (fun _ => ?_)
          · skip
            refine g_aload_n X rfl rfl ?_
            refine g_iload X rfl rfl ?_
            refine g_iconst X rfl (v := nI 2) (by decide) ?_
            refine g_kV X rfl lcX7_asset lmX8_212 lsX7_asset ((co_X7_asset l D cy B od hl9 hV (x := nI k) (w := nI 2)).cr (by rw [oc_asset (by rw [hS]; exact hi) (by rw [hS]; omega) (by decide), hS])) (ci := 7) (hm) rfl rfl rfl (Nat.le_of_ble_eq_true rfl) ⟨by decide, by decide⟩ ⟨by show _ + 2 + 2 + 2 ≤ 2600; omega, by show _ + 12 + 12 + 12 ≤ 16000; omega⟩ ?_
            refine g_aload X rfl rfl ?_
            refine g_iconst X rfl (v := nI 2) (by decide) ?_
            refine g_ialdN X rfl hr (by decide) (by decide) ?_
            rw [show r 2 = S.2.2.1.2 2 k from hrv 2 (by decide)]
            refine g_icmp_ne X rfl (fun h => absurd rfl h) (fun _ => ?_)
            · skip
              refine g_aload_n X rfl rfl ?_
              refine g_iload X rfl rfl ?_
              refine g_iconst X rfl (v := nI 3) (by decide) ?_
              refine g_kV X rfl lcX7_asset lmX8_212 lsX7_asset ((co_X7_asset l D cy B od hl9 hV (x := nI k) (w := nI 3)).cr (by rw [oc_asset (by rw [hS]; exact hi) (by rw [hS]; omega) (by decide), hS])) (ci := 7) (hm) rfl rfl rfl (Nat.le_of_ble_eq_true rfl) ⟨by decide, by decide⟩ ⟨by show _ + 2 + 2 + 2 + 2 ≤ 2600; omega, by show _ + 12 + 12 + 12 + 12 ≤ 16000; omega⟩ ?_
              refine g_aload_n X rfl rfl ?_
              refine g_aload X rfl rfl ?_
              refine g_rV X rfl lcX8_sort lmX8_149 lsX8_sort (cr_X8_sort l D cy B od hb hr) (ci := 8) (hb.1) rfl rfl rfl (Nat.le_of_ble_eq_true rfl) ⟨⟨by decide, by decide⟩, rfl, rfl⟩ ⟨by show _ + 2 + 2 + 2 + 2 ≤ 2600; omega, by show _ + 12 + 12 + 12 + 12 ≤ 16000; omega⟩ ?_
              rw [show r 0 = S.2.2.1.2 0 k from hrv 0 (by decide), ← (hg.2.2.1 k hi).2.2.2.1]
              refine g_icmp_ne X rfl (fun h => absurd rfl h) (fun _ => ?_)
              · skip
                refine g_aload_n X rfl rfl ?_
                refine g_iload X rfl rfl ?_
                refine g_iconst X rfl (v := nI 4) (by decide) ?_
                refine g_kV X rfl lcX7_asset lmX8_212 lsX7_asset ((co_X7_asset l D cy B od hl9 hV (x := nI k) (w := nI 4)).cr (by rw [oc_asset (by rw [hS]; exact hi) (by rw [hS]; omega) (by decide), hS])) (ci := 7) (hm) rfl rfl rfl (Nat.le_of_ble_eq_true rfl) ⟨by decide, by decide⟩ ⟨by show _ + 2 + 2 + 2 + 2 + 2 ≤ 2600; omega, by show _ + 12 + 12 + 12 + 12 + 12 ≤ 16000; omega⟩ ?_
                refine g_aload X rfl rfl ?_
                refine g_iconst X rfl (v := nI 3) (by decide) ?_
                refine g_ialdN X rfl hr (by decide) (by decide) ?_
                rw [show r 3 = S.2.2.1.2 4 k from hrv 3 (by decide)]
                refine g_icmp_ne X rfl (fun h => absurd rfl h) (fun _ => ?_)
                · skip
                  refine g_aload_n X rfl rfl ?_
                  refine g_iload X rfl rfl ?_
                  refine g_iconst X rfl (v := nI 5) (by decide) ?_
                  refine g_kV X rfl lcX7_asset lmX8_212 lsX7_asset ((co_X7_asset l D cy B od hl9 hV (x := nI k) (w := nI 5)).cr (by rw [oc_asset (by rw [hS]; exact hi) (by rw [hS]; omega) (by decide), hS])) (ci := 7) (hm) rfl rfl rfl (Nat.le_of_ble_eq_true rfl) ⟨by decide, by decide⟩ ⟨by show _ + 2 + 2 + 2 + 2 + 2 + 2 ≤ 2600; omega, by show _ + 12 + 12 + 12 + 12 + 12 + 12 ≤ 16000; omega⟩ ?_
                  refine g_aload X rfl rfl ?_
                  refine g_iconst X rfl (v := nI 4) (by decide) ?_
                  refine g_ialdN X rfl hr (by decide) (by decide) ?_
                  rw [show r 4 = S.2.2.1.2 5 k from hrv 4 (by decide)]
                  refine g_icmp_eq X rfl (fun _ => ?_) (fun h => absurd rfl h)
                  · skip
                    refine g_iload X rfl rfl ?_
                    refine g_aload X rfl rfl ?_
                    refine g_iconst X rfl (v := nI 3) (by decide) ?_
                    refine g_ialdN X rfl hr (by decide) (by decide) ?_
                    rw [show r 3 = S.2.2.1.2 4 k from hrv 3 (by decide)]
                    refine g_iconst X rfl (v := (-1)) (by decide) ?_
                    refine g_icmp_eq X rfl (fun h => ?_) (fun h => ?_)
                    · have hq : nI 0 = if (!(S.2.2.1.2 4 k == -1)) = true then nI 1 else nI 0 := by rw [h]; rfl
                      refine g_iconst X rfl (v := nI 0) (by decide) ?_
                      refine g_iadd X rfl ?_
                      rw [cnt_s (q := fun i => !(S.2.2.1.2 4 i == -1)) hq]
                      first | refine g_istoreS X rfl (by decide) rfl ?_ | refine g_istore X rfl (by decide) ?_
                      first | refine g_iinc1S X rfl rfl (by decide) rfl ?_ | refine g_iinc1 X rfl rfl (by decide) ?_
                      refine g_goto X rfl ?_
                      exact g_more (by show _ + 2 + 2 + 2 + 2 + 2 + 2 ≤ _; omega) (by show _ + 12 + 12 + 12 + 12 + 12 + 12 ≤ _; omega) (ih (k + 1) _ _ (by omega))
                    · have hq : nI 1 = if (!(S.2.2.1.2 4 k == -1)) = true then nI 1 else nI 0 := by rw [if_pos (by simp [h])]
                      refine g_iconst X rfl (v := nI 1) (by decide) ?_
                      refine g_goto X rfl ?_
                      refine g_iadd X rfl ?_
                      rw [cnt_s (q := fun i => !(S.2.2.1.2 4 i == -1)) hq]
                      first | refine g_istoreS X rfl (by decide) rfl ?_ | refine g_istore X rfl (by decide) ?_
                      first | refine g_iinc1S X rfl rfl (by decide) rfl ?_ | refine g_iinc1 X rfl rfl (by decide) ?_
                      refine g_goto X rfl ?_
                      exact g_more (by show _ + 2 + 2 + 2 + 2 + 2 + 2 ≤ _; omega) (by show _ + 12 + 12 + 12 + 12 + 12 + 12 ≤ _; omega) (ih (k + 1) _ _ (by omega))
  have hn8 := hR.2.1
  have lpR : ∀ (d k : Nat) (a7 a8 : Option Value), k + d = S.2.1.1 → G p l e rmX8_isAs s m args below meth c D B od 9 tX8_isAs (FinQ false D B od (fun v A' z' => v = some (.int (nI 1)) ∧ LedA cy A' W ∧ (∀ k, 231 ≤ k → ∀ x, A k = some x → A' k = some x) ∧ ∃ z1, z' = z1 + 1 ∧ z ≤ z1 ∧ z1 ≤ z + 2600 ∧ FRs A' z1) (fun _ _ => True) args s below rmX8_isAs.cells rmX8_isAs.slots) (840 + 6 * k) (5040 + 36 * k) A (z + 1) 69 [some (.ref g), some (.ref 0), some (.int (nI (cntN (eOpen S.1) S.1.1))), some (.int (nI (cntN (fun i => !(S.1.2 5 i == 0)) S.1.1))), some (.int (nI (cntN (fun i => !(S.1.2 6 i == 0)) S.1.1))), some (.int (nI (0))), some (.int (nI (k))), a7, a8] [] := by
    intro d
    induction d with
    | zero =>
      intro k a7 a8 hid
      have e : k = S.2.1.1 := by omega
      subst e
      refine g_iload X rfl rfl ?_
      refine g_aload_n X rfl rfl ?_
      refine g_get X rfl flX8_33 (ci := 8) rfl (hb.1) rfl ?_
      refine g_rV X rfl lcJx4a65c_size_8abf5 lmX8_188 lsJx4a65c_size_8abf5 (cr_size l D cy B od hR) (ci := 9) (hR.1) rfl rfl rfl (Nat.le_of_ble_eq_true rfl) ⟨⟨by decide, by decide⟩, rfl, rfl⟩ ⟨by show _ ≤ 2600; omega, by show _ ≤ 16000; omega⟩ ?_
      refine g_ic_geN X rfl (by omega) (by omega) (fun _ => ?_) (fun h => absurd h (by omega))
      · skip
        refine g_iconst X rfl (v := nI 0) (by decide) ?_
        first | refine g_istoreS X rfl (by decide) rfl ?_ | refine g_istore X rfl (by decide) ?_
        exact g_more (by omega) (by omega) (lpA S.2.2.1.1 0 _ _ (Nat.zero_add _))
    | succ d ih =>
      intro k a7 a8 hid
      have hi : k < S.2.1.1 := by omega
      obtain ⟨r, hr, hrv⟩ : ∃ r, A (L.2.2.2 1 k) = some (.inl (cy 0, 3, .inl r)) ∧ ∀ j, j < 3 → r j = S.2.1.2 j k := hb.2.2.2.1 k hi
      have inn : ∀ (d2 j : Nat), j + d2 = 3 → G p l e rmX8_isAs s m args below meth c D B od 9 tX8_isAs (FinQ false D B od (fun v A' z' => v = some (.int (nI 1)) ∧ LedA cy A' W ∧ (∀ k, 231 ≤ k → ∀ x, A k = some x → A' k = some x) ∧ ∃ z1, z' = z1 + 1 ∧ z ≤ z1 ∧ z1 ≤ z + 2600 ∧ FRs A' z1) (fun _ _ => True) args s below rmX8_isAs.cells rmX8_isAs.slots) (840 + 6 * k + 2 * j) (5040 + 36 * k + 12 * j) A (z + 1) 76 [some (.ref g), some (.ref 0), some (.int (nI (cntN (eOpen S.1) S.1.1))), some (.int (nI (cntN (fun i => !(S.1.2 5 i == 0)) S.1.1))), some (.int (nI (cntN (fun i => !(S.1.2 6 i == 0)) S.1.1))), some (.int (nI (0))), some (.int (nI (k))), some (.int (nI (j))), a8] [] := by
        intro d2
        induction d2 with
        | zero =>
          intro j hjd
          have e : j = 3 := by omega
          subst e
          refine g_iload X rfl rfl ?_
          refine g_iconst X rfl (v := nI 3) (by decide) ?_
          refine g_ic_geN X rfl (by omega) (by omega) (fun _ => ?_) (fun h => absurd h (by omega))
          · skip
            first | refine g_iinc1S X rfl rfl (by decide) rfl ?_ | refine g_iinc1 X rfl rfl (by decide) ?_
            refine g_goto X rfl ?_
            exact g_more (by omega) (by omega) (ih (k + 1) _ _ (by omega))
        | succ d2 ih2 =>
          intro j hjd
          have hj : j < 3 := by omega
          refine g_iload X rfl rfl ?_
          refine g_iconst X rfl (v := nI 3) (by decide) ?_
          refine g_ic_geN X rfl (by omega) (by omega) (fun h => absurd h (by omega)) (fun _ => ?_)
          · skip
            refine g_aload_n X rfl rfl ?_
            refine g_iload X rfl rfl ?_
            refine g_iload X rfl rfl ?_
            refine g_kV X rfl lcX7_room lmX8_209 lsX7_room ((co_X7_room l D cy B od hl9 hV (x := nI k) (w := nI j)).cr (by rw [oc_room (by rw [hS]; exact hi) (by rw [hS]; omega) hj, hS])) (ci := 7) (hm) rfl rfl rfl (Nat.le_of_ble_eq_true rfl) ⟨by decide, by decide⟩ ⟨by show _ + 2 ≤ 2600; omega, by show _ + 12 ≤ 16000; omega⟩ ?_
            refine g_aload_n X rfl rfl ?_
            refine g_get X rfl flX8_33 (ci := 8) rfl (hb.1) rfl ?_
            refine g_iload X rfl rfl ?_
            refine g_rV X rfl lcJx4a65c_get_915e3 lmX8_184 lsJx4a65c_get_915e3 (cr_get l D cy B od hR (j := k) hi) (ci := 9) (hR.1) rfl rfl rfl (Nat.le_of_ble_eq_true rfl) ⟨⟨by decide, by decide⟩, rfl, rfl⟩ ⟨by show _ + 2 ≤ 2600; omega, by show _ + 12 ≤ 16000; omega⟩ ?_
            refine g_castI X rfl clX8_62 hr ?_
            refine g_iload X rfl rfl ?_
            refine g_ialdN X rfl hr (by omega) (by decide) ?_
            rw [hrv j hj]
            refine g_icmp_eq X rfl (fun _ => ?_) (fun h => absurd rfl h)
            · skip
              first | refine g_iinc1S X rfl rfl (by decide) rfl ?_ | refine g_iinc1 X rfl rfl (by decide) ?_
              refine g_goto X rfl ?_
              exact g_more (by show _ + 2 ≤ _; omega) (by show _ + 12 ≤ _; omega) (ih2 (j + 1) (by omega))
      refine g_iload X rfl rfl ?_
      refine g_aload_n X rfl rfl ?_
      refine g_get X rfl flX8_33 (ci := 8) rfl (hb.1) rfl ?_
      refine g_rV X rfl lcJx4a65c_size_8abf5 lmX8_188 lsJx4a65c_size_8abf5 (cr_size l D cy B od hR) (ci := 9) (hR.1) rfl rfl rfl (Nat.le_of_ble_eq_true rfl) ⟨⟨by decide, by decide⟩, rfl, rfl⟩ ⟨by show _ ≤ 2600; omega, by show _ ≤ 16000; omega⟩ ?_
      refine g_ic_geN X rfl (by omega) (by omega) (fun h => absurd h (by omega)) (fun _ => ?_)
      · skip
        refine g_iconst X rfl (v := nI 0) (by decide) ?_
        first | refine g_istoreS X rfl (by decide) rfl ?_ | refine g_istore X rfl (by decide) ?_
        exact g_more (by omega) (by omega) (inn 3 0 rfl)
  have hn7 := hE.2.1
  have lpE : ∀ (d k : Nat) (a7 a8 : Option Value), k + d = S.1.1 → G p l e rmX8_isAs s m args below meth c D B od 9 tX8_isAs (FinQ false D B od (fun v A' z' => v = some (.int (nI 1)) ∧ LedA cy A' W ∧ (∀ k, 231 ≤ k → ∀ x, A k = some x → A' k = some x) ∧ ∃ z1, z' = z1 + 1 ∧ z ≤ z1 ∧ z1 ≤ z + 2600 ∧ FRs A' z1) (fun _ _ => True) args s below rmX8_isAs.cells rmX8_isAs.slots) (14 * k) (84 * k) A (z + 1) 10 [some (.ref g), some (.ref 0), some (.int (nI (cntN (eOpen S.1) k))), some (.int (nI (cntN (fun i => !(S.1.2 5 i == 0)) k))), some (.int (nI (cntN (fun i => !(S.1.2 6 i == 0)) k))), some (.int (nI (0))), some (.int (nI (k))), a7, a8] [] := by
    intro d
    induction d with
    | zero =>
      intro k a7 a8 hid
      have e : k = S.1.1 := by omega
      subst e
      refine g_iload X rfl rfl ?_
      refine g_aload_n X rfl rfl ?_
      refine g_get X rfl flX8_36 (ci := 8) rfl (hb.1) rfl ?_
      refine g_rV X rfl lcJx4a65c_size_8abf5 lmX8_188 lsJx4a65c_size_8abf5 (cr_size l D cy B od hE) (ci := 9) (hE.1) rfl rfl rfl (Nat.le_of_ble_eq_true rfl) ⟨⟨by decide, by decide⟩, rfl, rfl⟩ ⟨by show _ ≤ 2600; omega, by show _ ≤ 16000; omega⟩ ?_
      refine g_ic_geN X rfl (by omega) (by omega) (fun _ => ?_) (fun h => absurd h (by omega))
      · skip
        refine g_iconst X rfl (v := nI 0) (by decide) ?_
        first | refine g_istoreS X rfl (by decide) rfl ?_ | refine g_istore X rfl (by decide) ?_
        exact g_more (by omega) (by omega) (lpR S.2.1.1 0 _ _ (Nat.zero_add _))
    | succ d ih =>
      intro k a7 a8 hid
      have hi : k < S.1.1 := by omega
      obtain ⟨r, hr, hrv⟩ : ∃ r, A (L.2.2.2 2 k) = some (.inl (cy 0, 7, .inl r)) ∧ ∀ j, j < 7 → r j = S.1.2 j k := hb.2.2.2.2.1 k hi
      have inn : ∀ (d2 j : Nat), j + d2 = 7 → G p l e rmX8_isAs s m args below meth c D B od 9 tX8_isAs (FinQ false D B od (fun v A' z' => v = some (.int (nI 1)) ∧ LedA cy A' W ∧ (∀ k, 231 ≤ k → ∀ x, A k = some x → A' k = some x) ∧ ∃ z1, z' = z1 + 1 ∧ z ≤ z1 ∧ z1 ≤ z + 2600 ∧ FRs A' z1) (fun _ _ => True) args s below rmX8_isAs.cells rmX8_isAs.slots) (14 * k + 2 * j) (84 * k + 12 * j) A (z + 1) 23 [some (.ref g), some (.ref 0), some (.int (nI (cntN (eOpen S.1) k))), some (.int (nI (cntN (fun i => !(S.1.2 5 i == 0)) k))), some (.int (nI (cntN (fun i => !(S.1.2 6 i == 0)) k))), some (.int (nI (0))), some (.int (nI (k))), some (.ref (L.2.2.2 2 k)), some (.int (nI (j)))] [] := by
        intro d2
        induction d2 with
        | zero =>
          intro j hjd
          have e : j = 7 := by omega
          subst e
          refine g_iload X rfl rfl ?_
          refine g_bipush X rfl (v := nI 7) (by decide) ?_
          refine g_ic_geN X rfl (by omega) (by omega) (fun _ => ?_) (fun h => absurd h (by omega))
          · skip
            refine g_iload_n X rfl rfl ?_
            refine g_aload X rfl rfl ?_
            refine g_iconst X rfl (v := nI 4) (by decide) ?_
            refine g_ialdN X rfl hr (by decide) (by decide) ?_
            rw [hrv 4 (by decide)]
            refine g_iconst X rfl (v := (-1)) (by decide) ?_
            refine g_icmp_ne X rfl (fun h => ?_) (fun h => ?_)
            · have hq : nI 0 = if eOpen S.1 k = true then nI 1 else nI 0 := by rw [if_neg (by simp [eOpen, h])]
              refine g_iconst X rfl (v := nI 0) (by decide) ?_
              refine g_iadd X rfl ?_
              rw [cnt_s (q := eOpen S.1) hq]
              first | refine g_istore_nS X rfl (by decide) rfl ?_ | refine g_istore_n X rfl (by decide) ?_
              refine g_iload_n X rfl rfl ?_
              refine g_aload X rfl rfl ?_
              refine g_iconst X rfl (v := nI 5) (by decide) ?_
              refine g_ialdN X rfl hr (by decide) (by decide) ?_
              rw [hrv 5 (by decide)]
              refine g_iadd X rfl ?_
              rw [cnt_s (q := fun i => !(S.1.2 5 i == 0)) (flag_s (hfb k hi).1)]
              first | refine g_istore_nS X rfl (by decide) rfl ?_ | refine g_istore_n X rfl (by decide) ?_
              refine g_iload X rfl rfl ?_
              refine g_aload X rfl rfl ?_
              refine g_bipush X rfl (v := nI 6) (by decide) ?_
              refine g_ialdN X rfl hr (by decide) (by decide) ?_
              rw [hrv 6 (by decide)]
              refine g_iadd X rfl ?_
              rw [cnt_s (q := fun i => !(S.1.2 6 i == 0)) (flag_s (hfb k hi).2)]
              first | refine g_istoreS X rfl (by decide) rfl ?_ | refine g_istore X rfl (by decide) ?_
              first | refine g_iinc1S X rfl rfl (by decide) rfl ?_ | refine g_iinc1 X rfl rfl (by decide) ?_
              refine g_goto X rfl ?_
              exact g_more (by omega) (by omega) (ih (k + 1) _ _ (by omega))
            · skip
              refine g_aload X rfl rfl ?_
              refine g_iconst X rfl (v := nI 5) (by decide) ?_
              refine g_ialdN X rfl hr (by decide) (by decide) ?_
              rw [hrv 5 (by decide)]
              refine g_if_ne X rfl (fun h2 => ?_) (fun h2 => ?_)
              · have hq : nI 0 = if eOpen S.1 k = true then nI 1 else nI 0 := by rw [if_neg (by simp [eOpen, h2])]
                refine g_iconst X rfl (v := nI 0) (by decide) ?_
                refine g_iadd X rfl ?_
                rw [cnt_s (q := eOpen S.1) hq]
                first | refine g_istore_nS X rfl (by decide) rfl ?_ | refine g_istore_n X rfl (by decide) ?_
                refine g_iload_n X rfl rfl ?_
                refine g_aload X rfl rfl ?_
                refine g_iconst X rfl (v := nI 5) (by decide) ?_
                refine g_ialdN X rfl hr (by decide) (by decide) ?_
                rw [hrv 5 (by decide)]
                refine g_iadd X rfl ?_
                rw [cnt_s (q := fun i => !(S.1.2 5 i == 0)) (flag_s (hfb k hi).1)]
                first | refine g_istore_nS X rfl (by decide) rfl ?_ | refine g_istore_n X rfl (by decide) ?_
                refine g_iload X rfl rfl ?_
                refine g_aload X rfl rfl ?_
                refine g_bipush X rfl (v := nI 6) (by decide) ?_
                refine g_ialdN X rfl hr (by decide) (by decide) ?_
                rw [hrv 6 (by decide)]
                refine g_iadd X rfl ?_
                rw [cnt_s (q := fun i => !(S.1.2 6 i == 0)) (flag_s (hfb k hi).2)]
                first | refine g_istoreS X rfl (by decide) rfl ?_ | refine g_istore X rfl (by decide) ?_
                first | refine g_iinc1S X rfl rfl (by decide) rfl ?_ | refine g_iinc1 X rfl rfl (by decide) ?_
                refine g_goto X rfl ?_
                exact g_more (by omega) (by omega) (ih (k + 1) _ _ (by omega))
              · have hq : nI 1 = if eOpen S.1 k = true then nI 1 else nI 0 := by rw [if_pos (by simp [eOpen, h, h2])]
                refine g_iconst X rfl (v := nI 1) (by decide) ?_
                refine g_goto X rfl ?_
                refine g_iadd X rfl ?_
                rw [cnt_s (q := eOpen S.1) hq]
                first | refine g_istore_nS X rfl (by decide) rfl ?_ | refine g_istore_n X rfl (by decide) ?_
                refine g_iload_n X rfl rfl ?_
                refine g_aload X rfl rfl ?_
                refine g_iconst X rfl (v := nI 5) (by decide) ?_
                refine g_ialdN X rfl hr (by decide) (by decide) ?_
                rw [hrv 5 (by decide)]
                refine g_iadd X rfl ?_
                rw [cnt_s (q := fun i => !(S.1.2 5 i == 0)) (flag_s (hfb k hi).1)]
                first | refine g_istore_nS X rfl (by decide) rfl ?_ | refine g_istore_n X rfl (by decide) ?_
                refine g_iload X rfl rfl ?_
                refine g_aload X rfl rfl ?_
                refine g_bipush X rfl (v := nI 6) (by decide) ?_
                refine g_ialdN X rfl hr (by decide) (by decide) ?_
                rw [hrv 6 (by decide)]
                refine g_iadd X rfl ?_
                rw [cnt_s (q := fun i => !(S.1.2 6 i == 0)) (flag_s (hfb k hi).2)]
                first | refine g_istoreS X rfl (by decide) rfl ?_ | refine g_istore X rfl (by decide) ?_
                first | refine g_iinc1S X rfl rfl (by decide) rfl ?_ | refine g_iinc1 X rfl rfl (by decide) ?_
                refine g_goto X rfl ?_
                exact g_more (by omega) (by omega) (ih (k + 1) _ _ (by omega))
        | succ d2 ih2 =>
          intro j hjd
          have hj : j < 7 := by omega
          refine g_iload X rfl rfl ?_
          refine g_bipush X rfl (v := nI 7) (by decide) ?_
          refine g_ic_geN X rfl (by omega) (by omega) (fun h => absurd h (by omega)) (fun _ => ?_)
          · skip
            refine g_aload_n X rfl rfl ?_
            refine g_iload X rfl rfl ?_
            refine g_iload X rfl rfl ?_
            refine g_kV X rfl lcX7_entry lmX8_203 lsX7_entry ((co_X7_entry l D cy B od hl9 hV (x := nI k) (w := nI j)).cr (by rw [oc_entry (by rw [hS]; exact hi) (by rw [hS]; omega) hj (by rw [hS]; exact hfb), hS])) (ci := 7) (hm) rfl rfl rfl (Nat.le_of_ble_eq_true rfl) ⟨by decide, by decide⟩ ⟨by show _ + 2 ≤ 2600; omega, by show _ + 12 ≤ 16000; omega⟩ ?_
            refine g_aload X rfl rfl ?_
            refine g_iload X rfl rfl ?_
            refine g_ialdN X rfl hr (by omega) (by decide) ?_
            rw [hrv j hj]
            refine g_icmp_eq X rfl (fun _ => ?_) (fun h => absurd rfl h)
            · skip
              first | refine g_iinc1S X rfl rfl (by decide) rfl ?_ | refine g_iinc1 X rfl rfl (by decide) ?_
              refine g_goto X rfl ?_
              exact g_more (by show _ + 2 ≤ _; omega) (by show _ + 12 ≤ _; omega) (ih2 (j + 1) (by omega))
      refine g_iload X rfl rfl ?_
      refine g_aload_n X rfl rfl ?_
      refine g_get X rfl flX8_36 (ci := 8) rfl (hb.1) rfl ?_
      refine g_rV X rfl lcJx4a65c_size_8abf5 lmX8_188 lsJx4a65c_size_8abf5 (cr_size l D cy B od hE) (ci := 9) (hE.1) rfl rfl rfl (Nat.le_of_ble_eq_true rfl) ⟨⟨by decide, by decide⟩, rfl, rfl⟩ ⟨by show _ ≤ 2600; omega, by show _ ≤ 16000; omega⟩ ?_
      refine g_ic_geN X rfl (by omega) (by omega) (fun h => absurd h (by omega)) (fun _ => ?_)
      · skip
        refine g_aload_n X rfl rfl ?_
        refine g_get X rfl flX8_36 (ci := 8) rfl (hb.1) rfl ?_
        refine g_iload X rfl rfl ?_
        refine g_rV X rfl lcJx4a65c_get_915e3 lmX8_184 lsJx4a65c_get_915e3 (cr_get l D cy B od hE (j := k) hi) (ci := 9) (hE.1) rfl rfl rfl (Nat.le_of_ble_eq_true rfl) ⟨⟨by decide, by decide⟩, rfl, rfl⟩ ⟨by show _ ≤ 2600; omega, by show _ ≤ 16000; omega⟩ ?_
        refine g_castI X rfl clX8_62 hr ?_
        first | refine g_astoreS X rfl (by decide) rfl ?_ | refine g_astore X rfl (by decide) ?_
        refine g_iconst X rfl (v := nI 0) (by decide) ?_
        first | refine g_istoreS X rfl (by decide) rfl ?_ | refine g_istore X rfl (by decide) ?_
        exact g_more (by omega) (by omega) (inn 7 0 rfl)
  refine g_iconst X rfl (v := nI 0) (by decide) ?_
  first | refine g_istore_nS X rfl (by decide) rfl ?_ | refine g_istore_n X rfl (by decide) ?_
  refine g_iconst X rfl (v := nI 0) (by decide) ?_
  first | refine g_istore_nS X rfl (by decide) rfl ?_ | refine g_istore_n X rfl (by decide) ?_
  refine g_iconst X rfl (v := nI 0) (by decide) ?_
  first | refine g_istoreS X rfl (by decide) rfl ?_ | refine g_istore X rfl (by decide) ?_
  refine g_iconst X rfl (v := nI 0) (by decide) ?_
  first | refine g_istoreS X rfl (by decide) rfl ?_ | refine g_istore X rfl (by decide) ?_
  refine g_iconst X rfl (v := nI 0) (by decide) ?_
  first | refine g_istoreS X rfl (by decide) rfl ?_ | refine g_istore X rfl (by decide) ?_
  exact lpE S.1.1 0 none none (Nat.zero_add _)
