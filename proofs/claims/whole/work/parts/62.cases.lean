/-! 62: the law's cases -/
def lv0 (i : Nat) : List (Option Value) := [some (.ref 4000000), some (.ref 0), some (.ref 231), some (.ref 238), some (.ref 239), some (.int (nI i)), none, none, none]
section CORE62
variable {p : Program} {l : Launch} {e : Env} {R : Room} {s : State} {m : MethodId} {args : Array Value} {below : List Frame} {meth : Method} {c : Code}
variable {D : va_G} {cy : Nat → ClassId} {B : Nat} {od : Nat → Option Nat} {cc : ByteArray} {nL : Nat} {tab : List PT} {own : String} {ret : Option FieldType}
variable {F : State → Prop} {cells slots : Nat} {A : AH} {z i pc len nx tg : Nat} {lv lv2 : List (Option Value)} {st : List Value}
theorem G.lvw (h : ∀ (j : Nat) (v : Value), lv[j]? = some (some v) → lv2[j]? = some (some v)) (kk : G p l e R s m args below meth c D B od nL tab F cells slots A z i lv st) : G p l e R s m args below meth c D B od nL tab F cells slots A z i lv2 st :=
  fun q hq H locs ls hR hS hl => kk q hq H locs ls hR hS ⟨hl.1, hl.2.1, fun i v hv => hl.2.2 i v (h i v hv)⟩
theorem lvw6 {n : Nat} (h : ∀ j : Nat, j < 6 → lv2[j]? = (lv0 n)[j]?) : ∀ (j : Nat) (v : Value), (lv0 n)[j]? = some (some v) → lv2[j]? = some (some v) := by
  intro j v hv
  by_cases hj : j < 6
  · rw [h j hj]; exact hv
  · match j, hj, hv with
    | 0, hj, _ => exact absurd (by decide) hj
    | 1, hj, _ => exact absurd (by decide) hj
    | 2, hj, _ => exact absurd (by decide) hj
    | 3, hj, _ => exact absurd (by decide) hj
    | 4, hj, _ => exact absurd (by decide) hj
    | 5, hj, _ => exact absurd (by decide) hj
    | 6, _, hv => cases hv
    | 7, _, hv => cases hv
    | 8, _, hv => cases hv
    | j + 9, _, hv => cases hv
theorem g_iadN (X : Cx p s m args meth c D cy B od cc nL tab own ret) {a b : Nat} (hi : tab[i]? = some (pc, .iadd, 1, nx, tg)) (kk : G p l e R s m args below meth c D B od nL tab F cells slots A z nx lv (.int (nI (a + b)) :: st)) : G p l e R s m args below meth c D B od nL tab F cells slots A z i lv (.int (nI b) :: .int (nI a) :: st) :=
  g_iadd X hi (by rw [nI_add]; exact kk)
theorem g_daldN (X : Cx p s m args meth c D cy B od cc nL tab own ret) (hi : tab[i]? = some (pc, .daload, 1, nx, tg)) {a n j : Nat} {f : Nat → UInt64} (hA : A a = some (.inl (cy 3, n, .inr (.inr (.inr (.inl f)))))) (hj : j < n) (hn : n < 2 ^ 31) (kk : G p l e R s m args below meth c D B od nL tab F cells slots A z nx lv (.double (f j) :: st)) : G p l e R s m args below meth c D B od nL tab F cells slots A z i lv (.int (nI j) :: .ref a :: st) := by
  refine g_dald X hi hA (vp_in_nI hj hn) ?_
  rw [nI_clamp (by omega)]
  exact kk
end CORE62
theorem tyI {r : Value} (h : tyV 0 r) : ∃ x, r = .int x := by cases r <;> first | exact ⟨_, rfl⟩ | cases h
theorem tyL {r : Value} (h : tyV 1 r) : ∃ x, r = .long x := by cases r <;> first | exact ⟨_, rfl⟩ | cases h
theorem tyD {r : Value} (h : tyV 2 r) : ∃ x, r = .double x := by cases r <;> first | exact ⟨_, rfl⟩ | cases h
theorem cX_n0 {ex : List String} {E : String} (h : ex.length < 1000) : ¬ nI (cX ex (.inl E)) = 0 := by
  have h1 : ex.findIdx (fun x => x == E) ≤ ex.length := List.findIdx_le_length
  intro q
  have h2 := (nI_eq0 (n := cX ex (.inl E)) (by show ex.findIdx _ + 1 < _; omega)).mp q
  cases h2
theorem INV.tx {cy : Nat → ClassId} {A : AH} {W : LW} {f : MF} {mb rd r sv hy tx : Nat → Int32} (hI : INV cy A W f mb rd r sv hy) (ht : ∀ j, j < W.1.2.1 → tx j = W.2.1 j) : (∀ j, j < f.2.1.1 → mb j = tx j) ∧ ∀ j, j < f.2.1.1 → 0 ≤ tx j := by
  refine ⟨fun j hj => ?_, fun j hj => ?_⟩
  · rw [hI.2.2.1.2.1.1] at hj
    rw [ht j hj]; exact (hI.2.2.1.2.1.2 j hj).1
  · rw [hI.2.2.1.2.1.1] at hj
    obtain ⟨n, -, n2, n3⟩ := (hI.2.2.1.2.1.2 j hj).2
    rw [ht j hj, n3, Int32.le_iff_toInt_le, nI_toInt (by omega)]
    show (0 : Int) ≤ _
    omega
theorem lkL_append : LkW yL_append cL_append 8 (some .int) hhL_append 7 := ⟨cwL_append, lw_good_in (n := 138) (by decide +kernel) rfl, ⟨by decide, by decide⟩, by decide⟩
theorem lkL_truncate : LkW yL_truncate cL_truncate 4 (some .int) hhL_truncate 3 := ⟨cwL_truncate, lw_good_in (n := 138) (by decide +kernel) rfl, ⟨by decide, by decide⟩, by decide⟩
theorem lkL_load : LkW yL_load cL_load 3 (some .int) hhL_load 2 := ⟨cwL_load, lw_good_in (n := 138) (by decide +kernel) rfl, ⟨by decide, by decide⟩, by decide⟩
theorem lkL_addEntry : LkW yL_addEntry cL_addEntry 8 (some .int) hhL_addEntry 7 := ⟨cwL_addEntry, lw_good_in (n := 138) (by decide +kernel) rfl, ⟨by decide, by decide⟩, by decide⟩
theorem lkL_pay : LkW yL_pay cL_pay 5 (some .int) hhL_pay 4 := ⟨cwL_pay, lw_good_in (n := 138) (by decide +kernel) rfl, ⟨by decide, by decide⟩, by decide⟩
theorem lkL_cancel : LkW yL_cancel cL_cancel 4 (some .int) hhL_cancel 3 := ⟨cwL_cancel, lw_good_in (n := 138) (by decide +kernel) rfl, ⟨by decide, by decide⟩, by decide⟩
theorem lkL_addRoom : LkW yL_addRoom cL_addRoom 4 (some .int) hhL_addRoom 3 := ⟨cwL_addRoom, lw_good_in (n := 138) (by decide +kernel) rfl, ⟨by decide, by decide⟩, by decide⟩
theorem lkL_setOffice : LkW yL_setOffice cL_setOffice 6 (some .int) hhL_setOffice 5 := ⟨cwL_setOffice, lw_good_in (n := 138) (by decide +kernel) rfl, ⟨by decide, by decide⟩, by decide⟩
theorem lkL_addAsset : LkW yL_addAsset cL_addAsset 6 (some .int) hhL_addAsset 5 := ⟨cwL_addAsset, lw_good_in (n := 138) (by decide +kernel) rfl, ⟨by decide, by decide⟩, by decide⟩
theorem lkL_sellAsset : LkW yL_sellAsset cL_sellAsset 6 (some .int) hhL_sellAsset 5 := ⟨cwL_sellAsset, lw_good_in (n := 138) (by decide +kernel) rfl, ⟨by decide, by decide⟩, by decide⟩
theorem lkL_closeQuarter : LkW yL_closeQuarter cL_closeQuarter 3 (some .int) hhL_closeQuarter 2 := ⟨cwL_closeQuarter, lw_good_in (n := 138) (by decide +kernel) rfl, ⟨by decide, by decide⟩, by decide⟩
theorem lkL_setStart : LkW yL_setStart cL_setStart 4 (some .int) hhL_setStart 3 := ⟨cwL_setStart, lw_good_in (n := 138) (by decide +kernel) rfl, ⟨by decide, by decide⟩, by decide⟩
theorem lkL_undo : LkW yL_undo cL_undo 3 (some .int) hhL_undo 2 := ⟨cwL_undo, lw_good_in (n := 138) (by decide +kernel) rfl, ⟨by decide, by decide⟩, by decide⟩
theorem lkL_restore : LkW yL_restore cL_restore 3 (some .int) hhL_restore 2 := ⟨cwL_restore, lw_good_in (n := 138) (by decide +kernel) rfl, ⟨by decide, by decide⟩, by decide⟩
theorem lkL_count : LkW yL_count cL_count 4 (some .int) hhL_count 3 := ⟨cwL_count, lw_good_in (n := 138) (by decide +kernel) rfl, ⟨by decide, by decide⟩, by decide⟩
theorem lkL_entry : LkW yL_entry cL_entry 5 (some .int) hhL_entry 4 := ⟨cwL_entry, lw_good_in (n := 138) (by decide +kernel) rfl, ⟨by decide, by decide⟩, by decide⟩
theorem lkL_deductible : LkW yL_deductible cL_deductible 4 (some .int) hhL_deductible 3 := ⟨cwL_deductible, lw_good_in (n := 138) (by decide +kernel) rfl, ⟨by decide, by decide⟩, by decide⟩
theorem lkL_total : LkW yL_total cL_total 6 (some .int) hhL_total 5 := ⟨cwL_total, lw_good_in (n := 138) (by decide +kernel) rfl, ⟨by decide, by decide⟩, by decide⟩
theorem lkL_byCategory : LkW yL_byCategory cL_byCategory 5 (some .int) hhL_byCategory 4 := ⟨cwL_byCategory, lw_good_in (n := 138) (by decide +kernel) rfl, ⟨by decide, by decide⟩, by decide⟩
theorem lkL_open : LkW yL_open cL_open 4 (some .int) hhL_open 3 := ⟨cwL_open, lw_good_in (n := 138) (by decide +kernel) rfl, ⟨by decide, by decide⟩, by decide⟩
theorem lkL_oldestOpen : LkW yL_oldestOpen cL_oldestOpen 3 (some .int) hhL_oldestOpen 2 := ⟨cwL_oldestOpen, lw_good_in (n := 138) (by decide +kernel) rfl, ⟨by decide, by decide⟩, by decide⟩
theorem lkL_room : LkW yL_room cL_room 5 (some .int) hhL_room 4 := ⟨cwL_room, lw_good_in (n := 138) (by decide +kernel) rfl, ⟨by decide, by decide⟩, by decide⟩
theorem lkL_share : LkW yL_share cL_share 5 (some .int) hhL_share 4 := ⟨cwL_share, lw_good_in (n := 138) (by decide +kernel) rfl, ⟨by decide, by decide⟩, by decide⟩
theorem lkL_asset : LkW yL_asset cL_asset 5 (some .int) hhL_asset 4 := ⟨cwL_asset, lw_good_in (n := 138) (by decide +kernel) rfl, ⟨by decide, by decide⟩, by decide⟩
theorem lkL_written : LkW yL_written cL_written 5 (some .int) hhL_written 4 := ⟨cwL_written, lw_good_in (n := 138) (by decide +kernel) rfl, ⟨by decide, by decide⟩, by decide⟩
theorem lkL_bookValue : LkW yL_bookValue cL_bookValue 5 (some .int) hhL_bookValue 4 := ⟨cwL_bookValue, lw_good_in (n := 138) (by decide +kernel) rfl, ⟨by decide, by decide⟩, by decide⟩
theorem lkL_pool : LkW yL_pool cL_pool 4 (some .int) hhL_pool 3 := ⟨cwL_pool, lw_good_in (n := 138) (by decide +kernel) rfl, ⟨by decide, by decide⟩, by decide⟩
theorem lkL_poolWritten : LkW yL_poolWritten cL_poolWritten 4 (some .int) hhL_poolWritten 3 := ⟨cwL_poolWritten, lw_good_in (n := 138) (by decide +kernel) rfl, ⟨by decide, by decide⟩, by decide⟩
theorem lkL_profit : LkW yL_profit cL_profit 4 (some .int) hhL_profit 3 := ⟨cwL_profit, lw_good_in (n := 138) (by decide +kernel) rfl, ⟨by decide, by decide⟩, by decide⟩
theorem lkL_profitTo : LkW yL_profitTo cL_profitTo 4 (some .int) hhL_profitTo 3 := ⟨cwL_profitTo, lw_good_in (n := 138) (by decide +kernel) rfl, ⟨by decide, by decide⟩, by decide⟩
theorem lkL_prepayment : LkW yL_prepayment cL_prepayment 4 (some .int) hhL_prepayment 3 := ⟨cwL_prepayment, lw_good_in (n := 138) (by decide +kernel) rfl, ⟨by decide, by decide⟩, by decide⟩
theorem lkL_recomputed : LkW yL_recomputed cL_recomputed 4 (some .int) hhL_recomputed 3 := ⟨cwL_recomputed, lw_good_in (n := 138) (by decide +kernel) rfl, ⟨by decide, by decide⟩, by decide⟩
theorem lkL_correction : LkW yL_correction cL_correction 4 (some .int) hhL_correction 3 := ⟨cwL_correction, lw_good_in (n := 138) (by decide +kernel) rfl, ⟨by decide, by decide⟩, by decide⟩
theorem lkL_settlement : LkW yL_settlement cL_settlement 3 (some .int) hhL_settlement 2 := ⟨cwL_settlement, lw_good_in (n := 138) (by decide +kernel) rfl, ⟨by decide, by decide⟩, by decide⟩
theorem lkL_effectiveRate : LkW yL_effectiveRate cL_effectiveRate 3 (some .int) hhL_effectiveRate 2 := ⟨cwL_effectiveRate, lw_good_in (n := 138) (by decide +kernel) rfl, ⟨by decide, by decide⟩, by decide⟩
theorem lkL_whatIf : LkW yL_whatIf cL_whatIf 6 (some .int) hhL_whatIf 5 := ⟨cwL_whatIf, lw_good_in (n := 138) (by decide +kernel) rfl, ⟨by decide, by decide⟩, by decide⟩
theorem lkL_neededIncome : LkW yL_neededIncome cL_neededIncome 4 (some .int) hhL_neededIncome 3 := ⟨cwL_neededIncome, lw_good_in (n := 138) (by decide +kernel) rfl, ⟨by decide, by decide⟩, by decide⟩
theorem lkL_balance : LkW yL_balance cL_balance 4 (some .int) hhL_balance 3 := ⟨cwL_balance, lw_good_in (n := 138) (by decide +kernel) rfl, ⟨by decide, by decide⟩, by decide⟩
theorem bmSt_v9 (V : LV) (n : Nat) : bmSt (V9 (vZ V) (vS V)) n = bmSt V n := by
  induction n with
  | zero => rfl
  | succ k ih => simp only [bmSt, ih]
def tC_0 : List PT := [(252, .aload_n 1, 1, 1, 0), (253, .aload_n 0, 1, 2, 0), (254, .iload 5, 2, 3, 0), (256, .iconst 1, 1, 4, 0), (257, .iadd, 1, 5, 0), (258, .iaload, 1, 6, 0), (259, .aload_n 0, 1, 7, 0), (260, .iload 5, 2, 8, 0), (262, .iconst 2, 1, 9, 0), (263, .iadd, 1, 10, 0), (264, .iaload, 1, 11, 0), (265, .aload_n 0, 1, 12, 0), (266, .iload 5, 2, 13, 0), (268, .iconst 3, 1, 14, 0), (269, .iadd, 1, 15, 0), (270, .iaload, 1, 16, 0), (271, .aload_n 0, 1, 17, 0), (272, .iload 5, 2, 18, 0), (274, .iconst 4, 1, 19, 0), (275, .iadd, 1, 20, 0), (276, .iaload, 1, 21, 0), (277, .aload_n 0, 1, 22, 0), (278, .iload 5, 2, 23, 0), (280, .iconst 5, 1, 24, 0), (281, .iadd, 1, 25, 0), (282, .iaload, 1, 26, 0), (283, .aload_n 3, 1, 27, 0), (284, .invokestatic 146, 3, 28, 0), (287, .istore 6, 2, 29, 0), (289, .aload_n 2, 1, 30, 0), (290, .aload_n 0, 1, 31, 0), (291, .iload 5, 2, 32, 0), (293, .iconst 1, 1, 33, 0), (294, .iadd, 1, 34, 0), (295, .iaload, 1, 35, 0), (296, .aload_n 0, 1, 36, 0), (297, .iload 5, 2, 37, 0), (299, .iconst 2, 1, 38, 0), (300, .iadd, 1, 39, 0), (301, .iaload, 1, 40, 0), (302, .aload_n 0, 1, 41, 0), (303, .iload 5, 2, 42, 0), (305, .iconst 3, 1, 43, 0), (306, .iadd, 1, 44, 0), (307, .iaload, 1, 45, 0), (308, .aload_n 0, 1, 46, 0), (309, .iload 5, 2, 47, 0), (311, .iconst 4, 1, 48, 0), (312, .iadd, 1, 49, 0), (313, .iaload, 1, 50, 0), (314, .aload_n 0, 1, 51, 0), (315, .iload 5, 2, 52, 0), (317, .iconst 5, 1, 53, 0), (318, .iadd, 1, 54, 0), (319, .iaload, 1, 55, 0), (320, .invokevirtual 151, 3, 56, 0), (323, .istore 7, 2, 57, 0), (325, .aload_n 2, 1, 58, 0), (326, .invokevirtual 152, 3, 59, 0), (329, .iload 6, 2, 60, 0), (331, .if_icmp .eq 5, 3, 61, 63), (334, .iconst 0, 1, 62, 0), (335, .ireturn, 1, 63, 0), (336, .iload 6, 2, 64, 0), (338, .ifCond .ne 15, 3, 65, 74), (341, .aload_n 3, 1, 66, 0), (342, .iconst 0, 1, 67, 0), (343, .laload, 1, 68, 0), (344, .iload 7, 2, 69, 0), (346, .i2l, 1, 70, 0), (347, .lcmp, 1, 71, 0), (348, .ifCond .eq 5, 3, 72, 74), (351, .iconst 0, 1, 73, 0), (352, .ireturn, 1, 74, 0), (353, .goto 2469, 3, 0, 75), (2822, .iinc 5 6, 3, 76, 0), (2825, .goto (-2797), 3, 89, 77), (28, .iload 5, 2, 78, 0), (30, .aload_n 0, 1, 79, 0), (31, .arraylength, 1, 80, 0), (32, .bipush 6, 2, 81, 0), (34, .isub, 1, 82, 0), (35, .if_icmp .gt 2793, 3, 83, 89), (38, .aload_n 0, 1, 84, 0), (39, .iload 5, 2, 85, 0), (41, .iaload, 1, 86, 0), (42, .bipush 63, 2, 87, 0), (44, .iand, 1, 88, 0), (45, .tableswitch 2777 0 47 #[207, 311, 367, 380, 424, 528, 596, 652, 708, 788, 868, 948, 992, 1048, 1092, 1105, 1118, 1162, 1218, 1286, 1342, 1421, 1504, 1559, 1603, 1671, 1755, 1823, 1891, 1959, 2015, 2071, 2126, 2181, 2207, 2232, 2246, 2302, 2358, 2414, 2457, 2471, 2536, 2615, 2671, 2726, 2739, 2764], 207, 0, 0), (2828, .iconst 1, 1, 90, 0), (2829, .ireturn, 1, 0, 0)]
set_option maxRecDepth 100000 in
theorem okC_0 : OkTab cL_law tC_0 := ⟨by decide +kernel, by decide +kernel⟩
theorem lmW_146 : LkM RL 146 yL_append := lw_good_in (n := 759) (by decide +kernel) rfl
theorem lmW_151 : LkM RL 151 yX8_append := lw_good_in (n := 1360) (by decide +kernel) rfl
theorem lmW_152 : LkM RL 152 yX8_thrown := lw_good_in (n := 1356) (by decide +kernel) rfl
set_option maxRecDepth 100000 in
set_option maxHeartbeats 1000000 in
theorem law_0 (l : Launch) (D : va_G) (cy : Nat → ClassId) (B : Nat) (od : Nat → Option Nat) {p : Program} {e : Env} {s : State} {m : MethodId} {args : Array Value} {below : List Frame} {meth : Method} {c : Code} {F : State → Prop} {cells slots : Nat} {A : AH} {L i : Nat} {xs : Nat → Int32} {W : LW} {f : MF} {mb rd r sv hy : Nat → Int32} (hl9 : l.stackTraces = false) (X : Cx p s m args meth c D cy B od cL_law 9 tC_0 RL (some .boolean)) (hs : SCR B od L xs s) (hL : L ≤ 3072) (hi : i + 5 < L) (hI : INV cy A W f mb rd r sv hy) (hcap : cells + 3 ≤ 601024 ∧ slots + 18 ≤ 7293034) (kk : ∀ A9, (∃ w, SOK cy A9 w) → G p l e room_1 s m args below meth c D B od 9 tC_0 F (cells + 3) (slots + 18) A9 0 75 (lv0 i) []) : G p l e room_1 s m args below meth c D B od 9 tC_0 F cells slots A 0 0 (lv0 i) [] := by
  obtain ⟨fs0, ho0⟩ := hI.o0
  unfold lv0
  obtain ⟨Qr, Qx, hC, hT, hE, hA, hB⟩ := pr_append l D cy B od hl9 hI (x0 := xs (i + 1)) (x1 := xs (i + 2)) (x2 := xs (i + 3)) (x3 := xs (i + 4)) (x4 := xs (i + 5))
  refine g_aload_n X rfl rfl ?_
  refine g_aload_n X rfl rfl ?_
  refine g_iload X rfl rfl ?_
  refine g_iconst X rfl (v := nI 1) (by decide) ?_
  refine g_iadN X rfl ?_
  refine g_sld X hs rfl (by omega) (by omega) ?_
  refine g_aload_n X rfl rfl ?_
  refine g_iload X rfl rfl ?_
  refine g_iconst X rfl (v := nI 2) (by decide) ?_
  refine g_iadN X rfl ?_
  refine g_sld X hs rfl (by omega) (by omega) ?_
  refine g_aload_n X rfl rfl ?_
  refine g_iload X rfl rfl ?_
  refine g_iconst X rfl (v := nI 3) (by decide) ?_
  refine g_iadN X rfl ?_
  refine g_sld X hs rfl (by omega) (by omega) ?_
  refine g_aload_n X rfl rfl ?_
  refine g_iload X rfl rfl ?_
  refine g_iconst X rfl (v := nI 4) (by decide) ?_
  refine g_iadN X rfl ?_
  refine g_sld X hs rfl (by omega) (by omega) ?_
  refine g_aload_n X rfl rfl ?_
  refine g_iload X rfl rfl ?_
  refine g_iconst X rfl (v := nI 5) (by decide) ?_
  refine g_iadN X rfl ?_
  refine g_sld X hs rfl (by omega) (by omega) ?_
  refine g_aload_n X rfl rfl ?_
  refine g_hp X rfl lkL_append lmW_146 stL_append (hp_L_append l D cy B od (hC 0) ho0 (fun r A1 h => ⟨tyI (hT r A1 h).1, (hT r A1 h).2.1⟩) hE) rfl rfl (Nat.le_of_ble_eq_true rfl) ⟨Nat.le_of_ble_eq_true rfl, Nat.le_of_ble_eq_true rfl⟩ ⟨Nat.le_trans (Nat.add_le_add_left (show rmL_append.cells ≤ 3 by decide) _) hcap.1, Nat.le_trans (Nat.add_le_add_left (show rmL_append.slots ≤ 18 by decide) _) hcap.2⟩ (fun v1 A1 z1 q1 => ?_)
  have hcp : cells + rmL_append.cells ≤ room_1.cells ∧ slots + rmL_append.slots ≤ room_1.slots := ⟨Nat.le_trans (Nat.add_le_add_left (show rmL_append.cells ≤ 3 by decide) _) hcap.1, Nat.le_trans (Nat.add_le_add_left (show rmL_append.slots ≤ 18 by decide) _) hcap.2⟩
  refine g_z0 ?_
  rcases q1 with ⟨r9, A2, g, hQ, rfl, hg, rfl⟩ | ⟨E, hx, hm, rfl⟩
  · obtain ⟨x9, rfl⟩ := tyI (hT r9 A2 hQ).1
    obtain ⟨⟨f3, hf3⟩, hMd⟩ := hA _ A2 _ hQ (Or.inl ⟨rfl, g, rfl⟩)
    refine g_istore X rfl (by decide) ?_
    refine g_aload_n X rfl rfl ?_
    refine g_aload_n X rfl rfl ?_
    refine g_iload X rfl rfl ?_
    refine g_iconst X rfl (v := nI 1) (by decide) ?_
    refine g_iadN X rfl ?_
    refine g_sld X hs rfl (by omega) (by omega) ?_
    refine g_aload_n X rfl rfl ?_
    refine g_iload X rfl rfl ?_
    refine g_iconst X rfl (v := nI 2) (by decide) ?_
    refine g_iadN X rfl ?_
    refine g_sld X hs rfl (by omega) (by omega) ?_
    refine g_aload_n X rfl rfl ?_
    refine g_iload X rfl rfl ?_
    refine g_iconst X rfl (v := nI 3) (by decide) ?_
    refine g_iadN X rfl ?_
    refine g_sld X hs rfl (by omega) (by omega) ?_
    refine g_aload_n X rfl rfl ?_
    refine g_iload X rfl rfl ?_
    refine g_iconst X rfl (v := nI 4) (by decide) ?_
    refine g_iadN X rfl ?_
    refine g_sld X hs rfl (by omega) (by omega) ?_
    refine g_aload_n X rfl rfl ?_
    refine g_iload X rfl rfl ?_
    refine g_iconst X rfl (v := nI 5) (by decide) ?_
    refine g_iadN X rfl ?_
    refine g_sld X hs rfl (by omega) (by omega) ?_
    refine g_mV X rfl lcX8_append lmW_151 lsX8_append hMd (ci := 8) hf3 rfl rfl rfl (Nat.le_of_ble_eq_true rfl) ⟨⟨Nat.le_of_ble_eq_true rfl, Nat.le_of_ble_eq_true rfl⟩, rfl, rfl⟩ hcp (fun v2 A3 q2 => ?_)
    obtain ⟨rfl, hS, ho3⟩ := q2
    obtain ⟨W3, f4, mb3, rd3, r3, sv3, hy3, hJ, hw⟩ := id hS
    refine g_istore X rfl (by decide) ?_
    refine g_aload_n X rfl rfl ?_
    refine g_rV X rfl lcX8_thrown lmW_152 lsX8_thrown (cr_X8_thrown l D cy B od hJ.2.1.1) (ci := 8) hJ.2.1.1 rfl rfl rfl (Nat.le_of_ble_eq_true rfl) ⟨⟨Nat.le_of_ble_eq_true rfl, Nat.le_of_ble_eq_true rfl⟩, rfl, rfl⟩ hcp ?_
    rw [hw]
    refine g_iload X rfl rfl ?_
    refine g_icmp_eq X rfl (fun _ => ?_) (fun q => absurd rfl q)
    refine g_iload X rfl rfl ?_
    refine g_if_ne X rfl (fun q => absurd nI_0 q) (fun _ => ?_)
    refine g_aload_n X rfl rfl ?_
    refine g_iconst X rfl (v := nI 0) (by decide) ?_
    refine g_laldN X rfl ho3 (by decide) (by decide) ?_
    refine g_iload X rfl rfl ?_
    refine g_i2l X rfl ?_
    refine g_l_eq X rfl rfl (fun _ => ?_) (fun q => absurd hg q)
    refine g_goto X rfl ?_
    refine g_wid (k := cells + 3) (n := slots + 18) (Nat.add_le_add_left (Nat.le_of_ble_eq_true rfl) _) (Nat.add_le_add_left (Nat.le_of_ble_eq_true rfl) _) ?_
    exact G.lvw (lvw6 (fun j hj => match j, hj with | 0, _ => rfl | 1, _ => rfl | 2, _ => rfl | 3, _ => rfl | 4, _ => rfl | 5, _ => rfl | j + 6, h => absurd h (by omega))) (kk _ ⟨_, hS⟩)
  · obtain ⟨⟨f3, hf3⟩, hMd⟩ := hB E A1 hx
    refine g_istore X rfl (by decide) ?_
    refine g_aload_n X rfl rfl ?_
    refine g_aload_n X rfl rfl ?_
    refine g_iload X rfl rfl ?_
    refine g_iconst X rfl (v := nI 1) (by decide) ?_
    refine g_iadN X rfl ?_
    refine g_sld X hs rfl (by omega) (by omega) ?_
    refine g_aload_n X rfl rfl ?_
    refine g_iload X rfl rfl ?_
    refine g_iconst X rfl (v := nI 2) (by decide) ?_
    refine g_iadN X rfl ?_
    refine g_sld X hs rfl (by omega) (by omega) ?_
    refine g_aload_n X rfl rfl ?_
    refine g_iload X rfl rfl ?_
    refine g_iconst X rfl (v := nI 3) (by decide) ?_
    refine g_iadN X rfl ?_
    refine g_sld X hs rfl (by omega) (by omega) ?_
    refine g_aload_n X rfl rfl ?_
    refine g_iload X rfl rfl ?_
    refine g_iconst X rfl (v := nI 4) (by decide) ?_
    refine g_iadN X rfl ?_
    refine g_sld X hs rfl (by omega) (by omega) ?_
    refine g_aload_n X rfl rfl ?_
    refine g_iload X rfl rfl ?_
    refine g_iconst X rfl (v := nI 5) (by decide) ?_
    refine g_iadN X rfl ?_
    refine g_sld X hs rfl (by omega) (by omega) ?_
    refine g_mV X rfl lcX8_append lmW_151 lsX8_append hMd (ci := 8) hf3 rfl rfl rfl (Nat.le_of_ble_eq_true rfl) ⟨⟨Nat.le_of_ble_eq_true rfl, Nat.le_of_ble_eq_true rfl⟩, rfl, rfl⟩ hcp (fun v2 A3 q2 => ?_)
    obtain ⟨⟨d9, hd9, rfl⟩, hS⟩ := q2
    obtain ⟨x9, rfl⟩ := tyI hd9
    obtain ⟨W3, f4, mb3, rd3, r3, sv3, hy3, hJ, hw⟩ := id hS
    refine g_istore X rfl (by decide) ?_
    refine g_aload_n X rfl rfl ?_
    refine g_rV X rfl lcX8_thrown lmW_152 lsX8_thrown (cr_X8_thrown l D cy B od hJ.2.1.1) (ci := 8) hJ.2.1.1 rfl rfl rfl (Nat.le_of_ble_eq_true rfl) ⟨⟨Nat.le_of_ble_eq_true rfl, Nat.le_of_ble_eq_true rfl⟩, rfl, rfl⟩ hcp ?_
    rw [hw]
    refine g_iload X rfl rfl ?_
    refine g_icmp_eq X rfl (fun _ => ?_) (fun q => absurd rfl q)
    refine g_iload X rfl rfl ?_
    refine g_if_ne X rfl (fun _ => ?_) (fun q => absurd q (cX_n0 (by decide)))
    refine g_goto X rfl ?_
    refine g_wid (k := cells + 3) (n := slots + 18) (Nat.add_le_add_left (Nat.le_of_ble_eq_true rfl) _) (Nat.add_le_add_left (Nat.le_of_ble_eq_true rfl) _) ?_
    exact G.lvw (lvw6 (fun j hj => match j, hj with | 0, _ => rfl | 1, _ => rfl | 2, _ => rfl | 3, _ => rfl | 4, _ => rfl | 5, _ => rfl | j + 6, h => absurd h (by omega))) (kk _ ⟨_, hS⟩)
def tC_1 : List PT := [(356, .aload_n 1, 1, 1, 0), (357, .aload_n 0, 1, 2, 0), (358, .iload 5, 2, 3, 0), (360, .iconst 1, 1, 4, 0), (361, .iadd, 1, 5, 0), (362, .iaload, 1, 6, 0), (363, .aload_n 3, 1, 7, 0), (364, .invokestatic 155, 3, 8, 0), (367, .istore 6, 2, 9, 0), (369, .aload_n 2, 1, 10, 0), (370, .aload_n 0, 1, 11, 0), (371, .iload 5, 2, 12, 0), (373, .iconst 1, 1, 13, 0), (374, .iadd, 1, 14, 0), (375, .iaload, 1, 15, 0), (376, .invokevirtual 158, 3, 16, 0), (379, .istore 7, 2, 17, 0), (381, .aload_n 2, 1, 18, 0), (382, .invokevirtual 152, 3, 19, 0), (385, .iload 6, 2, 20, 0), (387, .if_icmp .eq 5, 3, 21, 23), (390, .iconst 0, 1, 22, 0), (391, .ireturn, 1, 23, 0), (392, .iload 6, 2, 24, 0), (394, .ifCond .ne 15, 3, 25, 34), (397, .aload_n 3, 1, 26, 0), (398, .iconst 0, 1, 27, 0), (399, .laload, 1, 28, 0), (400, .iload 7, 2, 29, 0), (402, .i2l, 1, 30, 0), (403, .lcmp, 1, 31, 0), (404, .ifCond .eq 5, 3, 32, 34), (407, .iconst 0, 1, 33, 0), (408, .ireturn, 1, 34, 0), (409, .goto 2413, 3, 0, 35), (2822, .iinc 5 6, 3, 36, 0), (2825, .goto (-2797), 3, 49, 37), (28, .iload 5, 2, 38, 0), (30, .aload_n 0, 1, 39, 0), (31, .arraylength, 1, 40, 0), (32, .bipush 6, 2, 41, 0), (34, .isub, 1, 42, 0), (35, .if_icmp .gt 2793, 3, 43, 49), (38, .aload_n 0, 1, 44, 0), (39, .iload 5, 2, 45, 0), (41, .iaload, 1, 46, 0), (42, .bipush 63, 2, 47, 0), (44, .iand, 1, 48, 0), (45, .tableswitch 2777 0 47 #[207, 311, 367, 380, 424, 528, 596, 652, 708, 788, 868, 948, 992, 1048, 1092, 1105, 1118, 1162, 1218, 1286, 1342, 1421, 1504, 1559, 1603, 1671, 1755, 1823, 1891, 1959, 2015, 2071, 2126, 2181, 2207, 2232, 2246, 2302, 2358, 2414, 2457, 2471, 2536, 2615, 2671, 2726, 2739, 2764], 207, 0, 0), (2828, .iconst 1, 1, 50, 0), (2829, .ireturn, 1, 0, 0)]
set_option maxRecDepth 100000 in
theorem okC_1 : OkTab cL_law tC_1 := ⟨by decide +kernel, by decide +kernel⟩
theorem lmW_155 : LkM RL 155 yL_truncate := lw_good_in (n := 845) (by decide +kernel) rfl
theorem lmW_158 : LkM RL 158 yX8_truncate := lw_good_in (n := 1371) (by decide +kernel) rfl
set_option maxRecDepth 100000 in
set_option maxHeartbeats 1000000 in
theorem law_1 (l : Launch) (D : va_G) (cy : Nat → ClassId) (B : Nat) (od : Nat → Option Nat) {p : Program} {e : Env} {s : State} {m : MethodId} {args : Array Value} {below : List Frame} {meth : Method} {c : Code} {F : State → Prop} {cells slots : Nat} {A : AH} {L i : Nat} {xs : Nat → Int32} {W : LW} {f : MF} {mb rd r sv hy : Nat → Int32} (hl9 : l.stackTraces = false) (X : Cx p s m args meth c D cy B od cL_law 9 tC_1 RL (some .boolean)) (hs : SCR B od L xs s) (hL : L ≤ 3072) (hi : i + 5 < L) (hI : INV cy A W f mb rd r sv hy) (hcap : cells + 3 ≤ 601024 ∧ slots + 18 ≤ 7293034) (kk : ∀ A9, (∃ w, SOK cy A9 w) → G p l e room_1 s m args below meth c D B od 9 tC_1 F (cells + 3) (slots + 18) A9 0 35 (lv0 i) []) : G p l e room_1 s m args below meth c D B od 9 tC_1 F cells slots A 0 0 (lv0 i) [] := by
  obtain ⟨fs0, ho0⟩ := hI.o0
  unfold lv0
  obtain ⟨Qr, Qx, hC, hT, hE, hA, hB⟩ := pr_truncate l D cy B od hl9 hI (x0 := xs (i + 1))
  refine g_aload_n X rfl rfl ?_
  refine g_aload_n X rfl rfl ?_
  refine g_iload X rfl rfl ?_
  refine g_iconst X rfl (v := nI 1) (by decide) ?_
  refine g_iadN X rfl ?_
  refine g_sld X hs rfl (by omega) (by omega) ?_
  refine g_aload_n X rfl rfl ?_
  refine g_hp X rfl lkL_truncate lmW_155 stL_truncate (hp_L_truncate l D cy B od (hC 0) ho0 (fun r A1 h => ⟨tyI (hT r A1 h).1, (hT r A1 h).2.1⟩) hE) rfl rfl (Nat.le_of_ble_eq_true rfl) ⟨Nat.le_of_ble_eq_true rfl, Nat.le_of_ble_eq_true rfl⟩ ⟨Nat.le_trans (Nat.add_le_add_left (show rmL_truncate.cells ≤ 3 by decide) _) hcap.1, Nat.le_trans (Nat.add_le_add_left (show rmL_truncate.slots ≤ 18 by decide) _) hcap.2⟩ (fun v1 A1 z1 q1 => ?_)
  have hcp : cells + rmL_truncate.cells ≤ room_1.cells ∧ slots + rmL_truncate.slots ≤ room_1.slots := ⟨Nat.le_trans (Nat.add_le_add_left (show rmL_truncate.cells ≤ 3 by decide) _) hcap.1, Nat.le_trans (Nat.add_le_add_left (show rmL_truncate.slots ≤ 18 by decide) _) hcap.2⟩
  refine g_z0 ?_
  rcases q1 with ⟨r9, A2, g, hQ, rfl, hg, rfl⟩ | ⟨E, hx, hm, rfl⟩
  · obtain ⟨x9, rfl⟩ := tyI (hT r9 A2 hQ).1
    obtain ⟨⟨f3, hf3⟩, hMd⟩ := hA _ A2 _ hQ (Or.inl ⟨rfl, g, rfl⟩)
    refine g_istore X rfl (by decide) ?_
    refine g_aload_n X rfl rfl ?_
    refine g_aload_n X rfl rfl ?_
    refine g_iload X rfl rfl ?_
    refine g_iconst X rfl (v := nI 1) (by decide) ?_
    refine g_iadN X rfl ?_
    refine g_sld X hs rfl (by omega) (by omega) ?_
    refine g_mV X rfl lcX8_truncate lmW_158 lsX8_truncate hMd (ci := 8) hf3 rfl rfl rfl (Nat.le_of_ble_eq_true rfl) ⟨⟨Nat.le_of_ble_eq_true rfl, Nat.le_of_ble_eq_true rfl⟩, rfl, rfl⟩ hcp (fun v2 A3 q2 => ?_)
    obtain ⟨rfl, hS, ho3⟩ := q2
    obtain ⟨W3, f4, mb3, rd3, r3, sv3, hy3, hJ, hw⟩ := id hS
    refine g_istore X rfl (by decide) ?_
    refine g_aload_n X rfl rfl ?_
    refine g_rV X rfl lcX8_thrown lmW_152 lsX8_thrown (cr_X8_thrown l D cy B od hJ.2.1.1) (ci := 8) hJ.2.1.1 rfl rfl rfl (Nat.le_of_ble_eq_true rfl) ⟨⟨Nat.le_of_ble_eq_true rfl, Nat.le_of_ble_eq_true rfl⟩, rfl, rfl⟩ hcp ?_
    rw [hw]
    refine g_iload X rfl rfl ?_
    refine g_icmp_eq X rfl (fun _ => ?_) (fun q => absurd rfl q)
    refine g_iload X rfl rfl ?_
    refine g_if_ne X rfl (fun q => absurd nI_0 q) (fun _ => ?_)
    refine g_aload_n X rfl rfl ?_
    refine g_iconst X rfl (v := nI 0) (by decide) ?_
    refine g_laldN X rfl ho3 (by decide) (by decide) ?_
    refine g_iload X rfl rfl ?_
    refine g_i2l X rfl ?_
    refine g_l_eq X rfl rfl (fun _ => ?_) (fun q => absurd hg q)
    refine g_goto X rfl ?_
    refine g_wid (k := cells + 3) (n := slots + 18) (Nat.add_le_add_left (Nat.le_of_ble_eq_true rfl) _) (Nat.add_le_add_left (Nat.le_of_ble_eq_true rfl) _) ?_
    exact G.lvw (lvw6 (fun j hj => match j, hj with | 0, _ => rfl | 1, _ => rfl | 2, _ => rfl | 3, _ => rfl | 4, _ => rfl | 5, _ => rfl | j + 6, h => absurd h (by omega))) (kk _ ⟨_, hS⟩)
  · obtain ⟨⟨f3, hf3⟩, hMd⟩ := hB E A1 hx
    refine g_istore X rfl (by decide) ?_
    refine g_aload_n X rfl rfl ?_
    refine g_aload_n X rfl rfl ?_
    refine g_iload X rfl rfl ?_
    refine g_iconst X rfl (v := nI 1) (by decide) ?_
    refine g_iadN X rfl ?_
    refine g_sld X hs rfl (by omega) (by omega) ?_
    refine g_mV X rfl lcX8_truncate lmW_158 lsX8_truncate hMd (ci := 8) hf3 rfl rfl rfl (Nat.le_of_ble_eq_true rfl) ⟨⟨Nat.le_of_ble_eq_true rfl, Nat.le_of_ble_eq_true rfl⟩, rfl, rfl⟩ hcp (fun v2 A3 q2 => ?_)
    obtain ⟨⟨d9, hd9, rfl⟩, hS⟩ := q2
    obtain ⟨x9, rfl⟩ := tyI hd9
    obtain ⟨W3, f4, mb3, rd3, r3, sv3, hy3, hJ, hw⟩ := id hS
    refine g_istore X rfl (by decide) ?_
    refine g_aload_n X rfl rfl ?_
    refine g_rV X rfl lcX8_thrown lmW_152 lsX8_thrown (cr_X8_thrown l D cy B od hJ.2.1.1) (ci := 8) hJ.2.1.1 rfl rfl rfl (Nat.le_of_ble_eq_true rfl) ⟨⟨Nat.le_of_ble_eq_true rfl, Nat.le_of_ble_eq_true rfl⟩, rfl, rfl⟩ hcp ?_
    rw [hw]
    refine g_iload X rfl rfl ?_
    refine g_icmp_eq X rfl (fun _ => ?_) (fun q => absurd rfl q)
    refine g_iload X rfl rfl ?_
    refine g_if_ne X rfl (fun _ => ?_) (fun q => absurd q (cX_n0 (by decide)))
    refine g_goto X rfl ?_
    refine g_wid (k := cells + 3) (n := slots + 18) (Nat.add_le_add_left (Nat.le_of_ble_eq_true rfl) _) (Nat.add_le_add_left (Nat.le_of_ble_eq_true rfl) _) ?_
    exact G.lvw (lvw6 (fun j hj => match j, hj with | 0, _ => rfl | 1, _ => rfl | 2, _ => rfl | 3, _ => rfl | 4, _ => rfl | 5, _ => rfl | j + 6, h => absurd h (by omega))) (kk _ ⟨_, hS⟩)
def tC_2 : List PT := [(412, .aload_n 1, 1, 1, 0), (413, .invokevirtual 159, 3, 2, 0), (416, .aload_n 2, 1, 3, 0), (417, .invokevirtual 162, 3, 4, 0), (420, .if_icmp .eq 2402, 3, 5, 7), (423, .iconst 0, 1, 6, 0), (424, .ireturn, 1, 0, 0), (2822, .iinc 5 6, 3, 8, 0), (2825, .goto (-2797), 3, 21, 9), (28, .iload 5, 2, 10, 0), (30, .aload_n 0, 1, 11, 0), (31, .arraylength, 1, 12, 0), (32, .bipush 6, 2, 13, 0), (34, .isub, 1, 14, 0), (35, .if_icmp .gt 2793, 3, 15, 21), (38, .aload_n 0, 1, 16, 0), (39, .iload 5, 2, 17, 0), (41, .iaload, 1, 18, 0), (42, .bipush 63, 2, 19, 0), (44, .iand, 1, 20, 0), (45, .tableswitch 2777 0 47 #[207, 311, 367, 380, 424, 528, 596, 652, 708, 788, 868, 948, 992, 1048, 1092, 1105, 1118, 1162, 1218, 1286, 1342, 1421, 1504, 1559, 1603, 1671, 1755, 1823, 1891, 1959, 2015, 2071, 2126, 2181, 2207, 2232, 2246, 2302, 2358, 2414, 2457, 2471, 2536, 2615, 2671, 2726, 2739, 2764], 207, 0, 0), (2828, .iconst 1, 1, 22, 0), (2829, .ireturn, 1, 0, 0)]
set_option maxRecDepth 100000 in
theorem okC_2 : OkTab cL_law tC_2 := ⟨by decide +kernel, by decide +kernel⟩
theorem lmW_159 : LkM RL 159 yX7_errorPosition := lw_good_in (n := 468) (by decide +kernel) rfl
theorem lmW_162 : LkM RL 162 yX8_errorPosition := lw_good_in (n := 1378) (by decide +kernel) rfl
set_option maxRecDepth 100000 in
set_option maxHeartbeats 1000000 in
theorem law_2 (l : Launch) (D : va_G) (cy : Nat → ClassId) (B : Nat) (od : Nat → Option Nat) {p : Program} {e : Env} {s : State} {m : MethodId} {args : Array Value} {below : List Frame} {meth : Method} {c : Code} {F : State → Prop} {cells slots : Nat} {A : AH} {L i : Nat} {xs : Nat → Int32} {W : LW} {f : MF} {mb rd r sv hy : Nat → Int32} (hl9 : l.stackTraces = false) (X : Cx p s m args meth c D cy B od cL_law 9 tC_2 RL (some .boolean)) (hs : SCR B od L xs s) (hL : L ≤ 3072) (hi : i + 5 < L) (hI : INV cy A W f mb rd r sv hy) (hcap : cells + 3 ≤ 601024 ∧ slots + 18 ≤ 7293034) (kk : ∀ A9, (∃ w, SOK cy A9 w) → G p l e room_1 s m args below meth c D B od 9 tC_2 F (cells + 3) (slots + 18) A9 0 7 (lv0 i) []) : G p l e room_1 s m args below meth c D B od 9 tC_2 F cells slots A 0 0 (lv0 i) [] := by
  obtain ⟨fs0, ho0⟩ := hI.o0
  unfold lv0
  have hcp : cells ≤ room_1.cells ∧ slots ≤ room_1.slots := ⟨Nat.le_trans (Nat.le_add_right _ 3) hcap.1, Nat.le_trans (Nat.le_add_right _ 18) hcap.2⟩
  refine g_aload_n X rfl rfl ?_
  refine g_mV X rfl lcX7_errorPosition lmW_159 lsX7_errorPosition (cm_X7_errorPosition l D cy B od hI.1) (ci := 7) ho0 rfl rfl rfl (Nat.le_of_ble_eq_true rfl) ⟨⟨Nat.le_of_ble_eq_true rfl, Nat.le_of_ble_eq_true rfl⟩, rfl, rfl⟩ hcp (fun v1 A1 q1 => ?_)
  obtain ⟨R9, ⟨tx, kd, n0, nm, Z, Rm, ht, hR⟩, rfl, hf, hL2⟩ := q1
  have hJ := hI.led hf hL2
  refine g_aload_n X rfl rfl ?_
  have hT : (∀ j, j < f.2.1.1 → mb j = tx j) ∧ ∀ j, j < f.2.1.1 → 0 ≤ tx j := INV.tx hI ht
  refine g_mV X rfl lcX8_errorPosition lmW_162 lsX8_errorPosition (cm_X8_errorPosition l D cy B od hJ.2.1 hI.l4 hT.1 hT.2 (kd0 := kd) (n0 := n0) (nm0 := nm) (Z0 := Z) (Rm0 := Rm)) (ci := 8) hJ.2.1.1 rfl rfl rfl (Nat.le_of_ble_eq_true rfl) ⟨⟨Nat.le_of_ble_eq_true rfl, Nat.le_of_ble_eq_true rfl⟩, rfl, rfl⟩ hcp (fun v2 A3 q2 => ?_)
  obtain ⟨rfl, hM, f2, rd2, hD2, hF⟩ := q2
  have hS := hJ.err (SameOff.refl _ _ _) hJ.1 hM hD2 hF
  have hL : f.2.1.1 = W.1.2.1 := hI.2.2.1.2.1.1
  rw [hL, ← hR]
  refine g_icmp_eq X rfl (fun _ => ?_) (fun q => absurd rfl q)
  refine g_wid (Nat.le_add_right _ 3) (Nat.le_add_right _ 18) ?_
  exact G.lvw (lvw6 (fun j hj => match j, hj with | 0, _ => rfl | 1, _ => rfl | 2, _ => rfl | 3, _ => rfl | 4, _ => rfl | 5, _ => rfl | j + 6, h => absurd h (by omega))) (kk _ ⟨_, (⟨_, _, _, _, _, _, _, hS, hF.1⟩ : SOK cy _ 0)⟩)
def tC_3 : List PT := [(425, .aload_n 1, 1, 1, 0), (426, .aload_n 3, 1, 2, 0), (427, .invokestatic 163, 3, 3, 0), (430, .istore 6, 2, 4, 0), (432, .aload_n 2, 1, 5, 0), (433, .invokevirtual 166, 3, 6, 0), (436, .istore 7, 2, 7, 0), (438, .aload_n 2, 1, 8, 0), (439, .invokevirtual 152, 3, 9, 0), (442, .iload 6, 2, 10, 0), (444, .if_icmp .eq 5, 3, 11, 13), (447, .iconst 0, 1, 12, 0), (448, .ireturn, 1, 13, 0), (449, .iload 6, 2, 14, 0), (451, .ifCond .ne 15, 3, 15, 24), (454, .aload_n 3, 1, 16, 0), (455, .iconst 0, 1, 17, 0), (456, .laload, 1, 18, 0), (457, .iload 7, 2, 19, 0), (459, .i2l, 1, 20, 0), (460, .lcmp, 1, 21, 0), (461, .ifCond .eq 5, 3, 22, 24), (464, .iconst 0, 1, 23, 0), (465, .ireturn, 1, 24, 0), (466, .goto 2356, 3, 0, 25), (2822, .iinc 5 6, 3, 26, 0), (2825, .goto (-2797), 3, 39, 27), (28, .iload 5, 2, 28, 0), (30, .aload_n 0, 1, 29, 0), (31, .arraylength, 1, 30, 0), (32, .bipush 6, 2, 31, 0), (34, .isub, 1, 32, 0), (35, .if_icmp .gt 2793, 3, 33, 39), (38, .aload_n 0, 1, 34, 0), (39, .iload 5, 2, 35, 0), (41, .iaload, 1, 36, 0), (42, .bipush 63, 2, 37, 0), (44, .iand, 1, 38, 0), (45, .tableswitch 2777 0 47 #[207, 311, 367, 380, 424, 528, 596, 652, 708, 788, 868, 948, 992, 1048, 1092, 1105, 1118, 1162, 1218, 1286, 1342, 1421, 1504, 1559, 1603, 1671, 1755, 1823, 1891, 1959, 2015, 2071, 2126, 2181, 2207, 2232, 2246, 2302, 2358, 2414, 2457, 2471, 2536, 2615, 2671, 2726, 2739, 2764], 207, 0, 0), (2828, .iconst 1, 1, 40, 0), (2829, .ireturn, 1, 0, 0)]
set_option maxRecDepth 100000 in
theorem okC_3 : OkTab cL_law tC_3 := ⟨by decide +kernel, by decide +kernel⟩
theorem lmW_163 : LkM RL 163 yL_load := lw_good_in (n := 873) (by decide +kernel) rfl
theorem lmW_166 : LkM RL 166 yX8_load := lw_good_in (n := 1451) (by decide +kernel) rfl
set_option maxRecDepth 100000 in
set_option maxHeartbeats 1000000 in
theorem law_3 (l : Launch) (D : va_G) (cy : Nat → ClassId) (B : Nat) (od : Nat → Option Nat) {p : Program} {e : Env} {s : State} {m : MethodId} {args : Array Value} {below : List Frame} {meth : Method} {c : Code} {F : State → Prop} {cells slots : Nat} {A : AH} {L i : Nat} {xs : Nat → Int32} {W : LW} {f : MF} {mb rd r sv hy : Nat → Int32} (hl9 : l.stackTraces = false) (X : Cx p s m args meth c D cy B od cL_law 9 tC_3 RL (some .boolean)) (hs : SCR B od L xs s) (hL : L ≤ 3072) (hi : i + 5 < L) (hI : INV cy A W f mb rd r sv hy) (hcap : cells + 3 ≤ 601024 ∧ slots + 18 ≤ 7293034) (kk : ∀ A9, (∃ w, SOK cy A9 w) → G p l e room_1 s m args below meth c D B od 9 tC_3 F (cells + 3) (slots + 18) A9 0 25 (lv0 i) []) : G p l e room_1 s m args below meth c D B od 9 tC_3 F cells slots A 0 0 (lv0 i) [] := by
  obtain ⟨fs0, ho0⟩ := hI.o0
  unfold lv0
  obtain ⟨Qr, Qx, hC, hT, hE, hA, hB⟩ := pr_load l D cy B od hl9 hI
  refine g_aload_n X rfl rfl ?_
  refine g_aload_n X rfl rfl ?_
  refine g_hp X rfl lkL_load lmW_163 stL_load (hp_L_load l D cy B od (hC 0) ho0 (fun r A1 h => ⟨tyI (hT r A1 h).1, (hT r A1 h).2.1⟩) hE) rfl rfl (Nat.le_of_ble_eq_true rfl) ⟨Nat.le_of_ble_eq_true rfl, Nat.le_of_ble_eq_true rfl⟩ ⟨Nat.le_trans (Nat.add_le_add_left (show rmL_load.cells ≤ 3 by decide) _) hcap.1, Nat.le_trans (Nat.add_le_add_left (show rmL_load.slots ≤ 18 by decide) _) hcap.2⟩ (fun v1 A1 z1 q1 => ?_)
  have hcp : cells + rmL_load.cells ≤ room_1.cells ∧ slots + rmL_load.slots ≤ room_1.slots := ⟨Nat.le_trans (Nat.add_le_add_left (show rmL_load.cells ≤ 3 by decide) _) hcap.1, Nat.le_trans (Nat.add_le_add_left (show rmL_load.slots ≤ 18 by decide) _) hcap.2⟩
  refine g_z0 ?_
  rcases q1 with ⟨r9, A2, g, hQ, rfl, hg, rfl⟩ | ⟨E, hx, hm, rfl⟩
  · obtain ⟨x9, rfl⟩ := tyI (hT r9 A2 hQ).1
    obtain ⟨⟨f3, hf3⟩, hMd⟩ := hA _ A2 _ hQ (Or.inl ⟨rfl, g, rfl⟩)
    refine g_istore X rfl (by decide) ?_
    refine g_aload_n X rfl rfl ?_
    refine g_mV X rfl lcX8_load lmW_166 lsX8_load hMd (ci := 8) hf3 rfl rfl rfl (Nat.le_of_ble_eq_true rfl) ⟨⟨Nat.le_of_ble_eq_true rfl, Nat.le_of_ble_eq_true rfl⟩, rfl, rfl⟩ hcp (fun v2 A3 q2 => ?_)
    obtain ⟨rfl, hS, ho3⟩ := q2
    obtain ⟨W3, f4, mb3, rd3, r3, sv3, hy3, hJ, hw⟩ := id hS
    refine g_istore X rfl (by decide) ?_
    refine g_aload_n X rfl rfl ?_
    refine g_rV X rfl lcX8_thrown lmW_152 lsX8_thrown (cr_X8_thrown l D cy B od hJ.2.1.1) (ci := 8) hJ.2.1.1 rfl rfl rfl (Nat.le_of_ble_eq_true rfl) ⟨⟨Nat.le_of_ble_eq_true rfl, Nat.le_of_ble_eq_true rfl⟩, rfl, rfl⟩ hcp ?_
    rw [hw]
    refine g_iload X rfl rfl ?_
    refine g_icmp_eq X rfl (fun _ => ?_) (fun q => absurd rfl q)
    refine g_iload X rfl rfl ?_
    refine g_if_ne X rfl (fun q => absurd nI_0 q) (fun _ => ?_)
    refine g_aload_n X rfl rfl ?_
    refine g_iconst X rfl (v := nI 0) (by decide) ?_
    refine g_laldN X rfl ho3 (by decide) (by decide) ?_
    refine g_iload X rfl rfl ?_
    refine g_i2l X rfl ?_
    refine g_l_eq X rfl rfl (fun _ => ?_) (fun q => absurd hg q)
    refine g_goto X rfl ?_
    refine g_wid (k := cells + 3) (n := slots + 18) (Nat.add_le_add_left (Nat.le_of_ble_eq_true rfl) _) (Nat.add_le_add_left (Nat.le_of_ble_eq_true rfl) _) ?_
    exact G.lvw (lvw6 (fun j hj => match j, hj with | 0, _ => rfl | 1, _ => rfl | 2, _ => rfl | 3, _ => rfl | 4, _ => rfl | 5, _ => rfl | j + 6, h => absurd h (by omega))) (kk _ ⟨_, hS⟩)
  · obtain ⟨⟨f3, hf3⟩, hMd⟩ := hB E A1 hx
    refine g_istore X rfl (by decide) ?_
    refine g_aload_n X rfl rfl ?_
    refine g_mV X rfl lcX8_load lmW_166 lsX8_load hMd (ci := 8) hf3 rfl rfl rfl (Nat.le_of_ble_eq_true rfl) ⟨⟨Nat.le_of_ble_eq_true rfl, Nat.le_of_ble_eq_true rfl⟩, rfl, rfl⟩ hcp (fun v2 A3 q2 => ?_)
    obtain ⟨⟨d9, hd9, rfl⟩, hS⟩ := q2
    obtain ⟨x9, rfl⟩ := tyI hd9
    obtain ⟨W3, f4, mb3, rd3, r3, sv3, hy3, hJ, hw⟩ := id hS
    refine g_istore X rfl (by decide) ?_
    refine g_aload_n X rfl rfl ?_
    refine g_rV X rfl lcX8_thrown lmW_152 lsX8_thrown (cr_X8_thrown l D cy B od hJ.2.1.1) (ci := 8) hJ.2.1.1 rfl rfl rfl (Nat.le_of_ble_eq_true rfl) ⟨⟨Nat.le_of_ble_eq_true rfl, Nat.le_of_ble_eq_true rfl⟩, rfl, rfl⟩ hcp ?_
    rw [hw]
    refine g_iload X rfl rfl ?_
    refine g_icmp_eq X rfl (fun _ => ?_) (fun q => absurd rfl q)
    refine g_iload X rfl rfl ?_
    refine g_if_ne X rfl (fun _ => ?_) (fun q => absurd q (cX_n0 (by decide)))
    refine g_goto X rfl ?_
    refine g_wid (k := cells + 3) (n := slots + 18) (Nat.add_le_add_left (Nat.le_of_ble_eq_true rfl) _) (Nat.add_le_add_left (Nat.le_of_ble_eq_true rfl) _) ?_
    exact G.lvw (lvw6 (fun j hj => match j, hj with | 0, _ => rfl | 1, _ => rfl | 2, _ => rfl | 3, _ => rfl | 4, _ => rfl | 5, _ => rfl | j + 6, h => absurd h (by omega))) (kk _ ⟨_, hS⟩)
def tC_4 : List PT := [(469, .aload_n 1, 1, 1, 0), (470, .aload_n 0, 1, 2, 0), (471, .iload 5, 2, 3, 0), (473, .iconst 1, 1, 4, 0), (474, .iadd, 1, 5, 0), (475, .iaload, 1, 6, 0), (476, .aload_n 0, 1, 7, 0), (477, .iload 5, 2, 8, 0), (479, .iconst 2, 1, 9, 0), (480, .iadd, 1, 10, 0), (481, .iaload, 1, 11, 0), (482, .aload_n 0, 1, 12, 0), (483, .iload 5, 2, 13, 0), (485, .iconst 3, 1, 14, 0), (486, .iadd, 1, 15, 0), (487, .iaload, 1, 16, 0), (488, .aload_n 0, 1, 17, 0), (489, .iload 5, 2, 18, 0), (491, .iconst 4, 1, 19, 0), (492, .iadd, 1, 20, 0), (493, .iaload, 1, 21, 0), (494, .aload_n 0, 1, 22, 0), (495, .iload 5, 2, 23, 0), (497, .iconst 5, 1, 24, 0), (498, .iadd, 1, 25, 0), (499, .iaload, 1, 26, 0), (500, .aload_n 3, 1, 27, 0), (501, .invokestatic 167, 3, 28, 0), (504, .istore 6, 2, 29, 0), (506, .aload_n 2, 1, 30, 0), (507, .aload_n 0, 1, 31, 0), (508, .iload 5, 2, 32, 0), (510, .iconst 1, 1, 33, 0), (511, .iadd, 1, 34, 0), (512, .iaload, 1, 35, 0), (513, .aload_n 0, 1, 36, 0), (514, .iload 5, 2, 37, 0), (516, .iconst 2, 1, 38, 0), (517, .iadd, 1, 39, 0), (518, .iaload, 1, 40, 0), (519, .aload_n 0, 1, 41, 0), (520, .iload 5, 2, 42, 0), (522, .iconst 3, 1, 43, 0), (523, .iadd, 1, 44, 0), (524, .iaload, 1, 45, 0), (525, .aload_n 0, 1, 46, 0), (526, .iload 5, 2, 47, 0), (528, .iconst 4, 1, 48, 0), (529, .iadd, 1, 49, 0), (530, .iaload, 1, 50, 0), (531, .aload_n 0, 1, 51, 0), (532, .iload 5, 2, 52, 0), (534, .iconst 5, 1, 53, 0), (535, .iadd, 1, 54, 0), (536, .iaload, 1, 55, 0), (537, .invokevirtual 169, 3, 56, 0), (540, .istore 7, 2, 57, 0), (542, .aload_n 2, 1, 58, 0), (543, .invokevirtual 152, 3, 59, 0), (546, .iload 6, 2, 60, 0), (548, .if_icmp .eq 5, 3, 61, 63), (551, .iconst 0, 1, 62, 0), (552, .ireturn, 1, 63, 0), (553, .iload 6, 2, 64, 0), (555, .ifCond .ne 15, 3, 65, 74), (558, .aload_n 3, 1, 66, 0), (559, .iconst 0, 1, 67, 0), (560, .laload, 1, 68, 0), (561, .iload 7, 2, 69, 0), (563, .i2l, 1, 70, 0), (564, .lcmp, 1, 71, 0), (565, .ifCond .eq 5, 3, 72, 74), (568, .iconst 0, 1, 73, 0), (569, .ireturn, 1, 74, 0), (570, .goto 2252, 3, 0, 75), (2822, .iinc 5 6, 3, 76, 0), (2825, .goto (-2797), 3, 89, 77), (28, .iload 5, 2, 78, 0), (30, .aload_n 0, 1, 79, 0), (31, .arraylength, 1, 80, 0), (32, .bipush 6, 2, 81, 0), (34, .isub, 1, 82, 0), (35, .if_icmp .gt 2793, 3, 83, 89), (38, .aload_n 0, 1, 84, 0), (39, .iload 5, 2, 85, 0), (41, .iaload, 1, 86, 0), (42, .bipush 63, 2, 87, 0), (44, .iand, 1, 88, 0), (45, .tableswitch 2777 0 47 #[207, 311, 367, 380, 424, 528, 596, 652, 708, 788, 868, 948, 992, 1048, 1092, 1105, 1118, 1162, 1218, 1286, 1342, 1421, 1504, 1559, 1603, 1671, 1755, 1823, 1891, 1959, 2015, 2071, 2126, 2181, 2207, 2232, 2246, 2302, 2358, 2414, 2457, 2471, 2536, 2615, 2671, 2726, 2739, 2764], 207, 0, 0), (2828, .iconst 1, 1, 90, 0), (2829, .ireturn, 1, 0, 0)]
set_option maxRecDepth 100000 in
theorem okC_4 : OkTab cL_law tC_4 := ⟨by decide +kernel, by decide +kernel⟩
theorem lmW_167 : LkM RL 167 yL_addEntry := lw_good_in (n := 888) (by decide +kernel) rfl
theorem lmW_169 : LkM RL 169 yX8_addEntry := lw_good_in (n := 1471) (by decide +kernel) rfl
set_option maxRecDepth 100000 in
set_option maxHeartbeats 1000000 in
theorem law_4 (l : Launch) (D : va_G) (cy : Nat → ClassId) (B : Nat) (od : Nat → Option Nat) {p : Program} {e : Env} {s : State} {m : MethodId} {args : Array Value} {below : List Frame} {meth : Method} {c : Code} {F : State → Prop} {cells slots : Nat} {A : AH} {L i : Nat} {xs : Nat → Int32} {W : LW} {f : MF} {mb rd r sv hy : Nat → Int32} (hl9 : l.stackTraces = false) (X : Cx p s m args meth c D cy B od cL_law 9 tC_4 RL (some .boolean)) (hs : SCR B od L xs s) (hL : L ≤ 3072) (hi : i + 5 < L) (hI : INV cy A W f mb rd r sv hy) (hcap : cells + 3 ≤ 601024 ∧ slots + 18 ≤ 7293034) (kk : ∀ A9, (∃ w, SOK cy A9 w) → G p l e room_1 s m args below meth c D B od 9 tC_4 F (cells + 3) (slots + 18) A9 0 75 (lv0 i) []) : G p l e room_1 s m args below meth c D B od 9 tC_4 F cells slots A 0 0 (lv0 i) [] := by
  obtain ⟨fs0, ho0⟩ := hI.o0
  unfold lv0
  obtain ⟨Qr, Qx, hC, hT, hE, hA, hB⟩ := pr_addEntry l D cy B od hl9 hI (x0 := xs (i + 1)) (x1 := xs (i + 2)) (x2 := xs (i + 3)) (x3 := xs (i + 4)) (x4 := xs (i + 5))
  refine g_aload_n X rfl rfl ?_
  refine g_aload_n X rfl rfl ?_
  refine g_iload X rfl rfl ?_
  refine g_iconst X rfl (v := nI 1) (by decide) ?_
  refine g_iadN X rfl ?_
  refine g_sld X hs rfl (by omega) (by omega) ?_
  refine g_aload_n X rfl rfl ?_
  refine g_iload X rfl rfl ?_
  refine g_iconst X rfl (v := nI 2) (by decide) ?_
  refine g_iadN X rfl ?_
  refine g_sld X hs rfl (by omega) (by omega) ?_
  refine g_aload_n X rfl rfl ?_
  refine g_iload X rfl rfl ?_
  refine g_iconst X rfl (v := nI 3) (by decide) ?_
  refine g_iadN X rfl ?_
  refine g_sld X hs rfl (by omega) (by omega) ?_
  refine g_aload_n X rfl rfl ?_
  refine g_iload X rfl rfl ?_
  refine g_iconst X rfl (v := nI 4) (by decide) ?_
  refine g_iadN X rfl ?_
  refine g_sld X hs rfl (by omega) (by omega) ?_
  refine g_aload_n X rfl rfl ?_
  refine g_iload X rfl rfl ?_
  refine g_iconst X rfl (v := nI 5) (by decide) ?_
  refine g_iadN X rfl ?_
  refine g_sld X hs rfl (by omega) (by omega) ?_
  refine g_aload_n X rfl rfl ?_
  refine g_hp X rfl lkL_addEntry lmW_167 stL_addEntry (hp_L_addEntry l D cy B od (hC 0) ho0 (fun r A1 h => ⟨tyI (hT r A1 h).1, (hT r A1 h).2.1⟩) hE) rfl rfl (Nat.le_of_ble_eq_true rfl) ⟨Nat.le_of_ble_eq_true rfl, Nat.le_of_ble_eq_true rfl⟩ ⟨Nat.le_trans (Nat.add_le_add_left (show rmL_addEntry.cells ≤ 3 by decide) _) hcap.1, Nat.le_trans (Nat.add_le_add_left (show rmL_addEntry.slots ≤ 18 by decide) _) hcap.2⟩ (fun v1 A1 z1 q1 => ?_)
  have hcp : cells + rmL_addEntry.cells ≤ room_1.cells ∧ slots + rmL_addEntry.slots ≤ room_1.slots := ⟨Nat.le_trans (Nat.add_le_add_left (show rmL_addEntry.cells ≤ 3 by decide) _) hcap.1, Nat.le_trans (Nat.add_le_add_left (show rmL_addEntry.slots ≤ 18 by decide) _) hcap.2⟩
  refine g_z0 ?_
  rcases q1 with ⟨r9, A2, g, hQ, rfl, hg, rfl⟩ | ⟨E, hx, hm, rfl⟩
  · obtain ⟨x9, rfl⟩ := tyI (hT r9 A2 hQ).1
    obtain ⟨⟨f3, hf3⟩, hMd⟩ := hA _ A2 _ hQ (Or.inl ⟨rfl, g, rfl⟩)
    refine g_istore X rfl (by decide) ?_
    refine g_aload_n X rfl rfl ?_
    refine g_aload_n X rfl rfl ?_
    refine g_iload X rfl rfl ?_
    refine g_iconst X rfl (v := nI 1) (by decide) ?_
    refine g_iadN X rfl ?_
    refine g_sld X hs rfl (by omega) (by omega) ?_
    refine g_aload_n X rfl rfl ?_
    refine g_iload X rfl rfl ?_
    refine g_iconst X rfl (v := nI 2) (by decide) ?_
    refine g_iadN X rfl ?_
    refine g_sld X hs rfl (by omega) (by omega) ?_
    refine g_aload_n X rfl rfl ?_
    refine g_iload X rfl rfl ?_
    refine g_iconst X rfl (v := nI 3) (by decide) ?_
    refine g_iadN X rfl ?_
    refine g_sld X hs rfl (by omega) (by omega) ?_
    refine g_aload_n X rfl rfl ?_
    refine g_iload X rfl rfl ?_
    refine g_iconst X rfl (v := nI 4) (by decide) ?_
    refine g_iadN X rfl ?_
    refine g_sld X hs rfl (by omega) (by omega) ?_
    refine g_aload_n X rfl rfl ?_
    refine g_iload X rfl rfl ?_
    refine g_iconst X rfl (v := nI 5) (by decide) ?_
    refine g_iadN X rfl ?_
    refine g_sld X hs rfl (by omega) (by omega) ?_
    refine g_mV X rfl lcX8_addEntry lmW_169 lsX8_addEntry hMd (ci := 8) hf3 rfl rfl rfl (Nat.le_of_ble_eq_true rfl) ⟨⟨Nat.le_of_ble_eq_true rfl, Nat.le_of_ble_eq_true rfl⟩, rfl, rfl⟩ hcp (fun v2 A3 q2 => ?_)
    obtain ⟨rfl, hS, ho3⟩ := q2
    obtain ⟨W3, f4, mb3, rd3, r3, sv3, hy3, hJ, hw⟩ := id hS
    refine g_istore X rfl (by decide) ?_
    refine g_aload_n X rfl rfl ?_
    refine g_rV X rfl lcX8_thrown lmW_152 lsX8_thrown (cr_X8_thrown l D cy B od hJ.2.1.1) (ci := 8) hJ.2.1.1 rfl rfl rfl (Nat.le_of_ble_eq_true rfl) ⟨⟨Nat.le_of_ble_eq_true rfl, Nat.le_of_ble_eq_true rfl⟩, rfl, rfl⟩ hcp ?_
    rw [hw]
    refine g_iload X rfl rfl ?_
    refine g_icmp_eq X rfl (fun _ => ?_) (fun q => absurd rfl q)
    refine g_iload X rfl rfl ?_
    refine g_if_ne X rfl (fun q => absurd nI_0 q) (fun _ => ?_)
    refine g_aload_n X rfl rfl ?_
    refine g_iconst X rfl (v := nI 0) (by decide) ?_
    refine g_laldN X rfl ho3 (by decide) (by decide) ?_
    refine g_iload X rfl rfl ?_
    refine g_i2l X rfl ?_
    refine g_l_eq X rfl rfl (fun _ => ?_) (fun q => absurd hg q)
    refine g_goto X rfl ?_
    refine g_wid (k := cells + 3) (n := slots + 18) (Nat.add_le_add_left (Nat.le_of_ble_eq_true rfl) _) (Nat.add_le_add_left (Nat.le_of_ble_eq_true rfl) _) ?_
    exact G.lvw (lvw6 (fun j hj => match j, hj with | 0, _ => rfl | 1, _ => rfl | 2, _ => rfl | 3, _ => rfl | 4, _ => rfl | 5, _ => rfl | j + 6, h => absurd h (by omega))) (kk _ ⟨_, hS⟩)
  · obtain ⟨⟨f3, hf3⟩, hMd⟩ := hB E A1 hx
    refine g_istore X rfl (by decide) ?_
    refine g_aload_n X rfl rfl ?_
    refine g_aload_n X rfl rfl ?_
    refine g_iload X rfl rfl ?_
    refine g_iconst X rfl (v := nI 1) (by decide) ?_
    refine g_iadN X rfl ?_
    refine g_sld X hs rfl (by omega) (by omega) ?_
    refine g_aload_n X rfl rfl ?_
    refine g_iload X rfl rfl ?_
    refine g_iconst X rfl (v := nI 2) (by decide) ?_
    refine g_iadN X rfl ?_
    refine g_sld X hs rfl (by omega) (by omega) ?_
    refine g_aload_n X rfl rfl ?_
    refine g_iload X rfl rfl ?_
    refine g_iconst X rfl (v := nI 3) (by decide) ?_
    refine g_iadN X rfl ?_
    refine g_sld X hs rfl (by omega) (by omega) ?_
    refine g_aload_n X rfl rfl ?_
    refine g_iload X rfl rfl ?_
    refine g_iconst X rfl (v := nI 4) (by decide) ?_
    refine g_iadN X rfl ?_
    refine g_sld X hs rfl (by omega) (by omega) ?_
    refine g_aload_n X rfl rfl ?_
    refine g_iload X rfl rfl ?_
    refine g_iconst X rfl (v := nI 5) (by decide) ?_
    refine g_iadN X rfl ?_
    refine g_sld X hs rfl (by omega) (by omega) ?_
    refine g_mV X rfl lcX8_addEntry lmW_169 lsX8_addEntry hMd (ci := 8) hf3 rfl rfl rfl (Nat.le_of_ble_eq_true rfl) ⟨⟨Nat.le_of_ble_eq_true rfl, Nat.le_of_ble_eq_true rfl⟩, rfl, rfl⟩ hcp (fun v2 A3 q2 => ?_)
    obtain ⟨⟨d9, hd9, rfl⟩, hS⟩ := q2
    obtain ⟨x9, rfl⟩ := tyI hd9
    obtain ⟨W3, f4, mb3, rd3, r3, sv3, hy3, hJ, hw⟩ := id hS
    refine g_istore X rfl (by decide) ?_
    refine g_aload_n X rfl rfl ?_
    refine g_rV X rfl lcX8_thrown lmW_152 lsX8_thrown (cr_X8_thrown l D cy B od hJ.2.1.1) (ci := 8) hJ.2.1.1 rfl rfl rfl (Nat.le_of_ble_eq_true rfl) ⟨⟨Nat.le_of_ble_eq_true rfl, Nat.le_of_ble_eq_true rfl⟩, rfl, rfl⟩ hcp ?_
    rw [hw]
    refine g_iload X rfl rfl ?_
    refine g_icmp_eq X rfl (fun _ => ?_) (fun q => absurd rfl q)
    refine g_iload X rfl rfl ?_
    refine g_if_ne X rfl (fun _ => ?_) (fun q => absurd q (cX_n0 (by decide)))
    refine g_goto X rfl ?_
    refine g_wid (k := cells + 3) (n := slots + 18) (Nat.add_le_add_left (Nat.le_of_ble_eq_true rfl) _) (Nat.add_le_add_left (Nat.le_of_ble_eq_true rfl) _) ?_
    exact G.lvw (lvw6 (fun j hj => match j, hj with | 0, _ => rfl | 1, _ => rfl | 2, _ => rfl | 3, _ => rfl | 4, _ => rfl | 5, _ => rfl | j + 6, h => absurd h (by omega))) (kk _ ⟨_, hS⟩)
def tC_5 : List PT := [(573, .aload_n 1, 1, 1, 0), (574, .aload_n 0, 1, 2, 0), (575, .iload 5, 2, 3, 0), (577, .iconst 1, 1, 4, 0), (578, .iadd, 1, 5, 0), (579, .iaload, 1, 6, 0), (580, .aload_n 0, 1, 7, 0), (581, .iload 5, 2, 8, 0), (583, .iconst 2, 1, 9, 0), (584, .iadd, 1, 10, 0), (585, .iaload, 1, 11, 0), (586, .aload_n 3, 1, 12, 0), (587, .invokestatic 170, 3, 13, 0), (590, .istore 6, 2, 14, 0), (592, .aload_n 2, 1, 15, 0), (593, .aload_n 0, 1, 16, 0), (594, .iload 5, 2, 17, 0), (596, .iconst 1, 1, 18, 0), (597, .iadd, 1, 19, 0), (598, .iaload, 1, 20, 0), (599, .aload_n 0, 1, 21, 0), (600, .iload 5, 2, 22, 0), (602, .iconst 2, 1, 23, 0), (603, .iadd, 1, 24, 0), (604, .iaload, 1, 25, 0), (605, .invokevirtual 173, 3, 26, 0), (608, .istore 7, 2, 27, 0), (610, .aload_n 2, 1, 28, 0), (611, .invokevirtual 152, 3, 29, 0), (614, .iload 6, 2, 30, 0), (616, .if_icmp .eq 5, 3, 31, 33), (619, .iconst 0, 1, 32, 0), (620, .ireturn, 1, 33, 0), (621, .iload 6, 2, 34, 0), (623, .ifCond .ne 15, 3, 35, 44), (626, .aload_n 3, 1, 36, 0), (627, .iconst 0, 1, 37, 0), (628, .laload, 1, 38, 0), (629, .iload 7, 2, 39, 0), (631, .i2l, 1, 40, 0), (632, .lcmp, 1, 41, 0), (633, .ifCond .eq 5, 3, 42, 44), (636, .iconst 0, 1, 43, 0), (637, .ireturn, 1, 44, 0), (638, .goto 2184, 3, 0, 45), (2822, .iinc 5 6, 3, 46, 0), (2825, .goto (-2797), 3, 59, 47), (28, .iload 5, 2, 48, 0), (30, .aload_n 0, 1, 49, 0), (31, .arraylength, 1, 50, 0), (32, .bipush 6, 2, 51, 0), (34, .isub, 1, 52, 0), (35, .if_icmp .gt 2793, 3, 53, 59), (38, .aload_n 0, 1, 54, 0), (39, .iload 5, 2, 55, 0), (41, .iaload, 1, 56, 0), (42, .bipush 63, 2, 57, 0), (44, .iand, 1, 58, 0), (45, .tableswitch 2777 0 47 #[207, 311, 367, 380, 424, 528, 596, 652, 708, 788, 868, 948, 992, 1048, 1092, 1105, 1118, 1162, 1218, 1286, 1342, 1421, 1504, 1559, 1603, 1671, 1755, 1823, 1891, 1959, 2015, 2071, 2126, 2181, 2207, 2232, 2246, 2302, 2358, 2414, 2457, 2471, 2536, 2615, 2671, 2726, 2739, 2764], 207, 0, 0), (2828, .iconst 1, 1, 60, 0), (2829, .ireturn, 1, 0, 0)]
set_option maxRecDepth 100000 in
theorem okC_5 : OkTab cL_law tC_5 := ⟨by decide +kernel, by decide +kernel⟩
theorem lmW_170 : LkM RL 170 yL_pay := lw_good_in (n := 909) (by decide +kernel) rfl
theorem lmW_173 : LkM RL 173 yX8_pay := lw_good_in (n := 1496) (by decide +kernel) rfl
set_option maxRecDepth 100000 in
set_option maxHeartbeats 1000000 in
theorem law_5 (l : Launch) (D : va_G) (cy : Nat → ClassId) (B : Nat) (od : Nat → Option Nat) {p : Program} {e : Env} {s : State} {m : MethodId} {args : Array Value} {below : List Frame} {meth : Method} {c : Code} {F : State → Prop} {cells slots : Nat} {A : AH} {L i : Nat} {xs : Nat → Int32} {W : LW} {f : MF} {mb rd r sv hy : Nat → Int32} (hl9 : l.stackTraces = false) (X : Cx p s m args meth c D cy B od cL_law 9 tC_5 RL (some .boolean)) (hs : SCR B od L xs s) (hL : L ≤ 3072) (hi : i + 5 < L) (hI : INV cy A W f mb rd r sv hy) (hcap : cells + 3 ≤ 601024 ∧ slots + 18 ≤ 7293034) (kk : ∀ A9, (∃ w, SOK cy A9 w) → G p l e room_1 s m args below meth c D B od 9 tC_5 F (cells + 3) (slots + 18) A9 0 45 (lv0 i) []) : G p l e room_1 s m args below meth c D B od 9 tC_5 F cells slots A 0 0 (lv0 i) [] := by
  obtain ⟨fs0, ho0⟩ := hI.o0
  unfold lv0
  obtain ⟨Qr, Qx, hC, hT, hE, hA, hB⟩ := pr_pay l D cy B od hl9 hI (x0 := xs (i + 1)) (x1 := xs (i + 2))
  refine g_aload_n X rfl rfl ?_
  refine g_aload_n X rfl rfl ?_
  refine g_iload X rfl rfl ?_
  refine g_iconst X rfl (v := nI 1) (by decide) ?_
  refine g_iadN X rfl ?_
  refine g_sld X hs rfl (by omega) (by omega) ?_
  refine g_aload_n X rfl rfl ?_
  refine g_iload X rfl rfl ?_
  refine g_iconst X rfl (v := nI 2) (by decide) ?_
  refine g_iadN X rfl ?_
  refine g_sld X hs rfl (by omega) (by omega) ?_
  refine g_aload_n X rfl rfl ?_
  refine g_hp X rfl lkL_pay lmW_170 stL_pay (hp_L_pay l D cy B od (hC 0) ho0 (fun r A1 h => ⟨tyI (hT r A1 h).1, (hT r A1 h).2.1⟩) hE) rfl rfl (Nat.le_of_ble_eq_true rfl) ⟨Nat.le_of_ble_eq_true rfl, Nat.le_of_ble_eq_true rfl⟩ ⟨Nat.le_trans (Nat.add_le_add_left (show rmL_pay.cells ≤ 3 by decide) _) hcap.1, Nat.le_trans (Nat.add_le_add_left (show rmL_pay.slots ≤ 18 by decide) _) hcap.2⟩ (fun v1 A1 z1 q1 => ?_)
  have hcp : cells + rmL_pay.cells ≤ room_1.cells ∧ slots + rmL_pay.slots ≤ room_1.slots := ⟨Nat.le_trans (Nat.add_le_add_left (show rmL_pay.cells ≤ 3 by decide) _) hcap.1, Nat.le_trans (Nat.add_le_add_left (show rmL_pay.slots ≤ 18 by decide) _) hcap.2⟩
  refine g_z0 ?_
  rcases q1 with ⟨r9, A2, g, hQ, rfl, hg, rfl⟩ | ⟨E, hx, hm, rfl⟩
  · obtain ⟨x9, rfl⟩ := tyI (hT r9 A2 hQ).1
    obtain ⟨⟨f3, hf3⟩, hMd⟩ := hA _ A2 _ hQ (Or.inl ⟨rfl, g, rfl⟩)
    refine g_istore X rfl (by decide) ?_
    refine g_aload_n X rfl rfl ?_
    refine g_aload_n X rfl rfl ?_
    refine g_iload X rfl rfl ?_
    refine g_iconst X rfl (v := nI 1) (by decide) ?_
    refine g_iadN X rfl ?_
    refine g_sld X hs rfl (by omega) (by omega) ?_
    refine g_aload_n X rfl rfl ?_
    refine g_iload X rfl rfl ?_
    refine g_iconst X rfl (v := nI 2) (by decide) ?_
    refine g_iadN X rfl ?_
    refine g_sld X hs rfl (by omega) (by omega) ?_
    refine g_mV X rfl lcX8_pay lmW_173 lsX8_pay hMd (ci := 8) hf3 rfl rfl rfl (Nat.le_of_ble_eq_true rfl) ⟨⟨Nat.le_of_ble_eq_true rfl, Nat.le_of_ble_eq_true rfl⟩, rfl, rfl⟩ hcp (fun v2 A3 q2 => ?_)
    obtain ⟨rfl, hS, ho3⟩ := q2
    obtain ⟨W3, f4, mb3, rd3, r3, sv3, hy3, hJ, hw⟩ := id hS
    refine g_istore X rfl (by decide) ?_
    refine g_aload_n X rfl rfl ?_
    refine g_rV X rfl lcX8_thrown lmW_152 lsX8_thrown (cr_X8_thrown l D cy B od hJ.2.1.1) (ci := 8) hJ.2.1.1 rfl rfl rfl (Nat.le_of_ble_eq_true rfl) ⟨⟨Nat.le_of_ble_eq_true rfl, Nat.le_of_ble_eq_true rfl⟩, rfl, rfl⟩ hcp ?_
    rw [hw]
    refine g_iload X rfl rfl ?_
    refine g_icmp_eq X rfl (fun _ => ?_) (fun q => absurd rfl q)
    refine g_iload X rfl rfl ?_
    refine g_if_ne X rfl (fun q => absurd nI_0 q) (fun _ => ?_)
    refine g_aload_n X rfl rfl ?_
    refine g_iconst X rfl (v := nI 0) (by decide) ?_
    refine g_laldN X rfl ho3 (by decide) (by decide) ?_
    refine g_iload X rfl rfl ?_
    refine g_i2l X rfl ?_
    refine g_l_eq X rfl rfl (fun _ => ?_) (fun q => absurd hg q)
    refine g_goto X rfl ?_
    refine g_wid (k := cells + 3) (n := slots + 18) (Nat.add_le_add_left (Nat.le_of_ble_eq_true rfl) _) (Nat.add_le_add_left (Nat.le_of_ble_eq_true rfl) _) ?_
    exact G.lvw (lvw6 (fun j hj => match j, hj with | 0, _ => rfl | 1, _ => rfl | 2, _ => rfl | 3, _ => rfl | 4, _ => rfl | 5, _ => rfl | j + 6, h => absurd h (by omega))) (kk _ ⟨_, hS⟩)
  · obtain ⟨⟨f3, hf3⟩, hMd⟩ := hB E A1 hx
    refine g_istore X rfl (by decide) ?_
    refine g_aload_n X rfl rfl ?_
    refine g_aload_n X rfl rfl ?_
    refine g_iload X rfl rfl ?_
    refine g_iconst X rfl (v := nI 1) (by decide) ?_
    refine g_iadN X rfl ?_
    refine g_sld X hs rfl (by omega) (by omega) ?_
    refine g_aload_n X rfl rfl ?_
    refine g_iload X rfl rfl ?_
    refine g_iconst X rfl (v := nI 2) (by decide) ?_
    refine g_iadN X rfl ?_
    refine g_sld X hs rfl (by omega) (by omega) ?_
    refine g_mV X rfl lcX8_pay lmW_173 lsX8_pay hMd (ci := 8) hf3 rfl rfl rfl (Nat.le_of_ble_eq_true rfl) ⟨⟨Nat.le_of_ble_eq_true rfl, Nat.le_of_ble_eq_true rfl⟩, rfl, rfl⟩ hcp (fun v2 A3 q2 => ?_)
    obtain ⟨⟨d9, hd9, rfl⟩, hS⟩ := q2
    obtain ⟨x9, rfl⟩ := tyI hd9
    obtain ⟨W3, f4, mb3, rd3, r3, sv3, hy3, hJ, hw⟩ := id hS
    refine g_istore X rfl (by decide) ?_
    refine g_aload_n X rfl rfl ?_
    refine g_rV X rfl lcX8_thrown lmW_152 lsX8_thrown (cr_X8_thrown l D cy B od hJ.2.1.1) (ci := 8) hJ.2.1.1 rfl rfl rfl (Nat.le_of_ble_eq_true rfl) ⟨⟨Nat.le_of_ble_eq_true rfl, Nat.le_of_ble_eq_true rfl⟩, rfl, rfl⟩ hcp ?_
    rw [hw]
    refine g_iload X rfl rfl ?_
    refine g_icmp_eq X rfl (fun _ => ?_) (fun q => absurd rfl q)
    refine g_iload X rfl rfl ?_
    refine g_if_ne X rfl (fun _ => ?_) (fun q => absurd q (cX_n0 (by decide)))
    refine g_goto X rfl ?_
    refine g_wid (k := cells + 3) (n := slots + 18) (Nat.add_le_add_left (Nat.le_of_ble_eq_true rfl) _) (Nat.add_le_add_left (Nat.le_of_ble_eq_true rfl) _) ?_
    exact G.lvw (lvw6 (fun j hj => match j, hj with | 0, _ => rfl | 1, _ => rfl | 2, _ => rfl | 3, _ => rfl | 4, _ => rfl | 5, _ => rfl | j + 6, h => absurd h (by omega))) (kk _ ⟨_, hS⟩)
def tC_6 : List PT := [(641, .aload_n 1, 1, 1, 0), (642, .aload_n 0, 1, 2, 0), (643, .iload 5, 2, 3, 0), (645, .iconst 1, 1, 4, 0), (646, .iadd, 1, 5, 0), (647, .iaload, 1, 6, 0), (648, .aload_n 3, 1, 7, 0), (649, .invokestatic 174, 3, 8, 0), (652, .istore 6, 2, 9, 0), (654, .aload_n 2, 1, 10, 0), (655, .aload_n 0, 1, 11, 0), (656, .iload 5, 2, 12, 0), (658, .iconst 1, 1, 13, 0), (659, .iadd, 1, 14, 0), (660, .iaload, 1, 15, 0), (661, .invokevirtual 176, 3, 16, 0), (664, .istore 7, 2, 17, 0), (666, .aload_n 2, 1, 18, 0), (667, .invokevirtual 152, 3, 19, 0), (670, .iload 6, 2, 20, 0), (672, .if_icmp .eq 5, 3, 21, 23), (675, .iconst 0, 1, 22, 0), (676, .ireturn, 1, 23, 0), (677, .iload 6, 2, 24, 0), (679, .ifCond .ne 15, 3, 25, 34), (682, .aload_n 3, 1, 26, 0), (683, .iconst 0, 1, 27, 0), (684, .laload, 1, 28, 0), (685, .iload 7, 2, 29, 0), (687, .i2l, 1, 30, 0), (688, .lcmp, 1, 31, 0), (689, .ifCond .eq 5, 3, 32, 34), (692, .iconst 0, 1, 33, 0), (693, .ireturn, 1, 34, 0), (694, .goto 2128, 3, 0, 35), (2822, .iinc 5 6, 3, 36, 0), (2825, .goto (-2797), 3, 49, 37), (28, .iload 5, 2, 38, 0), (30, .aload_n 0, 1, 39, 0), (31, .arraylength, 1, 40, 0), (32, .bipush 6, 2, 41, 0), (34, .isub, 1, 42, 0), (35, .if_icmp .gt 2793, 3, 43, 49), (38, .aload_n 0, 1, 44, 0), (39, .iload 5, 2, 45, 0), (41, .iaload, 1, 46, 0), (42, .bipush 63, 2, 47, 0), (44, .iand, 1, 48, 0), (45, .tableswitch 2777 0 47 #[207, 311, 367, 380, 424, 528, 596, 652, 708, 788, 868, 948, 992, 1048, 1092, 1105, 1118, 1162, 1218, 1286, 1342, 1421, 1504, 1559, 1603, 1671, 1755, 1823, 1891, 1959, 2015, 2071, 2126, 2181, 2207, 2232, 2246, 2302, 2358, 2414, 2457, 2471, 2536, 2615, 2671, 2726, 2739, 2764], 207, 0, 0), (2828, .iconst 1, 1, 50, 0), (2829, .ireturn, 1, 0, 0)]
set_option maxRecDepth 100000 in
theorem okC_6 : OkTab cL_law tC_6 := ⟨by decide +kernel, by decide +kernel⟩
theorem lmW_174 : LkM RL 174 yL_cancel := lw_good_in (n := 936) (by decide +kernel) rfl
theorem lmW_176 : LkM RL 176 yX8_cancel := lw_good_in (n := 1516) (by decide +kernel) rfl
set_option maxRecDepth 100000 in
set_option maxHeartbeats 1000000 in
theorem law_6 (l : Launch) (D : va_G) (cy : Nat → ClassId) (B : Nat) (od : Nat → Option Nat) {p : Program} {e : Env} {s : State} {m : MethodId} {args : Array Value} {below : List Frame} {meth : Method} {c : Code} {F : State → Prop} {cells slots : Nat} {A : AH} {L i : Nat} {xs : Nat → Int32} {W : LW} {f : MF} {mb rd r sv hy : Nat → Int32} (hl9 : l.stackTraces = false) (X : Cx p s m args meth c D cy B od cL_law 9 tC_6 RL (some .boolean)) (hs : SCR B od L xs s) (hL : L ≤ 3072) (hi : i + 5 < L) (hI : INV cy A W f mb rd r sv hy) (hcap : cells + 3 ≤ 601024 ∧ slots + 18 ≤ 7293034) (kk : ∀ A9, (∃ w, SOK cy A9 w) → G p l e room_1 s m args below meth c D B od 9 tC_6 F (cells + 3) (slots + 18) A9 0 35 (lv0 i) []) : G p l e room_1 s m args below meth c D B od 9 tC_6 F cells slots A 0 0 (lv0 i) [] := by
  obtain ⟨fs0, ho0⟩ := hI.o0
  unfold lv0
  obtain ⟨Qr, Qx, hC, hT, hE, hA, hB⟩ := pr_cancel l D cy B od hl9 hI (x0 := xs (i + 1))
  refine g_aload_n X rfl rfl ?_
  refine g_aload_n X rfl rfl ?_
  refine g_iload X rfl rfl ?_
  refine g_iconst X rfl (v := nI 1) (by decide) ?_
  refine g_iadN X rfl ?_
  refine g_sld X hs rfl (by omega) (by omega) ?_
  refine g_aload_n X rfl rfl ?_
  refine g_hp X rfl lkL_cancel lmW_174 stL_cancel (hp_L_cancel l D cy B od (hC 0) ho0 (fun r A1 h => ⟨tyI (hT r A1 h).1, (hT r A1 h).2.1⟩) hE) rfl rfl (Nat.le_of_ble_eq_true rfl) ⟨Nat.le_of_ble_eq_true rfl, Nat.le_of_ble_eq_true rfl⟩ ⟨Nat.le_trans (Nat.add_le_add_left (show rmL_cancel.cells ≤ 3 by decide) _) hcap.1, Nat.le_trans (Nat.add_le_add_left (show rmL_cancel.slots ≤ 18 by decide) _) hcap.2⟩ (fun v1 A1 z1 q1 => ?_)
  have hcp : cells + rmL_cancel.cells ≤ room_1.cells ∧ slots + rmL_cancel.slots ≤ room_1.slots := ⟨Nat.le_trans (Nat.add_le_add_left (show rmL_cancel.cells ≤ 3 by decide) _) hcap.1, Nat.le_trans (Nat.add_le_add_left (show rmL_cancel.slots ≤ 18 by decide) _) hcap.2⟩
  refine g_z0 ?_
  rcases q1 with ⟨r9, A2, g, hQ, rfl, hg, rfl⟩ | ⟨E, hx, hm, rfl⟩
  · obtain ⟨x9, rfl⟩ := tyI (hT r9 A2 hQ).1
    obtain ⟨⟨f3, hf3⟩, hMd⟩ := hA _ A2 _ hQ (Or.inl ⟨rfl, g, rfl⟩)
    refine g_istore X rfl (by decide) ?_
    refine g_aload_n X rfl rfl ?_
    refine g_aload_n X rfl rfl ?_
    refine g_iload X rfl rfl ?_
    refine g_iconst X rfl (v := nI 1) (by decide) ?_
    refine g_iadN X rfl ?_
    refine g_sld X hs rfl (by omega) (by omega) ?_
    refine g_mV X rfl lcX8_cancel lmW_176 lsX8_cancel hMd (ci := 8) hf3 rfl rfl rfl (Nat.le_of_ble_eq_true rfl) ⟨⟨Nat.le_of_ble_eq_true rfl, Nat.le_of_ble_eq_true rfl⟩, rfl, rfl⟩ hcp (fun v2 A3 q2 => ?_)
    obtain ⟨rfl, hS, ho3⟩ := q2
    obtain ⟨W3, f4, mb3, rd3, r3, sv3, hy3, hJ, hw⟩ := id hS
    refine g_istore X rfl (by decide) ?_
    refine g_aload_n X rfl rfl ?_
    refine g_rV X rfl lcX8_thrown lmW_152 lsX8_thrown (cr_X8_thrown l D cy B od hJ.2.1.1) (ci := 8) hJ.2.1.1 rfl rfl rfl (Nat.le_of_ble_eq_true rfl) ⟨⟨Nat.le_of_ble_eq_true rfl, Nat.le_of_ble_eq_true rfl⟩, rfl, rfl⟩ hcp ?_
    rw [hw]
    refine g_iload X rfl rfl ?_
    refine g_icmp_eq X rfl (fun _ => ?_) (fun q => absurd rfl q)
    refine g_iload X rfl rfl ?_
    refine g_if_ne X rfl (fun q => absurd nI_0 q) (fun _ => ?_)
    refine g_aload_n X rfl rfl ?_
    refine g_iconst X rfl (v := nI 0) (by decide) ?_
    refine g_laldN X rfl ho3 (by decide) (by decide) ?_
    refine g_iload X rfl rfl ?_
    refine g_i2l X rfl ?_
    refine g_l_eq X rfl rfl (fun _ => ?_) (fun q => absurd hg q)
    refine g_goto X rfl ?_
    refine g_wid (k := cells + 3) (n := slots + 18) (Nat.add_le_add_left (Nat.le_of_ble_eq_true rfl) _) (Nat.add_le_add_left (Nat.le_of_ble_eq_true rfl) _) ?_
    exact G.lvw (lvw6 (fun j hj => match j, hj with | 0, _ => rfl | 1, _ => rfl | 2, _ => rfl | 3, _ => rfl | 4, _ => rfl | 5, _ => rfl | j + 6, h => absurd h (by omega))) (kk _ ⟨_, hS⟩)
  · obtain ⟨⟨f3, hf3⟩, hMd⟩ := hB E A1 hx
    refine g_istore X rfl (by decide) ?_
    refine g_aload_n X rfl rfl ?_
    refine g_aload_n X rfl rfl ?_
    refine g_iload X rfl rfl ?_
    refine g_iconst X rfl (v := nI 1) (by decide) ?_
    refine g_iadN X rfl ?_
    refine g_sld X hs rfl (by omega) (by omega) ?_
    refine g_mV X rfl lcX8_cancel lmW_176 lsX8_cancel hMd (ci := 8) hf3 rfl rfl rfl (Nat.le_of_ble_eq_true rfl) ⟨⟨Nat.le_of_ble_eq_true rfl, Nat.le_of_ble_eq_true rfl⟩, rfl, rfl⟩ hcp (fun v2 A3 q2 => ?_)
    obtain ⟨⟨d9, hd9, rfl⟩, hS⟩ := q2
    obtain ⟨x9, rfl⟩ := tyI hd9
    obtain ⟨W3, f4, mb3, rd3, r3, sv3, hy3, hJ, hw⟩ := id hS
    refine g_istore X rfl (by decide) ?_
    refine g_aload_n X rfl rfl ?_
    refine g_rV X rfl lcX8_thrown lmW_152 lsX8_thrown (cr_X8_thrown l D cy B od hJ.2.1.1) (ci := 8) hJ.2.1.1 rfl rfl rfl (Nat.le_of_ble_eq_true rfl) ⟨⟨Nat.le_of_ble_eq_true rfl, Nat.le_of_ble_eq_true rfl⟩, rfl, rfl⟩ hcp ?_
    rw [hw]
    refine g_iload X rfl rfl ?_
    refine g_icmp_eq X rfl (fun _ => ?_) (fun q => absurd rfl q)
    refine g_iload X rfl rfl ?_
    refine g_if_ne X rfl (fun _ => ?_) (fun q => absurd q (cX_n0 (by decide)))
    refine g_goto X rfl ?_
    refine g_wid (k := cells + 3) (n := slots + 18) (Nat.add_le_add_left (Nat.le_of_ble_eq_true rfl) _) (Nat.add_le_add_left (Nat.le_of_ble_eq_true rfl) _) ?_
    exact G.lvw (lvw6 (fun j hj => match j, hj with | 0, _ => rfl | 1, _ => rfl | 2, _ => rfl | 3, _ => rfl | 4, _ => rfl | 5, _ => rfl | j + 6, h => absurd h (by omega))) (kk _ ⟨_, hS⟩)
def tC_7 : List PT := [(697, .aload_n 1, 1, 1, 0), (698, .aload_n 0, 1, 2, 0), (699, .iload 5, 2, 3, 0), (701, .iconst 1, 1, 4, 0), (702, .iadd, 1, 5, 0), (703, .iaload, 1, 6, 0), (704, .aload_n 3, 1, 7, 0), (705, .invokestatic 177, 3, 8, 0), (708, .istore 6, 2, 9, 0), (710, .aload_n 2, 1, 10, 0), (711, .aload_n 0, 1, 11, 0), (712, .iload 5, 2, 12, 0), (714, .iconst 1, 1, 13, 0), (715, .iadd, 1, 14, 0), (716, .iaload, 1, 15, 0), (717, .invokevirtual 179, 3, 16, 0), (720, .istore 7, 2, 17, 0), (722, .aload_n 2, 1, 18, 0), (723, .invokevirtual 152, 3, 19, 0), (726, .iload 6, 2, 20, 0), (728, .if_icmp .eq 5, 3, 21, 23), (731, .iconst 0, 1, 22, 0), (732, .ireturn, 1, 23, 0), (733, .iload 6, 2, 24, 0), (735, .ifCond .ne 15, 3, 25, 34), (738, .aload_n 3, 1, 26, 0), (739, .iconst 0, 1, 27, 0), (740, .laload, 1, 28, 0), (741, .iload 7, 2, 29, 0), (743, .i2l, 1, 30, 0), (744, .lcmp, 1, 31, 0), (745, .ifCond .eq 5, 3, 32, 34), (748, .iconst 0, 1, 33, 0), (749, .ireturn, 1, 34, 0), (750, .goto 2072, 3, 0, 35), (2822, .iinc 5 6, 3, 36, 0), (2825, .goto (-2797), 3, 49, 37), (28, .iload 5, 2, 38, 0), (30, .aload_n 0, 1, 39, 0), (31, .arraylength, 1, 40, 0), (32, .bipush 6, 2, 41, 0), (34, .isub, 1, 42, 0), (35, .if_icmp .gt 2793, 3, 43, 49), (38, .aload_n 0, 1, 44, 0), (39, .iload 5, 2, 45, 0), (41, .iaload, 1, 46, 0), (42, .bipush 63, 2, 47, 0), (44, .iand, 1, 48, 0), (45, .tableswitch 2777 0 47 #[207, 311, 367, 380, 424, 528, 596, 652, 708, 788, 868, 948, 992, 1048, 1092, 1105, 1118, 1162, 1218, 1286, 1342, 1421, 1504, 1559, 1603, 1671, 1755, 1823, 1891, 1959, 2015, 2071, 2126, 2181, 2207, 2232, 2246, 2302, 2358, 2414, 2457, 2471, 2536, 2615, 2671, 2726, 2739, 2764], 207, 0, 0), (2828, .iconst 1, 1, 50, 0), (2829, .ireturn, 1, 0, 0)]
set_option maxRecDepth 100000 in
theorem okC_7 : OkTab cL_law tC_7 := ⟨by decide +kernel, by decide +kernel⟩
theorem lmW_177 : LkM RL 177 yL_addRoom := lw_good_in (n := 943) (by decide +kernel) rfl
theorem lmW_179 : LkM RL 179 yX8_addRoom := lw_good_in (n := 1520) (by decide +kernel) rfl
set_option maxRecDepth 100000 in
set_option maxHeartbeats 1000000 in
theorem law_7 (l : Launch) (D : va_G) (cy : Nat → ClassId) (B : Nat) (od : Nat → Option Nat) {p : Program} {e : Env} {s : State} {m : MethodId} {args : Array Value} {below : List Frame} {meth : Method} {c : Code} {F : State → Prop} {cells slots : Nat} {A : AH} {L i : Nat} {xs : Nat → Int32} {W : LW} {f : MF} {mb rd r sv hy : Nat → Int32} (hl9 : l.stackTraces = false) (X : Cx p s m args meth c D cy B od cL_law 9 tC_7 RL (some .boolean)) (hs : SCR B od L xs s) (hL : L ≤ 3072) (hi : i + 5 < L) (hI : INV cy A W f mb rd r sv hy) (hcap : cells + 3 ≤ 601024 ∧ slots + 18 ≤ 7293034) (kk : ∀ A9, (∃ w, SOK cy A9 w) → G p l e room_1 s m args below meth c D B od 9 tC_7 F (cells + 3) (slots + 18) A9 0 35 (lv0 i) []) : G p l e room_1 s m args below meth c D B od 9 tC_7 F cells slots A 0 0 (lv0 i) [] := by
  obtain ⟨fs0, ho0⟩ := hI.o0
  unfold lv0
  obtain ⟨Qr, Qx, hC, hT, hE, hA, hB⟩ := pr_addRoom l D cy B od hl9 hI (x0 := xs (i + 1))
  refine g_aload_n X rfl rfl ?_
  refine g_aload_n X rfl rfl ?_
  refine g_iload X rfl rfl ?_
  refine g_iconst X rfl (v := nI 1) (by decide) ?_
  refine g_iadN X rfl ?_
  refine g_sld X hs rfl (by omega) (by omega) ?_
  refine g_aload_n X rfl rfl ?_
  refine g_hp X rfl lkL_addRoom lmW_177 stL_addRoom (hp_L_addRoom l D cy B od (hC 0) ho0 (fun r A1 h => ⟨tyI (hT r A1 h).1, (hT r A1 h).2.1⟩) hE) rfl rfl (Nat.le_of_ble_eq_true rfl) ⟨Nat.le_of_ble_eq_true rfl, Nat.le_of_ble_eq_true rfl⟩ ⟨Nat.le_trans (Nat.add_le_add_left (show rmL_addRoom.cells ≤ 3 by decide) _) hcap.1, Nat.le_trans (Nat.add_le_add_left (show rmL_addRoom.slots ≤ 18 by decide) _) hcap.2⟩ (fun v1 A1 z1 q1 => ?_)
  have hcp : cells + rmL_addRoom.cells ≤ room_1.cells ∧ slots + rmL_addRoom.slots ≤ room_1.slots := ⟨Nat.le_trans (Nat.add_le_add_left (show rmL_addRoom.cells ≤ 3 by decide) _) hcap.1, Nat.le_trans (Nat.add_le_add_left (show rmL_addRoom.slots ≤ 18 by decide) _) hcap.2⟩
  refine g_z0 ?_
  rcases q1 with ⟨r9, A2, g, hQ, rfl, hg, rfl⟩ | ⟨E, hx, hm, rfl⟩
  · obtain ⟨x9, rfl⟩ := tyI (hT r9 A2 hQ).1
    obtain ⟨⟨f3, hf3⟩, hMd⟩ := hA _ A2 _ hQ (Or.inl ⟨rfl, g, rfl⟩)
    refine g_istore X rfl (by decide) ?_
    refine g_aload_n X rfl rfl ?_
    refine g_aload_n X rfl rfl ?_
    refine g_iload X rfl rfl ?_
    refine g_iconst X rfl (v := nI 1) (by decide) ?_
    refine g_iadN X rfl ?_
    refine g_sld X hs rfl (by omega) (by omega) ?_
    refine g_mV X rfl lcX8_addRoom lmW_179 lsX8_addRoom hMd (ci := 8) hf3 rfl rfl rfl (Nat.le_of_ble_eq_true rfl) ⟨⟨Nat.le_of_ble_eq_true rfl, Nat.le_of_ble_eq_true rfl⟩, rfl, rfl⟩ hcp (fun v2 A3 q2 => ?_)
    obtain ⟨rfl, hS, ho3⟩ := q2
    obtain ⟨W3, f4, mb3, rd3, r3, sv3, hy3, hJ, hw⟩ := id hS
    refine g_istore X rfl (by decide) ?_
    refine g_aload_n X rfl rfl ?_
    refine g_rV X rfl lcX8_thrown lmW_152 lsX8_thrown (cr_X8_thrown l D cy B od hJ.2.1.1) (ci := 8) hJ.2.1.1 rfl rfl rfl (Nat.le_of_ble_eq_true rfl) ⟨⟨Nat.le_of_ble_eq_true rfl, Nat.le_of_ble_eq_true rfl⟩, rfl, rfl⟩ hcp ?_
    rw [hw]
    refine g_iload X rfl rfl ?_
    refine g_icmp_eq X rfl (fun _ => ?_) (fun q => absurd rfl q)
    refine g_iload X rfl rfl ?_
    refine g_if_ne X rfl (fun q => absurd nI_0 q) (fun _ => ?_)
    refine g_aload_n X rfl rfl ?_
    refine g_iconst X rfl (v := nI 0) (by decide) ?_
    refine g_laldN X rfl ho3 (by decide) (by decide) ?_
    refine g_iload X rfl rfl ?_
    refine g_i2l X rfl ?_
    refine g_l_eq X rfl rfl (fun _ => ?_) (fun q => absurd hg q)
    refine g_goto X rfl ?_
    refine g_wid (k := cells + 3) (n := slots + 18) (Nat.add_le_add_left (Nat.le_of_ble_eq_true rfl) _) (Nat.add_le_add_left (Nat.le_of_ble_eq_true rfl) _) ?_
    exact G.lvw (lvw6 (fun j hj => match j, hj with | 0, _ => rfl | 1, _ => rfl | 2, _ => rfl | 3, _ => rfl | 4, _ => rfl | 5, _ => rfl | j + 6, h => absurd h (by omega))) (kk _ ⟨_, hS⟩)
  · obtain ⟨⟨f3, hf3⟩, hMd⟩ := hB E A1 hx
    refine g_istore X rfl (by decide) ?_
    refine g_aload_n X rfl rfl ?_
    refine g_aload_n X rfl rfl ?_
    refine g_iload X rfl rfl ?_
    refine g_iconst X rfl (v := nI 1) (by decide) ?_
    refine g_iadN X rfl ?_
    refine g_sld X hs rfl (by omega) (by omega) ?_
    refine g_mV X rfl lcX8_addRoom lmW_179 lsX8_addRoom hMd (ci := 8) hf3 rfl rfl rfl (Nat.le_of_ble_eq_true rfl) ⟨⟨Nat.le_of_ble_eq_true rfl, Nat.le_of_ble_eq_true rfl⟩, rfl, rfl⟩ hcp (fun v2 A3 q2 => ?_)
    obtain ⟨⟨d9, hd9, rfl⟩, hS⟩ := q2
    obtain ⟨x9, rfl⟩ := tyI hd9
    obtain ⟨W3, f4, mb3, rd3, r3, sv3, hy3, hJ, hw⟩ := id hS
    refine g_istore X rfl (by decide) ?_
    refine g_aload_n X rfl rfl ?_
    refine g_rV X rfl lcX8_thrown lmW_152 lsX8_thrown (cr_X8_thrown l D cy B od hJ.2.1.1) (ci := 8) hJ.2.1.1 rfl rfl rfl (Nat.le_of_ble_eq_true rfl) ⟨⟨Nat.le_of_ble_eq_true rfl, Nat.le_of_ble_eq_true rfl⟩, rfl, rfl⟩ hcp ?_
    rw [hw]
    refine g_iload X rfl rfl ?_
    refine g_icmp_eq X rfl (fun _ => ?_) (fun q => absurd rfl q)
    refine g_iload X rfl rfl ?_
    refine g_if_ne X rfl (fun _ => ?_) (fun q => absurd q (cX_n0 (by decide)))
    refine g_goto X rfl ?_
    refine g_wid (k := cells + 3) (n := slots + 18) (Nat.add_le_add_left (Nat.le_of_ble_eq_true rfl) _) (Nat.add_le_add_left (Nat.le_of_ble_eq_true rfl) _) ?_
    exact G.lvw (lvw6 (fun j hj => match j, hj with | 0, _ => rfl | 1, _ => rfl | 2, _ => rfl | 3, _ => rfl | 4, _ => rfl | 5, _ => rfl | j + 6, h => absurd h (by omega))) (kk _ ⟨_, hS⟩)
def tC_8 : List PT := [(753, .aload_n 1, 1, 1, 0), (754, .aload_n 0, 1, 2, 0), (755, .iload 5, 2, 3, 0), (757, .iconst 1, 1, 4, 0), (758, .iadd, 1, 5, 0), (759, .iaload, 1, 6, 0), (760, .aload_n 0, 1, 7, 0), (761, .iload 5, 2, 8, 0), (763, .iconst 2, 1, 9, 0), (764, .iadd, 1, 10, 0), (765, .iaload, 1, 11, 0), (766, .aload_n 0, 1, 12, 0), (767, .iload 5, 2, 13, 0), (769, .iconst 3, 1, 14, 0), (770, .iadd, 1, 15, 0), (771, .iaload, 1, 16, 0), (772, .aload_n 3, 1, 17, 0), (773, .invokestatic 180, 3, 18, 0), (776, .istore 6, 2, 19, 0), (778, .aload_n 2, 1, 20, 0), (779, .aload_n 0, 1, 21, 0), (780, .iload 5, 2, 22, 0), (782, .iconst 1, 1, 23, 0), (783, .iadd, 1, 24, 0), (784, .iaload, 1, 25, 0), (785, .aload_n 0, 1, 26, 0), (786, .iload 5, 2, 27, 0), (788, .iconst 2, 1, 28, 0), (789, .iadd, 1, 29, 0), (790, .iaload, 1, 30, 0), (791, .aload_n 0, 1, 31, 0), (792, .iload 5, 2, 32, 0), (794, .iconst 3, 1, 33, 0), (795, .iadd, 1, 34, 0), (796, .iaload, 1, 35, 0), (797, .invokevirtual 183, 3, 36, 0), (800, .istore 7, 2, 37, 0), (802, .aload_n 2, 1, 38, 0), (803, .invokevirtual 152, 3, 39, 0), (806, .iload 6, 2, 40, 0), (808, .if_icmp .eq 5, 3, 41, 43), (811, .iconst 0, 1, 42, 0), (812, .ireturn, 1, 43, 0), (813, .iload 6, 2, 44, 0), (815, .ifCond .ne 15, 3, 45, 54), (818, .aload_n 3, 1, 46, 0), (819, .iconst 0, 1, 47, 0), (820, .laload, 1, 48, 0), (821, .iload 7, 2, 49, 0), (823, .i2l, 1, 50, 0), (824, .lcmp, 1, 51, 0), (825, .ifCond .eq 5, 3, 52, 54), (828, .iconst 0, 1, 53, 0), (829, .ireturn, 1, 54, 0), (830, .goto 1992, 3, 0, 55), (2822, .iinc 5 6, 3, 56, 0), (2825, .goto (-2797), 3, 69, 57), (28, .iload 5, 2, 58, 0), (30, .aload_n 0, 1, 59, 0), (31, .arraylength, 1, 60, 0), (32, .bipush 6, 2, 61, 0), (34, .isub, 1, 62, 0), (35, .if_icmp .gt 2793, 3, 63, 69), (38, .aload_n 0, 1, 64, 0), (39, .iload 5, 2, 65, 0), (41, .iaload, 1, 66, 0), (42, .bipush 63, 2, 67, 0), (44, .iand, 1, 68, 0), (45, .tableswitch 2777 0 47 #[207, 311, 367, 380, 424, 528, 596, 652, 708, 788, 868, 948, 992, 1048, 1092, 1105, 1118, 1162, 1218, 1286, 1342, 1421, 1504, 1559, 1603, 1671, 1755, 1823, 1891, 1959, 2015, 2071, 2126, 2181, 2207, 2232, 2246, 2302, 2358, 2414, 2457, 2471, 2536, 2615, 2671, 2726, 2739, 2764], 207, 0, 0), (2828, .iconst 1, 1, 70, 0), (2829, .ireturn, 1, 0, 0)]
set_option maxRecDepth 100000 in
theorem okC_8 : OkTab cL_law tC_8 := ⟨by decide +kernel, by decide +kernel⟩
theorem lmW_180 : LkM RL 180 yL_setOffice := lw_good_in (n := 951) (by decide +kernel) rfl
theorem lmW_183 : LkM RL 183 yX8_setOffice := lw_good_in (n := 1525) (by decide +kernel) rfl
set_option maxRecDepth 100000 in
set_option maxHeartbeats 1000000 in
theorem law_8 (l : Launch) (D : va_G) (cy : Nat → ClassId) (B : Nat) (od : Nat → Option Nat) {p : Program} {e : Env} {s : State} {m : MethodId} {args : Array Value} {below : List Frame} {meth : Method} {c : Code} {F : State → Prop} {cells slots : Nat} {A : AH} {L i : Nat} {xs : Nat → Int32} {W : LW} {f : MF} {mb rd r sv hy : Nat → Int32} (hl9 : l.stackTraces = false) (X : Cx p s m args meth c D cy B od cL_law 9 tC_8 RL (some .boolean)) (hs : SCR B od L xs s) (hL : L ≤ 3072) (hi : i + 5 < L) (hI : INV cy A W f mb rd r sv hy) (hcap : cells + 3 ≤ 601024 ∧ slots + 18 ≤ 7293034) (kk : ∀ A9, (∃ w, SOK cy A9 w) → G p l e room_1 s m args below meth c D B od 9 tC_8 F (cells + 3) (slots + 18) A9 0 55 (lv0 i) []) : G p l e room_1 s m args below meth c D B od 9 tC_8 F cells slots A 0 0 (lv0 i) [] := by
  obtain ⟨fs0, ho0⟩ := hI.o0
  unfold lv0
  obtain ⟨Qr, Qx, hC, hT, hE, hA, hB⟩ := pr_setOffice l D cy B od hl9 hI (x0 := xs (i + 1)) (x1 := xs (i + 2)) (x2 := xs (i + 3))
  refine g_aload_n X rfl rfl ?_
  refine g_aload_n X rfl rfl ?_
  refine g_iload X rfl rfl ?_
  refine g_iconst X rfl (v := nI 1) (by decide) ?_
  refine g_iadN X rfl ?_
  refine g_sld X hs rfl (by omega) (by omega) ?_
  refine g_aload_n X rfl rfl ?_
  refine g_iload X rfl rfl ?_
  refine g_iconst X rfl (v := nI 2) (by decide) ?_
  refine g_iadN X rfl ?_
  refine g_sld X hs rfl (by omega) (by omega) ?_
  refine g_aload_n X rfl rfl ?_
  refine g_iload X rfl rfl ?_
  refine g_iconst X rfl (v := nI 3) (by decide) ?_
  refine g_iadN X rfl ?_
  refine g_sld X hs rfl (by omega) (by omega) ?_
  refine g_aload_n X rfl rfl ?_
  refine g_hp X rfl lkL_setOffice lmW_180 stL_setOffice (hp_L_setOffice l D cy B od (hC 0) ho0 (fun r A1 h => ⟨tyI (hT r A1 h).1, (hT r A1 h).2.1⟩) hE) rfl rfl (Nat.le_of_ble_eq_true rfl) ⟨Nat.le_of_ble_eq_true rfl, Nat.le_of_ble_eq_true rfl⟩ ⟨Nat.le_trans (Nat.add_le_add_left (show rmL_setOffice.cells ≤ 3 by decide) _) hcap.1, Nat.le_trans (Nat.add_le_add_left (show rmL_setOffice.slots ≤ 18 by decide) _) hcap.2⟩ (fun v1 A1 z1 q1 => ?_)
  have hcp : cells + rmL_setOffice.cells ≤ room_1.cells ∧ slots + rmL_setOffice.slots ≤ room_1.slots := ⟨Nat.le_trans (Nat.add_le_add_left (show rmL_setOffice.cells ≤ 3 by decide) _) hcap.1, Nat.le_trans (Nat.add_le_add_left (show rmL_setOffice.slots ≤ 18 by decide) _) hcap.2⟩
  refine g_z0 ?_
  rcases q1 with ⟨r9, A2, g, hQ, rfl, hg, rfl⟩ | ⟨E, hx, hm, rfl⟩
  · obtain ⟨x9, rfl⟩ := tyI (hT r9 A2 hQ).1
    obtain ⟨⟨f3, hf3⟩, hMd⟩ := hA _ A2 _ hQ (Or.inl ⟨rfl, g, rfl⟩)
    refine g_istore X rfl (by decide) ?_
    refine g_aload_n X rfl rfl ?_
    refine g_aload_n X rfl rfl ?_
    refine g_iload X rfl rfl ?_
    refine g_iconst X rfl (v := nI 1) (by decide) ?_
    refine g_iadN X rfl ?_
    refine g_sld X hs rfl (by omega) (by omega) ?_
    refine g_aload_n X rfl rfl ?_
    refine g_iload X rfl rfl ?_
    refine g_iconst X rfl (v := nI 2) (by decide) ?_
    refine g_iadN X rfl ?_
    refine g_sld X hs rfl (by omega) (by omega) ?_
    refine g_aload_n X rfl rfl ?_
    refine g_iload X rfl rfl ?_
    refine g_iconst X rfl (v := nI 3) (by decide) ?_
    refine g_iadN X rfl ?_
    refine g_sld X hs rfl (by omega) (by omega) ?_
    refine g_mV X rfl lcX8_setOffice lmW_183 lsX8_setOffice hMd (ci := 8) hf3 rfl rfl rfl (Nat.le_of_ble_eq_true rfl) ⟨⟨Nat.le_of_ble_eq_true rfl, Nat.le_of_ble_eq_true rfl⟩, rfl, rfl⟩ hcp (fun v2 A3 q2 => ?_)
    obtain ⟨rfl, hS, ho3⟩ := q2
    obtain ⟨W3, f4, mb3, rd3, r3, sv3, hy3, hJ, hw⟩ := id hS
    refine g_istore X rfl (by decide) ?_
    refine g_aload_n X rfl rfl ?_
    refine g_rV X rfl lcX8_thrown lmW_152 lsX8_thrown (cr_X8_thrown l D cy B od hJ.2.1.1) (ci := 8) hJ.2.1.1 rfl rfl rfl (Nat.le_of_ble_eq_true rfl) ⟨⟨Nat.le_of_ble_eq_true rfl, Nat.le_of_ble_eq_true rfl⟩, rfl, rfl⟩ hcp ?_
    rw [hw]
    refine g_iload X rfl rfl ?_
    refine g_icmp_eq X rfl (fun _ => ?_) (fun q => absurd rfl q)
    refine g_iload X rfl rfl ?_
    refine g_if_ne X rfl (fun q => absurd nI_0 q) (fun _ => ?_)
    refine g_aload_n X rfl rfl ?_
    refine g_iconst X rfl (v := nI 0) (by decide) ?_
    refine g_laldN X rfl ho3 (by decide) (by decide) ?_
    refine g_iload X rfl rfl ?_
    refine g_i2l X rfl ?_
    refine g_l_eq X rfl rfl (fun _ => ?_) (fun q => absurd hg q)
    refine g_goto X rfl ?_
    refine g_wid (k := cells + 3) (n := slots + 18) (Nat.add_le_add_left (Nat.le_of_ble_eq_true rfl) _) (Nat.add_le_add_left (Nat.le_of_ble_eq_true rfl) _) ?_
    exact G.lvw (lvw6 (fun j hj => match j, hj with | 0, _ => rfl | 1, _ => rfl | 2, _ => rfl | 3, _ => rfl | 4, _ => rfl | 5, _ => rfl | j + 6, h => absurd h (by omega))) (kk _ ⟨_, hS⟩)
  · obtain ⟨⟨f3, hf3⟩, hMd⟩ := hB E A1 hx
    refine g_istore X rfl (by decide) ?_
    refine g_aload_n X rfl rfl ?_
    refine g_aload_n X rfl rfl ?_
    refine g_iload X rfl rfl ?_
    refine g_iconst X rfl (v := nI 1) (by decide) ?_
    refine g_iadN X rfl ?_
    refine g_sld X hs rfl (by omega) (by omega) ?_
    refine g_aload_n X rfl rfl ?_
    refine g_iload X rfl rfl ?_
    refine g_iconst X rfl (v := nI 2) (by decide) ?_
    refine g_iadN X rfl ?_
    refine g_sld X hs rfl (by omega) (by omega) ?_
    refine g_aload_n X rfl rfl ?_
    refine g_iload X rfl rfl ?_
    refine g_iconst X rfl (v := nI 3) (by decide) ?_
    refine g_iadN X rfl ?_
    refine g_sld X hs rfl (by omega) (by omega) ?_
    refine g_mV X rfl lcX8_setOffice lmW_183 lsX8_setOffice hMd (ci := 8) hf3 rfl rfl rfl (Nat.le_of_ble_eq_true rfl) ⟨⟨Nat.le_of_ble_eq_true rfl, Nat.le_of_ble_eq_true rfl⟩, rfl, rfl⟩ hcp (fun v2 A3 q2 => ?_)
    obtain ⟨⟨d9, hd9, rfl⟩, hS⟩ := q2
    obtain ⟨x9, rfl⟩ := tyI hd9
    obtain ⟨W3, f4, mb3, rd3, r3, sv3, hy3, hJ, hw⟩ := id hS
    refine g_istore X rfl (by decide) ?_
    refine g_aload_n X rfl rfl ?_
    refine g_rV X rfl lcX8_thrown lmW_152 lsX8_thrown (cr_X8_thrown l D cy B od hJ.2.1.1) (ci := 8) hJ.2.1.1 rfl rfl rfl (Nat.le_of_ble_eq_true rfl) ⟨⟨Nat.le_of_ble_eq_true rfl, Nat.le_of_ble_eq_true rfl⟩, rfl, rfl⟩ hcp ?_
    rw [hw]
    refine g_iload X rfl rfl ?_
    refine g_icmp_eq X rfl (fun _ => ?_) (fun q => absurd rfl q)
    refine g_iload X rfl rfl ?_
    refine g_if_ne X rfl (fun _ => ?_) (fun q => absurd q (cX_n0 (by decide)))
    refine g_goto X rfl ?_
    refine g_wid (k := cells + 3) (n := slots + 18) (Nat.add_le_add_left (Nat.le_of_ble_eq_true rfl) _) (Nat.add_le_add_left (Nat.le_of_ble_eq_true rfl) _) ?_
    exact G.lvw (lvw6 (fun j hj => match j, hj with | 0, _ => rfl | 1, _ => rfl | 2, _ => rfl | 3, _ => rfl | 4, _ => rfl | 5, _ => rfl | j + 6, h => absurd h (by omega))) (kk _ ⟨_, hS⟩)
def tC_9 : List PT := [(833, .aload_n 1, 1, 1, 0), (834, .aload_n 0, 1, 2, 0), (835, .iload 5, 2, 3, 0), (837, .iconst 1, 1, 4, 0), (838, .iadd, 1, 5, 0), (839, .iaload, 1, 6, 0), (840, .aload_n 0, 1, 7, 0), (841, .iload 5, 2, 8, 0), (843, .iconst 2, 1, 9, 0), (844, .iadd, 1, 10, 0), (845, .iaload, 1, 11, 0), (846, .aload_n 0, 1, 12, 0), (847, .iload 5, 2, 13, 0), (849, .iconst 3, 1, 14, 0), (850, .iadd, 1, 15, 0), (851, .iaload, 1, 16, 0), (852, .aload_n 3, 1, 17, 0), (853, .invokestatic 184, 3, 18, 0), (856, .istore 6, 2, 19, 0), (858, .aload_n 2, 1, 20, 0), (859, .aload_n 0, 1, 21, 0), (860, .iload 5, 2, 22, 0), (862, .iconst 1, 1, 23, 0), (863, .iadd, 1, 24, 0), (864, .iaload, 1, 25, 0), (865, .aload_n 0, 1, 26, 0), (866, .iload 5, 2, 27, 0), (868, .iconst 2, 1, 28, 0), (869, .iadd, 1, 29, 0), (870, .iaload, 1, 30, 0), (871, .aload_n 0, 1, 31, 0), (872, .iload 5, 2, 32, 0), (874, .iconst 3, 1, 33, 0), (875, .iadd, 1, 34, 0), (876, .iaload, 1, 35, 0), (877, .invokevirtual 186, 3, 36, 0), (880, .istore 7, 2, 37, 0), (882, .aload_n 2, 1, 38, 0), (883, .invokevirtual 152, 3, 39, 0), (886, .iload 6, 2, 40, 0), (888, .if_icmp .eq 5, 3, 41, 43), (891, .iconst 0, 1, 42, 0), (892, .ireturn, 1, 43, 0), (893, .iload 6, 2, 44, 0), (895, .ifCond .ne 15, 3, 45, 54), (898, .aload_n 3, 1, 46, 0), (899, .iconst 0, 1, 47, 0), (900, .laload, 1, 48, 0), (901, .iload 7, 2, 49, 0), (903, .i2l, 1, 50, 0), (904, .lcmp, 1, 51, 0), (905, .ifCond .eq 5, 3, 52, 54), (908, .iconst 0, 1, 53, 0), (909, .ireturn, 1, 54, 0), (910, .goto 1912, 3, 0, 55), (2822, .iinc 5 6, 3, 56, 0), (2825, .goto (-2797), 3, 69, 57), (28, .iload 5, 2, 58, 0), (30, .aload_n 0, 1, 59, 0), (31, .arraylength, 1, 60, 0), (32, .bipush 6, 2, 61, 0), (34, .isub, 1, 62, 0), (35, .if_icmp .gt 2793, 3, 63, 69), (38, .aload_n 0, 1, 64, 0), (39, .iload 5, 2, 65, 0), (41, .iaload, 1, 66, 0), (42, .bipush 63, 2, 67, 0), (44, .iand, 1, 68, 0), (45, .tableswitch 2777 0 47 #[207, 311, 367, 380, 424, 528, 596, 652, 708, 788, 868, 948, 992, 1048, 1092, 1105, 1118, 1162, 1218, 1286, 1342, 1421, 1504, 1559, 1603, 1671, 1755, 1823, 1891, 1959, 2015, 2071, 2126, 2181, 2207, 2232, 2246, 2302, 2358, 2414, 2457, 2471, 2536, 2615, 2671, 2726, 2739, 2764], 207, 0, 0), (2828, .iconst 1, 1, 70, 0), (2829, .ireturn, 1, 0, 0)]
set_option maxRecDepth 100000 in
theorem okC_9 : OkTab cL_law tC_9 := ⟨by decide +kernel, by decide +kernel⟩
theorem lmW_184 : LkM RL 184 yL_addAsset := lw_good_in (n := 959) (by decide +kernel) rfl
theorem lmW_186 : LkM RL 186 yX8_addAsset := lw_good_in (n := 1543) (by decide +kernel) rfl
set_option maxRecDepth 100000 in
set_option maxHeartbeats 1000000 in
theorem law_9 (l : Launch) (D : va_G) (cy : Nat → ClassId) (B : Nat) (od : Nat → Option Nat) {p : Program} {e : Env} {s : State} {m : MethodId} {args : Array Value} {below : List Frame} {meth : Method} {c : Code} {F : State → Prop} {cells slots : Nat} {A : AH} {L i : Nat} {xs : Nat → Int32} {W : LW} {f : MF} {mb rd r sv hy : Nat → Int32} (hl9 : l.stackTraces = false) (X : Cx p s m args meth c D cy B od cL_law 9 tC_9 RL (some .boolean)) (hs : SCR B od L xs s) (hL : L ≤ 3072) (hi : i + 5 < L) (hI : INV cy A W f mb rd r sv hy) (hcap : cells + 3 ≤ 601024 ∧ slots + 18 ≤ 7293034) (kk : ∀ A9, (∃ w, SOK cy A9 w) → G p l e room_1 s m args below meth c D B od 9 tC_9 F (cells + 3) (slots + 18) A9 0 55 (lv0 i) []) : G p l e room_1 s m args below meth c D B od 9 tC_9 F cells slots A 0 0 (lv0 i) [] := by
  obtain ⟨fs0, ho0⟩ := hI.o0
  unfold lv0
  obtain ⟨Qr, Qx, hC, hT, hE, hA, hB⟩ := pr_addAsset l D cy B od hl9 hI (x0 := xs (i + 1)) (x1 := xs (i + 2)) (x2 := xs (i + 3))
  refine g_aload_n X rfl rfl ?_
  refine g_aload_n X rfl rfl ?_
  refine g_iload X rfl rfl ?_
  refine g_iconst X rfl (v := nI 1) (by decide) ?_
  refine g_iadN X rfl ?_
  refine g_sld X hs rfl (by omega) (by omega) ?_
  refine g_aload_n X rfl rfl ?_
  refine g_iload X rfl rfl ?_
  refine g_iconst X rfl (v := nI 2) (by decide) ?_
  refine g_iadN X rfl ?_
  refine g_sld X hs rfl (by omega) (by omega) ?_
  refine g_aload_n X rfl rfl ?_
  refine g_iload X rfl rfl ?_
  refine g_iconst X rfl (v := nI 3) (by decide) ?_
  refine g_iadN X rfl ?_
  refine g_sld X hs rfl (by omega) (by omega) ?_
  refine g_aload_n X rfl rfl ?_
  refine g_hp X rfl lkL_addAsset lmW_184 stL_addAsset (hp_L_addAsset l D cy B od (hC 0) ho0 (fun r A1 h => ⟨tyI (hT r A1 h).1, (hT r A1 h).2.1⟩) hE) rfl rfl (Nat.le_of_ble_eq_true rfl) ⟨Nat.le_of_ble_eq_true rfl, Nat.le_of_ble_eq_true rfl⟩ ⟨Nat.le_trans (Nat.add_le_add_left (show rmL_addAsset.cells ≤ 3 by decide) _) hcap.1, Nat.le_trans (Nat.add_le_add_left (show rmL_addAsset.slots ≤ 18 by decide) _) hcap.2⟩ (fun v1 A1 z1 q1 => ?_)
  have hcp : cells + rmL_addAsset.cells ≤ room_1.cells ∧ slots + rmL_addAsset.slots ≤ room_1.slots := ⟨Nat.le_trans (Nat.add_le_add_left (show rmL_addAsset.cells ≤ 3 by decide) _) hcap.1, Nat.le_trans (Nat.add_le_add_left (show rmL_addAsset.slots ≤ 18 by decide) _) hcap.2⟩
  refine g_z0 ?_
  rcases q1 with ⟨r9, A2, g, hQ, rfl, hg, rfl⟩ | ⟨E, hx, hm, rfl⟩
  · obtain ⟨x9, rfl⟩ := tyI (hT r9 A2 hQ).1
    obtain ⟨⟨f3, hf3⟩, hMd⟩ := hA _ A2 _ hQ (Or.inl ⟨rfl, g, rfl⟩)
    refine g_istore X rfl (by decide) ?_
    refine g_aload_n X rfl rfl ?_
    refine g_aload_n X rfl rfl ?_
    refine g_iload X rfl rfl ?_
    refine g_iconst X rfl (v := nI 1) (by decide) ?_
    refine g_iadN X rfl ?_
    refine g_sld X hs rfl (by omega) (by omega) ?_
    refine g_aload_n X rfl rfl ?_
    refine g_iload X rfl rfl ?_
    refine g_iconst X rfl (v := nI 2) (by decide) ?_
    refine g_iadN X rfl ?_
    refine g_sld X hs rfl (by omega) (by omega) ?_
    refine g_aload_n X rfl rfl ?_
    refine g_iload X rfl rfl ?_
    refine g_iconst X rfl (v := nI 3) (by decide) ?_
    refine g_iadN X rfl ?_
    refine g_sld X hs rfl (by omega) (by omega) ?_
    refine g_mV X rfl lcX8_addAsset lmW_186 lsX8_addAsset hMd (ci := 8) hf3 rfl rfl rfl (Nat.le_of_ble_eq_true rfl) ⟨⟨Nat.le_of_ble_eq_true rfl, Nat.le_of_ble_eq_true rfl⟩, rfl, rfl⟩ hcp (fun v2 A3 q2 => ?_)
    obtain ⟨rfl, hS, ho3⟩ := q2
    obtain ⟨W3, f4, mb3, rd3, r3, sv3, hy3, hJ, hw⟩ := id hS
    refine g_istore X rfl (by decide) ?_
    refine g_aload_n X rfl rfl ?_
    refine g_rV X rfl lcX8_thrown lmW_152 lsX8_thrown (cr_X8_thrown l D cy B od hJ.2.1.1) (ci := 8) hJ.2.1.1 rfl rfl rfl (Nat.le_of_ble_eq_true rfl) ⟨⟨Nat.le_of_ble_eq_true rfl, Nat.le_of_ble_eq_true rfl⟩, rfl, rfl⟩ hcp ?_
    rw [hw]
    refine g_iload X rfl rfl ?_
    refine g_icmp_eq X rfl (fun _ => ?_) (fun q => absurd rfl q)
    refine g_iload X rfl rfl ?_
    refine g_if_ne X rfl (fun q => absurd nI_0 q) (fun _ => ?_)
    refine g_aload_n X rfl rfl ?_
    refine g_iconst X rfl (v := nI 0) (by decide) ?_
    refine g_laldN X rfl ho3 (by decide) (by decide) ?_
    refine g_iload X rfl rfl ?_
    refine g_i2l X rfl ?_
    refine g_l_eq X rfl rfl (fun _ => ?_) (fun q => absurd hg q)
    refine g_goto X rfl ?_
    refine g_wid (k := cells + 3) (n := slots + 18) (Nat.add_le_add_left (Nat.le_of_ble_eq_true rfl) _) (Nat.add_le_add_left (Nat.le_of_ble_eq_true rfl) _) ?_
    exact G.lvw (lvw6 (fun j hj => match j, hj with | 0, _ => rfl | 1, _ => rfl | 2, _ => rfl | 3, _ => rfl | 4, _ => rfl | 5, _ => rfl | j + 6, h => absurd h (by omega))) (kk _ ⟨_, hS⟩)
  · obtain ⟨⟨f3, hf3⟩, hMd⟩ := hB E A1 hx
    refine g_istore X rfl (by decide) ?_
    refine g_aload_n X rfl rfl ?_
    refine g_aload_n X rfl rfl ?_
    refine g_iload X rfl rfl ?_
    refine g_iconst X rfl (v := nI 1) (by decide) ?_
    refine g_iadN X rfl ?_
    refine g_sld X hs rfl (by omega) (by omega) ?_
    refine g_aload_n X rfl rfl ?_
    refine g_iload X rfl rfl ?_
    refine g_iconst X rfl (v := nI 2) (by decide) ?_
    refine g_iadN X rfl ?_
    refine g_sld X hs rfl (by omega) (by omega) ?_
    refine g_aload_n X rfl rfl ?_
    refine g_iload X rfl rfl ?_
    refine g_iconst X rfl (v := nI 3) (by decide) ?_
    refine g_iadN X rfl ?_
    refine g_sld X hs rfl (by omega) (by omega) ?_
    refine g_mV X rfl lcX8_addAsset lmW_186 lsX8_addAsset hMd (ci := 8) hf3 rfl rfl rfl (Nat.le_of_ble_eq_true rfl) ⟨⟨Nat.le_of_ble_eq_true rfl, Nat.le_of_ble_eq_true rfl⟩, rfl, rfl⟩ hcp (fun v2 A3 q2 => ?_)
    obtain ⟨⟨d9, hd9, rfl⟩, hS⟩ := q2
    obtain ⟨x9, rfl⟩ := tyI hd9
    obtain ⟨W3, f4, mb3, rd3, r3, sv3, hy3, hJ, hw⟩ := id hS
    refine g_istore X rfl (by decide) ?_
    refine g_aload_n X rfl rfl ?_
    refine g_rV X rfl lcX8_thrown lmW_152 lsX8_thrown (cr_X8_thrown l D cy B od hJ.2.1.1) (ci := 8) hJ.2.1.1 rfl rfl rfl (Nat.le_of_ble_eq_true rfl) ⟨⟨Nat.le_of_ble_eq_true rfl, Nat.le_of_ble_eq_true rfl⟩, rfl, rfl⟩ hcp ?_
    rw [hw]
    refine g_iload X rfl rfl ?_
    refine g_icmp_eq X rfl (fun _ => ?_) (fun q => absurd rfl q)
    refine g_iload X rfl rfl ?_
    refine g_if_ne X rfl (fun _ => ?_) (fun q => absurd q (cX_n0 (by decide)))
    refine g_goto X rfl ?_
    refine g_wid (k := cells + 3) (n := slots + 18) (Nat.add_le_add_left (Nat.le_of_ble_eq_true rfl) _) (Nat.add_le_add_left (Nat.le_of_ble_eq_true rfl) _) ?_
    exact G.lvw (lvw6 (fun j hj => match j, hj with | 0, _ => rfl | 1, _ => rfl | 2, _ => rfl | 3, _ => rfl | 4, _ => rfl | 5, _ => rfl | j + 6, h => absurd h (by omega))) (kk _ ⟨_, hS⟩)
def tC_10 : List PT := [(913, .aload_n 1, 1, 1, 0), (914, .aload_n 0, 1, 2, 0), (915, .iload 5, 2, 3, 0), (917, .iconst 1, 1, 4, 0), (918, .iadd, 1, 5, 0), (919, .iaload, 1, 6, 0), (920, .aload_n 0, 1, 7, 0), (921, .iload 5, 2, 8, 0), (923, .iconst 2, 1, 9, 0), (924, .iadd, 1, 10, 0), (925, .iaload, 1, 11, 0), (926, .aload_n 0, 1, 12, 0), (927, .iload 5, 2, 13, 0), (929, .iconst 3, 1, 14, 0), (930, .iadd, 1, 15, 0), (931, .iaload, 1, 16, 0), (932, .aload_n 3, 1, 17, 0), (933, .invokestatic 187, 3, 18, 0), (936, .istore 6, 2, 19, 0), (938, .aload_n 2, 1, 20, 0), (939, .aload_n 0, 1, 21, 0), (940, .iload 5, 2, 22, 0), (942, .iconst 1, 1, 23, 0), (943, .iadd, 1, 24, 0), (944, .iaload, 1, 25, 0), (945, .aload_n 0, 1, 26, 0), (946, .iload 5, 2, 27, 0), (948, .iconst 2, 1, 28, 0), (949, .iadd, 1, 29, 0), (950, .iaload, 1, 30, 0), (951, .aload_n 0, 1, 31, 0), (952, .iload 5, 2, 32, 0), (954, .iconst 3, 1, 33, 0), (955, .iadd, 1, 34, 0), (956, .iaload, 1, 35, 0), (957, .invokevirtual 189, 3, 36, 0), (960, .istore 7, 2, 37, 0), (962, .aload_n 2, 1, 38, 0), (963, .invokevirtual 152, 3, 39, 0), (966, .iload 6, 2, 40, 0), (968, .if_icmp .eq 5, 3, 41, 43), (971, .iconst 0, 1, 42, 0), (972, .ireturn, 1, 43, 0), (973, .iload 6, 2, 44, 0), (975, .ifCond .ne 15, 3, 45, 54), (978, .aload_n 3, 1, 46, 0), (979, .iconst 0, 1, 47, 0), (980, .laload, 1, 48, 0), (981, .iload 7, 2, 49, 0), (983, .i2l, 1, 50, 0), (984, .lcmp, 1, 51, 0), (985, .ifCond .eq 5, 3, 52, 54), (988, .iconst 0, 1, 53, 0), (989, .ireturn, 1, 54, 0), (990, .goto 1832, 3, 0, 55), (2822, .iinc 5 6, 3, 56, 0), (2825, .goto (-2797), 3, 69, 57), (28, .iload 5, 2, 58, 0), (30, .aload_n 0, 1, 59, 0), (31, .arraylength, 1, 60, 0), (32, .bipush 6, 2, 61, 0), (34, .isub, 1, 62, 0), (35, .if_icmp .gt 2793, 3, 63, 69), (38, .aload_n 0, 1, 64, 0), (39, .iload 5, 2, 65, 0), (41, .iaload, 1, 66, 0), (42, .bipush 63, 2, 67, 0), (44, .iand, 1, 68, 0), (45, .tableswitch 2777 0 47 #[207, 311, 367, 380, 424, 528, 596, 652, 708, 788, 868, 948, 992, 1048, 1092, 1105, 1118, 1162, 1218, 1286, 1342, 1421, 1504, 1559, 1603, 1671, 1755, 1823, 1891, 1959, 2015, 2071, 2126, 2181, 2207, 2232, 2246, 2302, 2358, 2414, 2457, 2471, 2536, 2615, 2671, 2726, 2739, 2764], 207, 0, 0), (2828, .iconst 1, 1, 70, 0), (2829, .ireturn, 1, 0, 0)]
set_option maxRecDepth 100000 in
theorem okC_10 : OkTab cL_law tC_10 := ⟨by decide +kernel, by decide +kernel⟩
theorem lmW_187 : LkM RL 187 yL_sellAsset := lw_good_in (n := 975) (by decide +kernel) rfl
theorem lmW_189 : LkM RL 189 yX8_sellAsset := lw_good_in (n := 1549) (by decide +kernel) rfl
set_option maxRecDepth 100000 in
set_option maxHeartbeats 1000000 in
theorem law_10 (l : Launch) (D : va_G) (cy : Nat → ClassId) (B : Nat) (od : Nat → Option Nat) {p : Program} {e : Env} {s : State} {m : MethodId} {args : Array Value} {below : List Frame} {meth : Method} {c : Code} {F : State → Prop} {cells slots : Nat} {A : AH} {L i : Nat} {xs : Nat → Int32} {W : LW} {f : MF} {mb rd r sv hy : Nat → Int32} (hl9 : l.stackTraces = false) (X : Cx p s m args meth c D cy B od cL_law 9 tC_10 RL (some .boolean)) (hs : SCR B od L xs s) (hL : L ≤ 3072) (hi : i + 5 < L) (hI : INV cy A W f mb rd r sv hy) (hcap : cells + 3 ≤ 601024 ∧ slots + 18 ≤ 7293034) (kk : ∀ A9, (∃ w, SOK cy A9 w) → G p l e room_1 s m args below meth c D B od 9 tC_10 F (cells + 3) (slots + 18) A9 0 55 (lv0 i) []) : G p l e room_1 s m args below meth c D B od 9 tC_10 F cells slots A 0 0 (lv0 i) [] := by
  obtain ⟨fs0, ho0⟩ := hI.o0
  unfold lv0
  obtain ⟨Qr, Qx, hC, hT, hE, hA, hB⟩ := pr_sellAsset l D cy B od hl9 hI (x0 := xs (i + 1)) (x1 := xs (i + 2)) (x2 := xs (i + 3))
  refine g_aload_n X rfl rfl ?_
  refine g_aload_n X rfl rfl ?_
  refine g_iload X rfl rfl ?_
  refine g_iconst X rfl (v := nI 1) (by decide) ?_
  refine g_iadN X rfl ?_
  refine g_sld X hs rfl (by omega) (by omega) ?_
  refine g_aload_n X rfl rfl ?_
  refine g_iload X rfl rfl ?_
  refine g_iconst X rfl (v := nI 2) (by decide) ?_
  refine g_iadN X rfl ?_
  refine g_sld X hs rfl (by omega) (by omega) ?_
  refine g_aload_n X rfl rfl ?_
  refine g_iload X rfl rfl ?_
  refine g_iconst X rfl (v := nI 3) (by decide) ?_
  refine g_iadN X rfl ?_
  refine g_sld X hs rfl (by omega) (by omega) ?_
  refine g_aload_n X rfl rfl ?_
  refine g_hp X rfl lkL_sellAsset lmW_187 stL_sellAsset (hp_L_sellAsset l D cy B od (hC 0) ho0 (fun r A1 h => ⟨tyI (hT r A1 h).1, (hT r A1 h).2.1⟩) hE) rfl rfl (Nat.le_of_ble_eq_true rfl) ⟨Nat.le_of_ble_eq_true rfl, Nat.le_of_ble_eq_true rfl⟩ ⟨Nat.le_trans (Nat.add_le_add_left (show rmL_sellAsset.cells ≤ 3 by decide) _) hcap.1, Nat.le_trans (Nat.add_le_add_left (show rmL_sellAsset.slots ≤ 18 by decide) _) hcap.2⟩ (fun v1 A1 z1 q1 => ?_)
  have hcp : cells + rmL_sellAsset.cells ≤ room_1.cells ∧ slots + rmL_sellAsset.slots ≤ room_1.slots := ⟨Nat.le_trans (Nat.add_le_add_left (show rmL_sellAsset.cells ≤ 3 by decide) _) hcap.1, Nat.le_trans (Nat.add_le_add_left (show rmL_sellAsset.slots ≤ 18 by decide) _) hcap.2⟩
  refine g_z0 ?_
  rcases q1 with ⟨r9, A2, g, hQ, rfl, hg, rfl⟩ | ⟨E, hx, hm, rfl⟩
  · obtain ⟨x9, rfl⟩ := tyI (hT r9 A2 hQ).1
    obtain ⟨⟨f3, hf3⟩, hMd⟩ := hA _ A2 _ hQ (Or.inl ⟨rfl, g, rfl⟩)
    refine g_istore X rfl (by decide) ?_
    refine g_aload_n X rfl rfl ?_
    refine g_aload_n X rfl rfl ?_
    refine g_iload X rfl rfl ?_
    refine g_iconst X rfl (v := nI 1) (by decide) ?_
    refine g_iadN X rfl ?_
    refine g_sld X hs rfl (by omega) (by omega) ?_
    refine g_aload_n X rfl rfl ?_
    refine g_iload X rfl rfl ?_
    refine g_iconst X rfl (v := nI 2) (by decide) ?_
    refine g_iadN X rfl ?_
    refine g_sld X hs rfl (by omega) (by omega) ?_
    refine g_aload_n X rfl rfl ?_
    refine g_iload X rfl rfl ?_
    refine g_iconst X rfl (v := nI 3) (by decide) ?_
    refine g_iadN X rfl ?_
    refine g_sld X hs rfl (by omega) (by omega) ?_
    refine g_mV X rfl lcX8_sellAsset lmW_189 lsX8_sellAsset hMd (ci := 8) hf3 rfl rfl rfl (Nat.le_of_ble_eq_true rfl) ⟨⟨Nat.le_of_ble_eq_true rfl, Nat.le_of_ble_eq_true rfl⟩, rfl, rfl⟩ hcp (fun v2 A3 q2 => ?_)
    obtain ⟨rfl, hS, ho3⟩ := q2
    obtain ⟨W3, f4, mb3, rd3, r3, sv3, hy3, hJ, hw⟩ := id hS
    refine g_istore X rfl (by decide) ?_
    refine g_aload_n X rfl rfl ?_
    refine g_rV X rfl lcX8_thrown lmW_152 lsX8_thrown (cr_X8_thrown l D cy B od hJ.2.1.1) (ci := 8) hJ.2.1.1 rfl rfl rfl (Nat.le_of_ble_eq_true rfl) ⟨⟨Nat.le_of_ble_eq_true rfl, Nat.le_of_ble_eq_true rfl⟩, rfl, rfl⟩ hcp ?_
    rw [hw]
    refine g_iload X rfl rfl ?_
    refine g_icmp_eq X rfl (fun _ => ?_) (fun q => absurd rfl q)
    refine g_iload X rfl rfl ?_
    refine g_if_ne X rfl (fun q => absurd nI_0 q) (fun _ => ?_)
    refine g_aload_n X rfl rfl ?_
    refine g_iconst X rfl (v := nI 0) (by decide) ?_
    refine g_laldN X rfl ho3 (by decide) (by decide) ?_
    refine g_iload X rfl rfl ?_
    refine g_i2l X rfl ?_
    refine g_l_eq X rfl rfl (fun _ => ?_) (fun q => absurd hg q)
    refine g_goto X rfl ?_
    refine g_wid (k := cells + 3) (n := slots + 18) (Nat.add_le_add_left (Nat.le_of_ble_eq_true rfl) _) (Nat.add_le_add_left (Nat.le_of_ble_eq_true rfl) _) ?_
    exact G.lvw (lvw6 (fun j hj => match j, hj with | 0, _ => rfl | 1, _ => rfl | 2, _ => rfl | 3, _ => rfl | 4, _ => rfl | 5, _ => rfl | j + 6, h => absurd h (by omega))) (kk _ ⟨_, hS⟩)
  · obtain ⟨⟨f3, hf3⟩, hMd⟩ := hB E A1 hx
    refine g_istore X rfl (by decide) ?_
    refine g_aload_n X rfl rfl ?_
    refine g_aload_n X rfl rfl ?_
    refine g_iload X rfl rfl ?_
    refine g_iconst X rfl (v := nI 1) (by decide) ?_
    refine g_iadN X rfl ?_
    refine g_sld X hs rfl (by omega) (by omega) ?_
    refine g_aload_n X rfl rfl ?_
    refine g_iload X rfl rfl ?_
    refine g_iconst X rfl (v := nI 2) (by decide) ?_
    refine g_iadN X rfl ?_
    refine g_sld X hs rfl (by omega) (by omega) ?_
    refine g_aload_n X rfl rfl ?_
    refine g_iload X rfl rfl ?_
    refine g_iconst X rfl (v := nI 3) (by decide) ?_
    refine g_iadN X rfl ?_
    refine g_sld X hs rfl (by omega) (by omega) ?_
    refine g_mV X rfl lcX8_sellAsset lmW_189 lsX8_sellAsset hMd (ci := 8) hf3 rfl rfl rfl (Nat.le_of_ble_eq_true rfl) ⟨⟨Nat.le_of_ble_eq_true rfl, Nat.le_of_ble_eq_true rfl⟩, rfl, rfl⟩ hcp (fun v2 A3 q2 => ?_)
    obtain ⟨⟨d9, hd9, rfl⟩, hS⟩ := q2
    obtain ⟨x9, rfl⟩ := tyI hd9
    obtain ⟨W3, f4, mb3, rd3, r3, sv3, hy3, hJ, hw⟩ := id hS
    refine g_istore X rfl (by decide) ?_
    refine g_aload_n X rfl rfl ?_
    refine g_rV X rfl lcX8_thrown lmW_152 lsX8_thrown (cr_X8_thrown l D cy B od hJ.2.1.1) (ci := 8) hJ.2.1.1 rfl rfl rfl (Nat.le_of_ble_eq_true rfl) ⟨⟨Nat.le_of_ble_eq_true rfl, Nat.le_of_ble_eq_true rfl⟩, rfl, rfl⟩ hcp ?_
    rw [hw]
    refine g_iload X rfl rfl ?_
    refine g_icmp_eq X rfl (fun _ => ?_) (fun q => absurd rfl q)
    refine g_iload X rfl rfl ?_
    refine g_if_ne X rfl (fun _ => ?_) (fun q => absurd q (cX_n0 (by decide)))
    refine g_goto X rfl ?_
    refine g_wid (k := cells + 3) (n := slots + 18) (Nat.add_le_add_left (Nat.le_of_ble_eq_true rfl) _) (Nat.add_le_add_left (Nat.le_of_ble_eq_true rfl) _) ?_
    exact G.lvw (lvw6 (fun j hj => match j, hj with | 0, _ => rfl | 1, _ => rfl | 2, _ => rfl | 3, _ => rfl | 4, _ => rfl | 5, _ => rfl | j + 6, h => absurd h (by omega))) (kk _ ⟨_, hS⟩)
def tC_11 : List PT := [(993, .aload_n 1, 1, 1, 0), (994, .aload_n 3, 1, 2, 0), (995, .invokestatic 190, 3, 3, 0), (998, .istore 6, 2, 4, 0), (1000, .aload_n 2, 1, 5, 0), (1001, .invokevirtual 192, 3, 6, 0), (1004, .istore 7, 2, 7, 0), (1006, .aload_n 2, 1, 8, 0), (1007, .invokevirtual 152, 3, 9, 0), (1010, .iload 6, 2, 10, 0), (1012, .if_icmp .eq 5, 3, 11, 13), (1015, .iconst 0, 1, 12, 0), (1016, .ireturn, 1, 13, 0), (1017, .iload 6, 2, 14, 0), (1019, .ifCond .ne 15, 3, 15, 24), (1022, .aload_n 3, 1, 16, 0), (1023, .iconst 0, 1, 17, 0), (1024, .laload, 1, 18, 0), (1025, .iload 7, 2, 19, 0), (1027, .i2l, 1, 20, 0), (1028, .lcmp, 1, 21, 0), (1029, .ifCond .eq 5, 3, 22, 24), (1032, .iconst 0, 1, 23, 0), (1033, .ireturn, 1, 24, 0), (1034, .goto 1788, 3, 0, 25), (2822, .iinc 5 6, 3, 26, 0), (2825, .goto (-2797), 3, 39, 27), (28, .iload 5, 2, 28, 0), (30, .aload_n 0, 1, 29, 0), (31, .arraylength, 1, 30, 0), (32, .bipush 6, 2, 31, 0), (34, .isub, 1, 32, 0), (35, .if_icmp .gt 2793, 3, 33, 39), (38, .aload_n 0, 1, 34, 0), (39, .iload 5, 2, 35, 0), (41, .iaload, 1, 36, 0), (42, .bipush 63, 2, 37, 0), (44, .iand, 1, 38, 0), (45, .tableswitch 2777 0 47 #[207, 311, 367, 380, 424, 528, 596, 652, 708, 788, 868, 948, 992, 1048, 1092, 1105, 1118, 1162, 1218, 1286, 1342, 1421, 1504, 1559, 1603, 1671, 1755, 1823, 1891, 1959, 2015, 2071, 2126, 2181, 2207, 2232, 2246, 2302, 2358, 2414, 2457, 2471, 2536, 2615, 2671, 2726, 2739, 2764], 207, 0, 0), (2828, .iconst 1, 1, 40, 0), (2829, .ireturn, 1, 0, 0)]
set_option maxRecDepth 100000 in
theorem okC_11 : OkTab cL_law tC_11 := ⟨by decide +kernel, by decide +kernel⟩
theorem lmW_190 : LkM RL 190 yL_closeQuarter := lw_good_in (n := 986) (by decide +kernel) rfl
theorem lmW_192 : LkM RL 192 yX8_closeQuarter := lw_good_in (n := 1589) (by decide +kernel) rfl
set_option maxRecDepth 100000 in
set_option maxHeartbeats 1000000 in
theorem law_11 (l : Launch) (D : va_G) (cy : Nat → ClassId) (B : Nat) (od : Nat → Option Nat) {p : Program} {e : Env} {s : State} {m : MethodId} {args : Array Value} {below : List Frame} {meth : Method} {c : Code} {F : State → Prop} {cells slots : Nat} {A : AH} {L i : Nat} {xs : Nat → Int32} {W : LW} {f : MF} {mb rd r sv hy : Nat → Int32} (hl9 : l.stackTraces = false) (X : Cx p s m args meth c D cy B od cL_law 9 tC_11 RL (some .boolean)) (hs : SCR B od L xs s) (hL : L ≤ 3072) (hi : i + 5 < L) (hI : INV cy A W f mb rd r sv hy) (hcap : cells + 3 ≤ 601024 ∧ slots + 18 ≤ 7293034) (kk : ∀ A9, (∃ w, SOK cy A9 w) → G p l e room_1 s m args below meth c D B od 9 tC_11 F (cells + 3) (slots + 18) A9 0 25 (lv0 i) []) : G p l e room_1 s m args below meth c D B od 9 tC_11 F cells slots A 0 0 (lv0 i) [] := by
  obtain ⟨fs0, ho0⟩ := hI.o0
  unfold lv0
  obtain ⟨Qr, Qx, hC, hT, hE, hA, hB⟩ := pr_closeQuarter l D cy B od hl9 hI
  refine g_aload_n X rfl rfl ?_
  refine g_aload_n X rfl rfl ?_
  refine g_hp X rfl lkL_closeQuarter lmW_190 stL_closeQuarter (hp_L_closeQuarter l D cy B od (hC 0) ho0 (fun r A1 h => ⟨tyI (hT r A1 h).1, (hT r A1 h).2.1⟩) hE) rfl rfl (Nat.le_of_ble_eq_true rfl) ⟨Nat.le_of_ble_eq_true rfl, Nat.le_of_ble_eq_true rfl⟩ ⟨Nat.le_trans (Nat.add_le_add_left (show rmL_closeQuarter.cells ≤ 3 by decide) _) hcap.1, Nat.le_trans (Nat.add_le_add_left (show rmL_closeQuarter.slots ≤ 18 by decide) _) hcap.2⟩ (fun v1 A1 z1 q1 => ?_)
  have hcp : cells + rmL_closeQuarter.cells ≤ room_1.cells ∧ slots + rmL_closeQuarter.slots ≤ room_1.slots := ⟨Nat.le_trans (Nat.add_le_add_left (show rmL_closeQuarter.cells ≤ 3 by decide) _) hcap.1, Nat.le_trans (Nat.add_le_add_left (show rmL_closeQuarter.slots ≤ 18 by decide) _) hcap.2⟩
  refine g_z0 ?_
  rcases q1 with ⟨r9, A2, g, hQ, rfl, hg, rfl⟩ | ⟨E, hx, hm, rfl⟩
  · obtain ⟨x9, rfl⟩ := tyI (hT r9 A2 hQ).1
    obtain ⟨⟨f3, hf3⟩, hMd⟩ := hA _ A2 _ hQ (Or.inl ⟨rfl, g, rfl⟩)
    refine g_istore X rfl (by decide) ?_
    refine g_aload_n X rfl rfl ?_
    refine g_mV X rfl lcX8_closeQuarter lmW_192 lsX8_closeQuarter hMd (ci := 8) hf3 rfl rfl rfl (Nat.le_of_ble_eq_true rfl) ⟨⟨Nat.le_of_ble_eq_true rfl, Nat.le_of_ble_eq_true rfl⟩, rfl, rfl⟩ hcp (fun v2 A3 q2 => ?_)
    obtain ⟨rfl, hS, ho3⟩ := q2
    obtain ⟨W3, f4, mb3, rd3, r3, sv3, hy3, hJ, hw⟩ := id hS
    refine g_istore X rfl (by decide) ?_
    refine g_aload_n X rfl rfl ?_
    refine g_rV X rfl lcX8_thrown lmW_152 lsX8_thrown (cr_X8_thrown l D cy B od hJ.2.1.1) (ci := 8) hJ.2.1.1 rfl rfl rfl (Nat.le_of_ble_eq_true rfl) ⟨⟨Nat.le_of_ble_eq_true rfl, Nat.le_of_ble_eq_true rfl⟩, rfl, rfl⟩ hcp ?_
    rw [hw]
    refine g_iload X rfl rfl ?_
    refine g_icmp_eq X rfl (fun _ => ?_) (fun q => absurd rfl q)
    refine g_iload X rfl rfl ?_
    refine g_if_ne X rfl (fun q => absurd nI_0 q) (fun _ => ?_)
    refine g_aload_n X rfl rfl ?_
    refine g_iconst X rfl (v := nI 0) (by decide) ?_
    refine g_laldN X rfl ho3 (by decide) (by decide) ?_
    refine g_iload X rfl rfl ?_
    refine g_i2l X rfl ?_
    refine g_l_eq X rfl rfl (fun _ => ?_) (fun q => absurd hg q)
    refine g_goto X rfl ?_
    refine g_wid (k := cells + 3) (n := slots + 18) (Nat.add_le_add_left (Nat.le_of_ble_eq_true rfl) _) (Nat.add_le_add_left (Nat.le_of_ble_eq_true rfl) _) ?_
    exact G.lvw (lvw6 (fun j hj => match j, hj with | 0, _ => rfl | 1, _ => rfl | 2, _ => rfl | 3, _ => rfl | 4, _ => rfl | 5, _ => rfl | j + 6, h => absurd h (by omega))) (kk _ ⟨_, hS⟩)
  · obtain ⟨⟨f3, hf3⟩, hMd⟩ := hB E A1 hx
    refine g_istore X rfl (by decide) ?_
    refine g_aload_n X rfl rfl ?_
    refine g_mV X rfl lcX8_closeQuarter lmW_192 lsX8_closeQuarter hMd (ci := 8) hf3 rfl rfl rfl (Nat.le_of_ble_eq_true rfl) ⟨⟨Nat.le_of_ble_eq_true rfl, Nat.le_of_ble_eq_true rfl⟩, rfl, rfl⟩ hcp (fun v2 A3 q2 => ?_)
    obtain ⟨⟨d9, hd9, rfl⟩, hS⟩ := q2
    obtain ⟨x9, rfl⟩ := tyI hd9
    obtain ⟨W3, f4, mb3, rd3, r3, sv3, hy3, hJ, hw⟩ := id hS
    refine g_istore X rfl (by decide) ?_
    refine g_aload_n X rfl rfl ?_
    refine g_rV X rfl lcX8_thrown lmW_152 lsX8_thrown (cr_X8_thrown l D cy B od hJ.2.1.1) (ci := 8) hJ.2.1.1 rfl rfl rfl (Nat.le_of_ble_eq_true rfl) ⟨⟨Nat.le_of_ble_eq_true rfl, Nat.le_of_ble_eq_true rfl⟩, rfl, rfl⟩ hcp ?_
    rw [hw]
    refine g_iload X rfl rfl ?_
    refine g_icmp_eq X rfl (fun _ => ?_) (fun q => absurd rfl q)
    refine g_iload X rfl rfl ?_
    refine g_if_ne X rfl (fun _ => ?_) (fun q => absurd q (cX_n0 (by decide)))
    refine g_goto X rfl ?_
    refine g_wid (k := cells + 3) (n := slots + 18) (Nat.add_le_add_left (Nat.le_of_ble_eq_true rfl) _) (Nat.add_le_add_left (Nat.le_of_ble_eq_true rfl) _) ?_
    exact G.lvw (lvw6 (fun j hj => match j, hj with | 0, _ => rfl | 1, _ => rfl | 2, _ => rfl | 3, _ => rfl | 4, _ => rfl | 5, _ => rfl | j + 6, h => absurd h (by omega))) (kk _ ⟨_, hS⟩)
