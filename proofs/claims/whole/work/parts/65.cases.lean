/-! 65: the law's cases -/
theorem ppNow_v9 (V : LV) (k : Nat) : ppNow (V9 (vZ V) (vS V)) k = ppNow V k := by
  unfold ppNow
  rw [ppSt_v9]
theorem sInt_v9 (V : LV) : sInt (V9 (vZ V) (vS V)) = sInt V := by
  unfold sInt
  simp only [ppNow_v9]
  first | done | rfl
def tC_36 : List PT := [(2291, .aload_n 1, 1, 1, 0), (2292, .aload_n 0, 1, 2, 0), (2293, .iload 5, 2, 3, 0), (2295, .iconst 1, 1, 4, 0), (2296, .iadd, 1, 5, 0), (2297, .iaload, 1, 6, 0), (2298, .aload_n 3, 1, 7, 0), (2299, .invokestatic 271, 3, 8, 0), (2302, .istore 6, 2, 9, 0), (2304, .aload_n 2, 1, 10, 0), (2305, .aload_n 0, 1, 11, 0), (2306, .iload 5, 2, 12, 0), (2308, .iconst 1, 1, 13, 0), (2309, .iadd, 1, 14, 0), (2310, .iaload, 1, 15, 0), (2311, .invokevirtual 273, 3, 16, 0), (2314, .istore 7, 2, 17, 0), (2316, .aload_n 2, 1, 18, 0), (2317, .invokevirtual 152, 3, 19, 0), (2320, .iload 6, 2, 20, 0), (2322, .if_icmp .eq 5, 3, 21, 23), (2325, .iconst 0, 1, 22, 0), (2326, .ireturn, 1, 23, 0), (2327, .iload 6, 2, 24, 0), (2329, .ifCond .ne 15, 3, 25, 34), (2332, .aload_n 3, 1, 26, 0), (2333, .iconst 0, 1, 27, 0), (2334, .laload, 1, 28, 0), (2335, .iload 7, 2, 29, 0), (2337, .i2l, 1, 30, 0), (2338, .lcmp, 1, 31, 0), (2339, .ifCond .eq 5, 3, 32, 34), (2342, .iconst 0, 1, 33, 0), (2343, .ireturn, 1, 34, 0), (2344, .goto 478, 3, 0, 35), (2822, .iinc 5 6, 3, 36, 0), (2825, .goto (-2797), 3, 49, 37), (28, .iload 5, 2, 38, 0), (30, .aload_n 0, 1, 39, 0), (31, .arraylength, 1, 40, 0), (32, .bipush 6, 2, 41, 0), (34, .isub, 1, 42, 0), (35, .if_icmp .gt 2793, 3, 43, 49), (38, .aload_n 0, 1, 44, 0), (39, .iload 5, 2, 45, 0), (41, .iaload, 1, 46, 0), (42, .bipush 63, 2, 47, 0), (44, .iand, 1, 48, 0), (45, .tableswitch 2777 0 47 #[207, 311, 367, 380, 424, 528, 596, 652, 708, 788, 868, 948, 992, 1048, 1092, 1105, 1118, 1162, 1218, 1286, 1342, 1421, 1504, 1559, 1603, 1671, 1755, 1823, 1891, 1959, 2015, 2071, 2126, 2181, 2207, 2232, 2246, 2302, 2358, 2414, 2457, 2471, 2536, 2615, 2671, 2726, 2739, 2764], 207, 0, 0), (2828, .iconst 1, 1, 50, 0), (2829, .ireturn, 1, 0, 0)]
set_option maxRecDepth 100000 in
theorem okC_36 : OkTab cL_law tC_36 := ⟨by decide +kernel, by decide +kernel⟩
theorem lmW_271 : LkM RL 271 yL_prepayment := lw_good_in (n := 1218) (by decide +kernel) rfl
theorem lmW_273 : LkM RL 273 yX8_prepayment := lw_good_in (n := 1783) (by decide +kernel) rfl
set_option maxRecDepth 100000 in
set_option maxHeartbeats 1000000 in
theorem law_36 (l : Launch) (D : va_G) (cy : Nat → ClassId) (B : Nat) (od : Nat → Option Nat) {p : Program} {e : Env} {s : State} {m : MethodId} {args : Array Value} {below : List Frame} {meth : Method} {c : Code} {F : State → Prop} {cells slots : Nat} {A : AH} {L i : Nat} {xs : Nat → Int32} {W : LW} {f : MF} {mb rd r sv hy : Nat → Int32} (hl9 : l.stackTraces = false) (X : Cx p s m args meth c D cy B od cL_law 9 tC_36 RL (some .boolean)) (hs : SCR B od L xs s) (hL : L ≤ 3072) (hi : i + 5 < L) (hI : INV cy A W f mb rd r sv hy) (hcap : cells + 3 ≤ 601024 ∧ slots + 18 ≤ 7293034) (kk : ∀ A9, (∃ w, SOK cy A9 w) → G p l e room_1 s m args below meth c D B od 9 tC_36 F (cells + 3) (slots + 18) A9 0 35 (lv0 i) []) : G p l e room_1 s m args below meth c D B od 9 tC_36 F cells slots A 0 0 (lv0 i) [] := by
  obtain ⟨fs0, ho0⟩ := hI.o0
  unfold lv0
  obtain ⟨Qr, Qx, hC, hT, hE, hA, hB⟩ := pr_prepayment l D cy B od hl9 hI (x0 := xs (i + 1))
  refine g_aload_n X rfl rfl ?_
  refine g_aload_n X rfl rfl ?_
  refine g_iload X rfl rfl ?_
  refine g_iconst X rfl (v := nI 1) (by decide) ?_
  refine g_iadN X rfl ?_
  refine g_sld X hs rfl (by omega) (by omega) ?_
  refine g_aload_n X rfl rfl ?_
  refine g_hp X rfl lkL_prepayment lmW_271 stL_prepayment (hp_L_prepayment l D cy B od (hC 0) ho0 (fun r A1 h => ⟨tyI (hT r A1 h).1, (hT r A1 h).2.1⟩) hE) rfl rfl (Nat.le_of_ble_eq_true rfl) ⟨Nat.le_of_ble_eq_true rfl, Nat.le_of_ble_eq_true rfl⟩ ⟨Nat.le_trans (Nat.add_le_add_left (show rmL_prepayment.cells ≤ 3 by decide) _) hcap.1, Nat.le_trans (Nat.add_le_add_left (show rmL_prepayment.slots ≤ 18 by decide) _) hcap.2⟩ (fun v1 A1 z1 q1 => ?_)
  have hcp : cells + rmL_prepayment.cells ≤ room_1.cells ∧ slots + rmL_prepayment.slots ≤ room_1.slots := ⟨Nat.le_trans (Nat.add_le_add_left (show rmL_prepayment.cells ≤ 3 by decide) _) hcap.1, Nat.le_trans (Nat.add_le_add_left (show rmL_prepayment.slots ≤ 18 by decide) _) hcap.2⟩
  refine g_z0 ?_
  rcases q1 with ⟨r9, A2, g, hQ, rfl, hg, rfl⟩ | ⟨E, hx, hm, rfl⟩
  · obtain ⟨x9, rfl⟩ := tyI (hT r9 A2 hQ).1
    obtain ⟨⟨f3, hf3⟩, hMd⟩ := hA _ A2 _ hQ (Or.inl ⟨rfl, g, rfl⟩)
    refine g_istore X rfl (by decide) ?_
    refine g_aload_n X rfl rfl ?_
    refine g_aload_n X rfl rfl ?_
    refine g_iload X rfl rfl ?_
    refine g_iconst X rfl (v := nI 1) (by decide) ?_
    refine g_iadN X rfl ?_
    refine g_sld X hs rfl (by omega) (by omega) ?_
    refine g_mV X rfl lcX8_prepayment lmW_273 lsX8_prepayment hMd (ci := 8) hf3 rfl rfl rfl (Nat.le_of_ble_eq_true rfl) ⟨⟨Nat.le_of_ble_eq_true rfl, Nat.le_of_ble_eq_true rfl⟩, rfl, rfl⟩ hcp (fun v2 A3 q2 => ?_)
    obtain ⟨rfl, hS, ho3⟩ := q2
    obtain ⟨W3, f4, mb3, rd3, r3, sv3, hy3, hJ, hw⟩ := id hS
    refine g_istore X rfl (by decide) ?_
    refine g_aload_n X rfl rfl ?_
    refine g_rV X rfl lcX8_thrown lmW_152 lsX8_thrown (cr_X8_thrown l D cy B od hJ.2.1.1) (ci := 8) hJ.2.1.1 rfl rfl rfl (Nat.le_of_ble_eq_true rfl) ⟨⟨Nat.le_of_ble_eq_true rfl, Nat.le_of_ble_eq_true rfl⟩, rfl, rfl⟩ hcp ?_
    rw [hw]
    refine g_iload X rfl rfl ?_
    refine g_icmp_eq X rfl (fun _ => ?_) (fun q => absurd rfl q)
    refine g_iload X rfl rfl ?_
    refine g_if_ne X rfl (fun q => absurd nI_0 q) (fun _ => ?_)
    refine g_aload_n X rfl rfl ?_
    refine g_iconst X rfl (v := nI 0) (by decide) ?_
    refine g_laldN X rfl ho3 (by decide) (by decide) ?_
    refine g_iload X rfl rfl ?_
    refine g_i2l X rfl ?_
    refine g_l_eq X rfl rfl (fun _ => ?_) (fun q => absurd hg q)
    refine g_goto X rfl ?_
    refine g_wid (k := cells + 3) (n := slots + 18) (Nat.add_le_add_left (Nat.le_of_ble_eq_true rfl) _) (Nat.add_le_add_left (Nat.le_of_ble_eq_true rfl) _) ?_
    exact G.lvw (lvw6 (fun j hj => match j, hj with | 0, _ => rfl | 1, _ => rfl | 2, _ => rfl | 3, _ => rfl | 4, _ => rfl | 5, _ => rfl | j + 6, h => absurd h (by omega))) (kk _ ⟨_, hS⟩)
  · obtain ⟨⟨f3, hf3⟩, hMd⟩ := hB E A1 hx
    refine g_istore X rfl (by decide) ?_
    refine g_aload_n X rfl rfl ?_
    refine g_aload_n X rfl rfl ?_
    refine g_iload X rfl rfl ?_
    refine g_iconst X rfl (v := nI 1) (by decide) ?_
    refine g_iadN X rfl ?_
    refine g_sld X hs rfl (by omega) (by omega) ?_
    refine g_mV X rfl lcX8_prepayment lmW_273 lsX8_prepayment hMd (ci := 8) hf3 rfl rfl rfl (Nat.le_of_ble_eq_true rfl) ⟨⟨Nat.le_of_ble_eq_true rfl, Nat.le_of_ble_eq_true rfl⟩, rfl, rfl⟩ hcp (fun v2 A3 q2 => ?_)
    obtain ⟨⟨d9, hd9, rfl⟩, hS⟩ := q2
    obtain ⟨x9, rfl⟩ := tyI hd9
    obtain ⟨W3, f4, mb3, rd3, r3, sv3, hy3, hJ, hw⟩ := id hS
    refine g_istore X rfl (by decide) ?_
    refine g_aload_n X rfl rfl ?_
    refine g_rV X rfl lcX8_thrown lmW_152 lsX8_thrown (cr_X8_thrown l D cy B od hJ.2.1.1) (ci := 8) hJ.2.1.1 rfl rfl rfl (Nat.le_of_ble_eq_true rfl) ⟨⟨Nat.le_of_ble_eq_true rfl, Nat.le_of_ble_eq_true rfl⟩, rfl, rfl⟩ hcp ?_
    rw [hw]
    refine g_iload X rfl rfl ?_
    refine g_icmp_eq X rfl (fun _ => ?_) (fun q => absurd rfl q)
    refine g_iload X rfl rfl ?_
    refine g_if_ne X rfl (fun _ => ?_) (fun q => absurd q (cX_n0 (by decide)))
    refine g_goto X rfl ?_
    refine g_wid (k := cells + 3) (n := slots + 18) (Nat.add_le_add_left (Nat.le_of_ble_eq_true rfl) _) (Nat.add_le_add_left (Nat.le_of_ble_eq_true rfl) _) ?_
    exact G.lvw (lvw6 (fun j hj => match j, hj with | 0, _ => rfl | 1, _ => rfl | 2, _ => rfl | 3, _ => rfl | 4, _ => rfl | 5, _ => rfl | j + 6, h => absurd h (by omega))) (kk _ ⟨_, hS⟩)
def tC_37 : List PT := [(2347, .aload_n 1, 1, 1, 0), (2348, .aload_n 0, 1, 2, 0), (2349, .iload 5, 2, 3, 0), (2351, .iconst 1, 1, 4, 0), (2352, .iadd, 1, 5, 0), (2353, .iaload, 1, 6, 0), (2354, .aload_n 3, 1, 7, 0), (2355, .invokestatic 274, 3, 8, 0), (2358, .istore 6, 2, 9, 0), (2360, .aload_n 2, 1, 10, 0), (2361, .aload_n 0, 1, 11, 0), (2362, .iload 5, 2, 12, 0), (2364, .iconst 1, 1, 13, 0), (2365, .iadd, 1, 14, 0), (2366, .iaload, 1, 15, 0), (2367, .invokevirtual 276, 3, 16, 0), (2370, .istore 7, 2, 17, 0), (2372, .aload_n 2, 1, 18, 0), (2373, .invokevirtual 152, 3, 19, 0), (2376, .iload 6, 2, 20, 0), (2378, .if_icmp .eq 5, 3, 21, 23), (2381, .iconst 0, 1, 22, 0), (2382, .ireturn, 1, 23, 0), (2383, .iload 6, 2, 24, 0), (2385, .ifCond .ne 15, 3, 25, 34), (2388, .aload_n 3, 1, 26, 0), (2389, .iconst 0, 1, 27, 0), (2390, .laload, 1, 28, 0), (2391, .iload 7, 2, 29, 0), (2393, .i2l, 1, 30, 0), (2394, .lcmp, 1, 31, 0), (2395, .ifCond .eq 5, 3, 32, 34), (2398, .iconst 0, 1, 33, 0), (2399, .ireturn, 1, 34, 0), (2400, .goto 422, 3, 0, 35), (2822, .iinc 5 6, 3, 36, 0), (2825, .goto (-2797), 3, 49, 37), (28, .iload 5, 2, 38, 0), (30, .aload_n 0, 1, 39, 0), (31, .arraylength, 1, 40, 0), (32, .bipush 6, 2, 41, 0), (34, .isub, 1, 42, 0), (35, .if_icmp .gt 2793, 3, 43, 49), (38, .aload_n 0, 1, 44, 0), (39, .iload 5, 2, 45, 0), (41, .iaload, 1, 46, 0), (42, .bipush 63, 2, 47, 0), (44, .iand, 1, 48, 0), (45, .tableswitch 2777 0 47 #[207, 311, 367, 380, 424, 528, 596, 652, 708, 788, 868, 948, 992, 1048, 1092, 1105, 1118, 1162, 1218, 1286, 1342, 1421, 1504, 1559, 1603, 1671, 1755, 1823, 1891, 1959, 2015, 2071, 2126, 2181, 2207, 2232, 2246, 2302, 2358, 2414, 2457, 2471, 2536, 2615, 2671, 2726, 2739, 2764], 207, 0, 0), (2828, .iconst 1, 1, 50, 0), (2829, .ireturn, 1, 0, 0)]
set_option maxRecDepth 100000 in
theorem okC_37 : OkTab cL_law tC_37 := ⟨by decide +kernel, by decide +kernel⟩
theorem lmW_274 : LkM RL 274 yL_recomputed := lw_good_in (n := 1225) (by decide +kernel) rfl
theorem lmW_276 : LkM RL 276 yX8_recomputed := lw_good_in (n := 1791) (by decide +kernel) rfl
set_option maxRecDepth 100000 in
set_option maxHeartbeats 1000000 in
theorem law_37 (l : Launch) (D : va_G) (cy : Nat → ClassId) (B : Nat) (od : Nat → Option Nat) {p : Program} {e : Env} {s : State} {m : MethodId} {args : Array Value} {below : List Frame} {meth : Method} {c : Code} {F : State → Prop} {cells slots : Nat} {A : AH} {L i : Nat} {xs : Nat → Int32} {W : LW} {f : MF} {mb rd r sv hy : Nat → Int32} (hl9 : l.stackTraces = false) (X : Cx p s m args meth c D cy B od cL_law 9 tC_37 RL (some .boolean)) (hs : SCR B od L xs s) (hL : L ≤ 3072) (hi : i + 5 < L) (hI : INV cy A W f mb rd r sv hy) (hcap : cells + 3 ≤ 601024 ∧ slots + 18 ≤ 7293034) (kk : ∀ A9, (∃ w, SOK cy A9 w) → G p l e room_1 s m args below meth c D B od 9 tC_37 F (cells + 3) (slots + 18) A9 0 35 (lv0 i) []) : G p l e room_1 s m args below meth c D B od 9 tC_37 F cells slots A 0 0 (lv0 i) [] := by
  obtain ⟨fs0, ho0⟩ := hI.o0
  unfold lv0
  obtain ⟨Qr, Qx, hC, hT, hE, hA, hB⟩ := pr_recomputed l D cy B od hl9 hI (x0 := xs (i + 1))
  refine g_aload_n X rfl rfl ?_
  refine g_aload_n X rfl rfl ?_
  refine g_iload X rfl rfl ?_
  refine g_iconst X rfl (v := nI 1) (by decide) ?_
  refine g_iadN X rfl ?_
  refine g_sld X hs rfl (by omega) (by omega) ?_
  refine g_aload_n X rfl rfl ?_
  refine g_hp X rfl lkL_recomputed lmW_274 stL_recomputed (hp_L_recomputed l D cy B od (hC 0) ho0 (fun r A1 h => ⟨tyI (hT r A1 h).1, (hT r A1 h).2.1⟩) hE) rfl rfl (Nat.le_of_ble_eq_true rfl) ⟨Nat.le_of_ble_eq_true rfl, Nat.le_of_ble_eq_true rfl⟩ ⟨Nat.le_trans (Nat.add_le_add_left (show rmL_recomputed.cells ≤ 3 by decide) _) hcap.1, Nat.le_trans (Nat.add_le_add_left (show rmL_recomputed.slots ≤ 18 by decide) _) hcap.2⟩ (fun v1 A1 z1 q1 => ?_)
  have hcp : cells + rmL_recomputed.cells ≤ room_1.cells ∧ slots + rmL_recomputed.slots ≤ room_1.slots := ⟨Nat.le_trans (Nat.add_le_add_left (show rmL_recomputed.cells ≤ 3 by decide) _) hcap.1, Nat.le_trans (Nat.add_le_add_left (show rmL_recomputed.slots ≤ 18 by decide) _) hcap.2⟩
  refine g_z0 ?_
  rcases q1 with ⟨r9, A2, g, hQ, rfl, hg, rfl⟩ | ⟨E, hx, hm, rfl⟩
  · obtain ⟨x9, rfl⟩ := tyI (hT r9 A2 hQ).1
    obtain ⟨⟨f3, hf3⟩, hMd⟩ := hA _ A2 _ hQ (Or.inl ⟨rfl, g, rfl⟩)
    refine g_istore X rfl (by decide) ?_
    refine g_aload_n X rfl rfl ?_
    refine g_aload_n X rfl rfl ?_
    refine g_iload X rfl rfl ?_
    refine g_iconst X rfl (v := nI 1) (by decide) ?_
    refine g_iadN X rfl ?_
    refine g_sld X hs rfl (by omega) (by omega) ?_
    refine g_mV X rfl lcX8_recomputed lmW_276 lsX8_recomputed hMd (ci := 8) hf3 rfl rfl rfl (Nat.le_of_ble_eq_true rfl) ⟨⟨Nat.le_of_ble_eq_true rfl, Nat.le_of_ble_eq_true rfl⟩, rfl, rfl⟩ hcp (fun v2 A3 q2 => ?_)
    obtain ⟨rfl, hS, ho3⟩ := q2
    obtain ⟨W3, f4, mb3, rd3, r3, sv3, hy3, hJ, hw⟩ := id hS
    refine g_istore X rfl (by decide) ?_
    refine g_aload_n X rfl rfl ?_
    refine g_rV X rfl lcX8_thrown lmW_152 lsX8_thrown (cr_X8_thrown l D cy B od hJ.2.1.1) (ci := 8) hJ.2.1.1 rfl rfl rfl (Nat.le_of_ble_eq_true rfl) ⟨⟨Nat.le_of_ble_eq_true rfl, Nat.le_of_ble_eq_true rfl⟩, rfl, rfl⟩ hcp ?_
    rw [hw]
    refine g_iload X rfl rfl ?_
    refine g_icmp_eq X rfl (fun _ => ?_) (fun q => absurd rfl q)
    refine g_iload X rfl rfl ?_
    refine g_if_ne X rfl (fun q => absurd nI_0 q) (fun _ => ?_)
    refine g_aload_n X rfl rfl ?_
    refine g_iconst X rfl (v := nI 0) (by decide) ?_
    refine g_laldN X rfl ho3 (by decide) (by decide) ?_
    refine g_iload X rfl rfl ?_
    refine g_i2l X rfl ?_
    refine g_l_eq X rfl rfl (fun _ => ?_) (fun q => absurd hg q)
    refine g_goto X rfl ?_
    refine g_wid (k := cells + 3) (n := slots + 18) (Nat.add_le_add_left (Nat.le_of_ble_eq_true rfl) _) (Nat.add_le_add_left (Nat.le_of_ble_eq_true rfl) _) ?_
    exact G.lvw (lvw6 (fun j hj => match j, hj with | 0, _ => rfl | 1, _ => rfl | 2, _ => rfl | 3, _ => rfl | 4, _ => rfl | 5, _ => rfl | j + 6, h => absurd h (by omega))) (kk _ ⟨_, hS⟩)
  · obtain ⟨⟨f3, hf3⟩, hMd⟩ := hB E A1 hx
    refine g_istore X rfl (by decide) ?_
    refine g_aload_n X rfl rfl ?_
    refine g_aload_n X rfl rfl ?_
    refine g_iload X rfl rfl ?_
    refine g_iconst X rfl (v := nI 1) (by decide) ?_
    refine g_iadN X rfl ?_
    refine g_sld X hs rfl (by omega) (by omega) ?_
    refine g_mV X rfl lcX8_recomputed lmW_276 lsX8_recomputed hMd (ci := 8) hf3 rfl rfl rfl (Nat.le_of_ble_eq_true rfl) ⟨⟨Nat.le_of_ble_eq_true rfl, Nat.le_of_ble_eq_true rfl⟩, rfl, rfl⟩ hcp (fun v2 A3 q2 => ?_)
    obtain ⟨⟨d9, hd9, rfl⟩, hS⟩ := q2
    obtain ⟨x9, rfl⟩ := tyI hd9
    obtain ⟨W3, f4, mb3, rd3, r3, sv3, hy3, hJ, hw⟩ := id hS
    refine g_istore X rfl (by decide) ?_
    refine g_aload_n X rfl rfl ?_
    refine g_rV X rfl lcX8_thrown lmW_152 lsX8_thrown (cr_X8_thrown l D cy B od hJ.2.1.1) (ci := 8) hJ.2.1.1 rfl rfl rfl (Nat.le_of_ble_eq_true rfl) ⟨⟨Nat.le_of_ble_eq_true rfl, Nat.le_of_ble_eq_true rfl⟩, rfl, rfl⟩ hcp ?_
    rw [hw]
    refine g_iload X rfl rfl ?_
    refine g_icmp_eq X rfl (fun _ => ?_) (fun q => absurd rfl q)
    refine g_iload X rfl rfl ?_
    refine g_if_ne X rfl (fun _ => ?_) (fun q => absurd q (cX_n0 (by decide)))
    refine g_goto X rfl ?_
    refine g_wid (k := cells + 3) (n := slots + 18) (Nat.add_le_add_left (Nat.le_of_ble_eq_true rfl) _) (Nat.add_le_add_left (Nat.le_of_ble_eq_true rfl) _) ?_
    exact G.lvw (lvw6 (fun j hj => match j, hj with | 0, _ => rfl | 1, _ => rfl | 2, _ => rfl | 3, _ => rfl | 4, _ => rfl | 5, _ => rfl | j + 6, h => absurd h (by omega))) (kk _ ⟨_, hS⟩)
def tC_38 : List PT := [(2403, .aload_n 1, 1, 1, 0), (2404, .aload_n 0, 1, 2, 0), (2405, .iload 5, 2, 3, 0), (2407, .iconst 1, 1, 4, 0), (2408, .iadd, 1, 5, 0), (2409, .iaload, 1, 6, 0), (2410, .aload_n 3, 1, 7, 0), (2411, .invokestatic 277, 3, 8, 0), (2414, .istore 6, 2, 9, 0), (2416, .aload_n 2, 1, 10, 0), (2417, .aload_n 0, 1, 11, 0), (2418, .iload 5, 2, 12, 0), (2420, .iconst 1, 1, 13, 0), (2421, .iadd, 1, 14, 0), (2422, .iaload, 1, 15, 0), (2423, .invokevirtual 279, 3, 16, 0), (2426, .istore 7, 2, 17, 0), (2428, .aload_n 2, 1, 18, 0), (2429, .invokevirtual 152, 3, 19, 0), (2432, .iload 6, 2, 20, 0), (2434, .if_icmp .eq 5, 3, 21, 23), (2437, .iconst 0, 1, 22, 0), (2438, .ireturn, 1, 23, 0), (2439, .iload 6, 2, 24, 0), (2441, .ifCond .ne 15, 3, 25, 34), (2444, .aload_n 3, 1, 26, 0), (2445, .iconst 0, 1, 27, 0), (2446, .laload, 1, 28, 0), (2447, .iload 7, 2, 29, 0), (2449, .i2l, 1, 30, 0), (2450, .lcmp, 1, 31, 0), (2451, .ifCond .eq 5, 3, 32, 34), (2454, .iconst 0, 1, 33, 0), (2455, .ireturn, 1, 34, 0), (2456, .goto 366, 3, 0, 35), (2822, .iinc 5 6, 3, 36, 0), (2825, .goto (-2797), 3, 49, 37), (28, .iload 5, 2, 38, 0), (30, .aload_n 0, 1, 39, 0), (31, .arraylength, 1, 40, 0), (32, .bipush 6, 2, 41, 0), (34, .isub, 1, 42, 0), (35, .if_icmp .gt 2793, 3, 43, 49), (38, .aload_n 0, 1, 44, 0), (39, .iload 5, 2, 45, 0), (41, .iaload, 1, 46, 0), (42, .bipush 63, 2, 47, 0), (44, .iand, 1, 48, 0), (45, .tableswitch 2777 0 47 #[207, 311, 367, 380, 424, 528, 596, 652, 708, 788, 868, 948, 992, 1048, 1092, 1105, 1118, 1162, 1218, 1286, 1342, 1421, 1504, 1559, 1603, 1671, 1755, 1823, 1891, 1959, 2015, 2071, 2126, 2181, 2207, 2232, 2246, 2302, 2358, 2414, 2457, 2471, 2536, 2615, 2671, 2726, 2739, 2764], 207, 0, 0), (2828, .iconst 1, 1, 50, 0), (2829, .ireturn, 1, 0, 0)]
set_option maxRecDepth 100000 in
theorem okC_38 : OkTab cL_law tC_38 := ⟨by decide +kernel, by decide +kernel⟩
theorem lmW_277 : LkM RL 277 yL_correction := lw_good_in (n := 1232) (by decide +kernel) rfl
theorem lmW_279 : LkM RL 279 yX8_correction := lw_good_in (n := 1799) (by decide +kernel) rfl
set_option maxRecDepth 100000 in
set_option maxHeartbeats 1000000 in
theorem law_38 (l : Launch) (D : va_G) (cy : Nat → ClassId) (B : Nat) (od : Nat → Option Nat) {p : Program} {e : Env} {s : State} {m : MethodId} {args : Array Value} {below : List Frame} {meth : Method} {c : Code} {F : State → Prop} {cells slots : Nat} {A : AH} {L i : Nat} {xs : Nat → Int32} {W : LW} {f : MF} {mb rd r sv hy : Nat → Int32} (hl9 : l.stackTraces = false) (X : Cx p s m args meth c D cy B od cL_law 9 tC_38 RL (some .boolean)) (hs : SCR B od L xs s) (hL : L ≤ 3072) (hi : i + 5 < L) (hI : INV cy A W f mb rd r sv hy) (hcap : cells + 3 ≤ 601024 ∧ slots + 18 ≤ 7293034) (kk : ∀ A9, (∃ w, SOK cy A9 w) → G p l e room_1 s m args below meth c D B od 9 tC_38 F (cells + 3) (slots + 18) A9 0 35 (lv0 i) []) : G p l e room_1 s m args below meth c D B od 9 tC_38 F cells slots A 0 0 (lv0 i) [] := by
  obtain ⟨fs0, ho0⟩ := hI.o0
  unfold lv0
  obtain ⟨Qr, Qx, hC, hT, hE, hA, hB⟩ := pr_correction l D cy B od hl9 hI (x0 := xs (i + 1))
  refine g_aload_n X rfl rfl ?_
  refine g_aload_n X rfl rfl ?_
  refine g_iload X rfl rfl ?_
  refine g_iconst X rfl (v := nI 1) (by decide) ?_
  refine g_iadN X rfl ?_
  refine g_sld X hs rfl (by omega) (by omega) ?_
  refine g_aload_n X rfl rfl ?_
  refine g_hp X rfl lkL_correction lmW_277 stL_correction (hp_L_correction l D cy B od (hC 0) ho0 (fun r A1 h => ⟨tyI (hT r A1 h).1, (hT r A1 h).2.1⟩) hE) rfl rfl (Nat.le_of_ble_eq_true rfl) ⟨Nat.le_of_ble_eq_true rfl, Nat.le_of_ble_eq_true rfl⟩ ⟨Nat.le_trans (Nat.add_le_add_left (show rmL_correction.cells ≤ 3 by decide) _) hcap.1, Nat.le_trans (Nat.add_le_add_left (show rmL_correction.slots ≤ 18 by decide) _) hcap.2⟩ (fun v1 A1 z1 q1 => ?_)
  have hcp : cells + rmL_correction.cells ≤ room_1.cells ∧ slots + rmL_correction.slots ≤ room_1.slots := ⟨Nat.le_trans (Nat.add_le_add_left (show rmL_correction.cells ≤ 3 by decide) _) hcap.1, Nat.le_trans (Nat.add_le_add_left (show rmL_correction.slots ≤ 18 by decide) _) hcap.2⟩
  refine g_z0 ?_
  rcases q1 with ⟨r9, A2, g, hQ, rfl, hg, rfl⟩ | ⟨E, hx, hm, rfl⟩
  · obtain ⟨x9, rfl⟩ := tyI (hT r9 A2 hQ).1
    obtain ⟨⟨f3, hf3⟩, hMd⟩ := hA _ A2 _ hQ (Or.inl ⟨rfl, g, rfl⟩)
    refine g_istore X rfl (by decide) ?_
    refine g_aload_n X rfl rfl ?_
    refine g_aload_n X rfl rfl ?_
    refine g_iload X rfl rfl ?_
    refine g_iconst X rfl (v := nI 1) (by decide) ?_
    refine g_iadN X rfl ?_
    refine g_sld X hs rfl (by omega) (by omega) ?_
    refine g_mV X rfl lcX8_correction lmW_279 lsX8_correction hMd (ci := 8) hf3 rfl rfl rfl (Nat.le_of_ble_eq_true rfl) ⟨⟨Nat.le_of_ble_eq_true rfl, Nat.le_of_ble_eq_true rfl⟩, rfl, rfl⟩ hcp (fun v2 A3 q2 => ?_)
    obtain ⟨rfl, hS, ho3⟩ := q2
    obtain ⟨W3, f4, mb3, rd3, r3, sv3, hy3, hJ, hw⟩ := id hS
    refine g_istore X rfl (by decide) ?_
    refine g_aload_n X rfl rfl ?_
    refine g_rV X rfl lcX8_thrown lmW_152 lsX8_thrown (cr_X8_thrown l D cy B od hJ.2.1.1) (ci := 8) hJ.2.1.1 rfl rfl rfl (Nat.le_of_ble_eq_true rfl) ⟨⟨Nat.le_of_ble_eq_true rfl, Nat.le_of_ble_eq_true rfl⟩, rfl, rfl⟩ hcp ?_
    rw [hw]
    refine g_iload X rfl rfl ?_
    refine g_icmp_eq X rfl (fun _ => ?_) (fun q => absurd rfl q)
    refine g_iload X rfl rfl ?_
    refine g_if_ne X rfl (fun q => absurd nI_0 q) (fun _ => ?_)
    refine g_aload_n X rfl rfl ?_
    refine g_iconst X rfl (v := nI 0) (by decide) ?_
    refine g_laldN X rfl ho3 (by decide) (by decide) ?_
    refine g_iload X rfl rfl ?_
    refine g_i2l X rfl ?_
    refine g_l_eq X rfl rfl (fun _ => ?_) (fun q => absurd hg q)
    refine g_goto X rfl ?_
    refine g_wid (k := cells + 3) (n := slots + 18) (Nat.add_le_add_left (Nat.le_of_ble_eq_true rfl) _) (Nat.add_le_add_left (Nat.le_of_ble_eq_true rfl) _) ?_
    exact G.lvw (lvw6 (fun j hj => match j, hj with | 0, _ => rfl | 1, _ => rfl | 2, _ => rfl | 3, _ => rfl | 4, _ => rfl | 5, _ => rfl | j + 6, h => absurd h (by omega))) (kk _ ⟨_, hS⟩)
  · obtain ⟨⟨f3, hf3⟩, hMd⟩ := hB E A1 hx
    refine g_istore X rfl (by decide) ?_
    refine g_aload_n X rfl rfl ?_
    refine g_aload_n X rfl rfl ?_
    refine g_iload X rfl rfl ?_
    refine g_iconst X rfl (v := nI 1) (by decide) ?_
    refine g_iadN X rfl ?_
    refine g_sld X hs rfl (by omega) (by omega) ?_
    refine g_mV X rfl lcX8_correction lmW_279 lsX8_correction hMd (ci := 8) hf3 rfl rfl rfl (Nat.le_of_ble_eq_true rfl) ⟨⟨Nat.le_of_ble_eq_true rfl, Nat.le_of_ble_eq_true rfl⟩, rfl, rfl⟩ hcp (fun v2 A3 q2 => ?_)
    obtain ⟨⟨d9, hd9, rfl⟩, hS⟩ := q2
    obtain ⟨x9, rfl⟩ := tyI hd9
    obtain ⟨W3, f4, mb3, rd3, r3, sv3, hy3, hJ, hw⟩ := id hS
    refine g_istore X rfl (by decide) ?_
    refine g_aload_n X rfl rfl ?_
    refine g_rV X rfl lcX8_thrown lmW_152 lsX8_thrown (cr_X8_thrown l D cy B od hJ.2.1.1) (ci := 8) hJ.2.1.1 rfl rfl rfl (Nat.le_of_ble_eq_true rfl) ⟨⟨Nat.le_of_ble_eq_true rfl, Nat.le_of_ble_eq_true rfl⟩, rfl, rfl⟩ hcp ?_
    rw [hw]
    refine g_iload X rfl rfl ?_
    refine g_icmp_eq X rfl (fun _ => ?_) (fun q => absurd rfl q)
    refine g_iload X rfl rfl ?_
    refine g_if_ne X rfl (fun _ => ?_) (fun q => absurd q (cX_n0 (by decide)))
    refine g_goto X rfl ?_
    refine g_wid (k := cells + 3) (n := slots + 18) (Nat.add_le_add_left (Nat.le_of_ble_eq_true rfl) _) (Nat.add_le_add_left (Nat.le_of_ble_eq_true rfl) _) ?_
    exact G.lvw (lvw6 (fun j hj => match j, hj with | 0, _ => rfl | 1, _ => rfl | 2, _ => rfl | 3, _ => rfl | 4, _ => rfl | 5, _ => rfl | j + 6, h => absurd h (by omega))) (kk _ ⟨_, hS⟩)
def tC_39 : List PT := [(2459, .aload_n 1, 1, 1, 0), (2460, .aload_n 3, 1, 2, 0), (2461, .invokestatic 280, 3, 3, 0), (2464, .istore 6, 2, 4, 0), (2466, .aload_n 2, 1, 5, 0), (2467, .invokevirtual 282, 3, 6, 0), (2470, .lstore 7, 2, 7, 0), (2472, .aload_n 2, 1, 8, 0), (2473, .invokevirtual 152, 3, 9, 0), (2476, .iload 6, 2, 10, 0), (2478, .if_icmp .eq 5, 3, 11, 13), (2481, .iconst 0, 1, 12, 0), (2482, .ireturn, 1, 13, 0), (2483, .iload 6, 2, 14, 0), (2485, .ifCond .ne 14, 3, 15, 23), (2488, .aload_n 3, 1, 16, 0), (2489, .iconst 0, 1, 17, 0), (2490, .laload, 1, 18, 0), (2491, .lload 7, 2, 19, 0), (2493, .lcmp, 1, 20, 0), (2494, .ifCond .eq 5, 3, 21, 23), (2497, .iconst 0, 1, 22, 0), (2498, .ireturn, 1, 23, 0), (2499, .goto 323, 3, 0, 24), (2822, .iinc 5 6, 3, 25, 0), (2825, .goto (-2797), 3, 38, 26), (28, .iload 5, 2, 27, 0), (30, .aload_n 0, 1, 28, 0), (31, .arraylength, 1, 29, 0), (32, .bipush 6, 2, 30, 0), (34, .isub, 1, 31, 0), (35, .if_icmp .gt 2793, 3, 32, 38), (38, .aload_n 0, 1, 33, 0), (39, .iload 5, 2, 34, 0), (41, .iaload, 1, 35, 0), (42, .bipush 63, 2, 36, 0), (44, .iand, 1, 37, 0), (45, .tableswitch 2777 0 47 #[207, 311, 367, 380, 424, 528, 596, 652, 708, 788, 868, 948, 992, 1048, 1092, 1105, 1118, 1162, 1218, 1286, 1342, 1421, 1504, 1559, 1603, 1671, 1755, 1823, 1891, 1959, 2015, 2071, 2126, 2181, 2207, 2232, 2246, 2302, 2358, 2414, 2457, 2471, 2536, 2615, 2671, 2726, 2739, 2764], 207, 0, 0), (2828, .iconst 1, 1, 39, 0), (2829, .ireturn, 1, 0, 0)]
set_option maxRecDepth 100000 in
theorem okC_39 : OkTab cL_law tC_39 := ⟨by decide +kernel, by decide +kernel⟩
theorem lmW_280 : LkM RL 280 yL_settlement := lw_good_in (n := 1239) (by decide +kernel) rfl
theorem lmW_282 : LkM RL 282 yX8_settlement := lw_good_in (n := 1807) (by decide +kernel) rfl
set_option maxRecDepth 100000 in
set_option maxHeartbeats 1000000 in
theorem law_39 (l : Launch) (D : va_G) (cy : Nat → ClassId) (B : Nat) (od : Nat → Option Nat) {p : Program} {e : Env} {s : State} {m : MethodId} {args : Array Value} {below : List Frame} {meth : Method} {c : Code} {F : State → Prop} {cells slots : Nat} {A : AH} {L i : Nat} {xs : Nat → Int32} {W : LW} {f : MF} {mb rd r sv hy : Nat → Int32} (hl9 : l.stackTraces = false) (X : Cx p s m args meth c D cy B od cL_law 9 tC_39 RL (some .boolean)) (hs : SCR B od L xs s) (hL : L ≤ 3072) (hi : i + 5 < L) (hI : INV cy A W f mb rd r sv hy) (hcap : cells + 3 ≤ 601024 ∧ slots + 18 ≤ 7293034) (kk : ∀ A9, (∃ w, SOK cy A9 w) → G p l e room_1 s m args below meth c D B od 9 tC_39 F (cells + 3) (slots + 18) A9 0 24 (lv0 i) []) : G p l e room_1 s m args below meth c D B od 9 tC_39 F cells slots A 0 0 (lv0 i) [] := by
  obtain ⟨fs0, ho0⟩ := hI.o0
  unfold lv0
  obtain ⟨Qr, Qx, hC, hT, hE, hA, hB⟩ := pr_settlement l D cy B od hl9 hI
  refine g_aload_n X rfl rfl ?_
  refine g_aload_n X rfl rfl ?_
  refine g_hp X rfl lkL_settlement lmW_280 stL_settlement (hp_L_settlement l D cy B od (hC 0) ho0 (fun r A1 h => ⟨tyL (hT r A1 h).1, (hT r A1 h).2.1⟩) hE) rfl rfl (Nat.le_of_ble_eq_true rfl) ⟨Nat.le_of_ble_eq_true rfl, Nat.le_of_ble_eq_true rfl⟩ ⟨Nat.le_trans (Nat.add_le_add_left (show rmL_settlement.cells ≤ 3 by decide) _) hcap.1, Nat.le_trans (Nat.add_le_add_left (show rmL_settlement.slots ≤ 18 by decide) _) hcap.2⟩ (fun v1 A1 z1 q1 => ?_)
  have hcp : cells + rmL_settlement.cells ≤ room_1.cells ∧ slots + rmL_settlement.slots ≤ room_1.slots := ⟨Nat.le_trans (Nat.add_le_add_left (show rmL_settlement.cells ≤ 3 by decide) _) hcap.1, Nat.le_trans (Nat.add_le_add_left (show rmL_settlement.slots ≤ 18 by decide) _) hcap.2⟩
  refine g_z0 ?_
  rcases q1 with ⟨r9, A2, g, hQ, rfl, hg, rfl⟩ | ⟨E, hx, hm, rfl⟩
  · obtain ⟨x9, rfl⟩ := tyL (hT r9 A2 hQ).1
    obtain ⟨⟨f3, hf3⟩, hMd⟩ := hA _ A2 _ hQ (Or.inl ⟨rfl, g, rfl⟩)
    refine g_istore X rfl (by decide) ?_
    refine g_aload_n X rfl rfl ?_
    refine g_mV X rfl lcX8_settlement lmW_282 lsX8_settlement hMd (ci := 8) hf3 rfl rfl rfl (Nat.le_of_ble_eq_true rfl) ⟨⟨Nat.le_of_ble_eq_true rfl, Nat.le_of_ble_eq_true rfl⟩, rfl, rfl⟩ hcp (fun v2 A3 q2 => ?_)
    obtain ⟨rfl, hS, ho3⟩ := q2
    obtain ⟨W3, f4, mb3, rd3, r3, sv3, hy3, hJ, hw⟩ := id hS
    refine g_lstore X rfl (by decide) ?_
    refine g_aload_n X rfl rfl ?_
    refine g_rV X rfl lcX8_thrown lmW_152 lsX8_thrown (cr_X8_thrown l D cy B od hJ.2.1.1) (ci := 8) hJ.2.1.1 rfl rfl rfl (Nat.le_of_ble_eq_true rfl) ⟨⟨Nat.le_of_ble_eq_true rfl, Nat.le_of_ble_eq_true rfl⟩, rfl, rfl⟩ hcp ?_
    rw [hw]
    refine g_iload X rfl rfl ?_
    refine g_icmp_eq X rfl (fun _ => ?_) (fun q => absurd rfl q)
    refine g_iload X rfl rfl ?_
    refine g_if_ne X rfl (fun q => absurd nI_0 q) (fun _ => ?_)
    refine g_aload_n X rfl rfl ?_
    refine g_iconst X rfl (v := nI 0) (by decide) ?_
    refine g_laldN X rfl ho3 (by decide) (by decide) ?_
    refine g_lload X rfl rfl ?_
    refine g_l_eq X rfl rfl (fun _ => ?_) (fun q => absurd hg q)
    refine g_goto X rfl ?_
    refine g_wid (k := cells + 3) (n := slots + 18) (Nat.add_le_add_left (Nat.le_of_ble_eq_true rfl) _) (Nat.add_le_add_left (Nat.le_of_ble_eq_true rfl) _) ?_
    exact G.lvw (lvw6 (fun j hj => match j, hj with | 0, _ => rfl | 1, _ => rfl | 2, _ => rfl | 3, _ => rfl | 4, _ => rfl | 5, _ => rfl | j + 6, h => absurd h (by omega))) (kk _ ⟨_, hS⟩)
  · obtain ⟨⟨f3, hf3⟩, hMd⟩ := hB E A1 hx
    refine g_istore X rfl (by decide) ?_
    refine g_aload_n X rfl rfl ?_
    refine g_mV X rfl lcX8_settlement lmW_282 lsX8_settlement hMd (ci := 8) hf3 rfl rfl rfl (Nat.le_of_ble_eq_true rfl) ⟨⟨Nat.le_of_ble_eq_true rfl, Nat.le_of_ble_eq_true rfl⟩, rfl, rfl⟩ hcp (fun v2 A3 q2 => ?_)
    obtain ⟨⟨d9, hd9, rfl⟩, hS⟩ := q2
    obtain ⟨x9, rfl⟩ := tyL hd9
    obtain ⟨W3, f4, mb3, rd3, r3, sv3, hy3, hJ, hw⟩ := id hS
    refine g_lstore X rfl (by decide) ?_
    refine g_aload_n X rfl rfl ?_
    refine g_rV X rfl lcX8_thrown lmW_152 lsX8_thrown (cr_X8_thrown l D cy B od hJ.2.1.1) (ci := 8) hJ.2.1.1 rfl rfl rfl (Nat.le_of_ble_eq_true rfl) ⟨⟨Nat.le_of_ble_eq_true rfl, Nat.le_of_ble_eq_true rfl⟩, rfl, rfl⟩ hcp ?_
    rw [hw]
    refine g_iload X rfl rfl ?_
    refine g_icmp_eq X rfl (fun _ => ?_) (fun q => absurd rfl q)
    refine g_iload X rfl rfl ?_
    refine g_if_ne X rfl (fun _ => ?_) (fun q => absurd q (cX_n0 (by decide)))
    refine g_goto X rfl ?_
    refine g_wid (k := cells + 3) (n := slots + 18) (Nat.add_le_add_left (Nat.le_of_ble_eq_true rfl) _) (Nat.add_le_add_left (Nat.le_of_ble_eq_true rfl) _) ?_
    exact G.lvw (lvw6 (fun j hj => match j, hj with | 0, _ => rfl | 1, _ => rfl | 2, _ => rfl | 3, _ => rfl | 4, _ => rfl | 5, _ => rfl | j + 6, h => absurd h (by omega))) (kk _ ⟨_, hS⟩)
def tC_40 : List PT := [(2502, .aload_n 1, 1, 1, 0), (2503, .invokevirtual 283, 3, 2, 0), (2506, .aload_n 2, 1, 3, 0), (2507, .invokevirtual 286, 3, 4, 0), (2510, .lcmp, 1, 5, 0), (2511, .ifCond .eq 311, 3, 6, 8), (2514, .iconst 0, 1, 7, 0), (2515, .ireturn, 1, 0, 0), (2822, .iinc 5 6, 3, 9, 0), (2825, .goto (-2797), 3, 22, 10), (28, .iload 5, 2, 11, 0), (30, .aload_n 0, 1, 12, 0), (31, .arraylength, 1, 13, 0), (32, .bipush 6, 2, 14, 0), (34, .isub, 1, 15, 0), (35, .if_icmp .gt 2793, 3, 16, 22), (38, .aload_n 0, 1, 17, 0), (39, .iload 5, 2, 18, 0), (41, .iaload, 1, 19, 0), (42, .bipush 63, 2, 20, 0), (44, .iand, 1, 21, 0), (45, .tableswitch 2777 0 47 #[207, 311, 367, 380, 424, 528, 596, 652, 708, 788, 868, 948, 992, 1048, 1092, 1105, 1118, 1162, 1218, 1286, 1342, 1421, 1504, 1559, 1603, 1671, 1755, 1823, 1891, 1959, 2015, 2071, 2126, 2181, 2207, 2232, 2246, 2302, 2358, 2414, 2457, 2471, 2536, 2615, 2671, 2726, 2739, 2764], 207, 0, 0), (2828, .iconst 1, 1, 23, 0), (2829, .ireturn, 1, 0, 0)]
set_option maxRecDepth 100000 in
theorem okC_40 : OkTab cL_law tC_40 := ⟨by decide +kernel, by decide +kernel⟩
theorem lmW_283 : LkM RL 283 yX7_interest := lw_good_in (n := 720) (by decide +kernel) rfl
theorem lmW_286 : LkM RL 286 yX8_interest := lw_good_in (n := 1811) (by decide +kernel) rfl
set_option maxRecDepth 100000 in
set_option maxHeartbeats 1000000 in
theorem law_40 (l : Launch) (D : va_G) (cy : Nat → ClassId) (B : Nat) (od : Nat → Option Nat) {p : Program} {e : Env} {s : State} {m : MethodId} {args : Array Value} {below : List Frame} {meth : Method} {c : Code} {F : State → Prop} {cells slots : Nat} {A : AH} {L i : Nat} {xs : Nat → Int32} {W : LW} {f : MF} {mb rd r sv hy : Nat → Int32} (hl9 : l.stackTraces = false) (X : Cx p s m args meth c D cy B od cL_law 9 tC_40 RL (some .boolean)) (hs : SCR B od L xs s) (hL : L ≤ 3072) (hi : i + 5 < L) (hI : INV cy A W f mb rd r sv hy) (hcap : cells + 3 ≤ 601024 ∧ slots + 18 ≤ 7293034) (kk : ∀ A9, (∃ w, SOK cy A9 w) → G p l e room_1 s m args below meth c D B od 9 tC_40 F (cells + 3) (slots + 18) A9 0 8 (lv0 i) []) : G p l e room_1 s m args below meth c D B od 9 tC_40 F cells slots A 0 0 (lv0 i) [] := by
  obtain ⟨fs0, ho0⟩ := hI.o0
  unfold lv0
  have hcp : cells ≤ room_1.cells ∧ slots ≤ room_1.slots := ⟨Nat.le_trans (Nat.le_add_right _ 3) hcap.1, Nat.le_trans (Nat.le_add_right _ 18) hcap.2⟩
  refine g_aload_n X rfl rfl ?_
  refine g_rV X rfl lcX7_interest lmW_283 lsX7_interest (cr_X7_interest l D cy B od hI.vw) (ci := 7) ho0 rfl rfl rfl (Nat.le_of_ble_eq_true rfl) ⟨⟨Nat.le_of_ble_eq_true rfl, Nat.le_of_ble_eq_true rfl⟩, rfl, rfl⟩ hcp ?_
  refine g_aload_n X rfl rfl ?_
  refine g_mV X rfl lcX8_interest lmW_286 lsX8_interest (cm_X8_interest l D cy B od hI.mdr hI.2.2.1.1.2.1 hI.2.2.1.1.2.2) (ci := 8) hI.2.1.1 rfl rfl rfl (Nat.le_of_ble_eq_true rfl) ⟨⟨Nat.le_of_ble_eq_true rfl, Nat.le_of_ble_eq_true rfl⟩, rfl, rfl⟩ hcp (fun v2 A3 q2 => ?_)
  obtain ⟨rfl, rfl⟩ := q2
  rw [sInt_v9]
  refine g_l_eq X rfl rfl (fun _ => ?_) (fun q => absurd rfl q)
  refine g_wid (Nat.le_add_right _ 3) (Nat.le_add_right _ 18) ?_
  exact G.lvw (lvw6 (fun j hj => match j, hj with | 0, _ => rfl | 1, _ => rfl | 2, _ => rfl | 3, _ => rfl | 4, _ => rfl | 5, _ => rfl | j + 6, h => absurd h (by omega))) (kk _ ⟨_, (⟨_, _, _, _, _, _, _, hI.thr (w := nI 0), rfl⟩ : SOK cy _ 0)⟩)
def tC_41 : List PT := [(2516, .aload_n 1, 1, 1, 0), (2517, .aload 4, 2, 2, 0), (2519, .invokestatic 287, 3, 3, 0), (2522, .istore 6, 2, 4, 0), (2524, .aload_n 2, 1, 5, 0), (2525, .invokevirtual 290, 3, 6, 0), (2528, .dstore 7, 2, 7, 0), (2530, .aload_n 2, 1, 8, 0), (2531, .invokevirtual 152, 3, 9, 0), (2534, .iload 6, 2, 10, 0), (2536, .if_icmp .eq 5, 3, 11, 13), (2539, .iconst 0, 1, 12, 0), (2540, .ireturn, 1, 13, 0), (2541, .iload 6, 2, 14, 0), (2543, .ifCond .ne 35, 3, 15, 35), (2546, .aload 4, 2, 16, 0), (2548, .iconst 0, 1, 17, 0), (2549, .daload, 1, 18, 0), (2550, .dload 7, 2, 19, 0), (2552, .dcmp .l, 1, 20, 0), (2553, .ifCond .eq 25, 3, 21, 35), (2556, .aload 4, 2, 22, 0), (2558, .iconst 0, 1, 23, 0), (2559, .daload, 1, 24, 0), (2560, .aload 4, 2, 25, 0), (2562, .iconst 0, 1, 26, 0), (2563, .daload, 1, 27, 0), (2564, .dcmp .l, 1, 28, 0), (2565, .ifCond .eq 11, 3, 29, 33), (2568, .dload 7, 2, 30, 0), (2570, .dload 7, 2, 31, 0), (2572, .dcmp .l, 1, 32, 0), (2573, .ifCond .ne 5, 3, 33, 35), (2576, .iconst 0, 1, 34, 0), (2577, .ireturn, 1, 35, 0), (2578, .goto 244, 3, 0, 36), (2822, .iinc 5 6, 3, 37, 0), (2825, .goto (-2797), 3, 50, 38), (28, .iload 5, 2, 39, 0), (30, .aload_n 0, 1, 40, 0), (31, .arraylength, 1, 41, 0), (32, .bipush 6, 2, 42, 0), (34, .isub, 1, 43, 0), (35, .if_icmp .gt 2793, 3, 44, 50), (38, .aload_n 0, 1, 45, 0), (39, .iload 5, 2, 46, 0), (41, .iaload, 1, 47, 0), (42, .bipush 63, 2, 48, 0), (44, .iand, 1, 49, 0), (45, .tableswitch 2777 0 47 #[207, 311, 367, 380, 424, 528, 596, 652, 708, 788, 868, 948, 992, 1048, 1092, 1105, 1118, 1162, 1218, 1286, 1342, 1421, 1504, 1559, 1603, 1671, 1755, 1823, 1891, 1959, 2015, 2071, 2126, 2181, 2207, 2232, 2246, 2302, 2358, 2414, 2457, 2471, 2536, 2615, 2671, 2726, 2739, 2764], 207, 0, 0), (2828, .iconst 1, 1, 51, 0), (2829, .ireturn, 1, 0, 0)]
set_option maxRecDepth 100000 in
theorem okC_41 : OkTab cL_law tC_41 := ⟨by decide +kernel, by decide +kernel⟩
theorem lmW_287 : LkM RL 287 yL_effectiveRate := lw_good_in (n := 1246) (by decide +kernel) rfl
theorem lmW_290 : LkM RL 290 yX8_effectiveRate := lw_good_in (n := 1815) (by decide +kernel) rfl
set_option maxRecDepth 100000 in
set_option maxHeartbeats 1000000 in
theorem law_41 (l : Launch) (D : va_G) (cy : Nat → ClassId) (B : Nat) (od : Nat → Option Nat) {p : Program} {e : Env} {s : State} {m : MethodId} {args : Array Value} {below : List Frame} {meth : Method} {c : Code} {F : State → Prop} {cells slots : Nat} {A : AH} {L i : Nat} {xs : Nat → Int32} {W : LW} {f : MF} {mb rd r sv hy : Nat → Int32} (hl9 : l.stackTraces = false) (X : Cx p s m args meth c D cy B od cL_law 9 tC_41 RL (some .boolean)) (hs : SCR B od L xs s) (hL : L ≤ 3072) (hi : i + 5 < L) (hI : INV cy A W f mb rd r sv hy) (hcap : cells + 3 ≤ 601024 ∧ slots + 18 ≤ 7293034) (kk : ∀ A9, (∃ w, SOK cy A9 w) → G p l e room_1 s m args below meth c D B od 9 tC_41 F (cells + 3) (slots + 18) A9 0 36 (lv0 i) []) : G p l e room_1 s m args below meth c D B od 9 tC_41 F cells slots A 0 0 (lv0 i) [] := by
  obtain ⟨fs0, ho0⟩ := hI.o0
  unfold lv0
  obtain ⟨Qr, Qx, hC, hT, hE, hA, hB⟩ := pr_effectiveRate l D cy B od hl9 hI
  refine g_aload_n X rfl rfl ?_
  refine g_aload X rfl rfl ?_
  refine g_hp X rfl lkL_effectiveRate lmW_287 stL_effectiveRate (hp_L_effectiveRate l D cy B od (hC 0) ho0 (fun r A1 h => ⟨tyD (hT r A1 h).1, (hT r A1 h).2.2⟩) hE) rfl rfl (Nat.le_of_ble_eq_true rfl) ⟨Nat.le_of_ble_eq_true rfl, Nat.le_of_ble_eq_true rfl⟩ ⟨Nat.le_trans (Nat.add_le_add_left (show rmL_effectiveRate.cells ≤ 3 by decide) _) hcap.1, Nat.le_trans (Nat.add_le_add_left (show rmL_effectiveRate.slots ≤ 18 by decide) _) hcap.2⟩ (fun v1 A1 z1 q1 => ?_)
  have hcp : cells + rmL_effectiveRate.cells ≤ room_1.cells ∧ slots + rmL_effectiveRate.slots ≤ room_1.slots := ⟨Nat.le_trans (Nat.add_le_add_left (show rmL_effectiveRate.cells ≤ 3 by decide) _) hcap.1, Nat.le_trans (Nat.add_le_add_left (show rmL_effectiveRate.slots ≤ 18 by decide) _) hcap.2⟩
  refine g_z0 ?_
  rcases q1 with ⟨r9, A2, g, hQ, rfl, hg, rfl⟩ | ⟨E, hx, hm, rfl⟩
  · obtain ⟨x9, rfl⟩ := tyD (hT r9 A2 hQ).1
    obtain ⟨⟨f3, hf3⟩, hMd⟩ := hA _ A2 _ hQ (Or.inr ⟨rfl, g, rfl⟩)
    refine g_istore X rfl (by decide) ?_
    refine g_aload_n X rfl rfl ?_
    refine g_mV X rfl lcX8_effectiveRate lmW_290 lsX8_effectiveRate hMd (ci := 8) hf3 rfl rfl rfl (Nat.le_of_ble_eq_true rfl) ⟨⟨Nat.le_of_ble_eq_true rfl, Nat.le_of_ble_eq_true rfl⟩, rfl, rfl⟩ hcp (fun v2 A3 q2 => ?_)
    obtain ⟨rfl, hS, ho3⟩ := q2
    obtain ⟨W3, f4, mb3, rd3, r3, sv3, hy3, hJ, hw⟩ := id hS
    refine g_dstore X rfl (by decide) ?_
    refine g_aload_n X rfl rfl ?_
    refine g_rV X rfl lcX8_thrown lmW_152 lsX8_thrown (cr_X8_thrown l D cy B od hJ.2.1.1) (ci := 8) hJ.2.1.1 rfl rfl rfl (Nat.le_of_ble_eq_true rfl) ⟨⟨Nat.le_of_ble_eq_true rfl, Nat.le_of_ble_eq_true rfl⟩, rfl, rfl⟩ hcp ?_
    rw [hw]
    refine g_iload X rfl rfl ?_
    refine g_icmp_eq X rfl (fun _ => ?_) (fun q => absurd rfl q)
    refine g_iload X rfl rfl ?_
    refine g_if_ne X rfl (fun q => absurd nI_0 q) (fun _ => ?_)
    refine g_aload X rfl rfl ?_
    refine g_iconst X rfl (v := nI 0) (by decide) ?_
    refine g_daldN X rfl ho3 (by decide) (by decide) ?_
    rw [show g 0 = x9 from hg]
    refine g_dload X rfl rfl ?_
    refine g_dcmp X rfl ?_
    refine g_if_eq X rfl (fun _ => ?_) (fun h7 => ?_)
    · refine g_goto X rfl ?_
      refine g_wid (k := cells + 3) (n := slots + 18) (Nat.add_le_add_left (Nat.le_of_ble_eq_true rfl) _) (Nat.add_le_add_left (Nat.le_of_ble_eq_true rfl) _) ?_
      exact G.lvw (lvw6 (fun j hj => match j, hj with | 0, _ => rfl | 1, _ => rfl | 2, _ => rfl | 3, _ => rfl | 4, _ => rfl | 5, _ => rfl | j + 6, h => absurd h (by omega))) (kk _ ⟨_, hS⟩)
    · refine g_aload X rfl rfl ?_
      refine g_iconst X rfl (v := nI 0) (by decide) ?_
      refine g_daldN X rfl ho3 (by decide) (by decide) ?_
      refine g_aload X rfl rfl ?_
      refine g_iconst X rfl (v := nI 0) (by decide) ?_
      refine g_daldN X rfl ho3 (by decide) (by decide) ?_
      rw [show g 0 = x9 from hg]
      refine g_dcmp X rfl ?_
      refine g_if_eq X rfl (fun q => absurd q h7) (fun _ => ?_)
      refine g_dload X rfl rfl ?_
      refine g_dload X rfl rfl ?_
      refine g_dcmp X rfl ?_
      refine g_if_ne X rfl (fun _ => ?_) (fun q => absurd q h7)
      refine g_goto X rfl ?_
      refine g_wid (k := cells + 3) (n := slots + 18) (Nat.add_le_add_left (Nat.le_of_ble_eq_true rfl) _) (Nat.add_le_add_left (Nat.le_of_ble_eq_true rfl) _) ?_
      exact G.lvw (lvw6 (fun j hj => match j, hj with | 0, _ => rfl | 1, _ => rfl | 2, _ => rfl | 3, _ => rfl | 4, _ => rfl | 5, _ => rfl | j + 6, h => absurd h (by omega))) (kk _ ⟨_, hS⟩)
  · obtain ⟨⟨f3, hf3⟩, hMd⟩ := hB E A1 hx
    refine g_istore X rfl (by decide) ?_
    refine g_aload_n X rfl rfl ?_
    refine g_mV X rfl lcX8_effectiveRate lmW_290 lsX8_effectiveRate hMd (ci := 8) hf3 rfl rfl rfl (Nat.le_of_ble_eq_true rfl) ⟨⟨Nat.le_of_ble_eq_true rfl, Nat.le_of_ble_eq_true rfl⟩, rfl, rfl⟩ hcp (fun v2 A3 q2 => ?_)
    obtain ⟨⟨d9, hd9, rfl⟩, hS⟩ := q2
    obtain ⟨x9, rfl⟩ := tyD hd9
    obtain ⟨W3, f4, mb3, rd3, r3, sv3, hy3, hJ, hw⟩ := id hS
    refine g_dstore X rfl (by decide) ?_
    refine g_aload_n X rfl rfl ?_
    refine g_rV X rfl lcX8_thrown lmW_152 lsX8_thrown (cr_X8_thrown l D cy B od hJ.2.1.1) (ci := 8) hJ.2.1.1 rfl rfl rfl (Nat.le_of_ble_eq_true rfl) ⟨⟨Nat.le_of_ble_eq_true rfl, Nat.le_of_ble_eq_true rfl⟩, rfl, rfl⟩ hcp ?_
    rw [hw]
    refine g_iload X rfl rfl ?_
    refine g_icmp_eq X rfl (fun _ => ?_) (fun q => absurd rfl q)
    refine g_iload X rfl rfl ?_
    refine g_if_ne X rfl (fun _ => ?_) (fun q => absurd q (cX_n0 (by decide)))
    refine g_goto X rfl ?_
    refine g_wid (k := cells + 3) (n := slots + 18) (Nat.add_le_add_left (Nat.le_of_ble_eq_true rfl) _) (Nat.add_le_add_left (Nat.le_of_ble_eq_true rfl) _) ?_
    exact G.lvw (lvw6 (fun j hj => match j, hj with | 0, _ => rfl | 1, _ => rfl | 2, _ => rfl | 3, _ => rfl | 4, _ => rfl | 5, _ => rfl | j + 6, h => absurd h (by omega))) (kk _ ⟨_, hS⟩)
def tC_42 : List PT := [(2581, .aload_n 1, 1, 1, 0), (2582, .aload_n 0, 1, 2, 0), (2583, .iload 5, 2, 3, 0), (2585, .iconst 1, 1, 4, 0), (2586, .iadd, 1, 5, 0), (2587, .iaload, 1, 6, 0), (2588, .aload_n 0, 1, 7, 0), (2589, .iload 5, 2, 8, 0), (2591, .iconst 2, 1, 9, 0), (2592, .iadd, 1, 10, 0), (2593, .iaload, 1, 11, 0), (2594, .aload_n 0, 1, 12, 0), (2595, .iload 5, 2, 13, 0), (2597, .iconst 3, 1, 14, 0), (2598, .iadd, 1, 15, 0), (2599, .iaload, 1, 16, 0), (2600, .aload_n 3, 1, 17, 0), (2601, .invokestatic 291, 3, 18, 0), (2604, .istore 6, 2, 19, 0), (2606, .aload_n 2, 1, 20, 0), (2607, .aload_n 0, 1, 21, 0), (2608, .iload 5, 2, 22, 0), (2610, .iconst 1, 1, 23, 0), (2611, .iadd, 1, 24, 0), (2612, .iaload, 1, 25, 0), (2613, .aload_n 0, 1, 26, 0), (2614, .iload 5, 2, 27, 0), (2616, .iconst 2, 1, 28, 0), (2617, .iadd, 1, 29, 0), (2618, .iaload, 1, 30, 0), (2619, .aload_n 0, 1, 31, 0), (2620, .iload 5, 2, 32, 0), (2622, .iconst 3, 1, 33, 0), (2623, .iadd, 1, 34, 0), (2624, .iaload, 1, 35, 0), (2625, .invokevirtual 293, 3, 36, 0), (2628, .lstore 7, 2, 37, 0), (2630, .aload_n 2, 1, 38, 0), (2631, .invokevirtual 152, 3, 39, 0), (2634, .iload 6, 2, 40, 0), (2636, .if_icmp .eq 5, 3, 41, 43), (2639, .iconst 0, 1, 42, 0), (2640, .ireturn, 1, 43, 0), (2641, .iload 6, 2, 44, 0), (2643, .ifCond .ne 14, 3, 45, 53), (2646, .aload_n 3, 1, 46, 0), (2647, .iconst 0, 1, 47, 0), (2648, .laload, 1, 48, 0), (2649, .lload 7, 2, 49, 0), (2651, .lcmp, 1, 50, 0), (2652, .ifCond .eq 5, 3, 51, 53), (2655, .iconst 0, 1, 52, 0), (2656, .ireturn, 1, 53, 0), (2657, .goto 165, 3, 0, 54), (2822, .iinc 5 6, 3, 55, 0), (2825, .goto (-2797), 3, 68, 56), (28, .iload 5, 2, 57, 0), (30, .aload_n 0, 1, 58, 0), (31, .arraylength, 1, 59, 0), (32, .bipush 6, 2, 60, 0), (34, .isub, 1, 61, 0), (35, .if_icmp .gt 2793, 3, 62, 68), (38, .aload_n 0, 1, 63, 0), (39, .iload 5, 2, 64, 0), (41, .iaload, 1, 65, 0), (42, .bipush 63, 2, 66, 0), (44, .iand, 1, 67, 0), (45, .tableswitch 2777 0 47 #[207, 311, 367, 380, 424, 528, 596, 652, 708, 788, 868, 948, 992, 1048, 1092, 1105, 1118, 1162, 1218, 1286, 1342, 1421, 1504, 1559, 1603, 1671, 1755, 1823, 1891, 1959, 2015, 2071, 2126, 2181, 2207, 2232, 2246, 2302, 2358, 2414, 2457, 2471, 2536, 2615, 2671, 2726, 2739, 2764], 207, 0, 0), (2828, .iconst 1, 1, 69, 0), (2829, .ireturn, 1, 0, 0)]
set_option maxRecDepth 100000 in
theorem okC_42 : OkTab cL_law tC_42 := ⟨by decide +kernel, by decide +kernel⟩
theorem lmW_291 : LkM RL 291 yL_whatIf := lw_good_in (n := 1254) (by decide +kernel) rfl
theorem lmW_293 : LkM RL 293 yX8_whatIf := lw_good_in (n := 1820) (by decide +kernel) rfl
set_option maxRecDepth 100000 in
set_option maxHeartbeats 1000000 in
theorem law_42 (l : Launch) (D : va_G) (cy : Nat → ClassId) (B : Nat) (od : Nat → Option Nat) {p : Program} {e : Env} {s : State} {m : MethodId} {args : Array Value} {below : List Frame} {meth : Method} {c : Code} {F : State → Prop} {cells slots : Nat} {A : AH} {L i : Nat} {xs : Nat → Int32} {W : LW} {f : MF} {mb rd r sv hy : Nat → Int32} (hl9 : l.stackTraces = false) (X : Cx p s m args meth c D cy B od cL_law 9 tC_42 RL (some .boolean)) (hs : SCR B od L xs s) (hL : L ≤ 3072) (hi : i + 5 < L) (hI : INV cy A W f mb rd r sv hy) (hcap : cells + 3 ≤ 601024 ∧ slots + 18 ≤ 7293034) (kk : ∀ A9, (∃ w, SOK cy A9 w) → G p l e room_1 s m args below meth c D B od 9 tC_42 F (cells + 3) (slots + 18) A9 0 54 (lv0 i) []) : G p l e room_1 s m args below meth c D B od 9 tC_42 F cells slots A 0 0 (lv0 i) [] := by
  obtain ⟨fs0, ho0⟩ := hI.o0
  unfold lv0
  obtain ⟨Qr, Qx, hC, hT, hE, hA, hB⟩ := pr_whatIf l D cy B od hl9 hI (x0 := xs (i + 1)) (x1 := xs (i + 2)) (x2 := xs (i + 3))
  refine g_aload_n X rfl rfl ?_
  refine g_aload_n X rfl rfl ?_
  refine g_iload X rfl rfl ?_
  refine g_iconst X rfl (v := nI 1) (by decide) ?_
  refine g_iadN X rfl ?_
  refine g_sld X hs rfl (by omega) (by omega) ?_
  refine g_aload_n X rfl rfl ?_
  refine g_iload X rfl rfl ?_
  refine g_iconst X rfl (v := nI 2) (by decide) ?_
  refine g_iadN X rfl ?_
  refine g_sld X hs rfl (by omega) (by omega) ?_
  refine g_aload_n X rfl rfl ?_
  refine g_iload X rfl rfl ?_
  refine g_iconst X rfl (v := nI 3) (by decide) ?_
  refine g_iadN X rfl ?_
  refine g_sld X hs rfl (by omega) (by omega) ?_
  refine g_aload_n X rfl rfl ?_
  refine g_hp X rfl lkL_whatIf lmW_291 stL_whatIf (hp_L_whatIf l D cy B od (hC 0) ho0 (fun r A1 h => ⟨tyL (hT r A1 h).1, (hT r A1 h).2.1⟩) hE) rfl rfl (Nat.le_of_ble_eq_true rfl) ⟨Nat.le_of_ble_eq_true rfl, Nat.le_of_ble_eq_true rfl⟩ ⟨Nat.le_trans (Nat.add_le_add_left (show rmL_whatIf.cells ≤ 3 by decide) _) hcap.1, Nat.le_trans (Nat.add_le_add_left (show rmL_whatIf.slots ≤ 18 by decide) _) hcap.2⟩ (fun v1 A1 z1 q1 => ?_)
  have hcp : cells + rmL_whatIf.cells ≤ room_1.cells ∧ slots + rmL_whatIf.slots ≤ room_1.slots := ⟨Nat.le_trans (Nat.add_le_add_left (show rmL_whatIf.cells ≤ 3 by decide) _) hcap.1, Nat.le_trans (Nat.add_le_add_left (show rmL_whatIf.slots ≤ 18 by decide) _) hcap.2⟩
  refine g_z0 ?_
  rcases q1 with ⟨r9, A2, g, hQ, rfl, hg, rfl⟩ | ⟨E, hx, hm, rfl⟩
  · obtain ⟨x9, rfl⟩ := tyL (hT r9 A2 hQ).1
    obtain ⟨⟨f3, hf3⟩, hMd⟩ := hA _ A2 _ hQ (Or.inl ⟨rfl, g, rfl⟩)
    refine g_istore X rfl (by decide) ?_
    refine g_aload_n X rfl rfl ?_
    refine g_aload_n X rfl rfl ?_
    refine g_iload X rfl rfl ?_
    refine g_iconst X rfl (v := nI 1) (by decide) ?_
    refine g_iadN X rfl ?_
    refine g_sld X hs rfl (by omega) (by omega) ?_
    refine g_aload_n X rfl rfl ?_
    refine g_iload X rfl rfl ?_
    refine g_iconst X rfl (v := nI 2) (by decide) ?_
    refine g_iadN X rfl ?_
    refine g_sld X hs rfl (by omega) (by omega) ?_
    refine g_aload_n X rfl rfl ?_
    refine g_iload X rfl rfl ?_
    refine g_iconst X rfl (v := nI 3) (by decide) ?_
    refine g_iadN X rfl ?_
    refine g_sld X hs rfl (by omega) (by omega) ?_
    refine g_mV X rfl lcX8_whatIf lmW_293 lsX8_whatIf hMd (ci := 8) hf3 rfl rfl rfl (Nat.le_of_ble_eq_true rfl) ⟨⟨Nat.le_of_ble_eq_true rfl, Nat.le_of_ble_eq_true rfl⟩, rfl, rfl⟩ hcp (fun v2 A3 q2 => ?_)
    obtain ⟨rfl, hS, ho3⟩ := q2
    obtain ⟨W3, f4, mb3, rd3, r3, sv3, hy3, hJ, hw⟩ := id hS
    refine g_lstore X rfl (by decide) ?_
    refine g_aload_n X rfl rfl ?_
    refine g_rV X rfl lcX8_thrown lmW_152 lsX8_thrown (cr_X8_thrown l D cy B od hJ.2.1.1) (ci := 8) hJ.2.1.1 rfl rfl rfl (Nat.le_of_ble_eq_true rfl) ⟨⟨Nat.le_of_ble_eq_true rfl, Nat.le_of_ble_eq_true rfl⟩, rfl, rfl⟩ hcp ?_
    rw [hw]
    refine g_iload X rfl rfl ?_
    refine g_icmp_eq X rfl (fun _ => ?_) (fun q => absurd rfl q)
    refine g_iload X rfl rfl ?_
    refine g_if_ne X rfl (fun q => absurd nI_0 q) (fun _ => ?_)
    refine g_aload_n X rfl rfl ?_
    refine g_iconst X rfl (v := nI 0) (by decide) ?_
    refine g_laldN X rfl ho3 (by decide) (by decide) ?_
    refine g_lload X rfl rfl ?_
    refine g_l_eq X rfl rfl (fun _ => ?_) (fun q => absurd hg q)
    refine g_goto X rfl ?_
    refine g_wid (k := cells + 3) (n := slots + 18) (Nat.add_le_add_left (Nat.le_of_ble_eq_true rfl) _) (Nat.add_le_add_left (Nat.le_of_ble_eq_true rfl) _) ?_
    exact G.lvw (lvw6 (fun j hj => match j, hj with | 0, _ => rfl | 1, _ => rfl | 2, _ => rfl | 3, _ => rfl | 4, _ => rfl | 5, _ => rfl | j + 6, h => absurd h (by omega))) (kk _ ⟨_, hS⟩)
  · obtain ⟨⟨f3, hf3⟩, hMd⟩ := hB E A1 hx
    refine g_istore X rfl (by decide) ?_
    refine g_aload_n X rfl rfl ?_
    refine g_aload_n X rfl rfl ?_
    refine g_iload X rfl rfl ?_
    refine g_iconst X rfl (v := nI 1) (by decide) ?_
    refine g_iadN X rfl ?_
    refine g_sld X hs rfl (by omega) (by omega) ?_
    refine g_aload_n X rfl rfl ?_
    refine g_iload X rfl rfl ?_
    refine g_iconst X rfl (v := nI 2) (by decide) ?_
    refine g_iadN X rfl ?_
    refine g_sld X hs rfl (by omega) (by omega) ?_
    refine g_aload_n X rfl rfl ?_
    refine g_iload X rfl rfl ?_
    refine g_iconst X rfl (v := nI 3) (by decide) ?_
    refine g_iadN X rfl ?_
    refine g_sld X hs rfl (by omega) (by omega) ?_
    refine g_mV X rfl lcX8_whatIf lmW_293 lsX8_whatIf hMd (ci := 8) hf3 rfl rfl rfl (Nat.le_of_ble_eq_true rfl) ⟨⟨Nat.le_of_ble_eq_true rfl, Nat.le_of_ble_eq_true rfl⟩, rfl, rfl⟩ hcp (fun v2 A3 q2 => ?_)
    obtain ⟨⟨d9, hd9, rfl⟩, hS⟩ := q2
    obtain ⟨x9, rfl⟩ := tyL hd9
    obtain ⟨W3, f4, mb3, rd3, r3, sv3, hy3, hJ, hw⟩ := id hS
    refine g_lstore X rfl (by decide) ?_
    refine g_aload_n X rfl rfl ?_
    refine g_rV X rfl lcX8_thrown lmW_152 lsX8_thrown (cr_X8_thrown l D cy B od hJ.2.1.1) (ci := 8) hJ.2.1.1 rfl rfl rfl (Nat.le_of_ble_eq_true rfl) ⟨⟨Nat.le_of_ble_eq_true rfl, Nat.le_of_ble_eq_true rfl⟩, rfl, rfl⟩ hcp ?_
    rw [hw]
    refine g_iload X rfl rfl ?_
    refine g_icmp_eq X rfl (fun _ => ?_) (fun q => absurd rfl q)
    refine g_iload X rfl rfl ?_
    refine g_if_ne X rfl (fun _ => ?_) (fun q => absurd q (cX_n0 (by decide)))
    refine g_goto X rfl ?_
    refine g_wid (k := cells + 3) (n := slots + 18) (Nat.add_le_add_left (Nat.le_of_ble_eq_true rfl) _) (Nat.add_le_add_left (Nat.le_of_ble_eq_true rfl) _) ?_
    exact G.lvw (lvw6 (fun j hj => match j, hj with | 0, _ => rfl | 1, _ => rfl | 2, _ => rfl | 3, _ => rfl | 4, _ => rfl | 5, _ => rfl | j + 6, h => absurd h (by omega))) (kk _ ⟨_, hS⟩)
def tC_43 : List PT := [(2660, .aload_n 1, 1, 1, 0), (2661, .aload_n 0, 1, 2, 0), (2662, .iload 5, 2, 3, 0), (2664, .iconst 1, 1, 4, 0), (2665, .iadd, 1, 5, 0), (2666, .iaload, 1, 6, 0), (2667, .aload_n 3, 1, 7, 0), (2668, .invokestatic 294, 3, 8, 0), (2671, .istore 6, 2, 9, 0), (2673, .aload_n 2, 1, 10, 0), (2674, .aload_n 0, 1, 11, 0), (2675, .iload 5, 2, 12, 0), (2677, .iconst 1, 1, 13, 0), (2678, .iadd, 1, 14, 0), (2679, .iaload, 1, 15, 0), (2680, .invokevirtual 296, 3, 16, 0), (2683, .istore 7, 2, 17, 0), (2685, .aload_n 2, 1, 18, 0), (2686, .invokevirtual 152, 3, 19, 0), (2689, .iload 6, 2, 20, 0), (2691, .if_icmp .eq 5, 3, 21, 23), (2694, .iconst 0, 1, 22, 0), (2695, .ireturn, 1, 23, 0), (2696, .iload 6, 2, 24, 0), (2698, .ifCond .ne 15, 3, 25, 34), (2701, .aload_n 3, 1, 26, 0), (2702, .iconst 0, 1, 27, 0), (2703, .laload, 1, 28, 0), (2704, .iload 7, 2, 29, 0), (2706, .i2l, 1, 30, 0), (2707, .lcmp, 1, 31, 0), (2708, .ifCond .eq 5, 3, 32, 34), (2711, .iconst 0, 1, 33, 0), (2712, .ireturn, 1, 34, 0), (2713, .goto 109, 3, 0, 35), (2822, .iinc 5 6, 3, 36, 0), (2825, .goto (-2797), 3, 49, 37), (28, .iload 5, 2, 38, 0), (30, .aload_n 0, 1, 39, 0), (31, .arraylength, 1, 40, 0), (32, .bipush 6, 2, 41, 0), (34, .isub, 1, 42, 0), (35, .if_icmp .gt 2793, 3, 43, 49), (38, .aload_n 0, 1, 44, 0), (39, .iload 5, 2, 45, 0), (41, .iaload, 1, 46, 0), (42, .bipush 63, 2, 47, 0), (44, .iand, 1, 48, 0), (45, .tableswitch 2777 0 47 #[207, 311, 367, 380, 424, 528, 596, 652, 708, 788, 868, 948, 992, 1048, 1092, 1105, 1118, 1162, 1218, 1286, 1342, 1421, 1504, 1559, 1603, 1671, 1755, 1823, 1891, 1959, 2015, 2071, 2126, 2181, 2207, 2232, 2246, 2302, 2358, 2414, 2457, 2471, 2536, 2615, 2671, 2726, 2739, 2764], 207, 0, 0), (2828, .iconst 1, 1, 50, 0), (2829, .ireturn, 1, 0, 0)]
set_option maxRecDepth 100000 in
theorem okC_43 : OkTab cL_law tC_43 := ⟨by decide +kernel, by decide +kernel⟩
theorem lmW_294 : LkM RL 294 yL_neededIncome := lw_good_in (n := 1266) (by decide +kernel) rfl
theorem lmW_296 : LkM RL 296 yX8_neededIncome := lw_good_in (n := 1824) (by decide +kernel) rfl
set_option maxRecDepth 100000 in
set_option maxHeartbeats 1000000 in
theorem law_43 (l : Launch) (D : va_G) (cy : Nat → ClassId) (B : Nat) (od : Nat → Option Nat) {p : Program} {e : Env} {s : State} {m : MethodId} {args : Array Value} {below : List Frame} {meth : Method} {c : Code} {F : State → Prop} {cells slots : Nat} {A : AH} {L i : Nat} {xs : Nat → Int32} {W : LW} {f : MF} {mb rd r sv hy : Nat → Int32} (hl9 : l.stackTraces = false) (X : Cx p s m args meth c D cy B od cL_law 9 tC_43 RL (some .boolean)) (hs : SCR B od L xs s) (hL : L ≤ 3072) (hi : i + 5 < L) (hI : INV cy A W f mb rd r sv hy) (hcap : cells + 3 ≤ 601024 ∧ slots + 18 ≤ 7293034) (kk : ∀ A9, (∃ w, SOK cy A9 w) → G p l e room_1 s m args below meth c D B od 9 tC_43 F (cells + 3) (slots + 18) A9 0 35 (lv0 i) []) : G p l e room_1 s m args below meth c D B od 9 tC_43 F cells slots A 0 0 (lv0 i) [] := by
  obtain ⟨fs0, ho0⟩ := hI.o0
  unfold lv0
  obtain ⟨Qr, Qx, hC, hT, hE, hA, hB⟩ := pr_neededIncome l D cy B od hl9 hI (x0 := xs (i + 1))
  refine g_aload_n X rfl rfl ?_
  refine g_aload_n X rfl rfl ?_
  refine g_iload X rfl rfl ?_
  refine g_iconst X rfl (v := nI 1) (by decide) ?_
  refine g_iadN X rfl ?_
  refine g_sld X hs rfl (by omega) (by omega) ?_
  refine g_aload_n X rfl rfl ?_
  refine g_hp X rfl lkL_neededIncome lmW_294 stL_neededIncome (hp_L_neededIncome l D cy B od (hC 0) ho0 (fun r A1 h => ⟨tyI (hT r A1 h).1, (hT r A1 h).2.1⟩) hE) rfl rfl (Nat.le_of_ble_eq_true rfl) ⟨Nat.le_of_ble_eq_true rfl, Nat.le_of_ble_eq_true rfl⟩ ⟨Nat.le_trans (Nat.add_le_add_left (show rmL_neededIncome.cells ≤ 3 by decide) _) hcap.1, Nat.le_trans (Nat.add_le_add_left (show rmL_neededIncome.slots ≤ 18 by decide) _) hcap.2⟩ (fun v1 A1 z1 q1 => ?_)
  have hcp : cells + rmL_neededIncome.cells ≤ room_1.cells ∧ slots + rmL_neededIncome.slots ≤ room_1.slots := ⟨Nat.le_trans (Nat.add_le_add_left (show rmL_neededIncome.cells ≤ 3 by decide) _) hcap.1, Nat.le_trans (Nat.add_le_add_left (show rmL_neededIncome.slots ≤ 18 by decide) _) hcap.2⟩
  refine g_z0 ?_
  rcases q1 with ⟨r9, A2, g, hQ, rfl, hg, rfl⟩ | ⟨E, hx, hm, rfl⟩
  · obtain ⟨x9, rfl⟩ := tyI (hT r9 A2 hQ).1
    obtain ⟨⟨f3, hf3⟩, hMd⟩ := hA _ A2 _ hQ (Or.inl ⟨rfl, g, rfl⟩)
    refine g_istore X rfl (by decide) ?_
    refine g_aload_n X rfl rfl ?_
    refine g_aload_n X rfl rfl ?_
    refine g_iload X rfl rfl ?_
    refine g_iconst X rfl (v := nI 1) (by decide) ?_
    refine g_iadN X rfl ?_
    refine g_sld X hs rfl (by omega) (by omega) ?_
    refine g_mV X rfl lcX8_neededIncome lmW_296 lsX8_neededIncome hMd (ci := 8) hf3 rfl rfl rfl (Nat.le_of_ble_eq_true rfl) ⟨⟨Nat.le_of_ble_eq_true rfl, Nat.le_of_ble_eq_true rfl⟩, rfl, rfl⟩ hcp (fun v2 A3 q2 => ?_)
    obtain ⟨rfl, hS, ho3⟩ := q2
    obtain ⟨W3, f4, mb3, rd3, r3, sv3, hy3, hJ, hw⟩ := id hS
    refine g_istore X rfl (by decide) ?_
    refine g_aload_n X rfl rfl ?_
    refine g_rV X rfl lcX8_thrown lmW_152 lsX8_thrown (cr_X8_thrown l D cy B od hJ.2.1.1) (ci := 8) hJ.2.1.1 rfl rfl rfl (Nat.le_of_ble_eq_true rfl) ⟨⟨Nat.le_of_ble_eq_true rfl, Nat.le_of_ble_eq_true rfl⟩, rfl, rfl⟩ hcp ?_
    rw [hw]
    refine g_iload X rfl rfl ?_
    refine g_icmp_eq X rfl (fun _ => ?_) (fun q => absurd rfl q)
    refine g_iload X rfl rfl ?_
    refine g_if_ne X rfl (fun q => absurd nI_0 q) (fun _ => ?_)
    refine g_aload_n X rfl rfl ?_
    refine g_iconst X rfl (v := nI 0) (by decide) ?_
    refine g_laldN X rfl ho3 (by decide) (by decide) ?_
    refine g_iload X rfl rfl ?_
    refine g_i2l X rfl ?_
    refine g_l_eq X rfl rfl (fun _ => ?_) (fun q => absurd hg q)
    refine g_goto X rfl ?_
    refine g_wid (k := cells + 3) (n := slots + 18) (Nat.add_le_add_left (Nat.le_of_ble_eq_true rfl) _) (Nat.add_le_add_left (Nat.le_of_ble_eq_true rfl) _) ?_
    exact G.lvw (lvw6 (fun j hj => match j, hj with | 0, _ => rfl | 1, _ => rfl | 2, _ => rfl | 3, _ => rfl | 4, _ => rfl | 5, _ => rfl | j + 6, h => absurd h (by omega))) (kk _ ⟨_, hS⟩)
  · obtain ⟨⟨f3, hf3⟩, hMd⟩ := hB E A1 hx
    refine g_istore X rfl (by decide) ?_
    refine g_aload_n X rfl rfl ?_
    refine g_aload_n X rfl rfl ?_
    refine g_iload X rfl rfl ?_
    refine g_iconst X rfl (v := nI 1) (by decide) ?_
    refine g_iadN X rfl ?_
    refine g_sld X hs rfl (by omega) (by omega) ?_
    refine g_mV X rfl lcX8_neededIncome lmW_296 lsX8_neededIncome hMd (ci := 8) hf3 rfl rfl rfl (Nat.le_of_ble_eq_true rfl) ⟨⟨Nat.le_of_ble_eq_true rfl, Nat.le_of_ble_eq_true rfl⟩, rfl, rfl⟩ hcp (fun v2 A3 q2 => ?_)
    obtain ⟨⟨d9, hd9, rfl⟩, hS⟩ := q2
    obtain ⟨x9, rfl⟩ := tyI hd9
    obtain ⟨W3, f4, mb3, rd3, r3, sv3, hy3, hJ, hw⟩ := id hS
    refine g_istore X rfl (by decide) ?_
    refine g_aload_n X rfl rfl ?_
    refine g_rV X rfl lcX8_thrown lmW_152 lsX8_thrown (cr_X8_thrown l D cy B od hJ.2.1.1) (ci := 8) hJ.2.1.1 rfl rfl rfl (Nat.le_of_ble_eq_true rfl) ⟨⟨Nat.le_of_ble_eq_true rfl, Nat.le_of_ble_eq_true rfl⟩, rfl, rfl⟩ hcp ?_
    rw [hw]
    refine g_iload X rfl rfl ?_
    refine g_icmp_eq X rfl (fun _ => ?_) (fun q => absurd rfl q)
    refine g_iload X rfl rfl ?_
    refine g_if_ne X rfl (fun _ => ?_) (fun q => absurd q (cX_n0 (by decide)))
    refine g_goto X rfl ?_
    refine g_wid (k := cells + 3) (n := slots + 18) (Nat.add_le_add_left (Nat.le_of_ble_eq_true rfl) _) (Nat.add_le_add_left (Nat.le_of_ble_eq_true rfl) _) ?_
    exact G.lvw (lvw6 (fun j hj => match j, hj with | 0, _ => rfl | 1, _ => rfl | 2, _ => rfl | 3, _ => rfl | 4, _ => rfl | 5, _ => rfl | j + 6, h => absurd h (by omega))) (kk _ ⟨_, hS⟩)
def tC_44 : List PT := [(2716, .aload_n 1, 1, 1, 0), (2717, .aload_n 0, 1, 2, 0), (2718, .iload 5, 2, 3, 0), (2720, .iconst 1, 1, 4, 0), (2721, .iadd, 1, 5, 0), (2722, .iaload, 1, 6, 0), (2723, .aload_n 3, 1, 7, 0), (2724, .invokestatic 297, 3, 8, 0), (2727, .istore 6, 2, 9, 0), (2729, .aload_n 2, 1, 10, 0), (2730, .aload_n 0, 1, 11, 0), (2731, .iload 5, 2, 12, 0), (2733, .iconst 1, 1, 13, 0), (2734, .iadd, 1, 14, 0), (2735, .iaload, 1, 15, 0), (2736, .invokevirtual 299, 3, 16, 0), (2739, .lstore 7, 2, 17, 0), (2741, .aload_n 2, 1, 18, 0), (2742, .invokevirtual 152, 3, 19, 0), (2745, .iload 6, 2, 20, 0), (2747, .if_icmp .eq 5, 3, 21, 23), (2750, .iconst 0, 1, 22, 0), (2751, .ireturn, 1, 23, 0), (2752, .iload 6, 2, 24, 0), (2754, .ifCond .ne 14, 3, 25, 33), (2757, .aload_n 3, 1, 26, 0), (2758, .iconst 0, 1, 27, 0), (2759, .laload, 1, 28, 0), (2760, .lload 7, 2, 29, 0), (2762, .lcmp, 1, 30, 0), (2763, .ifCond .eq 5, 3, 31, 33), (2766, .iconst 0, 1, 32, 0), (2767, .ireturn, 1, 33, 0), (2768, .goto 54, 3, 0, 34), (2822, .iinc 5 6, 3, 35, 0), (2825, .goto (-2797), 3, 48, 36), (28, .iload 5, 2, 37, 0), (30, .aload_n 0, 1, 38, 0), (31, .arraylength, 1, 39, 0), (32, .bipush 6, 2, 40, 0), (34, .isub, 1, 41, 0), (35, .if_icmp .gt 2793, 3, 42, 48), (38, .aload_n 0, 1, 43, 0), (39, .iload 5, 2, 44, 0), (41, .iaload, 1, 45, 0), (42, .bipush 63, 2, 46, 0), (44, .iand, 1, 47, 0), (45, .tableswitch 2777 0 47 #[207, 311, 367, 380, 424, 528, 596, 652, 708, 788, 868, 948, 992, 1048, 1092, 1105, 1118, 1162, 1218, 1286, 1342, 1421, 1504, 1559, 1603, 1671, 1755, 1823, 1891, 1959, 2015, 2071, 2126, 2181, 2207, 2232, 2246, 2302, 2358, 2414, 2457, 2471, 2536, 2615, 2671, 2726, 2739, 2764], 207, 0, 0), (2828, .iconst 1, 1, 49, 0), (2829, .ireturn, 1, 0, 0)]
set_option maxRecDepth 100000 in
theorem okC_44 : OkTab cL_law tC_44 := ⟨by decide +kernel, by decide +kernel⟩
theorem lmW_297 : LkM RL 297 yL_balance := lw_good_in (n := 1278) (by decide +kernel) rfl
theorem lmW_299 : LkM RL 299 yX8_balance := lw_good_in (n := 1833) (by decide +kernel) rfl
set_option maxRecDepth 100000 in
set_option maxHeartbeats 1000000 in
theorem law_44 (l : Launch) (D : va_G) (cy : Nat → ClassId) (B : Nat) (od : Nat → Option Nat) {p : Program} {e : Env} {s : State} {m : MethodId} {args : Array Value} {below : List Frame} {meth : Method} {c : Code} {F : State → Prop} {cells slots : Nat} {A : AH} {L i : Nat} {xs : Nat → Int32} {W : LW} {f : MF} {mb rd r sv hy : Nat → Int32} (hl9 : l.stackTraces = false) (X : Cx p s m args meth c D cy B od cL_law 9 tC_44 RL (some .boolean)) (hs : SCR B od L xs s) (hL : L ≤ 3072) (hi : i + 5 < L) (hI : INV cy A W f mb rd r sv hy) (hcap : cells + 3 ≤ 601024 ∧ slots + 18 ≤ 7293034) (kk : ∀ A9, (∃ w, SOK cy A9 w) → G p l e room_1 s m args below meth c D B od 9 tC_44 F (cells + 3) (slots + 18) A9 0 34 (lv0 i) []) : G p l e room_1 s m args below meth c D B od 9 tC_44 F cells slots A 0 0 (lv0 i) [] := by
  obtain ⟨fs0, ho0⟩ := hI.o0
  unfold lv0
  obtain ⟨Qr, Qx, hC, hT, hE, hA, hB⟩ := pr_balance l D cy B od hl9 hI (x0 := xs (i + 1))
  refine g_aload_n X rfl rfl ?_
  refine g_aload_n X rfl rfl ?_
  refine g_iload X rfl rfl ?_
  refine g_iconst X rfl (v := nI 1) (by decide) ?_
  refine g_iadN X rfl ?_
  refine g_sld X hs rfl (by omega) (by omega) ?_
  refine g_aload_n X rfl rfl ?_
  refine g_hp X rfl lkL_balance lmW_297 stL_balance (hp_L_balance l D cy B od (hC 0) ho0 (fun r A1 h => ⟨tyL (hT r A1 h).1, (hT r A1 h).2.1⟩) hE) rfl rfl (Nat.le_of_ble_eq_true rfl) ⟨Nat.le_of_ble_eq_true rfl, Nat.le_of_ble_eq_true rfl⟩ ⟨Nat.le_trans (Nat.add_le_add_left (show rmL_balance.cells ≤ 3 by decide) _) hcap.1, Nat.le_trans (Nat.add_le_add_left (show rmL_balance.slots ≤ 18 by decide) _) hcap.2⟩ (fun v1 A1 z1 q1 => ?_)
  have hcp : cells + rmL_balance.cells ≤ room_1.cells ∧ slots + rmL_balance.slots ≤ room_1.slots := ⟨Nat.le_trans (Nat.add_le_add_left (show rmL_balance.cells ≤ 3 by decide) _) hcap.1, Nat.le_trans (Nat.add_le_add_left (show rmL_balance.slots ≤ 18 by decide) _) hcap.2⟩
  refine g_z0 ?_
  rcases q1 with ⟨r9, A2, g, hQ, rfl, hg, rfl⟩ | ⟨E, hx, hm, rfl⟩
  · obtain ⟨x9, rfl⟩ := tyL (hT r9 A2 hQ).1
    obtain ⟨⟨f3, hf3⟩, hMd⟩ := hA _ A2 _ hQ (Or.inl ⟨rfl, g, rfl⟩)
    refine g_istore X rfl (by decide) ?_
    refine g_aload_n X rfl rfl ?_
    refine g_aload_n X rfl rfl ?_
    refine g_iload X rfl rfl ?_
    refine g_iconst X rfl (v := nI 1) (by decide) ?_
    refine g_iadN X rfl ?_
    refine g_sld X hs rfl (by omega) (by omega) ?_
    refine g_mV X rfl lcX8_balance lmW_299 lsX8_balance hMd (ci := 8) hf3 rfl rfl rfl (Nat.le_of_ble_eq_true rfl) ⟨⟨Nat.le_of_ble_eq_true rfl, Nat.le_of_ble_eq_true rfl⟩, rfl, rfl⟩ hcp (fun v2 A3 q2 => ?_)
    obtain ⟨rfl, hS, ho3⟩ := q2
    obtain ⟨W3, f4, mb3, rd3, r3, sv3, hy3, hJ, hw⟩ := id hS
    refine g_lstore X rfl (by decide) ?_
    refine g_aload_n X rfl rfl ?_
    refine g_rV X rfl lcX8_thrown lmW_152 lsX8_thrown (cr_X8_thrown l D cy B od hJ.2.1.1) (ci := 8) hJ.2.1.1 rfl rfl rfl (Nat.le_of_ble_eq_true rfl) ⟨⟨Nat.le_of_ble_eq_true rfl, Nat.le_of_ble_eq_true rfl⟩, rfl, rfl⟩ hcp ?_
    rw [hw]
    refine g_iload X rfl rfl ?_
    refine g_icmp_eq X rfl (fun _ => ?_) (fun q => absurd rfl q)
    refine g_iload X rfl rfl ?_
    refine g_if_ne X rfl (fun q => absurd nI_0 q) (fun _ => ?_)
    refine g_aload_n X rfl rfl ?_
    refine g_iconst X rfl (v := nI 0) (by decide) ?_
    refine g_laldN X rfl ho3 (by decide) (by decide) ?_
    refine g_lload X rfl rfl ?_
    refine g_l_eq X rfl rfl (fun _ => ?_) (fun q => absurd hg q)
    refine g_goto X rfl ?_
    refine g_wid (k := cells + 3) (n := slots + 18) (Nat.add_le_add_left (Nat.le_of_ble_eq_true rfl) _) (Nat.add_le_add_left (Nat.le_of_ble_eq_true rfl) _) ?_
    exact G.lvw (lvw6 (fun j hj => match j, hj with | 0, _ => rfl | 1, _ => rfl | 2, _ => rfl | 3, _ => rfl | 4, _ => rfl | 5, _ => rfl | j + 6, h => absurd h (by omega))) (kk _ ⟨_, hS⟩)
  · obtain ⟨⟨f3, hf3⟩, hMd⟩ := hB E A1 hx
    refine g_istore X rfl (by decide) ?_
    refine g_aload_n X rfl rfl ?_
    refine g_aload_n X rfl rfl ?_
    refine g_iload X rfl rfl ?_
    refine g_iconst X rfl (v := nI 1) (by decide) ?_
    refine g_iadN X rfl ?_
    refine g_sld X hs rfl (by omega) (by omega) ?_
    refine g_mV X rfl lcX8_balance lmW_299 lsX8_balance hMd (ci := 8) hf3 rfl rfl rfl (Nat.le_of_ble_eq_true rfl) ⟨⟨Nat.le_of_ble_eq_true rfl, Nat.le_of_ble_eq_true rfl⟩, rfl, rfl⟩ hcp (fun v2 A3 q2 => ?_)
    obtain ⟨⟨d9, hd9, rfl⟩, hS⟩ := q2
    obtain ⟨x9, rfl⟩ := tyL hd9
    obtain ⟨W3, f4, mb3, rd3, r3, sv3, hy3, hJ, hw⟩ := id hS
    refine g_lstore X rfl (by decide) ?_
    refine g_aload_n X rfl rfl ?_
    refine g_rV X rfl lcX8_thrown lmW_152 lsX8_thrown (cr_X8_thrown l D cy B od hJ.2.1.1) (ci := 8) hJ.2.1.1 rfl rfl rfl (Nat.le_of_ble_eq_true rfl) ⟨⟨Nat.le_of_ble_eq_true rfl, Nat.le_of_ble_eq_true rfl⟩, rfl, rfl⟩ hcp ?_
    rw [hw]
    refine g_iload X rfl rfl ?_
    refine g_icmp_eq X rfl (fun _ => ?_) (fun q => absurd rfl q)
    refine g_iload X rfl rfl ?_
    refine g_if_ne X rfl (fun _ => ?_) (fun q => absurd q (cX_n0 (by decide)))
    refine g_goto X rfl ?_
    refine g_wid (k := cells + 3) (n := slots + 18) (Nat.add_le_add_left (Nat.le_of_ble_eq_true rfl) _) (Nat.add_le_add_left (Nat.le_of_ble_eq_true rfl) _) ?_
    exact G.lvw (lvw6 (fun j hj => match j, hj with | 0, _ => rfl | 1, _ => rfl | 2, _ => rfl | 3, _ => rfl | 4, _ => rfl | 5, _ => rfl | j + 6, h => absurd h (by omega))) (kk _ ⟨_, hS⟩)
def tC_45 : List PT := [(2771, .aload_n 1, 1, 1, 0), (2772, .invokevirtual 300, 3, 2, 0), (2775, .aload_n 2, 1, 3, 0), (2776, .invokevirtual 303, 3, 4, 0), (2779, .if_icmp .eq 43, 3, 5, 7), (2782, .iconst 0, 1, 6, 0), (2783, .ireturn, 1, 0, 0), (2822, .iinc 5 6, 3, 8, 0), (2825, .goto (-2797), 3, 21, 9), (28, .iload 5, 2, 10, 0), (30, .aload_n 0, 1, 11, 0), (31, .arraylength, 1, 12, 0), (32, .bipush 6, 2, 13, 0), (34, .isub, 1, 14, 0), (35, .if_icmp .gt 2793, 3, 15, 21), (38, .aload_n 0, 1, 16, 0), (39, .iload 5, 2, 17, 0), (41, .iaload, 1, 18, 0), (42, .bipush 63, 2, 19, 0), (44, .iand, 1, 20, 0), (45, .tableswitch 2777 0 47 #[207, 311, 367, 380, 424, 528, 596, 652, 708, 788, 868, 948, 992, 1048, 1092, 1105, 1118, 1162, 1218, 1286, 1342, 1421, 1504, 1559, 1603, 1671, 1755, 1823, 1891, 1959, 2015, 2071, 2126, 2181, 2207, 2232, 2246, 2302, 2358, 2414, 2457, 2471, 2536, 2615, 2671, 2726, 2739, 2764], 207, 0, 0), (2828, .iconst 1, 1, 22, 0), (2829, .ireturn, 1, 0, 0)]
set_option maxRecDepth 100000 in
theorem okC_45 : OkTab cL_law tC_45 := ⟨by decide +kernel, by decide +kernel⟩
theorem lmW_300 : LkM RL 300 yX7_lowestDay := lw_good_in (n := 735) (by decide +kernel) rfl
theorem lmW_303 : LkM RL 303 yX8_lowestDay := lw_good_in (n := 1853) (by decide +kernel) rfl
set_option maxRecDepth 100000 in
set_option maxHeartbeats 1000000 in
theorem law_45 (l : Launch) (D : va_G) (cy : Nat → ClassId) (B : Nat) (od : Nat → Option Nat) {p : Program} {e : Env} {s : State} {m : MethodId} {args : Array Value} {below : List Frame} {meth : Method} {c : Code} {F : State → Prop} {cells slots : Nat} {A : AH} {L i : Nat} {xs : Nat → Int32} {W : LW} {f : MF} {mb rd r sv hy : Nat → Int32} (hl9 : l.stackTraces = false) (X : Cx p s m args meth c D cy B od cL_law 9 tC_45 RL (some .boolean)) (hs : SCR B od L xs s) (hL : L ≤ 3072) (hi : i + 5 < L) (hI : INV cy A W f mb rd r sv hy) (hcap : cells + 3 ≤ 601024 ∧ slots + 18 ≤ 7293034) (kk : ∀ A9, (∃ w, SOK cy A9 w) → G p l e room_1 s m args below meth c D B od 9 tC_45 F (cells + 3) (slots + 18) A9 0 7 (lv0 i) []) : G p l e room_1 s m args below meth c D B od 9 tC_45 F cells slots A 0 0 (lv0 i) [] := by
  obtain ⟨fs0, ho0⟩ := hI.o0
  unfold lv0
  have hcp : cells ≤ room_1.cells ∧ slots ≤ room_1.slots := ⟨Nat.le_trans (Nat.le_add_right _ 3) hcap.1, Nat.le_trans (Nat.le_add_right _ 18) hcap.2⟩
  refine g_aload_n X rfl rfl ?_
  refine g_mV X rfl lcX7_lowestDay lmW_300 lsX7_lowestDay (cm_X7_lowestDay l D cy B od hI.1) (ci := 7) ho0 rfl rfl rfl (Nat.le_of_ble_eq_true rfl) ⟨⟨Nat.le_of_ble_eq_true rfl, Nat.le_of_ble_eq_true rfl⟩, rfl, rfl⟩ hcp (fun v1 A1 q1 => ?_)
  obtain ⟨rfl, hf, hL2⟩ := q1
  have hJ := hI.led hf hL2
  refine g_aload_n X rfl rfl ?_
  obtain ⟨f0, hf0⟩ := hJ.2.1.2.2.2.2.2.2
  refine g_mV X rfl lcX8_lowestDay lmW_303 lsX8_lowestDay (cm_X8_lowestDay l D cy B od hJ.mdr hJ.2.2.1.1.2.1 hJ.2.2.1.1.2.2 hf0) (ci := 8) hJ.2.1.1 rfl rfl rfl (Nat.le_of_ble_eq_true rfl) ⟨⟨Nat.le_of_ble_eq_true rfl, Nat.le_of_ble_eq_true rfl⟩, rfl, rfl⟩ hcp (fun v2 A3 q2 => ?_)
  obtain ⟨rfl, g9, rfl⟩ := q2
  refine g_icmp_eq X rfl (fun _ => ?_) (fun q => absurd rfl q)
  refine g_wid (Nat.le_add_right _ 3) (Nat.le_add_right _ 18) ?_
  exact G.lvw (lvw6 (fun j hj => match j, hj with | 0, _ => rfl | 1, _ => rfl | 2, _ => rfl | 3, _ => rfl | 4, _ => rfl | 5, _ => rfl | j + 6, h => absurd h (by omega))) (kk _ ⟨_, (⟨_, _, _, _, _, _, _, (hJ.thr (w := nI 0)).u7, rfl⟩ : SOK cy _ 0)⟩)
def tC_46 : List PT := [(2784, .aload_n 1, 1, 1, 0), (2785, .aload_n 0, 1, 2, 0), (2786, .iload 5, 2, 3, 0), (2788, .iconst 1, 1, 4, 0), (2789, .iadd, 1, 5, 0), (2790, .iaload, 1, 6, 0), (2791, .invokevirtual 304, 3, 7, 0), (2794, .aload_n 2, 1, 8, 0), (2795, .aload_n 0, 1, 9, 0), (2796, .iload 5, 2, 10, 0), (2798, .iconst 1, 1, 11, 0), (2799, .iadd, 1, 12, 0), (2800, .iaload, 1, 13, 0), (2801, .invokevirtual 307, 3, 14, 0), (2804, .if_icmp .eq 18, 3, 15, 17), (2807, .iconst 0, 1, 16, 0), (2808, .ireturn, 1, 0, 0), (2822, .iinc 5 6, 3, 18, 0), (2825, .goto (-2797), 3, 31, 19), (28, .iload 5, 2, 20, 0), (30, .aload_n 0, 1, 21, 0), (31, .arraylength, 1, 22, 0), (32, .bipush 6, 2, 23, 0), (34, .isub, 1, 24, 0), (35, .if_icmp .gt 2793, 3, 25, 31), (38, .aload_n 0, 1, 26, 0), (39, .iload 5, 2, 27, 0), (41, .iaload, 1, 28, 0), (42, .bipush 63, 2, 29, 0), (44, .iand, 1, 30, 0), (45, .tableswitch 2777 0 47 #[207, 311, 367, 380, 424, 528, 596, 652, 708, 788, 868, 948, 992, 1048, 1092, 1105, 1118, 1162, 1218, 1286, 1342, 1421, 1504, 1559, 1603, 1671, 1755, 1823, 1891, 1959, 2015, 2071, 2126, 2181, 2207, 2232, 2246, 2302, 2358, 2414, 2457, 2471, 2536, 2615, 2671, 2726, 2739, 2764], 207, 0, 0), (2828, .iconst 1, 1, 32, 0), (2829, .ireturn, 1, 0, 0)]
set_option maxRecDepth 100000 in
theorem okC_46 : OkTab cL_law tC_46 := ⟨by decide +kernel, by decide +kernel⟩
theorem lmW_304 : LkM RL 304 yX7_daysBelow := lw_good_in (n := 747) (by decide +kernel) rfl
theorem lmW_307 : LkM RL 307 yX8_daysBelow := lw_good_in (n := 1869) (by decide +kernel) rfl
set_option maxRecDepth 100000 in
set_option maxHeartbeats 1000000 in
theorem law_46 (l : Launch) (D : va_G) (cy : Nat → ClassId) (B : Nat) (od : Nat → Option Nat) {p : Program} {e : Env} {s : State} {m : MethodId} {args : Array Value} {below : List Frame} {meth : Method} {c : Code} {F : State → Prop} {cells slots : Nat} {A : AH} {L i : Nat} {xs : Nat → Int32} {W : LW} {f : MF} {mb rd r sv hy : Nat → Int32} (hl9 : l.stackTraces = false) (X : Cx p s m args meth c D cy B od cL_law 9 tC_46 RL (some .boolean)) (hs : SCR B od L xs s) (hL : L ≤ 3072) (hi : i + 5 < L) (hI : INV cy A W f mb rd r sv hy) (hcap : cells + 3 ≤ 601024 ∧ slots + 18 ≤ 7293034) (kk : ∀ A9, (∃ w, SOK cy A9 w) → G p l e room_1 s m args below meth c D B od 9 tC_46 F (cells + 3) (slots + 18) A9 0 17 (lv0 i) []) : G p l e room_1 s m args below meth c D B od 9 tC_46 F cells slots A 0 0 (lv0 i) [] := by
  obtain ⟨fs0, ho0⟩ := hI.o0
  unfold lv0
  have hcp : cells ≤ room_1.cells ∧ slots ≤ room_1.slots := ⟨Nat.le_trans (Nat.le_add_right _ 3) hcap.1, Nat.le_trans (Nat.le_add_right _ 18) hcap.2⟩
  refine g_aload_n X rfl rfl ?_
  refine g_aload_n X rfl rfl ?_
  refine g_iload X rfl rfl ?_
  refine g_iconst X rfl (v := nI 1) (by decide) ?_
  refine g_iadN X rfl ?_
  refine g_sld X hs rfl (by omega) (by omega) ?_
  refine g_mV X rfl lcX7_daysBelow lmW_304 lsX7_daysBelow (cm_X7_daysBelow l D cy B od hI.1) (ci := 7) ho0 rfl rfl rfl (Nat.le_of_ble_eq_true rfl) ⟨⟨Nat.le_of_ble_eq_true rfl, Nat.le_of_ble_eq_true rfl⟩, rfl, rfl⟩ hcp (fun v1 A1 q1 => ?_)
  obtain ⟨rfl, hf, hL2⟩ := q1
  have hJ := hI.led hf hL2
  refine g_aload_n X rfl rfl ?_
  refine g_aload_n X rfl rfl ?_
  refine g_iload X rfl rfl ?_
  refine g_iconst X rfl (v := nI 1) (by decide) ?_
  refine g_iadN X rfl ?_
  refine g_sld X hs rfl (by omega) (by omega) ?_
  obtain ⟨f0, hf0⟩ := hJ.2.1.2.2.2.2.2.2
  refine g_mV X rfl lcX8_daysBelow lmW_307 lsX8_daysBelow (cm_X8_daysBelow l D cy B od hJ.mdr hJ.2.2.1.1.2.1 hJ.2.2.1.1.2.2 hf0) (ci := 8) hJ.2.1.1 rfl rfl rfl (Nat.le_of_ble_eq_true rfl) ⟨⟨Nat.le_of_ble_eq_true rfl, Nat.le_of_ble_eq_true rfl⟩, rfl, rfl⟩ hcp (fun v2 A3 q2 => ?_)
  obtain ⟨rfl, g9, rfl⟩ := q2
  refine g_icmp_eq X rfl (fun _ => ?_) (fun q => absurd rfl q)
  refine g_wid (Nat.le_add_right _ 3) (Nat.le_add_right _ 18) ?_
  exact G.lvw (lvw6 (fun j hj => match j, hj with | 0, _ => rfl | 1, _ => rfl | 2, _ => rfl | 3, _ => rfl | 4, _ => rfl | 5, _ => rfl | j + 6, h => absurd h (by omega))) (kk _ ⟨_, (⟨_, _, _, _, _, _, _, (hJ.thr (w := nI 0)).u7, rfl⟩ : SOK cy _ 0)⟩)
def tC_47 : List PT := [(2809, .aload_n 1, 1, 1, 0), (2810, .invokevirtual 308, 3, 2, 0), (2813, .aload_n 2, 1, 3, 0), (2814, .invokevirtual 311, 3, 4, 0), (2817, .if_icmp .eq 5, 3, 5, 7), (2820, .iconst 0, 1, 6, 0), (2821, .ireturn, 1, 7, 0), (2822, .iinc 5 6, 3, 8, 0), (2825, .goto (-2797), 3, 21, 9), (28, .iload 5, 2, 10, 0), (30, .aload_n 0, 1, 11, 0), (31, .arraylength, 1, 12, 0), (32, .bipush 6, 2, 13, 0), (34, .isub, 1, 14, 0), (35, .if_icmp .gt 2793, 3, 15, 21), (38, .aload_n 0, 1, 16, 0), (39, .iload 5, 2, 17, 0), (41, .iaload, 1, 18, 0), (42, .bipush 63, 2, 19, 0), (44, .iand, 1, 20, 0), (45, .tableswitch 2777 0 47 #[207, 311, 367, 380, 424, 528, 596, 652, 708, 788, 868, 948, 992, 1048, 1092, 1105, 1118, 1162, 1218, 1286, 1342, 1421, 1504, 1559, 1603, 1671, 1755, 1823, 1891, 1959, 2015, 2071, 2126, 2181, 2207, 2232, 2246, 2302, 2358, 2414, 2457, 2471, 2536, 2615, 2671, 2726, 2739, 2764], 207, 0, 0), (2828, .iconst 1, 1, 22, 0), (2829, .ireturn, 1, 0, 0)]
set_option maxRecDepth 100000 in
theorem okC_47 : OkTab cL_law tC_47 := ⟨by decide +kernel, by decide +kernel⟩
theorem lmW_308 : LkM RL 308 yX7_bestMonth := lw_good_in (n := 751) (by decide +kernel) rfl
theorem lmW_311 : LkM RL 311 yX8_bestMonth := lw_good_in (n := 1873) (by decide +kernel) rfl
set_option maxRecDepth 100000 in
set_option maxHeartbeats 1000000 in
theorem law_47 (l : Launch) (D : va_G) (cy : Nat → ClassId) (B : Nat) (od : Nat → Option Nat) {p : Program} {e : Env} {s : State} {m : MethodId} {args : Array Value} {below : List Frame} {meth : Method} {c : Code} {F : State → Prop} {cells slots : Nat} {A : AH} {L i : Nat} {xs : Nat → Int32} {W : LW} {f : MF} {mb rd r sv hy : Nat → Int32} (hl9 : l.stackTraces = false) (X : Cx p s m args meth c D cy B od cL_law 9 tC_47 RL (some .boolean)) (hs : SCR B od L xs s) (hL : L ≤ 3072) (hi : i + 5 < L) (hI : INV cy A W f mb rd r sv hy) (hcap : cells + 3 ≤ 601024 ∧ slots + 18 ≤ 7293034) (kk : ∀ A9, (∃ w, SOK cy A9 w) → G p l e room_1 s m args below meth c D B od 9 tC_47 F (cells + 3) (slots + 18) A9 0 7 (lv0 i) []) : G p l e room_1 s m args below meth c D B od 9 tC_47 F cells slots A 0 0 (lv0 i) [] := by
  obtain ⟨fs0, ho0⟩ := hI.o0
  unfold lv0
  have hcp : cells ≤ room_1.cells ∧ slots ≤ room_1.slots := ⟨Nat.le_trans (Nat.le_add_right _ 3) hcap.1, Nat.le_trans (Nat.le_add_right _ 18) hcap.2⟩
  refine g_aload_n X rfl rfl ?_
  refine g_rV X rfl lcX7_bestMonth lmW_308 lsX7_bestMonth (cr_X7_bestMonth l D cy B od hI.vw) (ci := 7) ho0 rfl rfl rfl (Nat.le_of_ble_eq_true rfl) ⟨⟨Nat.le_of_ble_eq_true rfl, Nat.le_of_ble_eq_true rfl⟩, rfl, rfl⟩ hcp ?_
  refine g_aload_n X rfl rfl ?_
  refine g_mV X rfl lcX8_bestMonth lmW_311 lsX8_bestMonth (cm_X8_bestMonth l D cy B od hI.mdr hI.2.2.1.1.2.1 hI.2.2.1.1.2.2) (ci := 8) hI.2.1.1 rfl rfl rfl (Nat.le_of_ble_eq_true rfl) ⟨⟨Nat.le_of_ble_eq_true rfl, Nat.le_of_ble_eq_true rfl⟩, rfl, rfl⟩ hcp (fun v2 A3 q2 => ?_)
  obtain ⟨rfl, rfl⟩ := q2
  rw [bmSt_v9]
  refine g_icmp_eq X rfl (fun _ => ?_) (fun q => absurd rfl q)
  refine g_wid (Nat.le_add_right _ 3) (Nat.le_add_right _ 18) ?_
  exact G.lvw (lvw6 (fun j hj => match j, hj with | 0, _ => rfl | 1, _ => rfl | 2, _ => rfl | 3, _ => rfl | 4, _ => rfl | 5, _ => rfl | j + 6, h => absurd h (by omega))) (kk _ ⟨_, (⟨_, _, _, _, _, _, _, hI.thr (w := nI 0), rfl⟩ : SOK cy _ 0)⟩)
